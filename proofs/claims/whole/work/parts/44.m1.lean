/-! the model's small methods -/
def mWi (v m : Int64) : Int64 := if m.toInt < v.toInt then m else if v.toInt < (-m).toInt then -m else v
def fillL (i : Nat) (g F : Nat → Int64) : Nat → Int64 := fun j => if j < i then g j else F j
theorem fillL_0 (g F : Nat → Int64) : fillL 0 g F = F := by funext j; simp [fillL]
theorem fillL_up (i : Nat) (g F : Nat → Int64) (v : Int64) (hv : v = g i) : ev_u (fillL i g F) i v = fillL (i + 1) g F := by
  funext j
  by_cases h : j = i
  · subst h; simp [ev_u, fillL, hv]
  · by_cases h2 : j < i
    · simp [ev_u, fillL, h, h2, Nat.lt_succ_of_lt h2]
    · simp [ev_u, fillL, h, h2, show ¬ j < i + 1 by omega]
theorem fillL_lt {i j : Nat} (g F : Nat → Int64) (h : j < i) : fillL i g F j = g j := if_pos h
/-- a fresh row: m masses and s springs laid -/
def layF (X : Int64) (m s p : Nat) : Int64 := if p = 1 then X else if 12 ≤ p ∧ p < 12 + 3 * m ∧ p % 3 = 0 then 10 else if 48 ≤ p ∧ p < 48 + 3 * s ∧ p % 3 = 0 then 100 else 0
section M1
variable {G : ev_G} {l : Launch} {c j w : Nat} {μ : MS} {σ : CS} {h : ev_H} {x y z : Int32} {T : Int}
set_option maxRecDepth 20000 in
theorem ct_X7_thrown  : ev_Ct G l mX7_thrown 1 0 0 [.ref c] (mo G c μ h) (fun v a => v = some (.int (μ.1 0)) ∧ a = mo G c μ h) (fun _ _ => False) := by
  refine ev_Ct.of (by decide +kernel) (Nat.le_of_ble_eq_true rfl) ?_
  refine e_aload_n dX7_thrown_0 rfl rfl ?_
  refine mo_g0 wF_X7_39 dX7_thrown_1 ?_
  exact e_iret rfl dX7_thrown_4 (⟨rfl, rfl⟩)
set_option maxRecDepth 20000 in
theorem ct_X7_fails0 (h0 : μ.1 0 = 0) : ev_Ct G l mX7_fails 1 0 0 [.ref c, .int 0, .int y] (mo G c μ h) (fun v a => v = some (.int 0) ∧ a = mo G c μ h) (fun _ _ => False) := by
  refine ev_Ct.of (by decide +kernel) (Nat.le_of_ble_eq_true rfl) ?_
  refine e_iload_n dX7_fails_0 rfl rfl ?_
  refine e_if_eq (tgt := 16) dX7_fails_1 (by decide) (fun c1 => ?_) (fun c1 => ?_)
  · refine e_aload_n dX7_fails_16 rfl rfl ?_
    refine mo_g0 wF_X7_39 dX7_fails_17 ?_
    refine e_if_eq (tgt := 27) dX7_fails_20 (by decide) (fun c20 => ?_) (fun c20 => ?_)
    · refine e_iconst (v := 0) dX7_fails_27 (by decide) ?_
      exact e_zret (ty := .boolean) rfl rfl dX7_fails_28 (⟨rfl, rfl⟩)
    · exact absurd h0 c20
  · exact absurd rfl c1
set_option maxRecDepth 20000 in
theorem ct_X7_fails1 (h0 : μ.1 0 = 0) (hy : y ≠ 0) : ev_Ct G l mX7_fails 1 0 0 [.ref c, .int 1, .int y] (mo G c μ h) (fun v a => v = some (.int 1) ∧ a = mo G c (ms_I μ 0 y) h) (fun _ _ => False) := by
  refine ev_Ct.of (by decide +kernel) (Nat.le_of_ble_eq_true rfl) ?_
  refine e_iload_n dX7_fails_0 rfl rfl ?_
  refine e_if_eq (tgt := 16) dX7_fails_1 (by decide) (fun c1 => ?_) (fun c1 => ?_)
  · exact absurd c1 (by decide)
  · refine e_aload_n dX7_fails_4 rfl rfl ?_
    refine mo_g0 wF_X7_39 dX7_fails_5 ?_
    refine e_if_ne (tgt := 16) dX7_fails_8 (by decide) (fun c8 => ?_) (fun c8 => ?_)
    · exact absurd h0 c8
    · refine e_aload_n dX7_fails_11 rfl rfl ?_
      refine e_iload_n dX7_fails_12 rfl rfl ?_
      refine mo_p0 wF_X7_39 dX7_fails_13 ?_
      refine e_aload_n dX7_fails_16 rfl rfl ?_
      refine mo_g0 wF_X7_39 dX7_fails_17 ?_
      refine e_if_eq (tgt := 27) dX7_fails_20 (by decide) (fun c20 => ?_) (fun c20 => ?_)
      · exact absurd c20 hy
      · refine e_iconst (v := 1) dX7_fails_23 (by decide) ?_
        refine e_goto (tgt := 28) dX7_fails_24 (by decide) ?_
        exact e_zret (ty := .boolean) rfl rfl dX7_fails_28 (⟨rfl, rfl⟩)
set_option maxRecDepth 20000 in
theorem ct_X7_in {b : ev_H} : ev_Ct G l mX7_in 1 0 0 [.int x, .int y, .int z] (b) (fun v a => ((y.toInt ≤ x.toInt ∧ x.toInt ≤ z.toInt) ∧ v = some (.int 1) ∧ a = b) ∨ (¬ (y.toInt ≤ x.toInt ∧ x.toInt ≤ z.toInt) ∧ v = some (.int 0) ∧ a = b)) (fun _ _ => False) := by
  refine ev_Ct.of (by decide +kernel) (Nat.le_of_ble_eq_true rfl) ?_
  refine e_iload_n dX7_in_0 rfl rfl ?_
  refine e_iload_n dX7_in_1 rfl rfl ?_
  refine e_icmp_lt (tgt := 14) dX7_in_2 (by decide) (fun c2 => ?_) (fun c2 => ?_)
  · refine e_iconst (v := 0) dX7_in_14 (by decide) ?_
    exact e_zret (ty := .boolean) rfl rfl dX7_in_15 (by first | exact Or.inl ⟨⟨by omega, by omega⟩, rfl, rfl⟩ | exact Or.inr ⟨fun q => by omega, rfl, rfl⟩)
  · refine e_iload_n dX7_in_5 rfl rfl ?_
    refine e_iload_n dX7_in_6 rfl rfl ?_
    refine e_icmp_gt (tgt := 14) dX7_in_7 (by decide) (fun c7 => ?_) (fun c7 => ?_)
    · refine e_iconst (v := 0) dX7_in_14 (by decide) ?_
      exact e_zret (ty := .boolean) rfl rfl dX7_in_15 (by first | exact Or.inl ⟨⟨by omega, by omega⟩, rfl, rfl⟩ | exact Or.inr ⟨fun q => by omega, rfl, rfl⟩)
    · refine e_iconst (v := 1) dX7_in_10 (by decide) ?_
      refine e_goto (tgt := 15) dX7_in_11 (by decide) ?_
      exact e_zret (ty := .boolean) rfl rfl dX7_in_15 (by first | exact Or.inl ⟨⟨by omega, by omega⟩, rfl, rfl⟩ | exact Or.inr ⟨fun q => by omega, rfl, rfl⟩)
set_option maxRecDepth 20000 in
theorem ct_X7_min {b : ev_H} : ev_Ct G l mX7_min 1 0 0 [.int x, .int y] (b) (fun v a => v = some (.int (if x.toInt < y.toInt then x else y)) ∧ a = b) (fun _ _ => False) := by
  refine ev_Ct.of (by decide +kernel) (Nat.le_of_ble_eq_true rfl) ?_
  refine e_iload_n dX7_min_0 rfl rfl ?_
  refine e_iload_n dX7_min_1 rfl rfl ?_
  refine e_icmp_ge (tgt := 9) dX7_min_2 (by decide) (fun c2 => ?_) (fun c2 => ?_)
  · refine e_iload_n dX7_min_9 rfl rfl ?_
    exact e_iret rfl dX7_min_10 (⟨by first | rw [if_pos c2] | rw [if_neg (by omega)], rfl⟩)
  · refine e_iload_n dX7_min_5 rfl rfl ?_
    refine e_goto (tgt := 10) dX7_min_6 (by decide) ?_
    exact e_iret rfl dX7_min_10 (⟨by first | rw [if_pos c2] | rw [if_neg (by omega)], rfl⟩)
set_option maxRecDepth 20000 in
theorem ct_X7_within {b : ev_H} {u t : Int64} : ev_Ct G l mX7_within 1 0 0 [.long u, .long t] (b) (fun v a => v = some (.long (mWi u t)) ∧ a = b) (fun _ _ => False) := by
  refine ev_Ct.of (by decide +kernel) (Nat.le_of_ble_eq_true rfl) ?_
  refine e_lload_n dX7_within_0 rfl rfl ?_
  refine e_lload_n dX7_within_1 rfl rfl ?_
  refine e_lcmp dX7_within_2 ?_
  refine e_if_le (tgt := 10) dX7_within_3 (by decide) (fun c3 => ?_) (fun c3 => ?_)
  · have d3 := ar_lc_le c3
    refine e_lload_n dX7_within_10 rfl rfl ?_
    refine e_lload_n dX7_within_11 rfl rfl ?_
    refine e_lneg dX7_within_12 ?_
    refine e_lcmp dX7_within_13 ?_
    refine e_if_ge (tgt := 22) dX7_within_14 (by decide) (fun c14 => ?_) (fun c14 => ?_)
    · have d14 := ar_lc_ge c14
      refine e_lload_n dX7_within_22 rfl rfl ?_
      exact e_lret rfl dX7_within_23 (⟨by unfold mWi; first | (rw [if_pos d3]; done) | (rw [if_neg (by omega), if_pos d14]; done) | (rw [if_neg (by omega), if_neg (by omega)]; done), rfl⟩)
    · have d14 := ar_lc_lt c14
      refine e_lload_n dX7_within_17 rfl rfl ?_
      refine e_lneg dX7_within_18 ?_
      refine e_goto (tgt := 23) dX7_within_19 (by decide) ?_
      exact e_lret rfl dX7_within_23 (⟨by unfold mWi; first | (rw [if_pos d3]; done) | (rw [if_neg (by omega), if_pos d14]; done) | (rw [if_neg (by omega), if_neg (by omega)]; done), rfl⟩)
  · have d3 := ar_lc_gt c3
    refine e_lload_n dX7_within_6 rfl rfl ?_
    refine e_goto (tgt := 23) dX7_within_7 (by decide) ?_
    exact e_lret rfl dX7_within_23 (⟨by unfold mWi; first | (rw [if_pos d3]; done) | (rw [if_neg (by omega), if_pos d14]; done) | (rw [if_neg (by omega), if_neg (by omega)]; done), rfl⟩)
set_option maxRecDepth 20000 in
theorem lp_mcopy {J : ev_K} {k n : Nat} (hJ : 1 ≤ J.2.2.1) {q t : Nat} (hq : q < 11) (ht : t < 11) (hne : q ≠ t) (hk : ev_V G l mX7_copy J 21 [] [] (mo G c (ms_L μ t (fillL 199 (μ.2.1 q) (μ.2.1 t))) h) k n) : ∀ (r i : Nat) (x : Int32), r + i = 199 → x.toInt = (i : Int) → ev_V G l mX7_copy J 2 [some (.ref (mr c q)), some (.ref (mr c t)), some (.int x)] [] (mo G c (ms_L μ t (fillL i (μ.2.1 q) (μ.2.1 t))) h) k n := by
  intro r
  induction r using Nat.strongRecOn with
  | ind r ih =>
    intro i x
    intro hr hx
    have hn : x.toInt.toNat = i := ar_nat hx
    have w199 : (199 : Int32).toInt = 199 := by decide +kernel
    refine e_iload_n dX7_copy_2 rfl rfl ?_
    refine e_sipush (v := 199) dX7_copy_3 (by decide) ?_
    refine e_icmp_ge (tgt := 21) dX7_copy_6 (by decide) (fun c6 => ?_) (fun c6 => ?_)
    · obtain rfl : i = 199 := by omega
      exact ev_lc hk trivial
    · refine e_aload_n dX7_copy_9 rfl rfl ?_
      refine e_iload_n dX7_copy_10 rfl rfl ?_
      refine e_aload_n dX7_copy_11 rfl rfl ?_
      refine e_iload_n dX7_copy_12 rfl rfl ?_
      refine mo_lr (q) hq (by omega) (by omega) dX7_copy_13 ?_
      refine mo_sr (t) ht (by omega) (by omega) dX7_copy_14 ?_
      refine e_iinc dX7_copy_15 rfl rfl (Nat.le_of_ble_eq_true rfl) ?_
      refine e_goto (tgt := 2) dX7_copy_18 (by decide) ?_
      refine ev_as ?_ (ih (r - 1) (by omega) (i + 1) _ (by omega) (ar_inc hx (by omega)))
      rw [ms_L_L, ms_L_get, ms_L_ne _ _ hne, hn]
      exact congrArg (fun f => mo G c (ms_L μ t f) h) (fillL_up i _ _ _ rfl)
set_option maxRecDepth 20000 in
theorem ct_X7_copy {q t : Nat} (hq : q < 11) (ht : t < 11) (hne : q ≠ t) : ev_Ct G l mX7_copy 1 0 0 [.ref (mr c q), .ref (mr c t)] (mo G c μ h) (fun v a => v = none ∧ a = mo G c (ms_L μ t (fillL 199 (μ.2.1 q) (μ.2.1 t))) h) (fun _ _ => False) := by
  refine ev_Ct.of (by decide +kernel) (Nat.le_of_ble_eq_true rfl) ?_
  refine e_iconst (v := 0) dX7_copy_0 (by decide) ?_
  refine e_istore_n dX7_copy_1 rfl (Nat.le_of_ble_eq_true rfl) ?_
  refine ev_as (a' := mo G c (ms_L μ t (fillL 0 (μ.2.1 q) (μ.2.1 t))) h) (by rw [fillL_0, ms_L_self]) ?_
  refine lp_mcopy (Nat.le_refl _) hq ht hne ?_ 199 0 0 (by omega) ar_0
  exact e_vret rfl dX7_copy_21 ⟨rfl, rfl⟩
set_option maxRecDepth 20000 in
theorem lp_lay1 {J : ev_K} {k n : Nat} (hJ : 1 ≤ J.2.2.1) {q : Nat} (hq : q < 11) {y : Int32} {N : Nat} (hy : y.toInt = (N : Int)) (hN : N ≤ 12) (hk : ∀ δ : Nat → Int64, (∀ p, p < 199 → δ p = 0) → ev_V G l mX7_layChain J 19 [some (.ref (mr c q)), some (.int y)] [] (mo G c (ms_L μ q δ) h) k n) : ∀ (r i : Nat) (x : Int32) (δ : Nat → Int64), r + i = 199 → x.toInt = (i : Int) → (∀ p, p < i → δ p = 0) → ev_V G l mX7_layChain J 2 [some (.ref (mr c q)), some (.int y), some (.int x)] [] (mo G c (ms_L μ q δ) h) k n := by
  intro r
  induction r using Nat.strongRecOn with
  | ind r ih =>
    intro i x δ
    intro hr hx hδ
    have hn : x.toInt.toNat = i := ar_nat hx
    have w199 : (199 : Int32).toInt = 199 := by decide +kernel
    have z0 := ar_0
    have z1 := ar_1
    have z12 : (12 : Int32).toInt = ((12 : Nat) : Int) := ar_12
    have z48 : (48 : Int32).toInt = ((48 : Nat) : Int) := by decide +kernel
    refine e_iload_n dX7_layChain_2 rfl rfl ?_
    refine e_sipush (v := 199) dX7_layChain_3 (by decide) ?_
    refine e_icmp_ge (tgt := 19) dX7_layChain_6 (by decide) (fun c6 => ?_) (fun c6 => ?_)
    · obtain rfl : i = 199 := by omega
      exact ev_lc (hk δ hδ) ⟨rfl, rfl, trivial⟩
    · refine e_aload_n dX7_layChain_9 rfl rfl ?_
      refine e_iload_n dX7_layChain_10 rfl rfl ?_
      refine e_lconst (v := 0) dX7_layChain_11 (by decide) ?_
      refine mo_sr (q) hq (by omega) (by omega) dX7_layChain_12 ?_
      refine e_iinc dX7_layChain_13 rfl rfl (Nat.le_of_ble_eq_true rfl) ?_
      refine e_goto (tgt := 2) dX7_layChain_16 (by decide) ?_
      refine ev_as (a' := mo G c (ms_L μ q (ev_u δ i 0)) h) (by rw [ms_L_L, ms_L_get, hn]) (ih (r - 1) (by omega) (i + 1) _ _ (by omega) (ar_inc hx (by omega)) ?_)
      intro p hp
      by_cases e : p = i
      · subst e; exact ev_u_self _ _ _
      · rw [ev_u_ne _ _ e]; exact hδ p (by omega)
set_option maxRecDepth 20000 in
theorem lp_lay2 {J : ev_K} {k n : Nat} (hJ : 1 ≤ J.2.2.1) {q : Nat} (hq : q < 11) {y : Int32} {N : Nat} (hy : y.toInt = (N : Int)) (hN : N ≤ 12) (hk : ∀ δ : Nat → Int64, (∀ p, p < 199 → δ p = layF y.toInt64 N 0 p) → ev_V G l mX7_layChain J 50 [some (.ref (mr c q)), some (.int y)] [] (mo G c (ms_L μ q δ) h) k n) : ∀ (r i : Nat) (x : Int32) (δ : Nat → Int64), r + i = N → x.toInt = (i : Int) → (∀ p, p < 199 → δ p = layF y.toInt64 i 0 p) → ev_V G l mX7_layChain J 26 [some (.ref (mr c q)), some (.int y), some (.int x)] [] (mo G c (ms_L μ q δ) h) k n := by
  intro r
  induction r using Nat.strongRecOn with
  | ind r ih =>
    intro i x δ
    intro hr hx hδ
    have hn : x.toInt.toNat = i := ar_nat hx
    have w199 : (199 : Int32).toInt = 199 := by decide +kernel
    have z0 := ar_0
    have z1 := ar_1
    have z12 : (12 : Int32).toInt = ((12 : Nat) : Int) := ar_12
    have z48 : (48 : Int32).toInt = ((48 : Nat) : Int) := by decide +kernel
    have e1 : ((12 : Int32) + 3 * x + 0).toInt = ((12 + 3 * i + 0 : Nat) : Int) := ar_ix z12 hx (by exact ar_0) (by omega) (by omega) (by omega)
    refine e_iload_n dX7_layChain_26 rfl rfl ?_
    refine e_iload_n dX7_layChain_27 rfl rfl ?_
    refine e_icmp_ge (tgt := 50) dX7_layChain_28 (by decide) (fun c28 => ?_) (fun c28 => ?_)
    · obtain rfl : i = N := by omega
      exact ev_lc (hk δ hδ) ⟨rfl, rfl, trivial⟩
    · refine e_aload_n dX7_layChain_31 rfl rfl ?_
      refine e_bipush (v := 12) dX7_layChain_32 (by decide) ?_
      refine e_iconst (v := 3) dX7_layChain_34 (by decide) ?_
      refine e_iload_n dX7_layChain_35 rfl rfl ?_
      refine e_imul dX7_layChain_36 ?_
      refine e_iadd dX7_layChain_37 ?_
      refine e_iconst (v := 0) dX7_layChain_38 (by decide) ?_
      refine e_iadd dX7_layChain_39 ?_
      refine e_ldc2 dX7_layChain_40 wK_X7_42 ?_
      refine mo_sr (q) hq (by omega) (by omega) dX7_layChain_43 ?_
      refine e_iinc dX7_layChain_44 rfl rfl (Nat.le_of_ble_eq_true rfl) ?_
      refine e_goto (tgt := 26) dX7_layChain_47 (by decide) ?_
      refine ev_as (a' := mo G c (ms_L μ q (ev_u δ (12 + 3 * i) 10)) h) (by rw [ms_L_L, ms_L_get, ar_nat e1]; rfl) (ih (r - 1) (by omega) (i + 1) _ _ (by omega) (ar_inc hx (by omega)) ?_)
      intro p hp
      by_cases e : p = 12 + 3 * i
      · subst e; rw [ev_u_self]; unfold layF; rw [if_neg (by omega), if_pos (by omega)]
      · rw [ev_u_ne _ _ e, hδ p hp]; unfold layF; by_cases a1 : p = 1
        · rw [if_pos a1, if_pos a1]
        · rw [if_neg a1, if_neg a1]; by_cases a2 : 12 ≤ p ∧ p < 12 + 3 * i ∧ p % 3 = 0
          · rw [if_pos a2, if_pos (by omega)]
          · rw [if_neg a2, if_neg (show ¬ (12 ≤ p ∧ p < 12 + 3 * (i + 1) ∧ p % 3 = 0) by omega)]
set_option maxRecDepth 20000 in
theorem lp_lay3 {J : ev_K} {k n : Nat} (hJ : 1 ≤ J.2.2.1) {q : Nat} (hq : q < 11) {y : Int32} {N : Nat} (hy : y.toInt = (N : Int)) (hN : N ≤ 12) (hk : ∀ δ : Nat → Int64, (∀ p, p < 199 → δ p = layF y.toInt64 N (N + 1) p) → ev_V G l mX7_layChain J 76 [some (.ref (mr c q)), some (.int y)] [] (mo G c (ms_L μ q δ) h) k n) : ∀ (r i : Nat) (x : Int32) (δ : Nat → Int64), r + i = N + 1 → x.toInt = (i : Int) → (∀ p, p < 199 → δ p = layF y.toInt64 N i p) → ev_V G l mX7_layChain J 52 [some (.ref (mr c q)), some (.int y), some (.int x)] [] (mo G c (ms_L μ q δ) h) k n := by
  intro r
  induction r using Nat.strongRecOn with
  | ind r ih =>
    intro i x δ
    intro hr hx hδ
    have hn : x.toInt.toNat = i := ar_nat hx
    have w199 : (199 : Int32).toInt = 199 := by decide +kernel
    have z0 := ar_0
    have z1 := ar_1
    have z12 : (12 : Int32).toInt = ((12 : Nat) : Int) := ar_12
    have z48 : (48 : Int32).toInt = ((48 : Nat) : Int) := by decide +kernel
    have e1 : ((48 : Int32) + 3 * x + 0).toInt = ((48 + 3 * i + 0 : Nat) : Int) := ar_ix z48 hx (by exact ar_0) (by omega) (by omega) (by omega)
    refine e_iload_n dX7_layChain_52 rfl rfl ?_
    refine e_iload_n dX7_layChain_53 rfl rfl ?_
    refine e_icmp_gt (tgt := 76) dX7_layChain_54 (by decide) (fun c54 => ?_) (fun c54 => ?_)
    · obtain rfl : i = N + 1 := by omega
      exact ev_lc (hk δ hδ) ⟨rfl, rfl, trivial⟩
    · refine e_aload_n dX7_layChain_57 rfl rfl ?_
      refine e_bipush (v := 48) dX7_layChain_58 (by decide) ?_
      refine e_iconst (v := 3) dX7_layChain_60 (by decide) ?_
      refine e_iload_n dX7_layChain_61 rfl rfl ?_
      refine e_imul dX7_layChain_62 ?_
      refine e_iadd dX7_layChain_63 ?_
      refine e_iconst (v := 0) dX7_layChain_64 (by decide) ?_
      refine e_iadd dX7_layChain_65 ?_
      refine e_ldc2 dX7_layChain_66 wK_X7_44 ?_
      refine mo_sr (q) hq (by omega) (by omega) dX7_layChain_69 ?_
      refine e_iinc dX7_layChain_70 rfl rfl (Nat.le_of_ble_eq_true rfl) ?_
      refine e_goto (tgt := 52) dX7_layChain_73 (by decide) ?_
      refine ev_as (a' := mo G c (ms_L μ q (ev_u δ (48 + 3 * i) 100)) h) (by rw [ms_L_L, ms_L_get, ar_nat e1]; rfl) (ih (r - 1) (by omega) (i + 1) _ _ (by omega) (ar_inc hx (by omega)) ?_)
      intro p hp
      by_cases e : p = 48 + 3 * i
      · subst e; rw [ev_u_self]; unfold layF; rw [if_neg (by omega), if_neg (by omega), if_pos (by omega)]
      · rw [ev_u_ne _ _ e, hδ p hp]; unfold layF; by_cases a1 : p = 1
        · rw [if_pos a1, if_pos a1]
        · rw [if_neg a1, if_neg a1]; by_cases a2 : 12 ≤ p ∧ p < 12 + 3 * N ∧ p % 3 = 0
          · rw [if_pos a2, if_pos a2]
          · rw [if_neg a2, if_neg a2]; by_cases a3 : 48 ≤ p ∧ p < 48 + 3 * i ∧ p % 3 = 0
            · rw [if_pos a3, if_pos (by omega)]
            · rw [if_neg a3, if_neg (show ¬ (48 ≤ p ∧ p < 48 + 3 * (i + 1) ∧ p % 3 = 0) by omega)]
set_option maxRecDepth 20000 in
theorem ct_X7_layChain {q : Nat} (hq : q < 11) {y : Int32} {N : Nat} (hy : y.toInt = (N : Int)) (hN : N ≤ 12) : ev_Ct G l mX7_layChain 1 0 0 [.ref (mr c q), .int y] (mo G c μ h) (fun v a => v = none ∧ ∃ δ : Nat → Int64, (∀ p, p < 199 → δ p = layF y.toInt64 N (N + 1) p) ∧ a = mo G c (ms_L μ q δ) h) (fun _ _ => False) := by
  refine ev_Ct.of (by decide +kernel) (Nat.le_of_ble_eq_true rfl) ?_
  have w199 : (199 : Int32).toInt = 199 := by decide +kernel
  have z0 := ar_0
  have z1 := ar_1
  have z12 : (12 : Int32).toInt = ((12 : Nat) : Int) := ar_12
  have z48 : (48 : Int32).toInt = ((48 : Nat) : Int) := by decide +kernel
  refine e_iconst (v := 0) dX7_layChain_0 (by decide) ?_
  refine e_istore_n dX7_layChain_1 rfl (Nat.le_of_ble_eq_true rfl) ?_
  refine ev_as (a' := mo G c (ms_L μ q (μ.2.1 q)) h) (by rw [ms_L_self]) ?_
  refine lp_lay1 (Nat.le_refl _) hq hy hN (fun δ hδ => ?_) 199 0 0 _ (by omega) ar_0 (fun p hp => absurd hp (by omega))
  refine e_aload_n dX7_layChain_19 rfl rfl ?_
  refine e_iconst (v := 1) dX7_layChain_20 (by decide) ?_
  refine e_iload_n dX7_layChain_21 rfl rfl ?_
  refine e_i2l dX7_layChain_22 ?_
  refine mo_sr (q) hq (by omega) (by omega) dX7_layChain_23 ?_
  refine e_iconst (v := 0) dX7_layChain_24 (by decide) ?_
  refine e_istore_n dX7_layChain_25 rfl (Nat.le_of_ble_eq_true rfl) ?_
  refine ev_loc (L' := [some (.ref (mr c q)), some (.int y), some (.int 0)]) ⟨rfl, rfl, rfl, trivial⟩ ?_
  refine ev_as (a' := mo G c (ms_L μ q (ev_u δ 1 y.toInt64)) h) (by rw [ms_L_L, ms_L_get, z1]; rfl) ?_
  refine lp_lay2 (Nat.le_refl _) hq hy hN (fun δ2 hδ2 => ?_) N 0 0 _ (by omega) ar_0 (fun p hp => ?_)
  · refine e_iconst (v := 0) dX7_layChain_50 (by decide) ?_
    refine e_istore_n dX7_layChain_51 rfl (Nat.le_of_ble_eq_true rfl) ?_
    refine ev_loc (L' := [some (.ref (mr c q)), some (.int y), some (.int 0)]) ⟨rfl, rfl, rfl, trivial⟩ ?_
    refine lp_lay3 (Nat.le_refl _) hq hy hN (fun δ3 hδ3 => ?_) (N + 1) 0 0 _ (by omega) ar_0 hδ2
    exact e_vret rfl dX7_layChain_76 ⟨rfl, δ3, hδ3, rfl⟩
  · unfold layF
    by_cases e : p = 1
    · subst e; rw [if_pos rfl]; exact ev_u_self _ _ _
    · rw [if_neg e, if_neg (by omega), if_neg (by omega), ev_u_ne _ _ e]; exact hδ p hp
set_option maxRecDepth 20000 in
theorem ct_X7_of (hx : x.toInt = (j : Int)) (hy : y.toInt = (w : Int)) (hj : j ≤ 12) (hw : w < 3) : ev_Ct G l mX7_of 1 0 0 [.ref c, .int x, .int y] (mo G c μ h) (fun v a => v = some (.long (μ.2.1 0 (12 + 3 * j + w))) ∧ a = mo G c μ h) (fun _ _ => False) := by
  refine ev_Ct.of (by decide +kernel) (Nat.le_of_ble_eq_true rfl) ?_
  have z12 : (12 : Int32).toInt = ((12 : Nat) : Int) := ar_12
  have e1 : ((12 : Int32) + 3 * x + y).toInt = ((12 + 3 * j + w : Nat) : Int) := ar_ix z12 hx hy (by omega) (by omega) (by omega)
  refine e_aload_n dX7_of_0 rfl rfl ?_
  refine mo_g8 wF_X7_17 dX7_of_1 ?_
  refine e_bipush (v := 12) dX7_of_4 (by decide) ?_
  refine e_iconst (v := 3) dX7_of_6 (by decide) ?_
  refine e_iload_n dX7_of_7 rfl rfl ?_
  refine e_imul dX7_of_8 ?_
  refine e_iadd dX7_of_9 ?_
  refine e_iload_n dX7_of_10 rfl rfl ?_
  refine e_iadd dX7_of_11 ?_
  refine mo_l2 (by omega) (by omega) dX7_of_12 ?_
  exact e_lret rfl dX7_of_13 (⟨by rw [ar_nat e1], rfl⟩)
set_option maxRecDepth 20000 in
theorem ct_X7_set (hx : x.toInt = (j : Int)) (hy : y.toInt = (w : Int)) (hj : j ≤ 12) (hw : w < 3) {z : Int64} : ev_Ct G l mX7_set 1 0 0 [.ref c, .int x, .int y, .long z] (mo G c μ h) (fun v a => v = none ∧ a = mo G c (ms_L μ 0 (ev_u (μ.2.1 0) (12 + 3 * j + w) z)) h) (fun _ _ => False) := by
  refine ev_Ct.of (by decide +kernel) (Nat.le_of_ble_eq_true rfl) ?_
  have z12 : (12 : Int32).toInt = ((12 : Nat) : Int) := ar_12
  have e1 : ((12 : Int32) + 3 * x + y).toInt = ((12 + 3 * j + w : Nat) : Int) := ar_ix z12 hx hy (by omega) (by omega) (by omega)
  refine e_aload_n dX7_set_0 rfl rfl ?_
  refine mo_g8 wF_X7_17 dX7_set_1 ?_
  refine e_bipush (v := 12) dX7_set_4 (by decide) ?_
  refine e_iconst (v := 3) dX7_set_6 (by decide) ?_
  refine e_iload_n dX7_set_7 rfl rfl ?_
  refine e_imul dX7_set_8 ?_
  refine e_iadd dX7_set_9 ?_
  refine e_iload_n dX7_set_10 rfl rfl ?_
  refine e_iadd dX7_set_11 ?_
  refine e_lload_n dX7_set_12 rfl rfl ?_
  refine mo_s2 (by omega) (by omega) dX7_set_13 ?_
  exact e_vret rfl dX7_set_14 (⟨rfl, by rw [ar_nat e1]⟩)
set_option maxRecDepth 20000 in
theorem ct_X7_ofSpring (hx : x.toInt = (j : Int)) (hy : y.toInt = (w : Int)) (hj : j ≤ 12) (hw : w < 3) : ev_Ct G l mX7_ofSpring 1 0 0 [.ref c, .int x, .int y] (mo G c μ h) (fun v a => v = some (.long (μ.2.1 0 (48 + 3 * j + w))) ∧ a = mo G c μ h) (fun _ _ => False) := by
  refine ev_Ct.of (by decide +kernel) (Nat.le_of_ble_eq_true rfl) ?_
  have z48 : (48 : Int32).toInt = ((48 : Nat) : Int) := by decide +kernel
  have e1 : ((48 : Int32) + 3 * x + y).toInt = ((48 + 3 * j + w : Nat) : Int) := ar_ix z48 hx hy (by omega) (by omega) (by omega)
  refine e_aload_n dX7_ofSpring_0 rfl rfl ?_
  refine mo_g8 wF_X7_17 dX7_ofSpring_1 ?_
  refine e_bipush (v := 48) dX7_ofSpring_4 (by decide) ?_
  refine e_iconst (v := 3) dX7_ofSpring_6 (by decide) ?_
  refine e_iload_n dX7_ofSpring_7 rfl rfl ?_
  refine e_imul dX7_ofSpring_8 ?_
  refine e_iadd dX7_ofSpring_9 ?_
  refine e_iload_n dX7_ofSpring_10 rfl rfl ?_
  refine e_iadd dX7_ofSpring_11 ?_
  refine mo_l2 (by omega) (by omega) dX7_ofSpring_12 ?_
  exact e_lret rfl dX7_ofSpring_13 (⟨by rw [ar_nat e1], rfl⟩)
set_option maxRecDepth 20000 in
theorem ct_X7_masses (hR : RD σ (μ.2.1 0)) : ev_Ct G l mX7_masses 1 0 0 [.ref c] (mo G c μ h) (fun v a => v = some (.int (σ.1 0)) ∧ a = mo G c μ h) (fun _ _ => False) := by
  refine ev_Ct.of (by decide +kernel) (Nat.le_of_ble_eq_true rfl) ?_
  have z1 := ar_1
  refine e_aload_n dX7_masses_0 rfl rfl ?_
  refine mo_g8 wF_X7_17 dX7_masses_1 ?_
  refine e_iconst (v := 1) dX7_masses_4 (by decide) ?_
  refine mo_l2 (by omega) (by omega) dX7_masses_5 ?_
  refine e_l2i dX7_masses_6 ?_
  exact e_iret rfl dX7_masses_7 (⟨by rw [z1]; show some (Value.int (μ.2.1 0 1).toInt32) = _; rw [hR.1.2.1, ar_6432], rfl⟩)
theorem ct_of (hR : RD σ (μ.2.1 0)) (hv : sInv σ) (hx : x.toInt = (j : Int)) (hy : y.toInt = (w : Int)) (hj : j < sNm σ) (hw : w < 3) : ev_Ct G l mX7_of 1 0 0 [.ref c, .int x, .int y] (mo G c μ h) (fun v a => v = some (.long (σ.2.2 w j).toInt64) ∧ a = mo G c μ h) (fun _ _ => False) := (ct_X7_of hx hy (by have := hv.1.nat; omega) hw).mono (fun v a q => ⟨by rw [q.1, hR.2.1.2.1 w j hw hj], q.2⟩) (fun _ _ q => q)
theorem ct_oS (hR : RD σ (μ.2.1 0)) (hv : sInv σ) (hx : x.toInt = (j : Int)) (hy : y.toInt = (w : Int)) (hj : j ≤ sNm σ) (hw : w < 3) : ev_Ct G l mX7_ofSpring 1 0 0 [.ref c, .int x, .int y] (mo G c μ h) (fun v a => v = some (.long (σ.2.2 (3 + w) j).toInt64) ∧ a = mo G c μ h) (fun _ _ => False) := (ct_X7_ofSpring hx hy (by have := hv.1.nat; omega) hw).mono (fun v a q => ⟨by rw [q.1, hR.2.1.2.2 w j hw hj], q.2⟩) (fun _ _ q => q)
set_option maxRecDepth 20000 in
theorem ct_X7_placeAt (hR : RD σ (μ.2.1 0)) (hv : sInv σ) {k : Int} (hx : x.toInt = k) (hk : k ≤ sM σ) : ev_Ct G l mX7_placeAt 2 0 0 [.ref c, .int x] (mo G c μ h) (fun v a => v = some (.long (sPlc σ k).toInt64) ∧ a = mo G c μ h) (fun _ _ => False) := by
  refine ev_Ct.of (by decide +kernel) (Nat.le_of_ble_eq_true rfl) ?_
  have hmn := hv.1.nat
  have hmu : (σ.1 0).toInt = sM σ := rfl
  have z0 := ar_0
  have z1 := ar_1
  have z2 : (2 : Int32).toInt = 2 := by decide +kernel
  have z3 : (3 : Int32).toInt = 3 := by decide +kernel
  refine e_iload_n dX7_placeAt_0 rfl rfl ?_
  refine e_if_ge (tgt := 13) dX7_placeAt_1 (by decide) (fun c1 => ?_) (fun c1 => ?_)
  · refine e_iload_n dX7_placeAt_13 rfl rfl ?_
    refine e_aload_n dX7_placeAt_14 rfl rfl ?_
    refine e_invV (mcY := 0) (msY := 0) (ct_X7_masses hR) vX7_masses wM_X7_199 (mo_at G c _ h 0 (by decide)) rfl dX7_placeAt_15 rfl rfl (Nat.le_of_ble_eq_true rfl) (Nat.le_of_ble_eq_true rfl) ?_
    rintro _ _ ⟨rfl, rfl⟩
    refine e_icmp_ne (tgt := 30) dX7_placeAt_18 (by decide) (fun c18 => ?_) (fun c18 => ?_)
    · have c18b : ¬ k = sM σ := fun q => c18 (ar_eq (by omega))
      refine e_aload_n dX7_placeAt_30 rfl rfl ?_
      refine e_iload_n dX7_placeAt_31 rfl rfl ?_
      refine e_iconst (v := 1) dX7_placeAt_32 (by decide) ?_
      refine e_invV (mcY := 0) (msY := 0) (ct_of (j := k.toNat) (w := 1) hR hv (by omega) ar_1 (by omega) (by decide)) vX7_of wM_X7_201 (mo_at G c _ h 0 (by decide)) rfl dX7_placeAt_33 rfl rfl (Nat.le_of_ble_eq_true rfl) (Nat.le_of_ble_eq_true rfl) ?_
      rintro _ _ ⟨rfl, rfl⟩
      exact e_lret rfl dX7_placeAt_36 (⟨by unfold sPlc; first | (rw [if_pos (by omega), z2]; show some (Value.long (μ.2.1 0 2)) = _; rw [hR.1.2.2.1]; done) | (rw [if_neg (by omega), if_pos c18b, z3]; show some (Value.long (μ.2.1 0 3)) = _; rw [hR.1.2.2.2.1]; done) | (rw [if_neg (by omega), if_neg c18b]; done), rfl⟩)
    · have c18b : k = sM σ := by rw [← hx, c18]; exact hmu
      refine e_aload_n dX7_placeAt_21 rfl rfl ?_
      refine mo_g8 wF_X7_17 dX7_placeAt_22 ?_
      refine e_iconst (v := 3) dX7_placeAt_25 (by decide) ?_
      refine mo_l2 (by omega) (by omega) dX7_placeAt_26 ?_
      refine e_goto (tgt := 36) dX7_placeAt_27 (by decide) ?_
      exact e_lret rfl dX7_placeAt_36 (⟨by unfold sPlc; first | (rw [if_pos (by omega), z2]; show some (Value.long (μ.2.1 0 2)) = _; rw [hR.1.2.2.1]; done) | (rw [if_neg (by omega), if_pos c18b, z3]; show some (Value.long (μ.2.1 0 3)) = _; rw [hR.1.2.2.2.1]; done) | (rw [if_neg (by omega), if_neg c18b]; done), rfl⟩)
  · refine e_aload_n dX7_placeAt_4 rfl rfl ?_
    refine mo_g8 wF_X7_17 dX7_placeAt_5 ?_
    refine e_iconst (v := 2) dX7_placeAt_8 (by decide) ?_
    refine mo_l2 (by omega) (by omega) dX7_placeAt_9 ?_
    refine e_goto (tgt := 36) dX7_placeAt_10 (by decide) ?_
    exact e_lret rfl dX7_placeAt_36 (⟨by unfold sPlc; first | (rw [if_pos (by omega), z2]; show some (Value.long (μ.2.1 0 2)) = _; rw [hR.1.2.2.1]; done) | (rw [if_neg (by omega), if_pos c18b, z3]; show some (Value.long (μ.2.1 0 3)) = _; rw [hR.1.2.2.2.1]; done) | (rw [if_neg (by omega), if_neg c18b]; done), rfl⟩)
set_option maxRecDepth 20000 in
theorem ct_X7_stretch (hR : RD σ (μ.2.1 0)) (hv : sInv σ) (hb : RBs σ) (hx : x.toInt = (j : Int)) (hj : j ≤ sNm σ) : ev_Ct G l mX7_stretch 3 0 0 [.ref c, .int x] (mo G c μ h) (fun v a => v = some (.long (sStr σ j).toInt64) ∧ a = mo G c μ h) (fun _ _ => False) := by
  refine ev_Ct.of (by decide +kernel) (Nat.le_of_ble_eq_true rfl) ?_
  have hmn := hv.1.nat
  have hmu : (σ.1 0).toInt = sM σ := rfl
  have z0 := ar_0
  have z1 := ar_1
  refine e_aload_n dX7_stretch_0 rfl rfl ?_
  refine e_iload_n dX7_stretch_1 rfl rfl ?_
  refine e_invV (mcY := 0) (msY := 0) (ct_X7_placeAt (k := (j : Int)) hR hv hx (by omega)) vX7_placeAt wM_X7_205 (mo_at G c _ h 0 (by decide)) rfl dX7_stretch_2 rfl rfl (Nat.le_of_ble_eq_true rfl) (Nat.le_of_ble_eq_true rfl) ?_
  rintro _ _ ⟨rfl, rfl⟩
  refine e_aload_n dX7_stretch_5 rfl rfl ?_
  refine e_iload_n dX7_stretch_6 rfl rfl ?_
  refine e_iconst (v := 1) dX7_stretch_7 (by decide) ?_
  refine e_isub dX7_stretch_8 ?_
  refine e_invV (mcY := 0) (msY := 0) (ct_X7_placeAt (k := (j : Int) - 1) hR hv (by rw [ar_sub (by rw [z1]; omega) (by rw [z1]; omega), z1, hx]) (by omega)) vX7_placeAt wM_X7_205 (mo_at G c _ h 0 (by decide)) rfl dX7_stretch_9 rfl rfl (Nat.le_of_ble_eq_true rfl) (Nat.le_of_ble_eq_true rfl) ?_
  rintro _ _ ⟨rfl, rfl⟩
  refine e_lsub dX7_stretch_12 ?_
  exact e_lret rfl dX7_stretch_13 (⟨by rw [(sStr_64 hv.1 hb hj).1], rfl⟩)
set_option maxRecDepth 20000 in
theorem ct_X7_isWhole (hR : RD σ (μ.2.1 0)) (hv : sInv σ) (hx : x.toInt = (j : Int)) (hj : j ≤ sNm σ) : ev_Ct G l mX7_isWhole 2 0 0 [.ref c, .int x] (mo G c μ h) (fun v a => (σ.2.2 5 j = 0 ∧ v = some (.int 1) ∧ a = mo G c μ h) ∨ (¬ σ.2.2 5 j = 0 ∧ v = some (.int 0) ∧ a = mo G c μ h)) (fun _ _ => False) := by
  refine ev_Ct.of (by decide +kernel) (Nat.le_of_ble_eq_true rfl) ?_
  have hmn := hv.1.nat
  have hmu : (σ.1 0).toInt = sM σ := rfl
  have z0 := ar_0
  have z1 := ar_1
  have w0 : (0 : Int32).toInt64 = 0 := by decide +kernel
  refine e_aload_n dX7_isWhole_0 rfl rfl ?_
  refine e_iload_n dX7_isWhole_1 rfl rfl ?_
  refine e_iconst (v := 2) dX7_isWhole_2 (by decide) ?_
  refine e_invV (mcY := 0) (msY := 0) (ct_oS (j := j) (w := 2) hR hv hx (by decide +kernel) hj (by decide)) vX7_ofSpring wM_X7_209 (mo_at G c _ h 0 (by decide)) rfl dX7_isWhole_3 rfl rfl (Nat.le_of_ble_eq_true rfl) (Nat.le_of_ble_eq_true rfl) ?_
  rintro _ _ ⟨rfl, rfl⟩
  refine e_lconst (v := 0) dX7_isWhole_6 (by decide) ?_
  refine e_lcmp dX7_isWhole_7 ?_
  refine e_if_ne (tgt := 15) dX7_isWhole_8 (by decide) (fun c8 => ?_) (fun c8 => ?_)
  · have d8 : ¬ σ.2.2 5 j = 0 := fun q => c8 (ar_lcmp0.mpr (by rw [q]; exact w0))
    refine e_iconst (v := 0) dX7_isWhole_15 (by decide) ?_
    exact e_zret (ty := .boolean) rfl rfl dX7_isWhole_16 (by first | exact Or.inl ⟨d8, rfl, rfl⟩ | exact Or.inr ⟨d8, rfl, rfl⟩)
  · have d8 : σ.2.2 5 j = 0 := ar_64i ((ar_lcmp0.mp c8).trans w0.symm)
    refine e_iconst (v := 1) dX7_isWhole_11 (by decide) ?_
    refine e_goto (tgt := 16) dX7_isWhole_12 (by decide) ?_
    exact e_zret (ty := .boolean) rfl rfl dX7_isWhole_16 (by first | exact Or.inl ⟨d8, rfl, rfl⟩ | exact Or.inr ⟨d8, rfl, rfl⟩)
set_option maxRecDepth 20000 in
theorem ct_X7_pull (hR : RD σ (μ.2.1 0)) (hv : sInv σ) (hb : RBs σ) (hx : x.toInt = (j : Int)) (hj : j ≤ sNm σ) : ev_Ct G l mX7_pull 4 0 0 [.ref c, .int x] (mo G c μ h) (fun v a => v = some (.long (sPull σ j).toInt64) ∧ a = mo G c μ h) (fun _ _ => False) := by
  refine ev_Ct.of (by decide +kernel) (Nat.le_of_ble_eq_true rfl) ?_
  have hmn := hv.1.nat
  have hmu : (σ.1 0).toInt = sM σ := rfl
  have z0 := ar_0
  have z1 := ar_1
  refine e_aload_n dX7_pull_0 rfl rfl ?_
  refine e_iload_n dX7_pull_1 rfl rfl ?_
  refine e_invV (mcY := 0) (msY := 0) (ct_X7_isWhole hR hv hx hj) vX7_isWhole wM_X7_212 (mo_at G c _ h 0 (by decide)) rfl dX7_pull_2 rfl rfl (Nat.le_of_ble_eq_true rfl) (Nat.le_of_ble_eq_true rfl) ?_
  rintro _ _ hc
  rcases hc with ⟨hw, rfl, rfl⟩ | ⟨hw, rfl, rfl⟩
  · refine e_if_eq (tgt := 27) dX7_pull_5 (by decide) (fun c5 => ?_) (fun c5 => ?_)
    · first | exact absurd c5 (by decide) | exact absurd rfl c5
    · refine e_aload_n dX7_pull_8 rfl rfl ?_
      refine e_iload_n dX7_pull_9 rfl rfl ?_
      refine e_iconst (v := 0) dX7_pull_10 (by decide) ?_
      refine e_invV (mcY := 0) (msY := 0) (ct_oS (j := j) (w := 0) hR hv hx ar_0 hj (by decide)) vX7_ofSpring wM_X7_209 (mo_at G c _ h 0 (by decide)) rfl dX7_pull_11 rfl rfl (Nat.le_of_ble_eq_true rfl) (Nat.le_of_ble_eq_true rfl) ?_
      rintro _ _ ⟨rfl, rfl⟩
      refine e_aload_n dX7_pull_14 rfl rfl ?_
      refine e_iload_n dX7_pull_15 rfl rfl ?_
      refine e_invV (mcY := 0) (msY := 0) (ct_X7_stretch hR hv hb hx hj) vX7_stretch wM_X7_215 (mo_at G c _ h 0 (by decide)) rfl dX7_pull_16 rfl rfl (Nat.le_of_ble_eq_true rfl) (Nat.le_of_ble_eq_true rfl) ?_
      rintro _ _ ⟨rfl, rfl⟩
      refine e_lmul dX7_pull_19 ?_
      refine e_ldc2 dX7_pull_20 wK_X7_44 ?_
      refine e_ldiv dX7_pull_23 (by decide) ?_
      refine e_goto (tgt := 28) dX7_pull_24 (by decide) ?_
      exact e_lret rfl dX7_pull_28 (⟨by rw [(sPull_64 hv.1 hb hj).1]; first | (rw [if_pos hw]; done) | (rw [if_neg hw]; done), rfl⟩)
  · refine e_if_eq (tgt := 27) dX7_pull_5 (by decide) (fun c5 => ?_) (fun c5 => ?_)
    · refine e_lconst (v := 0) dX7_pull_27 (by decide) ?_
      exact e_lret rfl dX7_pull_28 (⟨by rw [(sPull_64 hv.1 hb hj).1]; first | (rw [if_pos hw]; done) | (rw [if_neg hw]; done), rfl⟩)
    · first | exact absurd c5 (by decide) | exact absurd rfl c5
end M1
