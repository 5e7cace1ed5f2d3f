/-! the model's parser: statements' bodies -/
section P3
variable {G : ev_G} {l : Launch} {c n p q j : Nat} {μ : MS} {h : ev_H} {B : Nat → Int32} {x y z s f e : Int32} {lo hi : Int} {T : Int} {S : SS}
variable {T : Int}
set_option maxRecDepth 20000 in
theorem ct_X7_massOfTextL (hB : MB B n μ) (hp : p ≤ n) (hD : DR T S μ) : ev_Ct G l mX7_massOfText 4 0 0 [.ref c] (mo G c (qS μ p s 0 f) h) (fun v a => ((pN B n 0 ((sM (S.2.2.2 1)) - 1) p).1 = 0 ∧ v = some (.int (Int32.ofInt (pN B n 0 ((sM (S.2.2.2 1)) - 1) p).2.2)) ∧ a = mo G c (qS μ (pN B n 0 ((sM (S.2.2.2 1)) - 1) p).2.1 (Int32.ofNat (sk B n p)) 0 f) h) ∨ ((pN B n 0 ((sM (S.2.2.2 1)) - 1) p).1 ≠ 0 ∧ v = some (.int 0) ∧ ∃ p' s' e', e' ≠ 0 ∧ e'.toInt = -((pN B n 0 ((sM (S.2.2.2 1)) - 1) p).1 : Int) ∧ a = mo G c (qS μ p' s' e' (Int32.ofNat (pN B n 0 ((sM (S.2.2.2 1)) - 1) p).2.1)) h)) (fun _ _ => False) := by
  refine ev_Ct.of (by decide +kernel) (Nat.le_of_ble_eq_true rfl) ?_
  have hn2 := hB.2.1
  have hK := hD.1
  have hR := hK.1
  have hv := hK.2.1
  have hmn := hv.1.nat
  have hM : ((S.2.2.2 1).1 0).toInt = sM (S.2.2.2 1) := rfl
  have z0 := ar_0
  have z1 := ar_1
  have f1 : (μ.2.1 1 (1 : Int32).toInt.toNat).toInt32 = (S.2.2.2 1).1 0 := by rw [z1]; show (μ.2.1 1 1).toInt32 = _; rw [hR.1.2.1, ar_6432]
  have em : ((S.2.2.2 1).1 0 - 1).toInt = sM (S.2.2.2 1) - 1 := by rw [ar_sub (by omega) (by omega), z1, hM]
  have z12 : (12 : Int32).toInt = ((12 : Nat) : Int) := ar_12
  have z48 : (48 : Int32).toInt = ((48 : Nat) : Int) := by decide +kernel
  have w2 : (2 : Int32).toInt = ((2 : Nat) : Int) := by decide +kernel
  refine e_aload_n dX7_massOfText_0 rfl rfl ?_
  refine e_iconst (v := 0) dX7_massOfText_1 (by decide) ?_
  refine e_aload_n dX7_massOfText_2 rfl rfl ?_
  refine qS_g9 wF_X7_21 dX7_massOfText_3 ?_
  refine e_iconst (v := 1) dX7_massOfText_6 (by decide) ?_
  refine qS_l3 (by omega) (by omega) dX7_massOfText_7 ?_
  refine e_l2i dX7_massOfText_8 ?_
  rw [f1]
  refine e_iconst (v := 1) dX7_massOfText_9 (by decide) ?_
  refine e_isub dX7_massOfText_10 ?_
  refine e_invV (mcY := 0) (msY := 0) (ct_num (lo := 0) (hi := (sM (S.2.2.2 1)) - 1) hB hp ar_0 em (by omega) (by omega)) vX7_number wM_X7_102 (mo_at G c _ h 0 (by decide)) rfl dX7_massOfText_11 rfl rfl (Nat.le_of_ble_eq_true rfl) (Nat.le_of_ble_eq_true rfl) ?_
  rintro _ _ hc
  rcases hc with ⟨hr, rfl, rfl⟩ | ⟨hr, rfl, p', s', e', he1, he2, rfl⟩
  · exact e_iret rfl dX7_massOfText_14 (by first | exact Or.inl ⟨hr, rfl, rfl⟩ | exact Or.inr ⟨hr, rfl, p', s', e', he1, he2, rfl⟩)
  · exact e_iret rfl dX7_massOfText_14 (by first | exact Or.inl ⟨hr, rfl, rfl⟩ | exact Or.inr ⟨hr, rfl, p', s', e', he1, he2, rfl⟩)
set_option maxRecDepth 20000 in
theorem ct_X7_massOfText0 (he : e ≠ 0) : ev_Ct G l mX7_massOfText 4 0 0 [.ref c] (mo G c (qS μ p s e f) h) (fun v a => v = some (.int 0) ∧ a = mo G c (qS μ p s e f) h) (fun _ _ => False) := by
  refine ev_Ct.of (by decide +kernel) (Nat.le_of_ble_eq_true rfl) ?_
  have z1 := ar_1
  refine e_aload_n dX7_massOfText_0 rfl rfl ?_
  refine e_iconst (v := 0) dX7_massOfText_1 (by decide) ?_
  refine e_aload_n dX7_massOfText_2 rfl rfl ?_
  refine qS_g9 wF_X7_21 dX7_massOfText_3 ?_
  refine e_iconst (v := 1) dX7_massOfText_6 (by decide) ?_
  refine qS_l3 (by omega) (by omega) dX7_massOfText_7 ?_
  refine e_l2i dX7_massOfText_8 ?_
  refine e_iconst (v := 1) dX7_massOfText_9 (by decide) ?_
  refine e_isub dX7_massOfText_10 ?_
  refine e_invV (mcY := 0) (msY := 0) (ct_X7_number0 he) vX7_number wM_X7_102 (mo_at G c _ h 0 (by decide)) rfl dX7_massOfText_11 rfl rfl (Nat.le_of_ble_eq_true rfl) (Nat.le_of_ble_eq_true rfl) ?_
  rintro _ _ ⟨rfl, rfl⟩
  exact e_iret rfl dX7_massOfText_14 (⟨rfl, rfl⟩)
set_option maxRecDepth 20000 in
theorem lp_mfmg {J : ev_K} {k n' : Nat} (hJ : 1 ≤ J.2.2.1) (hB : MB B n μ) (hp : p ≤ n) (hD : DR T S μ) {w : Int32} (w0 : 1 ≤ w.toInt) (w1 : w.toInt ≤ 99) (hk : ∀ δ : Nat → Int64, KR T (cs_A (S.2.2.2 1) 0 (fillTo (sNm (S.2.2.2 1)) (fun _ => w) ((S.2.2.2 1).2.2 0))) δ → ev_V G l mX7_readMasses J 42 [some (.ref c)] [] (mo G c (qS (ms_L μ 1 δ) q s e f) h) k n') : ∀ (r i : Nat) (x : Int32) (δ : Nat → Int64), r + i = sNm (S.2.2.2 1) → x.toInt = (i : Int) → KR T (cs_A (S.2.2.2 1) 0 (fillTo i (fun _ => w) ((S.2.2.2 1).2.2 0))) δ → ev_V G l mX7_readMasses J 10 [some (.ref c), some (.int w), some (.int x)] [] (mo G c (qS (ms_L μ 1 δ) q s e f) h) k n' := by
  intro r
  induction r using Nat.strongRecOn with
  | ind r ih =>
    intro i x δ
    intro hr hx hδ
    have hn : x.toInt.toNat = i := ar_nat hx
    have hn2 := hB.2.1
    have hK := hD.1
    have hR := hK.1
    have hv := hK.2.1
    have hmn := hv.1.nat
    have hM : ((S.2.2.2 1).1 0).toInt = sM (S.2.2.2 1) := rfl
    have z0 := ar_0
    have z1 := ar_1
    have f1 : (μ.2.1 1 (1 : Int32).toInt.toNat).toInt32 = (S.2.2.2 1).1 0 := by rw [z1]; show (μ.2.1 1 1).toInt32 = _; rw [hR.1.2.1, ar_6432]
    have em : ((S.2.2.2 1).1 0 - 1).toInt = sM (S.2.2.2 1) - 1 := by rw [ar_sub (by omega) (by omega), z1, hM]
    have z12 : (12 : Int32).toInt = ((12 : Nat) : Int) := ar_12
    have z48 : (48 : Int32).toInt = ((48 : Nat) : Int) := by decide +kernel
    have w2 : (2 : Int32).toInt = ((2 : Nat) : Int) := by decide +kernel
    have f1b : ((ms_L μ 1 δ).2.1 1 (1 : Int32).toInt.toNat).toInt32 = (S.2.2.2 1).1 0 := by rw [ms_L_get, z1]; show (δ 1).toInt32 = _; rw [hδ.1.1.2.1, ar_6432]; rfl
    have e1 : i ≤ 14 → ((12 : Int32) + 3 * x + 0).toInt = ((12 + 3 * i + 0 : Nat) : Int) := fun hq => ar_ix z12 hx ar_0 (by omega) (by omega) (by omega)
    refine e_iload_n dX7_readMasses_10 rfl rfl ?_
    refine e_aload_n dX7_readMasses_11 rfl rfl ?_
    refine qS_g9 wF_X7_21 dX7_readMasses_12 ?_
    refine e_iconst (v := 1) dX7_readMasses_15 (by decide) ?_
    refine qS_l3 (by omega) (by omega) dX7_readMasses_16 ?_
    refine e_l2i dX7_readMasses_17 ?_
    rw [f1b]
    refine e_icmp_ge (tgt := 42) dX7_readMasses_18 (by decide) (fun c18 => ?_) (fun c18 => ?_)
    · obtain rfl : i = sNm (S.2.2.2 1) := by omega
      exact ev_lc (hk δ hδ) ⟨rfl, trivial⟩
    · have e1 := e1 (by omega)
      refine e_aload_n dX7_readMasses_21 rfl rfl ?_
      refine qS_g9 wF_X7_21 dX7_readMasses_22 ?_
      refine e_bipush (v := 12) dX7_readMasses_25 (by decide) ?_
      refine e_iconst (v := 3) dX7_readMasses_27 (by decide) ?_
      refine e_iload_n dX7_readMasses_28 rfl rfl ?_
      refine e_imul dX7_readMasses_29 ?_
      refine e_iadd dX7_readMasses_30 ?_
      refine e_iconst (v := 0) dX7_readMasses_31 (by decide) ?_
      refine e_iadd dX7_readMasses_32 ?_
      refine e_iload_n dX7_readMasses_33 rfl rfl ?_
      refine e_i2l dX7_readMasses_34 ?_
      refine qS_s3 (by rw [e1]; omega) (by rw [e1]; omega) dX7_readMasses_35 ?_
      refine e_iinc dX7_readMasses_36 rfl rfl (Nat.le_of_ble_eq_true rfl) ?_
      refine e_goto (tgt := 10) dX7_readMasses_39 (by decide) ?_
      refine ev_as (a' := mo G c (qS (ms_L μ 1 (ev_u δ (12 + 3 * i + 0) w.toInt64)) q s e f) h) (by rw [ms_L_L, ms_L_get, ar_nat e1]) (ih (r - 1) (by omega) (i + 1) _ _ (by omega) (ar_inc hx (by omega)) ?_)
      have q1 := KR.wt (y := w) hδ (j := i) (show i < sNm (S.2.2.2 1) from by omega) (by omega) (by omega)
      have q2 : cs_A (cs_A (S.2.2.2 1) 0 (fillTo i (fun _ => w) ((S.2.2.2 1).2.2 0))) 0 (ev_u ((cs_A (S.2.2.2 1) 0 (fillTo i (fun _ => w) ((S.2.2.2 1).2.2 0))).2.2 0) i w) = cs_A (S.2.2.2 1) 0 (fillTo (i + 1) (fun _ => w) ((S.2.2.2 1).2.2 0)) := by
        rw [cs_A_get, cs_A_A, fillTo_up _ _ _ _ rfl]
      rwa [q2] at q1
set_option maxRecDepth 20000 in
theorem lp_mfmb {J : ev_K} {k n' : Nat} (hJ : 1 ≤ J.2.2.1) (hB : MB B n μ) (hp : p ≤ n) (hD : DR T S μ) {w : Int32} (N : Nat) (hN : N ≤ 13) (hk : ∀ δ : Nat → Int64, ev_V G l mX7_readMasses J 42 [some (.ref c)] [] (mo G c (qS (ms_L μ 1 δ) q s e f) h) k n') : ∀ (r i : Nat) (x : Int32) (δ : Nat → Int64), r + i = sNm (S.2.2.2 1) → x.toInt = (i : Int) → (δ 1).toInt32 = (S.2.2.2 1).1 0 → ev_V G l mX7_readMasses J 10 [some (.ref c), some (.int w), some (.int x)] [] (mo G c (qS (ms_L μ 1 δ) q s e f) h) k n' := by
  intro r
  induction r using Nat.strongRecOn with
  | ind r ih =>
    intro i x δ
    intro hr hx hδ
    have hn : x.toInt.toNat = i := ar_nat hx
    have hn2 := hB.2.1
    have hK := hD.1
    have hR := hK.1
    have hv := hK.2.1
    have hmn := hv.1.nat
    have hM : ((S.2.2.2 1).1 0).toInt = sM (S.2.2.2 1) := rfl
    have z0 := ar_0
    have z1 := ar_1
    have f1 : (μ.2.1 1 (1 : Int32).toInt.toNat).toInt32 = (S.2.2.2 1).1 0 := by rw [z1]; show (μ.2.1 1 1).toInt32 = _; rw [hR.1.2.1, ar_6432]
    have em : ((S.2.2.2 1).1 0 - 1).toInt = sM (S.2.2.2 1) - 1 := by rw [ar_sub (by omega) (by omega), z1, hM]
    have z12 : (12 : Int32).toInt = ((12 : Nat) : Int) := ar_12
    have z48 : (48 : Int32).toInt = ((48 : Nat) : Int) := by decide +kernel
    have w2 : (2 : Int32).toInt = ((2 : Nat) : Int) := by decide +kernel
    have f1b : ((ms_L μ 1 δ).2.1 1 (1 : Int32).toInt.toNat).toInt32 = (S.2.2.2 1).1 0 := by rw [ms_L_get, z1]; exact hδ
    have e1 : i ≤ 14 → ((12 : Int32) + 3 * x + 0).toInt = ((12 + 3 * i + 0 : Nat) : Int) := fun hq => ar_ix z12 hx ar_0 (by omega) (by omega) (by omega)
    refine e_iload_n dX7_readMasses_10 rfl rfl ?_
    refine e_aload_n dX7_readMasses_11 rfl rfl ?_
    refine qS_g9 wF_X7_21 dX7_readMasses_12 ?_
    refine e_iconst (v := 1) dX7_readMasses_15 (by decide) ?_
    refine qS_l3 (by omega) (by omega) dX7_readMasses_16 ?_
    refine e_l2i dX7_readMasses_17 ?_
    rw [f1b]
    refine e_icmp_ge (tgt := 42) dX7_readMasses_18 (by decide) (fun c18 => ?_) (fun c18 => ?_)
    · obtain rfl : i = sNm (S.2.2.2 1) := by omega
      exact ev_lc (hk δ) ⟨rfl, trivial⟩
    · have e1 := e1 (by omega)
      refine e_aload_n dX7_readMasses_21 rfl rfl ?_
      refine qS_g9 wF_X7_21 dX7_readMasses_22 ?_
      refine e_bipush (v := 12) dX7_readMasses_25 (by decide) ?_
      refine e_iconst (v := 3) dX7_readMasses_27 (by decide) ?_
      refine e_iload_n dX7_readMasses_28 rfl rfl ?_
      refine e_imul dX7_readMasses_29 ?_
      refine e_iadd dX7_readMasses_30 ?_
      refine e_iconst (v := 0) dX7_readMasses_31 (by decide) ?_
      refine e_iadd dX7_readMasses_32 ?_
      refine e_iload_n dX7_readMasses_33 rfl rfl ?_
      refine e_i2l dX7_readMasses_34 ?_
      refine qS_s3 (by rw [e1]; omega) (by rw [e1]; omega) dX7_readMasses_35 ?_
      refine e_iinc dX7_readMasses_36 rfl rfl (Nat.le_of_ble_eq_true rfl) ?_
      refine e_goto (tgt := 10) dX7_readMasses_39 (by decide) ?_
      refine ev_as (a' := mo G c (qS (ms_L μ 1 (ev_u δ (12 + 3 * i + 0) w.toInt64)) q s e f) h) (by rw [ms_L_L, ms_L_get, ar_nat e1]) (ih (r - 1) (by omega) (i + 1) _ _ (by omega) (ar_inc hx (by omega)) ?_)
      rw [ev_u_ne _ _ (by omega)]; exact hδ
set_option maxRecDepth 20000 in
theorem lp_mfsg {J : ev_K} {k n' : Nat} (hJ : 1 ≤ J.2.2.1) (hB : MB B n μ) (hp : p ≤ n) (hD : DR T S μ) {w : Int32} (w0 : 0 ≤ w.toInt) (w1 : w.toInt ≤ 999) (hk : ∀ δ : Nat → Int64, KR T (cs_A (S.2.2.2 1) 3 (fillTo (sNm (S.2.2.2 1) + 1) (fun _ => w) ((S.2.2.2 1).2.2 3))) δ → ev_V G l mX7_readSprings J 43 [some (.ref c)] [] (mo G c (qS (ms_L μ 1 δ) q s e f) h) k n') : ∀ (r i : Nat) (x : Int32) (δ : Nat → Int64), r + i = sNm (S.2.2.2 1) + 1 → x.toInt = (i : Int) → KR T (cs_A (S.2.2.2 1) 3 (fillTo i (fun _ => w) ((S.2.2.2 1).2.2 3))) δ → ev_V G l mX7_readSprings J 11 [some (.ref c), some (.int w), some (.int x)] [] (mo G c (qS (ms_L μ 1 δ) q s e f) h) k n' := by
  intro r
  induction r using Nat.strongRecOn with
  | ind r ih =>
    intro i x δ
    intro hr hx hδ
    have hn : x.toInt.toNat = i := ar_nat hx
    have hn2 := hB.2.1
    have hK := hD.1
    have hR := hK.1
    have hv := hK.2.1
    have hmn := hv.1.nat
    have hM : ((S.2.2.2 1).1 0).toInt = sM (S.2.2.2 1) := rfl
    have z0 := ar_0
    have z1 := ar_1
    have f1 : (μ.2.1 1 (1 : Int32).toInt.toNat).toInt32 = (S.2.2.2 1).1 0 := by rw [z1]; show (μ.2.1 1 1).toInt32 = _; rw [hR.1.2.1, ar_6432]
    have em : ((S.2.2.2 1).1 0 - 1).toInt = sM (S.2.2.2 1) - 1 := by rw [ar_sub (by omega) (by omega), z1, hM]
    have z12 : (12 : Int32).toInt = ((12 : Nat) : Int) := ar_12
    have z48 : (48 : Int32).toInt = ((48 : Nat) : Int) := by decide +kernel
    have w2 : (2 : Int32).toInt = ((2 : Nat) : Int) := by decide +kernel
    have f1b : ((ms_L μ 1 δ).2.1 1 (1 : Int32).toInt.toNat).toInt32 = (S.2.2.2 1).1 0 := by rw [ms_L_get, z1]; show (δ 1).toInt32 = _; rw [hδ.1.1.2.1, ar_6432]; rfl
    have e1 : i ≤ 14 → ((48 : Int32) + 3 * x + 0).toInt = ((48 + 3 * i + 0 : Nat) : Int) := fun hq => ar_ix z48 hx ar_0 (by omega) (by omega) (by omega)
    refine e_iload_n dX7_readSprings_11 rfl rfl ?_
    refine e_aload_n dX7_readSprings_12 rfl rfl ?_
    refine qS_g9 wF_X7_21 dX7_readSprings_13 ?_
    refine e_iconst (v := 1) dX7_readSprings_16 (by decide) ?_
    refine qS_l3 (by omega) (by omega) dX7_readSprings_17 ?_
    refine e_l2i dX7_readSprings_18 ?_
    rw [f1b]
    refine e_icmp_gt (tgt := 43) dX7_readSprings_19 (by decide) (fun c19 => ?_) (fun c19 => ?_)
    · obtain rfl : i = sNm (S.2.2.2 1) + 1 := by omega
      exact ev_lc (hk δ hδ) ⟨rfl, trivial⟩
    · have e1 := e1 (by omega)
      refine e_aload_n dX7_readSprings_22 rfl rfl ?_
      refine qS_g9 wF_X7_21 dX7_readSprings_23 ?_
      refine e_bipush (v := 48) dX7_readSprings_26 (by decide) ?_
      refine e_iconst (v := 3) dX7_readSprings_28 (by decide) ?_
      refine e_iload_n dX7_readSprings_29 rfl rfl ?_
      refine e_imul dX7_readSprings_30 ?_
      refine e_iadd dX7_readSprings_31 ?_
      refine e_iconst (v := 0) dX7_readSprings_32 (by decide) ?_
      refine e_iadd dX7_readSprings_33 ?_
      refine e_iload_n dX7_readSprings_34 rfl rfl ?_
      refine e_i2l dX7_readSprings_35 ?_
      refine qS_s3 (by rw [e1]; omega) (by rw [e1]; omega) dX7_readSprings_36 ?_
      refine e_iinc dX7_readSprings_37 rfl rfl (Nat.le_of_ble_eq_true rfl) ?_
      refine e_goto (tgt := 11) dX7_readSprings_40 (by decide) ?_
      refine ev_as (a' := mo G c (qS (ms_L μ 1 (ev_u δ (48 + 3 * i + 0) w.toInt64)) q s e f) h) (by rw [ms_L_L, ms_L_get, ar_nat e1]) (ih (r - 1) (by omega) (i + 1) _ _ (by omega) (ar_inc hx (by omega)) ?_)
      have q1 := KR.stiff (y := w) hδ (j := i) (show i ≤ sNm (S.2.2.2 1) from by omega) (by omega) (by omega)
      have q2 : cs_A (cs_A (S.2.2.2 1) 3 (fillTo i (fun _ => w) ((S.2.2.2 1).2.2 3))) 3 (ev_u ((cs_A (S.2.2.2 1) 3 (fillTo i (fun _ => w) ((S.2.2.2 1).2.2 3))).2.2 3) i w) = cs_A (S.2.2.2 1) 3 (fillTo (i + 1) (fun _ => w) ((S.2.2.2 1).2.2 3)) := by
        rw [cs_A_get, cs_A_A, fillTo_up _ _ _ _ rfl]
      rwa [q2] at q1
set_option maxRecDepth 20000 in
theorem lp_mfsb {J : ev_K} {k n' : Nat} (hJ : 1 ≤ J.2.2.1) (hB : MB B n μ) (hp : p ≤ n) (hD : DR T S μ) {w : Int32} (N : Nat) (hN : N ≤ 13) (hk : ∀ δ : Nat → Int64, ev_V G l mX7_readSprings J 43 [some (.ref c)] [] (mo G c (qS (ms_L μ 1 δ) q s e f) h) k n') : ∀ (r i : Nat) (x : Int32) (δ : Nat → Int64), r + i = sNm (S.2.2.2 1) + 1 → x.toInt = (i : Int) → (δ 1).toInt32 = (S.2.2.2 1).1 0 → ev_V G l mX7_readSprings J 11 [some (.ref c), some (.int w), some (.int x)] [] (mo G c (qS (ms_L μ 1 δ) q s e f) h) k n' := by
  intro r
  induction r using Nat.strongRecOn with
  | ind r ih =>
    intro i x δ
    intro hr hx hδ
    have hn : x.toInt.toNat = i := ar_nat hx
    have hn2 := hB.2.1
    have hK := hD.1
    have hR := hK.1
    have hv := hK.2.1
    have hmn := hv.1.nat
    have hM : ((S.2.2.2 1).1 0).toInt = sM (S.2.2.2 1) := rfl
    have z0 := ar_0
    have z1 := ar_1
    have f1 : (μ.2.1 1 (1 : Int32).toInt.toNat).toInt32 = (S.2.2.2 1).1 0 := by rw [z1]; show (μ.2.1 1 1).toInt32 = _; rw [hR.1.2.1, ar_6432]
    have em : ((S.2.2.2 1).1 0 - 1).toInt = sM (S.2.2.2 1) - 1 := by rw [ar_sub (by omega) (by omega), z1, hM]
    have z12 : (12 : Int32).toInt = ((12 : Nat) : Int) := ar_12
    have z48 : (48 : Int32).toInt = ((48 : Nat) : Int) := by decide +kernel
    have w2 : (2 : Int32).toInt = ((2 : Nat) : Int) := by decide +kernel
    have f1b : ((ms_L μ 1 δ).2.1 1 (1 : Int32).toInt.toNat).toInt32 = (S.2.2.2 1).1 0 := by rw [ms_L_get, z1]; exact hδ
    have e1 : i ≤ 14 → ((48 : Int32) + 3 * x + 0).toInt = ((48 + 3 * i + 0 : Nat) : Int) := fun hq => ar_ix z48 hx ar_0 (by omega) (by omega) (by omega)
    refine e_iload_n dX7_readSprings_11 rfl rfl ?_
    refine e_aload_n dX7_readSprings_12 rfl rfl ?_
    refine qS_g9 wF_X7_21 dX7_readSprings_13 ?_
    refine e_iconst (v := 1) dX7_readSprings_16 (by decide) ?_
    refine qS_l3 (by omega) (by omega) dX7_readSprings_17 ?_
    refine e_l2i dX7_readSprings_18 ?_
    rw [f1b]
    refine e_icmp_gt (tgt := 43) dX7_readSprings_19 (by decide) (fun c19 => ?_) (fun c19 => ?_)
    · obtain rfl : i = sNm (S.2.2.2 1) + 1 := by omega
      exact ev_lc (hk δ) ⟨rfl, trivial⟩
    · have e1 := e1 (by omega)
      refine e_aload_n dX7_readSprings_22 rfl rfl ?_
      refine qS_g9 wF_X7_21 dX7_readSprings_23 ?_
      refine e_bipush (v := 48) dX7_readSprings_26 (by decide) ?_
      refine e_iconst (v := 3) dX7_readSprings_28 (by decide) ?_
      refine e_iload_n dX7_readSprings_29 rfl rfl ?_
      refine e_imul dX7_readSprings_30 ?_
      refine e_iadd dX7_readSprings_31 ?_
      refine e_iconst (v := 0) dX7_readSprings_32 (by decide) ?_
      refine e_iadd dX7_readSprings_33 ?_
      refine e_iload_n dX7_readSprings_34 rfl rfl ?_
      refine e_i2l dX7_readSprings_35 ?_
      refine qS_s3 (by rw [e1]; omega) (by rw [e1]; omega) dX7_readSprings_36 ?_
      refine e_iinc dX7_readSprings_37 rfl rfl (Nat.le_of_ble_eq_true rfl) ?_
      refine e_goto (tgt := 11) dX7_readSprings_40 (by decide) ?_
      refine ev_as (a' := mo G c (qS (ms_L μ 1 (ev_u δ (48 + 3 * i + 0) w.toInt64)) q s e f) h) (by rw [ms_L_L, ms_L_get, ar_nat e1]) (ih (r - 1) (by omega) (i + 1) _ _ (by omega) (ar_inc hx (by omega)) ?_)
      rw [ev_u_ne _ _ (by omega)]; exact hδ
set_option maxRecDepth 20000 in
theorem ct_X7_readMasses (hB : MB B n μ) (hp : p ≤ n) (hD : DR T S μ) : ev_Ct G l mX7_readMasses 5 0 0 [.ref c] (mo G c (qS μ p s 0 f) h) (fun v a => v = none ∧ oQ G c h T S μ f (pAW B n p) a) (fun _ _ => False) := by
  refine ev_Ct.of (by decide +kernel) (Nat.le_of_ble_eq_true rfl) ?_
  have hn2 := hB.2.1
  have hK := hD.1
  have hR := hK.1
  have hv := hK.2.1
  have hmn := hv.1.nat
  have hM : ((S.2.2.2 1).1 0).toInt = sM (S.2.2.2 1) := rfl
  have z0 := ar_0
  have z1 := ar_1
  have f1 : (μ.2.1 1 (1 : Int32).toInt.toNat).toInt32 = (S.2.2.2 1).1 0 := by rw [z1]; show (μ.2.1 1 1).toInt32 = _; rw [hR.1.2.1, ar_6432]
  have em : ((S.2.2.2 1).1 0 - 1).toInt = sM (S.2.2.2 1) - 1 := by rw [ar_sub (by omega) (by omega), z1, hM]
  have z12 : (12 : Int32).toInt = ((12 : Nat) : Int) := ar_12
  have z48 : (48 : Int32).toInt = ((48 : Nat) : Int) := by decide +kernel
  have w2 : (2 : Int32).toInt = ((2 : Nat) : Int) := by decide +kernel
  have w99 : (99 : Int32).toInt = 99 := by decide +kernel
  have w999 : (999 : Int32).toInt = 999 := by decide +kernel
  refine e_aload_n dX7_readMasses_0 rfl rfl ?_
  refine e_iconst (v := 1) dX7_readMasses_1 (by decide) ?_
  refine e_bipush (v := 99) dX7_readMasses_2 (by decide) ?_
  refine e_invV (mcY := 0) (msY := 0) (ct_num (lo := 1) (hi := 99) hB hp ar_1 w99 (by omega) (by omega)) vX7_number wM_X7_102 (mo_at G c _ h 0 (by decide)) rfl dX7_readMasses_4 rfl rfl (Nat.le_of_ble_eq_true rfl) (Nat.le_of_ble_eq_true rfl) ?_
  rintro _ _ hc
  generalize er1 : pN B n (1) (99) (p) = r1 at hc
  obtain ⟨k1, q1, m1⟩ := r1
  dsimp only at hc
  rcases hc with ⟨hr1, rfl, rfl⟩ | ⟨hr1, rfl, p1, s1, e1, he1, hv1, rfl⟩
  · subst hr1
    have g1 := pN_0 hB.2.2.2 hp (lo := 1) (hi := 99) (by rw [er1])
    rw [er1] at g1
    change p < q1 ∧ q1 ≤ n ∧ 1 ≤ m1 ∧ m1 ≤ 99 at g1
    refine e_istore_n dX7_readMasses_7 rfl (Nat.le_of_ble_eq_true rfl) ?_
    refine e_iconst (v := 0) dX7_readMasses_8 (by decide) ?_
    refine e_istore_n dX7_readMasses_9 rfl (Nat.le_of_ble_eq_true rfl) ?_
    first
      | (refine ev_loc (L' := [some (.ref c), some (.int (Int32.ofInt m1)), some (.int 0)]) ⟨rfl, rfl, rfl, trivial⟩ ?_
         refine ev_as (a' := mo G c (qS (ms_L μ 1 (μ.2.1 1)) q1 (Int32.ofNat (sk B n p)) 0 f) h) (by rw [ms_L_self]) ?_
         refine lp_mfmg (w := Int32.ofInt m1) (Nat.le_of_ble_eq_true rfl) hB hp hD (by rw [ar_ofI (by omega) (by omega)]; omega) (by rw [ar_ofI (by omega) (by omega)]; omega) (fun δ hδ => ?_) (sNm (S.2.2.2 1)) 0 0 _ (by omega) ar_0 (by rw [fillTo_0, cs_A_self]; exact hK)
         exact e_vret rfl dX7_readMasses_42 ⟨rfl, oQ_ok (t := (1, m1, 0, 0)) (by unfold pAW; rw [er1]; rfl) (hD.s1 (KR.fillW hδ)) (FRM.row μ δ) rfl⟩)
      | (refine ev_loc (L' := [some (.ref c), some (.int 0), some (.int 0)]) ⟨rfl, rfl, rfl, trivial⟩ ?_
         refine ev_as (a' := mo G c (qS (ms_L μ 1 (μ.2.1 1)) p1 s1 e1 (Int32.ofNat q1)) h) (by rw [ms_L_self]) ?_
         refine lp_mfmb (w := 0) (Nat.le_of_ble_eq_true rfl) hB hp hD 0 (by decide) (fun δ => ?_) (sNm (S.2.2.2 1)) 0 0 _ (by omega) ar_0 (by rw [show μ.2.1 1 1 = _ from hR.1.2.1, ar_6432])
         exact e_vret rfl dX7_readMasses_42 ⟨rfl, oQ_no (by unfold pAW; rw [er1]; exact pb_no hr1) hr1 (FRM.row μ δ) he1 hv1 rfl⟩)
  · refine e_istore_n dX7_readMasses_7 rfl (Nat.le_of_ble_eq_true rfl) ?_
    refine e_iconst (v := 0) dX7_readMasses_8 (by decide) ?_
    refine e_istore_n dX7_readMasses_9 rfl (Nat.le_of_ble_eq_true rfl) ?_
    first
      | (refine ev_loc (L' := [some (.ref c), some (.int (Int32.ofInt m1)), some (.int 0)]) ⟨rfl, rfl, rfl, trivial⟩ ?_
         refine ev_as (a' := mo G c (qS (ms_L μ 1 (μ.2.1 1)) q1 (Int32.ofNat (sk B n p)) 0 f) h) (by rw [ms_L_self]) ?_
         refine lp_mfmg (w := Int32.ofInt m1) (Nat.le_of_ble_eq_true rfl) hB hp hD (by rw [ar_ofI (by omega) (by omega)]; omega) (by rw [ar_ofI (by omega) (by omega)]; omega) (fun δ hδ => ?_) (sNm (S.2.2.2 1)) 0 0 _ (by omega) ar_0 (by rw [fillTo_0, cs_A_self]; exact hK)
         exact e_vret rfl dX7_readMasses_42 ⟨rfl, oQ_ok (t := (1, m1, 0, 0)) (by unfold pAW; rw [er1]; rfl) (hD.s1 (KR.fillW hδ)) (FRM.row μ δ) rfl⟩)
      | (refine ev_loc (L' := [some (.ref c), some (.int 0), some (.int 0)]) ⟨rfl, rfl, rfl, trivial⟩ ?_
         refine ev_as (a' := mo G c (qS (ms_L μ 1 (μ.2.1 1)) p1 s1 e1 (Int32.ofNat q1)) h) (by rw [ms_L_self]) ?_
         refine lp_mfmb (w := 0) (Nat.le_of_ble_eq_true rfl) hB hp hD 0 (by decide) (fun δ => ?_) (sNm (S.2.2.2 1)) 0 0 _ (by omega) ar_0 (by rw [show μ.2.1 1 1 = _ from hR.1.2.1, ar_6432])
         exact e_vret rfl dX7_readMasses_42 ⟨rfl, oQ_no (by unfold pAW; rw [er1]; exact pb_no hr1) hr1 (FRM.row μ δ) he1 hv1 rfl⟩)
set_option maxRecDepth 20000 in
theorem ct_X7_readSprings (hB : MB B n μ) (hp : p ≤ n) (hD : DR T S μ) : ev_Ct G l mX7_readSprings 5 0 0 [.ref c] (mo G c (qS μ p s 0 f) h) (fun v a => v = none ∧ oQ G c h T S μ f (pAS B n p) a) (fun _ _ => False) := by
  refine ev_Ct.of (by decide +kernel) (Nat.le_of_ble_eq_true rfl) ?_
  have hn2 := hB.2.1
  have hK := hD.1
  have hR := hK.1
  have hv := hK.2.1
  have hmn := hv.1.nat
  have hM : ((S.2.2.2 1).1 0).toInt = sM (S.2.2.2 1) := rfl
  have z0 := ar_0
  have z1 := ar_1
  have f1 : (μ.2.1 1 (1 : Int32).toInt.toNat).toInt32 = (S.2.2.2 1).1 0 := by rw [z1]; show (μ.2.1 1 1).toInt32 = _; rw [hR.1.2.1, ar_6432]
  have em : ((S.2.2.2 1).1 0 - 1).toInt = sM (S.2.2.2 1) - 1 := by rw [ar_sub (by omega) (by omega), z1, hM]
  have z12 : (12 : Int32).toInt = ((12 : Nat) : Int) := ar_12
  have z48 : (48 : Int32).toInt = ((48 : Nat) : Int) := by decide +kernel
  have w2 : (2 : Int32).toInt = ((2 : Nat) : Int) := by decide +kernel
  have w99 : (99 : Int32).toInt = 99 := by decide +kernel
  have w999 : (999 : Int32).toInt = 999 := by decide +kernel
  refine e_aload_n dX7_readSprings_0 rfl rfl ?_
  refine e_iconst (v := 0) dX7_readSprings_1 (by decide) ?_
  refine e_sipush (v := 999) dX7_readSprings_2 (by decide) ?_
  refine e_invV (mcY := 0) (msY := 0) (ct_num (lo := 0) (hi := 999) hB hp ar_0 w999 (by omega) (by omega)) vX7_number wM_X7_102 (mo_at G c _ h 0 (by decide)) rfl dX7_readSprings_5 rfl rfl (Nat.le_of_ble_eq_true rfl) (Nat.le_of_ble_eq_true rfl) ?_
  rintro _ _ hc
  generalize er1 : pN B n (0) (999) (p) = r1 at hc
  obtain ⟨k1, q1, m1⟩ := r1
  dsimp only at hc
  rcases hc with ⟨hr1, rfl, rfl⟩ | ⟨hr1, rfl, p1, s1, e1, he1, hv1, rfl⟩
  · subst hr1
    have g1 := pN_0 hB.2.2.2 hp (lo := 0) (hi := 999) (by rw [er1])
    rw [er1] at g1
    change p < q1 ∧ q1 ≤ n ∧ 0 ≤ m1 ∧ m1 ≤ 999 at g1
    refine e_istore_n dX7_readSprings_8 rfl (Nat.le_of_ble_eq_true rfl) ?_
    refine e_iconst (v := 0) dX7_readSprings_9 (by decide) ?_
    refine e_istore_n dX7_readSprings_10 rfl (Nat.le_of_ble_eq_true rfl) ?_
    first
      | (refine ev_loc (L' := [some (.ref c), some (.int (Int32.ofInt m1)), some (.int 0)]) ⟨rfl, rfl, rfl, trivial⟩ ?_
         refine ev_as (a' := mo G c (qS (ms_L μ 1 (μ.2.1 1)) q1 (Int32.ofNat (sk B n p)) 0 f) h) (by rw [ms_L_self]) ?_
         refine lp_mfsg (w := Int32.ofInt m1) (Nat.le_of_ble_eq_true rfl) hB hp hD (by rw [ar_ofI (by omega) (by omega)]; omega) (by rw [ar_ofI (by omega) (by omega)]; omega) (fun δ hδ => ?_) (sNm (S.2.2.2 1) + 1) 0 0 _ (by omega) ar_0 (by rw [fillTo_0, cs_A_self]; exact hK)
         exact e_vret rfl dX7_readSprings_43 ⟨rfl, oQ_ok (t := (3, m1, 0, 0)) (by unfold pAS; rw [er1]; rfl) (hD.s3 (KR.fillS hδ)) (FRM.row μ δ) rfl⟩)
      | (refine ev_loc (L' := [some (.ref c), some (.int 0), some (.int 0)]) ⟨rfl, rfl, rfl, trivial⟩ ?_
         refine ev_as (a' := mo G c (qS (ms_L μ 1 (μ.2.1 1)) p1 s1 e1 (Int32.ofNat q1)) h) (by rw [ms_L_self]) ?_
         refine lp_mfsb (w := 0) (Nat.le_of_ble_eq_true rfl) hB hp hD 0 (by decide) (fun δ => ?_) (sNm (S.2.2.2 1) + 1) 0 0 _ (by omega) ar_0 (by rw [show μ.2.1 1 1 = _ from hR.1.2.1, ar_6432])
         exact e_vret rfl dX7_readSprings_43 ⟨rfl, oQ_no (by unfold pAS; rw [er1]; exact pb_no hr1) hr1 (FRM.row μ δ) he1 hv1 rfl⟩)
  · refine e_istore_n dX7_readSprings_8 rfl (Nat.le_of_ble_eq_true rfl) ?_
    refine e_iconst (v := 0) dX7_readSprings_9 (by decide) ?_
    refine e_istore_n dX7_readSprings_10 rfl (Nat.le_of_ble_eq_true rfl) ?_
    first
      | (refine ev_loc (L' := [some (.ref c), some (.int (Int32.ofInt m1)), some (.int 0)]) ⟨rfl, rfl, rfl, trivial⟩ ?_
         refine ev_as (a' := mo G c (qS (ms_L μ 1 (μ.2.1 1)) q1 (Int32.ofNat (sk B n p)) 0 f) h) (by rw [ms_L_self]) ?_
         refine lp_mfsg (w := Int32.ofInt m1) (Nat.le_of_ble_eq_true rfl) hB hp hD (by rw [ar_ofI (by omega) (by omega)]; omega) (by rw [ar_ofI (by omega) (by omega)]; omega) (fun δ hδ => ?_) (sNm (S.2.2.2 1) + 1) 0 0 _ (by omega) ar_0 (by rw [fillTo_0, cs_A_self]; exact hK)
         exact e_vret rfl dX7_readSprings_43 ⟨rfl, oQ_ok (t := (3, m1, 0, 0)) (by unfold pAS; rw [er1]; rfl) (hD.s3 (KR.fillS hδ)) (FRM.row μ δ) rfl⟩)
      | (refine ev_loc (L' := [some (.ref c), some (.int 0), some (.int 0)]) ⟨rfl, rfl, rfl, trivial⟩ ?_
         refine ev_as (a' := mo G c (qS (ms_L μ 1 (μ.2.1 1)) p1 s1 e1 (Int32.ofNat q1)) h) (by rw [ms_L_self]) ?_
         refine lp_mfsb (w := 0) (Nat.le_of_ble_eq_true rfl) hB hp hD 0 (by decide) (fun δ => ?_) (sNm (S.2.2.2 1) + 1) 0 0 _ (by omega) ar_0 (by rw [show μ.2.1 1 1 = _ from hR.1.2.1, ar_6432])
         exact e_vret rfl dX7_readSprings_43 ⟨rfl, oQ_no (by unfold pAS; rw [er1]; exact pb_no hr1) hr1 (FRM.row μ δ) he1 hv1 rfl⟩)
set_option maxRecDepth 20000 in
theorem ct_X7_readSpring (hB : MB B n μ) (hp : p ≤ n) (hD : DR T S μ) : ev_Ct G l mX7_readSpring 6 0 0 [.ref c] (mo G c (qS μ p s 0 f) h) (fun v a => v = none ∧ oQ G c h T S μ f (pSp B n (sM (S.2.2.2 1)) p) a) (fun _ _ => False) := by
  refine ev_Ct.of (by decide +kernel) (Nat.le_of_ble_eq_true rfl) ?_
  have hn2 := hB.2.1
  have hK := hD.1
  have hR := hK.1
  have hv := hK.2.1
  have hmn := hv.1.nat
  have hM : ((S.2.2.2 1).1 0).toInt = sM (S.2.2.2 1) := rfl
  have z0 := ar_0
  have z1 := ar_1
  have f1 : (μ.2.1 1 (1 : Int32).toInt.toNat).toInt32 = (S.2.2.2 1).1 0 := by rw [z1]; show (μ.2.1 1 1).toInt32 = _; rw [hR.1.2.1, ar_6432]
  have em : ((S.2.2.2 1).1 0 - 1).toInt = sM (S.2.2.2 1) - 1 := by rw [ar_sub (by omega) (by omega), z1, hM]
  have z12 : (12 : Int32).toInt = ((12 : Nat) : Int) := ar_12
  have z48 : (48 : Int32).toInt = ((48 : Nat) : Int) := by decide +kernel
  have w2 : (2 : Int32).toInt = ((2 : Nat) : Int) := by decide +kernel
  have w999 : (999 : Int32).toInt = 999 := by decide +kernel
  have w99999 : (99999 : Int32).toInt = 99999 := by decide +kernel
  refine e_aload_n dX7_readSpring_0 rfl rfl ?_
  refine e_iconst (v := 0) dX7_readSpring_1 (by decide) ?_
  refine e_aload_n dX7_readSpring_2 rfl rfl ?_
  refine qS_g9 wF_X7_21 dX7_readSpring_3 ?_
  refine e_iconst (v := 1) dX7_readSpring_6 (by decide) ?_
  refine qS_l3 (by omega) (by omega) dX7_readSpring_7 ?_
  refine e_l2i dX7_readSpring_8 ?_
  rw [f1]
  refine e_invV (mcY := 0) (msY := 0) (ct_num (lo := 0) (hi := (sM (S.2.2.2 1))) hB hp ar_0 hM (by omega) (by omega)) vX7_number wM_X7_102 (mo_at G c _ h 0 (by decide)) rfl dX7_readSpring_9 rfl rfl (Nat.le_of_ble_eq_true rfl) (Nat.le_of_ble_eq_true rfl) ?_
  rintro _ _ hc
  generalize er1 : pN B n (0) ((sM (S.2.2.2 1))) (p) = r1 at hc
  obtain ⟨k1, q1, m1⟩ := r1
  dsimp only at hc
  rcases hc with ⟨hr1, rfl, rfl⟩ | ⟨hr1, rfl, p1, s1, e1, he1, hv1, rfl⟩
  · subst hr1
    have g1 := pN_0 hB.2.2.2 hp (lo := 0) (hi := (sM (S.2.2.2 1))) (by rw [er1])
    rw [er1] at g1
    change p < q1 ∧ q1 ≤ n ∧ 0 ≤ m1 ∧ m1 ≤ (sM (S.2.2.2 1)) at g1
    refine e_istore_n dX7_readSpring_12 rfl (Nat.le_of_ble_eq_true rfl) ?_
    refine e_aload_n dX7_readSpring_13 rfl rfl ?_
    refine e_iconst (v := 0) dX7_readSpring_14 (by decide) ?_
    refine e_sipush (v := 999) dX7_readSpring_15 (by decide) ?_
    refine e_invV (mcY := 0) (msY := 0) (ct_num (lo := 0) (hi := 999) hB g1.2.1 ar_0 w999 (by omega) (by omega)) vX7_number wM_X7_102 (mo_at G c _ h 0 (by decide)) rfl dX7_readSpring_18 rfl rfl (Nat.le_of_ble_eq_true rfl) (Nat.le_of_ble_eq_true rfl) ?_
    rintro _ _ hc
    generalize er2 : pN B n (0) (999) (q1) = r2 at hc
    obtain ⟨k2, q2, m2⟩ := r2
    dsimp only at hc
    rcases hc with ⟨hr2, rfl, rfl⟩ | ⟨hr2, rfl, p2, s2, e2, he2, hv2, rfl⟩
    · subst hr2
      have g2 := pN_0 hB.2.2.2 g1.2.1 (lo := 0) (hi := 999) (by rw [er2])
      rw [er2] at g2
      change q1 < q2 ∧ q2 ≤ n ∧ 0 ≤ m2 ∧ m2 ≤ 999 at g2
      refine e_istore_n dX7_readSpring_21 rfl (Nat.le_of_ble_eq_true rfl) ?_
      refine e_iconst (v := 0) dX7_readSpring_22 (by decide) ?_
      refine e_istore_n dX7_readSpring_23 rfl (Nat.le_of_ble_eq_true rfl) ?_
      refine e_aload_n dX7_readSpring_24 rfl rfl ?_
      refine e_invV (mcY := 0) (msY := 0) (ct_X7_isGood1) vX7_isGood wM_X7_69 (mo_at G c _ h 0 (by decide)) rfl dX7_readSpring_25 rfl rfl (Nat.le_of_ble_eq_true rfl) (Nat.le_of_ble_eq_true rfl) ?_
      rintro _ _ ⟨rfl, rfl⟩
      refine e_if_eq (tgt := 48) dX7_readSpring_28 (by decide) (fun c28 => ?_) (fun c28 => ?_)
      · first | exact absurd c28 (by decide) | exact absurd rfl c28
      · refine e_aload_n dX7_readSpring_31 rfl rfl ?_
        refine e_ldcS (j := 5) (tx := "limit") dX7_readSpring_32 (by decide +kernel) ?_
        refine e_invV (mcY := 0) (msY := 0) (ct_X7_takeWord1 hB g2.2.1 (j := 5) (by decide)) vX7_takeWord wM_X7_107 (mo_at G c _ h 0 (by decide)) rfl dX7_readSpring_34 rfl rfl (Nat.le_of_ble_eq_true rfl) (Nat.le_of_ble_eq_true rfl) ?_
        rintro _ _ hc
        rcases hc with ⟨hw, rfl, rfl⟩ | ⟨hw, rfl, rfl⟩
        · rw [show ev_len.getD 5 0 = 5 from rfl]
          have h5 : sk B n q2 + 5 ≤ n := wAt_n hB.2.2.2 hw (by decide)
          refine e_if_eq (tgt := 48) dX7_readSpring_37 (by decide) (fun c37 => ?_) (fun c37 => ?_)
          · first | exact absurd c37 (by decide) | exact absurd rfl c37
          · refine e_aload_n dX7_readSpring_40 rfl rfl ?_
            refine e_iconst (v := 0) dX7_readSpring_41 (by decide) ?_
            refine e_ldc dX7_readSpring_42 wK_X7_111 ?_
            refine e_invV (mcY := 0) (msY := 0) (ct_num (lo := 0) (hi := 99999) hB h5 ar_0 w99999 (by omega) (by omega)) vX7_number wM_X7_102 (mo_at G c _ h 0 (by decide)) rfl dX7_readSpring_44 rfl rfl (Nat.le_of_ble_eq_true rfl) (Nat.le_of_ble_eq_true rfl) ?_
            rintro _ _ hc
            generalize er3 : pN B n (0) (99999) (sk B n q2 + 5) = r3 at hc
            obtain ⟨k3, q3, m3⟩ := r3
            dsimp only at hc
            rcases hc with ⟨hr3, rfl, rfl⟩ | ⟨hr3, rfl, p3, s3, e3, he3, hv3, rfl⟩
            · subst hr3
              have g3 := pN_0 hB.2.2.2 h5 (lo := 0) (hi := 99999) (by rw [er3])
              rw [er3] at g3
              change sk B n q2 + 5 < q3 ∧ q3 ≤ n ∧ 0 ≤ m3 ∧ m3 ≤ 99999 at g3
              refine e_istore_n dX7_readSpring_47 rfl (Nat.le_of_ble_eq_true rfl) ?_
              refine e_aload_n dX7_readSpring_48 rfl rfl ?_
              refine e_invV (mcY := 0) (msY := 0) (ct_X7_isGood1) vX7_isGood wM_X7_69 (mo_at G c _ h 0 (by decide)) rfl dX7_readSpring_49 rfl rfl (Nat.le_of_ble_eq_true rfl) (Nat.le_of_ble_eq_true rfl) ?_
              rintro _ _ ⟨rfl, rfl⟩
              refine e_if_ne (tgt := 56) dX7_readSpring_52 (by decide) (fun c52 => ?_) (fun c52 => ?_)
              · refine e_aload_n dX7_readSpring_56 rfl rfl ?_
                refine qS_g9 wF_X7_21 dX7_readSpring_57 ?_
                refine e_bipush (v := 48) dX7_readSpring_60 (by decide) ?_
                refine e_iconst (v := 3) dX7_readSpring_62 (by decide) ?_
                refine e_iload_n dX7_readSpring_63 rfl rfl ?_
                refine e_imul dX7_readSpring_64 ?_
                refine e_iadd dX7_readSpring_65 ?_
                refine e_iconst (v := 0) dX7_readSpring_66 (by decide) ?_
                refine e_iadd dX7_readSpring_67 ?_
                refine e_iload_n dX7_readSpring_68 rfl rfl ?_
                refine e_i2l dX7_readSpring_69 ?_
                refine qS_s3 (by rw [(ar_ix (j := (m1).toNat) (w := 0) z48 (show (Int32.ofInt m1).toInt = ((m1).toNat : Int) by rw [ar_ofI (by omega) (by omega)]; omega) ar_0 (by omega) (by omega) (by omega))]; omega) (by rw [(ar_ix (j := (m1).toNat) (w := 0) z48 (show (Int32.ofInt m1).toInt = ((m1).toNat : Int) by rw [ar_ofI (by omega) (by omega)]; omega) ar_0 (by omega) (by omega) (by omega))]; omega) dX7_readSpring_70 ?_
                refine e_aload_n dX7_readSpring_71 rfl rfl ?_
                refine qS_g9 wF_X7_21 dX7_readSpring_72 ?_
                refine e_bipush (v := 48) dX7_readSpring_75 (by decide) ?_
                refine e_iconst (v := 3) dX7_readSpring_77 (by decide) ?_
                refine e_iload_n dX7_readSpring_78 rfl rfl ?_
                refine e_imul dX7_readSpring_79 ?_
                refine e_iadd dX7_readSpring_80 ?_
                refine e_iconst (v := 1) dX7_readSpring_81 (by decide) ?_
                refine e_iadd dX7_readSpring_82 ?_
                refine e_iload_n dX7_readSpring_83 rfl rfl ?_
                refine e_i2l dX7_readSpring_84 ?_
                refine qS_s3 (by rw [(ar_ix (j := (m1).toNat) (w := 1) z48 (show (Int32.ofInt m1).toInt = ((m1).toNat : Int) by rw [ar_ofI (by omega) (by omega)]; omega) ar_1 (by omega) (by omega) (by omega))]; omega) (by rw [(ar_ix (j := (m1).toNat) (w := 1) z48 (show (Int32.ofInt m1).toInt = ((m1).toNat : Int) by rw [ar_ofI (by omega) (by omega)]; omega) ar_1 (by omega) (by omega) (by omega))]; omega) dX7_readSpring_85 ?_
                exact e_vret rfl dX7_readSpring_86 (by
                    refine ⟨rfl, ?_⟩
                    have i0 := ar_nat (ar_ix (j := (m1).toNat) (w := 0) z48 (show (Int32.ofInt m1).toInt = ((m1).toNat : Int) by rw [ar_ofI (by omega) (by omega)]; omega) ar_0 (by omega) (by omega) (by omega))
                    have i1 := ar_nat (ar_ix (j := (m1).toNat) (w := 1) z48 (show (Int32.ofInt m1).toInt = ((m1).toNat : Int) by rw [ar_ofI (by omega) (by omega)]; omega) ar_1 (by omega) (by omega) (by omega))
                    have a2 : (Int32.ofInt m2).toInt = m2 := ar_ofI (by omega) (by omega)
                    first
                      | (have a3 : (Int32.ofInt m3).toInt = m3 := ar_ofI (by omega) (by omega)
                         refine oQ_ok (t := (2, m1, m2, m3)) (s' := Int32.ofNat (sk B n (sk B n q2 + 5))) (by unfold pSp; rw [er1, pb_ok rfl]; show pb (pN B n 0 999 q1) _ = _; rw [er2, pb_ok rfl]; show (bif wB B 5 (sk B n q2) then _ else _) = _; rw [wB_iff.mpr hw, cond_true, er3]; rfl) (hD.s2 (KR.limit (KR.stiff (y := Int32.ofInt m2) (j := m1.toNat) hK (by omega) (by omega) (by omega)) (y := Int32.ofInt m3) (j := m1.toNat) (show m1.toNat ≤ sNm (S.2.2.2 1) by omega) (by omega) (by omega))) (FRM.row μ _) ?_
                         simp only [ms_L_L, ms_L_get, i0, i1])
                      | (have hwf : wB B 5 (sk B n q2) = false := by cases q : wB B 5 (sk B n q2) with | false => rfl | true => exact absurd (wB_iff.mp q) hw
                         refine oQ_ok (t := (2, m1, m2, 0)) (s' := Int32.ofNat (sk B n q1)) (by unfold pSp; rw [er1, pb_ok rfl]; show pb (pN B n 0 999 q1) _ = _; rw [er2, pb_ok rfl]; show (bif wB B 5 (sk B n q2) then _ else _) = _; rw [hwf, cond_false]) (hD.s2 (KR.limit (KR.stiff (y := Int32.ofInt m2) (j := m1.toNat) hK (by omega) (by omega) (by omega)) (y := Int32.ofInt 0) (j := m1.toNat) (show m1.toNat ≤ sNm (S.2.2.2 1) by omega) (by rw [ar_ofI (by decide) (by decide)]; decide) (by rw [ar_ofI (by decide) (by decide)]; decide))) (FRM.row μ _) ?_
                         simp only [ms_L_L, ms_L_get, i0, i1]
                         rfl))
              · first | exact absurd c52 (by decide) | exact absurd rfl c52
            · refine e_istore_n dX7_readSpring_47 rfl (Nat.le_of_ble_eq_true rfl) ?_
              refine e_aload_n dX7_readSpring_48 rfl rfl ?_
              refine e_invV (mcY := 0) (msY := 0) (ct_X7_isGood0 he3) vX7_isGood wM_X7_69 (mo_at G c _ h 0 (by decide)) rfl dX7_readSpring_49 rfl rfl (Nat.le_of_ble_eq_true rfl) (Nat.le_of_ble_eq_true rfl) ?_
              rintro _ _ ⟨rfl, rfl⟩
              refine e_if_ne (tgt := 56) dX7_readSpring_52 (by decide) (fun c52 => ?_) (fun c52 => ?_)
              · first | exact absurd c52 (by decide) | exact absurd rfl c52
              · exact e_vret rfl dX7_readSpring_55 (by
                    refine ⟨rfl, ?_⟩
                    first
                      | exact oQ_no (by unfold pSp; rw [er1]; exact pb_no hr1) hr1 (FRM.refl μ) he1 hv1 rfl
                      | exact oQ_no (by unfold pSp; rw [er1, pb_ok rfl]; show pb (pN B n 0 999 q1) _ = _; rw [er2]; exact pb_no hr2) hr2 (FRM.refl μ) he2 hv2 rfl
                      | exact oQ_no (by unfold pSp; rw [er1, pb_ok rfl]; show pb (pN B n 0 999 q1) _ = _; rw [er2, pb_ok rfl]; show (bif wB B 5 (sk B n q2) then _ else _) = _; rw [wB_iff.mpr hw, cond_true]; rw [er3]; exact pb_no hr3) hr3 (FRM.refl μ) he3 hv3 rfl)
        · refine e_if_eq (tgt := 48) dX7_readSpring_37 (by decide) (fun c37 => ?_) (fun c37 => ?_)
          · refine e_aload_n dX7_readSpring_48 rfl rfl ?_
            refine e_invV (mcY := 0) (msY := 0) (ct_X7_isGood1) vX7_isGood wM_X7_69 (mo_at G c _ h 0 (by decide)) rfl dX7_readSpring_49 rfl rfl (Nat.le_of_ble_eq_true rfl) (Nat.le_of_ble_eq_true rfl) ?_
            rintro _ _ ⟨rfl, rfl⟩
            refine e_if_ne (tgt := 56) dX7_readSpring_52 (by decide) (fun c52 => ?_) (fun c52 => ?_)
            · refine e_aload_n dX7_readSpring_56 rfl rfl ?_
              refine qS_g9 wF_X7_21 dX7_readSpring_57 ?_
              refine e_bipush (v := 48) dX7_readSpring_60 (by decide) ?_
              refine e_iconst (v := 3) dX7_readSpring_62 (by decide) ?_
              refine e_iload_n dX7_readSpring_63 rfl rfl ?_
              refine e_imul dX7_readSpring_64 ?_
              refine e_iadd dX7_readSpring_65 ?_
              refine e_iconst (v := 0) dX7_readSpring_66 (by decide) ?_
              refine e_iadd dX7_readSpring_67 ?_
              refine e_iload_n dX7_readSpring_68 rfl rfl ?_
              refine e_i2l dX7_readSpring_69 ?_
              refine qS_s3 (by rw [(ar_ix (j := (m1).toNat) (w := 0) z48 (show (Int32.ofInt m1).toInt = ((m1).toNat : Int) by rw [ar_ofI (by omega) (by omega)]; omega) ar_0 (by omega) (by omega) (by omega))]; omega) (by rw [(ar_ix (j := (m1).toNat) (w := 0) z48 (show (Int32.ofInt m1).toInt = ((m1).toNat : Int) by rw [ar_ofI (by omega) (by omega)]; omega) ar_0 (by omega) (by omega) (by omega))]; omega) dX7_readSpring_70 ?_
              refine e_aload_n dX7_readSpring_71 rfl rfl ?_
              refine qS_g9 wF_X7_21 dX7_readSpring_72 ?_
              refine e_bipush (v := 48) dX7_readSpring_75 (by decide) ?_
              refine e_iconst (v := 3) dX7_readSpring_77 (by decide) ?_
              refine e_iload_n dX7_readSpring_78 rfl rfl ?_
              refine e_imul dX7_readSpring_79 ?_
              refine e_iadd dX7_readSpring_80 ?_
              refine e_iconst (v := 1) dX7_readSpring_81 (by decide) ?_
              refine e_iadd dX7_readSpring_82 ?_
              refine e_iload_n dX7_readSpring_83 rfl rfl ?_
              refine e_i2l dX7_readSpring_84 ?_
              refine qS_s3 (by rw [(ar_ix (j := (m1).toNat) (w := 1) z48 (show (Int32.ofInt m1).toInt = ((m1).toNat : Int) by rw [ar_ofI (by omega) (by omega)]; omega) ar_1 (by omega) (by omega) (by omega))]; omega) (by rw [(ar_ix (j := (m1).toNat) (w := 1) z48 (show (Int32.ofInt m1).toInt = ((m1).toNat : Int) by rw [ar_ofI (by omega) (by omega)]; omega) ar_1 (by omega) (by omega) (by omega))]; omega) dX7_readSpring_85 ?_
              exact e_vret rfl dX7_readSpring_86 (by
                  refine ⟨rfl, ?_⟩
                  have i0 := ar_nat (ar_ix (j := (m1).toNat) (w := 0) z48 (show (Int32.ofInt m1).toInt = ((m1).toNat : Int) by rw [ar_ofI (by omega) (by omega)]; omega) ar_0 (by omega) (by omega) (by omega))
                  have i1 := ar_nat (ar_ix (j := (m1).toNat) (w := 1) z48 (show (Int32.ofInt m1).toInt = ((m1).toNat : Int) by rw [ar_ofI (by omega) (by omega)]; omega) ar_1 (by omega) (by omega) (by omega))
                  have a2 : (Int32.ofInt m2).toInt = m2 := ar_ofI (by omega) (by omega)
                  first
                    | (have a3 : (Int32.ofInt m3).toInt = m3 := ar_ofI (by omega) (by omega)
                       refine oQ_ok (t := (2, m1, m2, m3)) (s' := Int32.ofNat (sk B n (sk B n q2 + 5))) (by unfold pSp; rw [er1, pb_ok rfl]; show pb (pN B n 0 999 q1) _ = _; rw [er2, pb_ok rfl]; show (bif wB B 5 (sk B n q2) then _ else _) = _; rw [wB_iff.mpr hw, cond_true, er3]; rfl) (hD.s2 (KR.limit (KR.stiff (y := Int32.ofInt m2) (j := m1.toNat) hK (by omega) (by omega) (by omega)) (y := Int32.ofInt m3) (j := m1.toNat) (show m1.toNat ≤ sNm (S.2.2.2 1) by omega) (by omega) (by omega))) (FRM.row μ _) ?_
                       simp only [ms_L_L, ms_L_get, i0, i1])
                    | (have hwf : wB B 5 (sk B n q2) = false := by cases q : wB B 5 (sk B n q2) with | false => rfl | true => exact absurd (wB_iff.mp q) hw
                       refine oQ_ok (t := (2, m1, m2, 0)) (s' := Int32.ofNat (sk B n q1)) (by unfold pSp; rw [er1, pb_ok rfl]; show pb (pN B n 0 999 q1) _ = _; rw [er2, pb_ok rfl]; show (bif wB B 5 (sk B n q2) then _ else _) = _; rw [hwf, cond_false]) (hD.s2 (KR.limit (KR.stiff (y := Int32.ofInt m2) (j := m1.toNat) hK (by omega) (by omega) (by omega)) (y := Int32.ofInt 0) (j := m1.toNat) (show m1.toNat ≤ sNm (S.2.2.2 1) by omega) (by rw [ar_ofI (by decide) (by decide)]; decide) (by rw [ar_ofI (by decide) (by decide)]; decide))) (FRM.row μ _) ?_
                       simp only [ms_L_L, ms_L_get, i0, i1]
                       rfl))
            · first | exact absurd c52 (by decide) | exact absurd rfl c52
          · first | exact absurd c37 (by decide) | exact absurd rfl c37
    · refine e_istore_n dX7_readSpring_21 rfl (Nat.le_of_ble_eq_true rfl) ?_
      refine e_iconst (v := 0) dX7_readSpring_22 (by decide) ?_
      refine e_istore_n dX7_readSpring_23 rfl (Nat.le_of_ble_eq_true rfl) ?_
      refine e_aload_n dX7_readSpring_24 rfl rfl ?_
      refine e_invV (mcY := 0) (msY := 0) (ct_X7_isGood0 he2) vX7_isGood wM_X7_69 (mo_at G c _ h 0 (by decide)) rfl dX7_readSpring_25 rfl rfl (Nat.le_of_ble_eq_true rfl) (Nat.le_of_ble_eq_true rfl) ?_
      rintro _ _ ⟨rfl, rfl⟩
      refine e_if_eq (tgt := 48) dX7_readSpring_28 (by decide) (fun c28 => ?_) (fun c28 => ?_)
      · refine e_aload_n dX7_readSpring_48 rfl rfl ?_
        refine e_invV (mcY := 0) (msY := 0) (ct_X7_isGood0 he2) vX7_isGood wM_X7_69 (mo_at G c _ h 0 (by decide)) rfl dX7_readSpring_49 rfl rfl (Nat.le_of_ble_eq_true rfl) (Nat.le_of_ble_eq_true rfl) ?_
        rintro _ _ ⟨rfl, rfl⟩
        refine e_if_ne (tgt := 56) dX7_readSpring_52 (by decide) (fun c52 => ?_) (fun c52 => ?_)
        · first | exact absurd c52 (by decide) | exact absurd rfl c52
        · exact e_vret rfl dX7_readSpring_55 (by
              refine ⟨rfl, ?_⟩
              first
                | exact oQ_no (by unfold pSp; rw [er1]; exact pb_no hr1) hr1 (FRM.refl μ) he1 hv1 rfl
                | exact oQ_no (by unfold pSp; rw [er1, pb_ok rfl]; show pb (pN B n 0 999 q1) _ = _; rw [er2]; exact pb_no hr2) hr2 (FRM.refl μ) he2 hv2 rfl
                | exact oQ_no (by unfold pSp; rw [er1, pb_ok rfl]; show pb (pN B n 0 999 q1) _ = _; rw [er2, pb_ok rfl]; show (bif wB B 5 (sk B n q2) then _ else _) = _; rw [wB_iff.mpr hw, cond_true]; rw [er3]; exact pb_no hr3) hr3 (FRM.refl μ) he3 hv3 rfl)
      · first | exact absurd c28 (by decide) | exact absurd rfl c28
  · refine e_istore_n dX7_readSpring_12 rfl (Nat.le_of_ble_eq_true rfl) ?_
    refine e_aload_n dX7_readSpring_13 rfl rfl ?_
    refine e_iconst (v := 0) dX7_readSpring_14 (by decide) ?_
    refine e_sipush (v := 999) dX7_readSpring_15 (by decide) ?_
    refine e_invV (mcY := 0) (msY := 0) (ct_X7_number0 he1) vX7_number wM_X7_102 (mo_at G c _ h 0 (by decide)) rfl dX7_readSpring_18 rfl rfl (Nat.le_of_ble_eq_true rfl) (Nat.le_of_ble_eq_true rfl) ?_
    rintro _ _ ⟨rfl, rfl⟩
    refine e_istore_n dX7_readSpring_21 rfl (Nat.le_of_ble_eq_true rfl) ?_
    refine e_iconst (v := 0) dX7_readSpring_22 (by decide) ?_
    refine e_istore_n dX7_readSpring_23 rfl (Nat.le_of_ble_eq_true rfl) ?_
    refine e_aload_n dX7_readSpring_24 rfl rfl ?_
    refine e_invV (mcY := 0) (msY := 0) (ct_X7_isGood0 he1) vX7_isGood wM_X7_69 (mo_at G c _ h 0 (by decide)) rfl dX7_readSpring_25 rfl rfl (Nat.le_of_ble_eq_true rfl) (Nat.le_of_ble_eq_true rfl) ?_
    rintro _ _ ⟨rfl, rfl⟩
    refine e_if_eq (tgt := 48) dX7_readSpring_28 (by decide) (fun c28 => ?_) (fun c28 => ?_)
    · refine e_aload_n dX7_readSpring_48 rfl rfl ?_
      refine e_invV (mcY := 0) (msY := 0) (ct_X7_isGood0 he1) vX7_isGood wM_X7_69 (mo_at G c _ h 0 (by decide)) rfl dX7_readSpring_49 rfl rfl (Nat.le_of_ble_eq_true rfl) (Nat.le_of_ble_eq_true rfl) ?_
      rintro _ _ ⟨rfl, rfl⟩
      refine e_if_ne (tgt := 56) dX7_readSpring_52 (by decide) (fun c52 => ?_) (fun c52 => ?_)
      · first | exact absurd c52 (by decide) | exact absurd rfl c52
      · exact e_vret rfl dX7_readSpring_55 (by
            refine ⟨rfl, ?_⟩
            first
              | exact oQ_no (by unfold pSp; rw [er1]; exact pb_no hr1) hr1 (FRM.refl μ) he1 hv1 rfl
              | exact oQ_no (by unfold pSp; rw [er1, pb_ok rfl]; show pb (pN B n 0 999 q1) _ = _; rw [er2]; exact pb_no hr2) hr2 (FRM.refl μ) he2 hv2 rfl
              | exact oQ_no (by unfold pSp; rw [er1, pb_ok rfl]; show pb (pN B n 0 999 q1) _ = _; rw [er2, pb_ok rfl]; show (bif wB B 5 (sk B n q2) then _ else _) = _; rw [wB_iff.mpr hw, cond_true]; rw [er3]; exact pb_no hr3) hr3 (FRM.refl μ) he3 hv3 rfl)
    · first | exact absurd c28 (by decide) | exact absurd rfl c28
end P3
