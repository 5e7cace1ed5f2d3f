/-! a new chain of the law's -/
def aP (a : ev_H) (c : ClassId) (q N i : Nat) (g : Nat → Nat) : Prop := ∃ f : Nat → Option Nat, a.1 q = some (.inl (c, N, .inr (.inr (.inr (.inr f))))) ∧ ∀ k, k < i → f k = some (g k)
def cs_of (x : Int32) : CS := (fun k => if k = 0 then x else 0, fun _ => 0, fun w _ => if w = 0 then 10 else if w = 3 then 100 else 0)
def ofA (c m i : Nat) : Nat := if i = 0 then c else if i = 1 then c + 9 else if i = 2 then c + 10 else if i = 3 then c + 6 else if i = 4 then c + 7 else if i = 5 then c + 8 else if i < 30 then c + 11 + (i - 10) else c + 11 + m + (i - 30)
theorem ofA_m {c m k : Nat} (h : k < 20) : ofA c m (10 + k) = c + 11 + k := by
  unfold ofA
  rw [if_neg (by omega), if_neg (by omega), if_neg (by omega), if_neg (by omega), if_neg (by omega), if_neg (by omega), if_pos (by omega)]
  omega
theorem ofA_s (c m k : Nat) : ofA c m (30 + k) = c + 11 + m + k := by
  unfold ofA
  rw [if_neg (by omega), if_neg (by omega), if_neg (by omega), if_neg (by omega), if_neg (by omega), if_neg (by omega), if_neg (by omega)]
  omega
theorem ofA_ge (c m i : Nat) : c ≤ ofA c m i := by
  unfold ofA
  repeat' split
  all_goals omega
theorem mut_ge {A : Nat → Nat} {m p c : Nat} (h : ∀ i, c ≤ A i) {q : Nat} (hq : mtA A m p q) : c ≤ q := by
  rcases hq with rfl | rfl | ⟨k, -, rfl⟩ | ⟨k, -, rfl⟩ | ⟨k, -, rfl⟩ <;> exact h _
abbrev e8 : va_E := .inr (8, [.int 10, .long 0, .long 0])
abbrev e10 : va_E := .inr (10, [.int 100, .int 0, .int 0])
def OFF (G : ev_G) (h a : ev_H) (c m i j : Nat) : Prop :=
  a.2 = some (c + 11 + i + j) ∧ sub h a ∧ a.1 c = some (.inr (7, [.int 0, .int 0, .int 0, .int 0, .ref (c + 9), .ref (c + 10), .ref (c + 6), .ref (c + 7), .ref (c + 8)])) ∧ aP a (G.2.1 7) (c + 9) m i (fun k => c + 11 + k) ∧ aP a (G.2.1 8) (c + 10) (m + 1) j (fun k => c + 11 + m + k) ∧
  a.1 (c + 6) = some (.inl (G.2.1 5, 0, .inr (.inr (.inr (.inr (fun _ => none)))))) ∧ a.1 (c + 7) = some (.inl (G.2.1 5, 0, .inr (.inr (.inr (.inr (fun _ => none)))))) ∧ a.1 (c + 8) = some (.inl (G.2.1 1, 6, .inr (.inl (fun _ => 0)))) ∧ (∀ k, k < i → a.1 (c + 11 + k) = some e8) ∧ (∀ k, k < j → a.1 (c + 11 + m + k) = some e10)
theorem OFF.mass {G : ev_G} {h a : ev_H} {c m i : Nat} (ht : ∀ (q : Nat) (e : va_E), h.1 q = some e → q < c) (hO : OFF G h a c m i 0) {f : Nat → Option Nat} (hf : ∀ k, k < i → f k = some (c + 11 + k)) : OFF G h (ev_put (ev_new a (c + 11 + i) e8) (c + 9) (.inl (G.2.1 7, m, .inr (.inr (.inr (.inr (ev_u f i (some (c + 11 + i))))))))) c m (i + 1) 0 := by
  obtain ⟨g1, g2, g3, g4, ⟨f2, g5, g5'⟩, g6, g7, g8, g9, g10⟩ := hO
  have nn : ∀ q, q ≠ c + 9 → q ≠ c + 11 + i → (ev_put (ev_new a (c + 11 + i) e8) (c + 9) (.inl (G.2.1 7, m, .inr (.inr (.inr (.inr (ev_u f i (some (c + 11 + i))))))))).1 q = a.1 q := fun q h1 h2 => (put_ne _ _ h1).trans (new_ne _ _ h2)
  refine ⟨(new_2 a e8 g1).trans (congrArg some (by omega)), fun q e he => ?_, (nn _ (by omega) (by omega)).trans g3, ⟨_, put_eq _ _ _, fun k hk => ?_⟩, ⟨f2, (nn _ (by omega) (by omega)).trans g5, g5'⟩, (nn _ (by omega) (by omega)).trans g6, (nn _ (by omega) (by omega)).trans g7, (nn _ (by omega) (by omega)).trans g8, fun k hk => ?_, fun k hk => absurd hk (Nat.not_lt_zero _)⟩
  · have := ht q e he
    rw [nn q (by omega) (by omega)]
    exact g2 q e he
  · by_cases e : k = i
    · rw [e, ev_u_self]
    · rw [ev_u_ne _ _ e]
      exact hf k (by omega)
  · by_cases e : k = i
    · rw [e, put_ne _ _ (by omega)]
      exact new_eq _ _ _
    · rw [nn _ (by omega) (by omega)]
      exact g9 k (by omega)
theorem OFF.spr {G : ev_G} {h a : ev_H} {c m j : Nat} (ht : ∀ (q : Nat) (e : va_E), h.1 q = some e → q < c) (hO : OFF G h a c m m j) {f : Nat → Option Nat} (hf : ∀ k, k < j → f k = some (c + 11 + m + k)) : OFF G h (ev_put (ev_new a (c + 11 + m + j) e10) (c + 10) (.inl (G.2.1 8, m + 1, .inr (.inr (.inr (.inr (ev_u f j (some (c + 11 + m + j))))))))) c m m (j + 1) := by
  obtain ⟨g1, g2, g3, ⟨f2, g4, g4'⟩, g5, g6, g7, g8, g9, g10⟩ := hO
  have nn : ∀ q, q ≠ c + 10 → q ≠ c + 11 + m + j → (ev_put (ev_new a (c + 11 + m + j) e10) (c + 10) (.inl (G.2.1 8, m + 1, .inr (.inr (.inr (.inr (ev_u f j (some (c + 11 + m + j))))))))).1 q = a.1 q := fun q h1 h2 => (put_ne _ _ h1).trans (new_ne _ _ h2)
  refine ⟨(new_2 a e10 g1).trans (congrArg some (by omega)), fun q e he => ?_, (nn _ (by omega) (by omega)).trans g3, ⟨f2, (nn _ (by omega) (by omega)).trans g4, g4'⟩, ⟨_, put_eq _ _ _, fun k hk => ?_⟩, (nn _ (by omega) (by omega)).trans g6, (nn _ (by omega) (by omega)).trans g7, (nn _ (by omega) (by omega)).trans g8, fun k hk => ?_, fun k hk => ?_⟩
  · have := ht q e he
    rw [nn q (by omega) (by omega)]
    exact g2 q e he
  · by_cases e : k = j
    · rw [e, ev_u_self]
    · rw [ev_u_ne _ _ e]
      exact hf k (by omega)
  · rw [nn _ (by omega) (by omega)]
    exact g9 k hk
  · by_cases e : k = j
    · rw [e, put_ne _ _ (by omega)]
      exact new_eq _ _ _
    · rw [nn _ (by omega) (by omega)]
      exact g10 k (by omega)
theorem OFF.lc {G : ev_G} {h a : ev_H} {c m : Nat} {x : Int32} (hx : x.toInt = (m : Int)) (hm : m ≤ 12) (hO : OFF G h a c m m (m + 1)) (mI : Nat → TI) : LC G a (ofA c m) (cs_of x) 0 mI := by
  obtain ⟨g1, g2, g3, ⟨f1, g4, g4'⟩, ⟨f2, g5, g5'⟩, g6, g7, g8, g9, g10⟩ := hO
  have eN : sNm (cs_of x) = m := by show x.toInt.toNat = m; omega
  have eP : sPn (cs_of x) = 0 := by show (0 : Int32).toInt.toNat = 0; decide +kernel
  refine ⟨⟨g3, ?_, ?_, ?_, ?_, ?_⟩, ⟨fun k hk => ?_, fun k hk => ?_⟩, ⟨fun k hk => absurd hk (Nat.not_lt_zero _), fun k hk => ?_⟩, fun i j hi hj e => ?_, fun i j hi hj e => ?_, fun i j hi hj e => ?_⟩
  · rw [eN]; exact ⟨f1, g4, fun k hk => (g4' k hk).trans (congrArg some (ofA_m (by omega)).symm)⟩
  · rw [eN]; exact ⟨f2, g5, fun k hk => (g5' k hk).trans (congrArg some (ofA_s c m k).symm)⟩
  · exact ⟨_, g6, fun k hk => absurd hk (Nat.not_lt_zero _)⟩
  · rw [eP]; exact ⟨_, g7, fun k hk => absurd hk (Nat.not_lt_zero _)⟩
  · refine ⟨_, g8, fun k hk => ?_⟩
    show (0 : Int64) = if k = 0 then 0 else 0
    split <;> rfl
  · rw [eN] at hk
    rw [ofA_m (by omega)]
    exact g9 k hk
  · rw [eN] at hk
    rw [ofA_s]
    exact g10 k hk
  · rw [eP] at hk; exact absurd hk (Nat.not_lt_zero _)
  · rw [eN] at hi hj
    rw [ofA_m (by omega), ofA_m (by omega)] at e
    omega
  · rw [ofA_s, ofA_s] at e
    omega
  · rw [eP] at hi; exact absurd hi (Nat.not_lt_zero _)
section OFW
variable {G : ev_G} {l : Launch} {a h : ev_H} {c m z : Nat} {x : Int32}
set_option maxRecDepth 20000 in
theorem lp_of1 {J : ev_K} {n k : Nat} (hJ : 3 ≤ J.2.2.1) (hx : x.toInt = (m : Int)) (hm : m ≤ 12) (ht : ∀ (q : Nat) (e : va_E), h.1 q = some e → q < c) (hk : ∀ a : ev_H, OFF G h a c m m 0 → ∀ y : Int32, ev_V G l mX7_of J 52 [some (.int x), some (.ref c), some (.int y)] [] a k n) : ∀ (r i : Nat) (y : Int32) (a : ev_H), r + i = m → y.toInt = (i : Int) → OFF G h a c m i 0 → ev_V G l mX7_of J 28 [some (.int x), some (.ref c), some (.int y)] [] a (k + r) (n + 3 * r) := by
  intro r
  induction r with
  | zero =>
    intro i y a hr hy hO
    have e : i = m := by omega
    subst e
    refine e_iload_n dX7_of_28 rfl rfl ?_
    refine e_iload_n dX7_of_29 rfl rfl ?_
    refine e_icmp_ge (tgt := 52) dX7_of_30 (by decide) (fun _ => hk _ hO _) (fun c9 => absurd c9 (by omega))
  | succ r ih =>
    intro i y a hr hy hO
    have hn : y.toInt.toNat = i := ar_nat hy
    refine e_iload_n dX7_of_28 rfl rfl ?_
    refine e_iload_n dX7_of_29 rfl rfl ?_
    refine e_icmp_ge (tgt := 52) dX7_of_30 (by decide) (fun c9 => absurd c9 (by omega)) (fun _ => ?_)
    obtain ⟨g1, g2, g3, g4, g5, g6⟩ := id hO
    obtain ⟨f, g7, g8⟩ := g4
    have hz : a.2 = some (c + 11 + i) := g1
    refine e_aload_n dX7_of_33 rfl rfl ?_
    refine e_getf (C := RX7) (T := TX7) (N := 9) (ci := 7) 4 inX7 rfl g3 (by decide) wF_X7_10 rfl dX7_of_34 ?_
    refine e_iload_n dX7_of_37 rfl rfl ?_
    refine e_wide (k0 := (k + r) + 1) (n0 := (n + 3 * r) + 3) (by omega) (by omega) ?_
    refine e_new (C := RX8) (T := TX8) (N := 3) (ci := 8) tyX8 tyX8_ok inX8 rfl wL_X7_7 wX_X8 wN_X8 dv8_ok hz dX7_of_38 ?_
    refine e_dup dX7_of_41 rfl ?_
    refine e_invO (host := "SpringChainLaw") (mcY := 0) (msY := 0) (ct_X8_init (new_eq _ _ _)) vX8_init (ev_nw_ok 346 (by decide +kernel) rfl) dX7_of_42 rfl rfl (Nat.le_of_ble_eq_true rfl) (Nat.le_trans (Nat.le_of_ble_eq_true rfl) hJ) ?_
    rintro _ _ ⟨rfl, rfl⟩
    rw [new_put]
    refine e_aastO (N := m) (t0 := 7) (ci := 8) ((new_ne _ _ (by omega)).trans g7) rfl rfl (new_eq _ _ _) (by omega) (by omega) dX7_of_45 ?_
    rw [hn]
    refine e_iinc dX7_of_46 rfl rfl (Nat.le_of_ble_eq_true rfl) ?_
    refine e_goto (tgt := 28) dX7_of_49 (by decide) ?_
    exact ih (i + 1) _ _ (by omega) (ar_inc hy (by omega)) (hO.mass ht g8)
set_option maxRecDepth 20000 in
theorem lp_of2 {J : ev_K} {n k : Nat} (hJ : 3 ≤ J.2.2.1) (hx : x.toInt = (m : Int)) (hm : m ≤ 12) (ht : ∀ (q : Nat) (e : va_E), h.1 q = some e → q < c) (hk : ∀ a : ev_H, OFF G h a c m m (m + 1) → ∀ y : Int32, ev_V G l mX7_of J 78 [some (.int x), some (.ref c), some (.int y)] [] a k n) : ∀ (r i : Nat) (y : Int32) (a : ev_H), r + i = m + 1 → y.toInt = (i : Int) → OFF G h a c m m i → ev_V G l mX7_of J 54 [some (.int x), some (.ref c), some (.int y)] [] a (k + r) (n + 3 * r) := by
  intro r
  induction r with
  | zero =>
    intro i y a hr hy hO
    have e : i = m + 1 := by omega
    subst e
    refine e_iload_n dX7_of_54 rfl rfl ?_
    refine e_iload_n dX7_of_55 rfl rfl ?_
    refine e_icmp_gt (tgt := 78) dX7_of_56 (by decide) (fun _ => hk _ hO _) (fun c9 => absurd c9 (by omega))
  | succ r ih =>
    intro i y a hr hy hO
    have hn : y.toInt.toNat = i := ar_nat hy
    refine e_iload_n dX7_of_54 rfl rfl ?_
    refine e_iload_n dX7_of_55 rfl rfl ?_
    refine e_icmp_gt (tgt := 78) dX7_of_56 (by decide) (fun c9 => absurd c9 (by omega)) (fun _ => ?_)
    obtain ⟨g1, g2, g3, g4, g5, g6⟩ := id hO
    obtain ⟨f, g7, g8⟩ := g5
    have hz : a.2 = some (c + 11 + m + i) := g1
    refine e_aload_n dX7_of_59 rfl rfl ?_
    refine e_getf (C := RX7) (T := TX7) (N := 9) (ci := 7) 5 inX7 rfl g3 (by decide) wF_X7_19 rfl dX7_of_60 ?_
    refine e_iload_n dX7_of_63 rfl rfl ?_
    refine e_wide (k0 := (k + r) + 1) (n0 := (n + 3 * r) + 3) (by omega) (by omega) ?_
    refine e_new (C := RX10) (T := TX10) (N := 3) (ci := 10) tyX10 tyX10_ok inX10 rfl wL_X7_16 wX_X10 wN_X10 dv10_ok hz dX7_of_64 ?_
    refine e_dup dX7_of_67 rfl ?_
    refine e_invO (host := "SpringChainLaw") (mcY := 0) (msY := 0) (ct_X10_init (new_eq _ _ _)) vX10_init (ev_nw_ok 369 (by decide +kernel) rfl) dX7_of_68 rfl rfl (Nat.le_of_ble_eq_true rfl) (Nat.le_trans (Nat.le_of_ble_eq_true rfl) hJ) ?_
    rintro _ _ ⟨rfl, rfl⟩
    rw [new_put]
    refine e_aastO (N := m + 1) (t0 := 8) (ci := 10) ((new_ne _ _ (by omega)).trans g7) rfl rfl (new_eq _ _ _) (by omega) (by omega) dX7_of_71 ?_
    rw [hn]
    refine e_iinc dX7_of_72 rfl rfl (Nat.le_of_ble_eq_true rfl) ?_
    refine e_goto (tgt := 54) dX7_of_75 (by decide) ?_
    exact ih (i + 1) _ _ (by omega) (ar_inc hy (by omega)) (hO.spr ht g8)
set_option maxRecDepth 20000 in
theorem ct_X7_of (hx : x.toInt = (m : Int)) (hm0 : 1 ≤ m) (hm : m ≤ 6) (hz : a.2 = some z) (mI : Nat → TI) : ev_Ct G l mX7_of 3 24 79 [.int x] a (fun v b => v = some (.ref z) ∧ sub a b ∧ b.2 = some (z + 12 + 2 * m) ∧ LC G b (ofA z m) (cs_of x) 0 mI) (fun _ _ => False) := by
  refine ev_Ct.of (by decide +kernel) (Nat.le_of_ble_eq_true rfl) ?_
  refine e_top hz fun ht => ?_
  have hx1 : (x + 1).toInt = ((m + 1 : Nat) : Int) := by have := ar_inc hx (by omega); rwa [ar_i1] at this
  refine e_wide (k0 := ((0 + (m + 1) + m) + 1 + 1) + 8 + 1) (n0 := (((0 + 3 * (m + 1) + 3 * m) + (m + 1)) + m) + 18 + 9) (by omega) (by omega) ?_
  refine e_new (C := RX7) (T := TX7) (N := 9) (ci := 7) tyX7 tyX7_ok inX7 rfl wL_X7_11 wX_X7 wN_X7 dv7_ok hz dX7_of_0 ?_
  rw [ev_new_pk hz]
  refine e_dup dX7_of_3 rfl ?_
  refine e_invI (mcY := 8) (msY := 18) (ct_X7_init) vX7_init wM_X7_36 dX7_of_4 rfl rfl (Nat.le_of_ble_eq_true rfl) (Nat.le_of_ble_eq_true rfl) ?_
  rintro _ _ ⟨rfl, rfl⟩
  refine e_astore_n dX7_of_7 rfl (Nat.le_of_ble_eq_true rfl) ?_
  refine e_aload_n dX7_of_8 rfl rfl ?_
  refine e_iload_n dX7_of_9 rfl rfl ?_
  refine e_anewO8 (N := m) wL_X7_7 hx (by omega) rfl dX7_of_10 ?_
  rw [pk_new z _ a _ rfl]
  refine pk_p7_4 (j := 0) rfl rfl wF_X7_10 dX7_of_13 ?_
  refine e_aload_n dX7_of_16 rfl rfl ?_
  refine e_iload_n dX7_of_17 rfl rfl ?_
  refine e_iconst (v := 1) dX7_of_18 (by decide) ?_
  refine e_iadd dX7_of_19 ?_
  refine e_anewO10 (N := m + 1) wL_X7_16 hx1 (by omega) rfl dX7_of_20 ?_
  rw [pk_new z _ a _ rfl]
  refine pk_p7_5 (j := 0) rfl rfl wF_X7_19 dX7_of_23 ?_
  refine e_iconst (v := 0) dX7_of_26 (by decide) ?_
  refine e_istore_n dX7_of_27 rfl (Nat.le_of_ble_eq_true rfl) ?_
  refine lp_of1 (c := z) (h := a) (Nat.le_refl _) hx (by omega) ht (fun b hO y => ?_) m 0 0 _ (by omega) ar_0 ?_
  · refine e_iconst (v := 0) dX7_of_52 (by decide) ?_
    refine e_istore_n dX7_of_53 rfl (Nat.le_of_ble_eq_true rfl) ?_
    refine lp_of2 (c := z) (h := a) (Nat.le_refl _) hx (by omega) ht (fun b2 hO2 y2 => ?_) (m + 1) 0 0 _ (by omega) ar_0 hO
    refine e_aload_n dX7_of_78 rfl rfl ?_
    exact e_aret rfl (Or.inl ⟨_, rfl⟩) (Or.inr ⟨_, rfl⟩) dX7_of_79 ⟨rfl, hO2.2.1, hO2.1.trans (congrArg some (by omega)), hO2.lc hx (by omega) mI⟩
  · refine ⟨rfl, fun q e he => ?_, pk_at (j := 0) rfl, ⟨_, pk_at (j := 9) rfl, fun k hk => absurd hk (Nat.not_lt_zero _)⟩, ⟨_, pk_at (j := 10) rfl, fun k hk => absurd hk (Nat.not_lt_zero _)⟩, pk_at (j := 6) rfl, pk_at (j := 7) rfl, pk_at (j := 8) rfl, fun k hk => absurd hk (Nat.not_lt_zero _), fun k hk => absurd hk (Nat.not_lt_zero _)⟩
    have := ht q e he
    exact (if_neg (by omega)).trans he
end OFW
