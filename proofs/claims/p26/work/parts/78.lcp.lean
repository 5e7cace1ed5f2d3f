/-! with: one row more; copy -/
section LW
variable {G : ev_G} {l : Launch} {a : ev_H} {q r z N : Nat} {g : Nat → Nat} {xr : vp_A}
set_option maxRecDepth 20000 in
theorem lp_with {J : ev_K} {k n : Nat} (hr : aQ a (G.2.1 5) q N g) (hg : ∀ k, k < N → ∃ x, a.1 (g k) = some (.inl (G.2.1 0, x))) (hN : N ≤ 40) (ht : ∀ (q : Nat) (e : va_E), a.1 q = some e → q < z) (hk : ∀ (b : ev_H) (y : Int32), b.2 = some (z + 1) → sub a b → aP b (G.2.1 5) z (N + 1) N g → ev_V G l mL_with J 28 [some (.ref q), some (.ref r), some (.ref z), some (.int y)] [] b k n) : ∀ (m i : Nat) (y : Int32) (b : ev_H), m + i = N → y.toInt = (i : Int) → b.2 = some (z + 1) → sub a b → aP b (G.2.1 5) z (N + 1) i g → ev_V G l mL_with J 10 [some (.ref q), some (.ref r), some (.ref z), some (.int y)] [] b k n := by
  intro m
  induction m with
  | zero =>
    intro i y b hm hy h2 hs hp
    have e : i = N := by omega
    subst e
    obtain ⟨f, f1, f2⟩ := hs.xQ hr
    have hL : (Int32.ofNat i).toInt = (i : Int) := ar_of (by omega)
    refine e_iload_n dL_with_10 rfl rfl ?_
    refine e_aload_n dL_with_11 rfl rfl ?_
    refine e_alen (t0 := 5) f1 rfl rfl dL_with_12 ?_
    exact e_icmp_ge (tgt := 28) dL_with_13 (by decide) (fun _ => hk b y h2 hs hp) (fun c => absurd c (by show ¬ y.toInt < (Int32.ofNat i).toInt; omega))
  | succ m ih =>
    intro i y b hm hy h2 hs hp
    have hn : y.toInt.toNat = i := ar_nat hy
    obtain ⟨f, f1, f2⟩ := hs.xQ hr
    obtain ⟨f3, p1, p2⟩ := hp
    obtain ⟨x, gx⟩ := hg i (by omega)
    have hL : (Int32.ofNat N).toInt = (N : Int) := ar_of (by omega)
    refine e_iload_n dL_with_10 rfl rfl ?_
    refine e_aload_n dL_with_11 rfl rfl ?_
    refine e_alen (t0 := 5) f1 rfl rfl dL_with_12 ?_
    refine e_icmp_ge (tgt := 28) dL_with_13 (by decide) (fun c => absurd c (by show ¬ (Int32.ofNat N).toInt ≤ y.toInt; omega)) (fun _ => ?_)
    refine e_aload_n dL_with_16 rfl rfl ?_
    refine e_iload_n dL_with_17 rfl rfl ?_
    refine e_aload_n dL_with_18 rfl rfl ?_
    refine e_iload_n dL_with_19 rfl rfl ?_
    refine e_aald (t0 := 5) f1 rfl rfl (by omega) (by omega) dL_with_20 ?_
    rw [hn, f2 i (by omega)]
    refine e_aastA p1 (hs _ _ gx) (by omega) (by omega) dL_with_21 ?_
    refine e_iinc dL_with_22 rfl rfl (Nat.le_of_ble_eq_true rfl) ?_
    refine e_goto (tgt := 10) dL_with_25 (by decide) ?_
    refine ih (i + 1) _ _ (by omega) (ar_inc hy (by omega)) h2 (fun q0 e0 h0 => ?_) ⟨_, put_eq _ _ _, fun k hk => ?_⟩
    · rw [put_ne _ _ (by have := ht q0 e0 h0; omega)]
      exact hs q0 e0 h0
    · rw [hn]
      by_cases c : k = i
      · rw [c, ev_u_self]
      · rw [ev_u_ne _ _ c]
        exact p2 k (by omega)
set_option maxRecDepth 20000 in
theorem ct_L_with (hr : aQ a (G.2.1 5) q N g) (hg : ∀ k, k < N → ∃ x, a.1 (g k) = some (.inl (G.2.1 0, x))) (hrow : a.1 r = some (.inl (G.2.1 0, xr))) (hN : N ≤ 40) (hz : a.2 = some z) : ev_Ct G l mL_with 0 1 41 [.ref q, .ref r] a (fun v b => v = some (.ref z) ∧ sub a b ∧ b.2 = some (z + 1) ∧ aQ b (G.2.1 5) z (N + 1) (fun k => if k < N then g k else r)) (fun _ _ => False) := by
  refine ev_Ct.of (by decide +kernel) (Nat.le_of_ble_eq_true rfl) ?_
  refine e_top hz fun ht => ?_
  have hL : (Int32.ofNat N).toInt = (N : Int) := ar_of (by omega)
  have hL1 : (Int32.ofNat N + 1).toInt = ((N + 1 : Nat) : Int) := by have := ar_inc hL (by omega); rwa [ar_i1] at this
  obtain ⟨f, f1, f2⟩ := id hr
  refine e_wide (k0 := 0 + 1) (n0 := 0 + (N + 1)) (by omega) (by omega) ?_
  refine e_aload_n dL_with_0 rfl rfl ?_
  refine e_alen (t0 := 5) f1 rfl rfl dL_with_1 ?_
  refine e_iconst (v := 1) dL_with_2 (by decide) ?_
  refine e_iadd dL_with_3 ?_
  refine e_anewA (N := N + 1) wq_L_L_106 hL1 (by omega) hz dL_with_4 ?_
  refine e_astore_n dL_with_7 rfl (Nat.le_of_ble_eq_true rfl) ?_
  refine e_iconst (v := 0) dL_with_8 (by decide) ?_
  refine e_istore_n dL_with_9 rfl (Nat.le_of_ble_eq_true rfl) ?_
  refine lp_with hr hg hN ht (fun b y h2 hs hp => ?_) N 0 _ _ (by omega) ar_0 (new_2 _ _ hz) (sub.new _ ht) ⟨_, new_eq _ _ _, fun k hk => absurd hk (Nat.not_lt_zero _)⟩
  obtain ⟨f3, p1, p2⟩ := hp
  obtain ⟨f4, f5, f6⟩ := hs.xQ hr
  refine e_aload_n dL_with_28 rfl rfl ?_
  refine e_aload_n dL_with_29 rfl rfl ?_
  refine e_alen (t0 := 5) f5 rfl rfl dL_with_30 ?_
  refine e_aload_n dL_with_31 rfl rfl ?_
  refine e_aastA p1 (hs _ _ hrow) (by show 0 ≤ (Int32.ofNat N).toInt; omega) (by show (Int32.ofNat N).toInt < _; omega) dL_with_32 ?_
  refine e_aload_n dL_with_33 rfl rfl ?_
  refine e_aret (ty := .array (.array .int)) rfl (Or.inr ⟨_, rfl⟩) (Or.inr ⟨_, rfl⟩) dL_with_34 ⟨rfl, fun q0 e0 h0 => ?_, h2, ⟨_, put_eq _ _ _, fun k hk => ?_⟩⟩
  · rw [put_ne _ _ (by have := ht q0 e0 h0; omega)]
    exact hs q0 e0 h0
  · rw [ar_nat hL]
    show _ = some (if k < N then g k else r)
    by_cases c : k = N
    · rw [c, ev_u_self, if_neg (by omega)]
    · rw [ev_u_ne _ _ c, p2 k (by omega), if_pos (by omega)]
end LW
/-- another mass in the row -/
def lcM (B : Nat → Nat) (j zz k : Nat) : Nat := if k = j then zz else B k
theorem lcM_s (B : Nat → Nat) (j zz : Nat) : lcM B j zz j = zz := if_pos rfl
theorem lcM_o (B : Nat → Nat) {j zz k : Nat} (h : k ≠ j) : lcM B j zz k = B k := if_neg h
def cpM (σ τ : CS) (i : Nat) : CS := (τ.1, τ.2.1, fun w k => if w < 3 ∧ k < i then σ.2.2 w k else τ.2.2 w k)
def cpS (σ τ : CS) (i : Nat) : CS := (τ.1, τ.2.1, fun w k => if (3 ≤ w ∧ w < 6) ∧ k < i then σ.2.2 w k else τ.2.2 w k)
theorem LC.wq1 {G : ev_G} {a : ev_H} {A : Nat → Nat} {σ σ' : CS} {n : Nat} {m : Nat → TI} (h : LC G a A σ n m) {j zz : Nat} (hj : j < sNm σ) (hN : sNm σ ≤ 12) (hn : n ≤ 20) (D2 : A 2 ≠ A 1) (D3 : A 3 ≠ A 1) (D4 : A 4 ≠ A 1) (hzz : ∀ (q : Nat) (e : va_E), a.1 q = some e → q < zz) {f : Nat → Option Nat} (hf : ∀ k, k < sNm σ → f k = some (A (10 + k))) (h1 : σ'.1 = σ.1) (h2 : σ'.2.1 = σ.2.1) (h3 : ∀ w k, w < 3 → k ≠ j → σ'.2.2 w k = σ.2.2 w k) (h4 : ∀ w k, 3 ≤ w → σ'.2.2 w k = σ.2.2 w k) : LC G (ev_put (ev_new a zz (lmE σ' j)) (A 1) (.inl (G.2.1 7, sNm σ, .inr (.inr (.inr (.inr (ev_u f j (some zz)))))))) (lcM A (10 + j) zz) σ' n m := by
  have eN : sNm σ' = sNm σ := by unfold sNm; rw [h1]
  have eP : sPn σ' = sPn σ := by unfold sPn; rw [h1]
  obtain ⟨⟨g0, g1, g2, g3, g4, g5⟩, ⟨g6, g7⟩, ⟨g8, g9⟩, g10⟩ := h
  obtain ⟨f0, x1, x2⟩ := g1
  have up : ∀ {q : Nat} {e : va_E}, a.1 q = some e → kd e ≠ 101 → (ev_put (ev_new a zz (lmE σ' j)) (A 1) (.inl (G.2.1 7, sNm σ, .inr (.inr (.inr (.inr (ev_u f j (some zz)))))))).1 q = some e := fun {q e} he hk => by
    rw [put_ne _ _ (kd_ne he x1 hk), new_ne _ _ (by have := hzz _ _ he; omega)]
    exact he
  have c1 := hzz _ _ x1
  have upQ : ∀ {c : ClassId} {q N : Nat} {gg : Nat → Nat}, aQ a c q N gg → q ≠ A 1 → aQ (ev_put (ev_new a zz (lmE σ' j)) (A 1) (.inl (G.2.1 7, sNm σ, .inr (.inr (.inr (.inr (ev_u f j (some zz)))))))) c q N gg := fun {c q N gg} ⟨f, y1, y2⟩ hq => ⟨f, by rw [put_ne _ _ hq, new_ne _ _ (by have := hzz _ _ y1; omega)]; exact y1, y2⟩
  have oM : ∀ k, k ≠ 10 + j → lcM A (10 + j) zz k = A k := fun k hk => lcM_o A hk
  exact ⟨⟨by
      rw [oM 0 (by omega)]
      have e : lcE (lcM A (10 + j) zz) σ' = lcE A σ := by unfold lcE; rw [h1, oM 1 (by omega), oM 2 (by omega), oM 3 (by omega), oM 4 (by omega), oM 5 (by omega)]
      rw [e]; exact up g0 (by show (7 : Nat) ≠ 101; omega), by
      rw [oM 1 (by omega), eN]
      refine ⟨_, put_eq _ _ _, fun k hk => ?_⟩
      by_cases c : k = j
      · subst c; rw [ev_u_self]; exact congrArg some (lcM_s A _ zz).symm
      · rw [ev_u_ne _ _ c, hf k hk]; exact congrArg some (oM _ (by omega)).symm, by
      rw [oM 2 (by omega), eN]
      exact (upQ g2 D2).nth fun k hk => oM _ (by omega), by
      rw [oM 3 (by omega)]
      exact (upQ g3 D3).nth fun k hk => oM _ (by omega), by
      rw [oM 4 (by omega), eP]
      exact (upQ g4 D4).nth fun k hk => oM _ (by omega), by
      rw [oM 5 (by omega)]
      obtain ⟨f5, y1, y2⟩ := g5.nth (acJ_congr (σ := σ) (τ := σ') (fun k _ => by rw [h2]))
      exact ⟨f5, up y1 (by show (100 : Nat) ≠ 101; omega), y2⟩⟩, ⟨fun k hk => by
      rw [eN] at hk
      by_cases c : k = j
      · subst c
        rw [lcM_s, put_ne _ _ (by omega)]
        exact new_eq _ _ _
      · rw [oM _ (by omega)]
        have e : lmE σ' k = lmE σ k := by unfold lmE; rw [h3 0 k (by omega) c, h3 1 k (by omega) c, h3 2 k (by omega) c]
        rw [e]; exact up (g6 k hk) (by show (8 : Nat) ≠ 101; omega), fun k hk => by
      rw [eN] at hk
      rw [oM _ (by omega)]
      have e : lsE σ' k = lsE σ k := by unfold lsE; rw [h4 3 k (by omega), h4 4 k (by omega), h4 5 k (by omega)]
      rw [e]; exact up (g7 k hk) (by show (10 : Nat) ≠ 101; omega)⟩, ⟨fun k hk => by
      rw [oM _ (by omega)]
      obtain ⟨f5, y1, y2⟩ := g8 k hk
      exact ⟨f5, up y1 (by show (200 + 3 : Nat) ≠ 101; omega), y2⟩, fun k hk => by
      rw [eP] at hk
      rw [oM _ (by omega)]
      obtain ⟨f5, y1, y2⟩ := g9 k hk
      exact ⟨f5, up y1 (by show (200 + 2 : Nat) ≠ 101; omega), fun i hi => by rw [y2 i hi]; unfold paF; rw [h4 10 k (by omega), h4 11 k (by omega)]⟩⟩, fun i k hi hk e => by
      rw [eN] at hi hk
      by_cases c1 : i = j <;> by_cases c2 : k = j
      · omega
      · rw [c1, lcM_s, oM _ (by omega)] at e
        have := hzz _ _ (g6 k hk); omega
      · rw [c2, lcM_s, oM _ (by omega)] at e
        have := hzz _ _ (g6 i hi); omega
      · rw [oM _ (by omega), oM _ (by omega)] at e
        exact g10.1 i k hi hk e, fun i k hi hk e => by
      rw [eN] at hi hk
      rw [oM _ (by omega), oM _ (by omega)] at e
      exact g10.2.1 i k hi hk e, fun i k hi hk e => by
      rw [eP] at hi hk
      rw [oM _ (by omega), oM _ (by omega)] at e
      exact g10.2.2 i k hi hk e⟩
theorem LC.wq2 {G : ev_G} {a : ev_H} {A : Nat → Nat} {σ σ' : CS} {n : Nat} {m : Nat → TI} (h : LC G a A σ n m) {j zz : Nat} (hj : j < sNm σ + 1) (hN : sNm σ ≤ 12) (hn : n ≤ 20) (D1 : A 1 ≠ A 2) (D3 : A 3 ≠ A 2) (D4 : A 4 ≠ A 2) (hzz : ∀ (q : Nat) (e : va_E), a.1 q = some e → q < zz) {f : Nat → Option Nat} (hf : ∀ k, k < sNm σ + 1 → f k = some (A (30 + k))) (h1 : σ'.1 = σ.1) (h2 : σ'.2.1 = σ.2.1) (h3 : ∀ w k, 3 ≤ w → w < 6 → k ≠ j → σ'.2.2 w k = σ.2.2 w k) (h4 : ∀ w k, (w < 3 ∨ 6 ≤ w) → σ'.2.2 w k = σ.2.2 w k) : LC G (ev_put (ev_new a zz (lsE σ' j)) (A 2) (.inl (G.2.1 8, sNm σ + 1, .inr (.inr (.inr (.inr (ev_u f j (some zz)))))))) (lcM A (30 + j) zz) σ' n m := by
  have eN : sNm σ' = sNm σ := by unfold sNm; rw [h1]
  have eP : sPn σ' = sPn σ := by unfold sPn; rw [h1]
  obtain ⟨⟨g0, g1, g2, g3, g4, g5⟩, ⟨g6, g7⟩, ⟨g8, g9⟩, g10⟩ := h
  obtain ⟨f0, x1, x2⟩ := g2
  have up : ∀ {q : Nat} {e : va_E}, a.1 q = some e → kd e ≠ 101 → (ev_put (ev_new a zz (lsE σ' j)) (A 2) (.inl (G.2.1 8, sNm σ + 1, .inr (.inr (.inr (.inr (ev_u f j (some zz)))))))).1 q = some e := fun {q e} he hk => by
    rw [put_ne _ _ (kd_ne he x1 hk), new_ne _ _ (by have := hzz _ _ he; omega)]
    exact he
  have c1 := hzz _ _ x1
  have upQ : ∀ {c : ClassId} {q N : Nat} {gg : Nat → Nat}, aQ a c q N gg → q ≠ A 2 → aQ (ev_put (ev_new a zz (lsE σ' j)) (A 2) (.inl (G.2.1 8, sNm σ + 1, .inr (.inr (.inr (.inr (ev_u f j (some zz)))))))) c q N gg := fun {c q N gg} ⟨f, y1, y2⟩ hq => ⟨f, by rw [put_ne _ _ hq, new_ne _ _ (by have := hzz _ _ y1; omega)]; exact y1, y2⟩
  have oM : ∀ k, k ≠ 30 + j → lcM A (30 + j) zz k = A k := fun k hk => lcM_o A hk
  exact ⟨⟨by
      rw [oM 0 (by omega)]
      have e : lcE (lcM A (30 + j) zz) σ' = lcE A σ := by unfold lcE; rw [h1, oM 1 (by omega), oM 2 (by omega), oM 3 (by omega), oM 4 (by omega), oM 5 (by omega)]
      rw [e]; exact up g0 (by show (7 : Nat) ≠ 101; omega), by
      rw [oM 1 (by omega), eN]
      exact (upQ g1 D1).nth fun k hk => oM _ (by omega), by
      rw [oM 2 (by omega), eN]
      refine ⟨_, put_eq _ _ _, fun k hk => ?_⟩
      by_cases c : k = j
      · subst c; rw [ev_u_self]; exact congrArg some (lcM_s A _ zz).symm
      · rw [ev_u_ne _ _ c, hf k hk]; exact congrArg some (oM _ (by omega)).symm, by
      rw [oM 3 (by omega)]
      exact (upQ g3 D3).nth fun k hk => oM _ (by omega), by
      rw [oM 4 (by omega), eP]
      exact (upQ g4 D4).nth fun k hk => oM _ (by omega), by
      rw [oM 5 (by omega)]
      obtain ⟨f5, y1, y2⟩ := g5.nth (acJ_congr (σ := σ) (τ := σ') (fun k _ => by rw [h2]))
      exact ⟨f5, up y1 (by show (100 : Nat) ≠ 101; omega), y2⟩⟩, ⟨fun k hk => by
      rw [eN] at hk
      rw [oM _ (by omega)]
      have e : lmE σ' k = lmE σ k := by unfold lmE; rw [h4 0 k (by omega), h4 1 k (by omega), h4 2 k (by omega)]
      rw [e]; exact up (g6 k hk) (by show (8 : Nat) ≠ 101; omega), fun k hk => by
      rw [eN] at hk
      by_cases c : k = j
      · subst c
        rw [lcM_s, put_ne _ _ (by omega)]
        exact new_eq _ _ _
      · rw [oM _ (by omega)]
        have e : lsE σ' k = lsE σ k := by unfold lsE; rw [h3 3 k (by omega) (by omega) c, h3 4 k (by omega) (by omega) c, h3 5 k (by omega) (by omega) c]
        rw [e]; exact up (g7 k hk) (by show (10 : Nat) ≠ 101; omega)⟩, ⟨fun k hk => by
      rw [oM _ (by omega)]
      obtain ⟨f5, y1, y2⟩ := g8 k hk
      exact ⟨f5, up y1 (by show (200 + 3 : Nat) ≠ 101; omega), y2⟩, fun k hk => by
      rw [eP] at hk
      rw [oM _ (by omega)]
      obtain ⟨f5, y1, y2⟩ := g9 k hk
      exact ⟨f5, up y1 (by show (200 + 2 : Nat) ≠ 101; omega), fun i hi => by rw [y2 i hi]; unfold paF; rw [h4 10 k (by omega), h4 11 k (by omega)]⟩⟩, fun i k hi hk e => by
      rw [eN] at hi hk
      rw [oM _ (by omega), oM _ (by omega)] at e
      exact g10.1 i k hi hk e, fun i k hi hk e => by
      rw [eN] at hi hk
      by_cases c1 : i = j <;> by_cases c2 : k = j
      · omega
      · rw [c1, lcM_s, oM _ (by omega)] at e
        have := hzz _ _ (g7 k hk); omega
      · rw [c2, lcM_s, oM _ (by omega)] at e
        have := hzz _ _ (g7 i hi); omega
      · rw [oM _ (by omega), oM _ (by omega)] at e
        exact g10.2.1 i k hi hk e, fun i k hi hk e => by
      rw [eP] at hi hk
      rw [oM _ (by omega), oM _ (by omega)] at e
      exact g10.2.2 i k hi hk e⟩
theorem cpM_up (σ τ : CS) (i : Nat) : (∀ w k, w < 3 → k ≠ i → (cpM σ τ (i + 1)).2.2 w k = (cpM σ τ i).2.2 w k) ∧ (∀ w k, 3 ≤ w → (cpM σ τ (i + 1)).2.2 w k = (cpM σ τ i).2.2 w k) ∧ lmE (cpM σ τ (i + 1)) i = lmE σ i := by
  refine ⟨fun w k hw hk => ?_, fun w k hw => ?_, ?_⟩
  · show (if w < 3 ∧ k < i + 1 then _ else _) = (if w < 3 ∧ k < i then _ else _)
    by_cases c : k < i
    · rw [if_pos (by omega), if_pos (by omega)]
    · rw [if_neg (by omega), if_neg (by omega)]
  · show (if w < 3 ∧ k < i + 1 then _ else _) = (if w < 3 ∧ k < i then _ else _)
    rw [if_neg (by omega), if_neg (by omega)]
  · have e : ∀ w, w < 3 → (cpM σ τ (i + 1)).2.2 w i = σ.2.2 w i := fun w hw => if_pos (by omega)
    unfold lmE
    rw [e 0 (by omega), e 1 (by omega), e 2 (by omega)]
theorem cpS_up (σ τ : CS) (i : Nat) : (∀ w k, 3 ≤ w → w < 6 → k ≠ i → (cpS σ τ (i + 1)).2.2 w k = (cpS σ τ i).2.2 w k) ∧ (∀ w k, (w < 3 ∨ 6 ≤ w) → (cpS σ τ (i + 1)).2.2 w k = (cpS σ τ i).2.2 w k) ∧ lsE (cpS σ τ (i + 1)) i = lsE σ i := by
  refine ⟨fun w k hw hw2 hk => ?_, fun w k hw => ?_, ?_⟩
  · show (if (3 ≤ w ∧ w < 6) ∧ k < i + 1 then _ else _) = (if (3 ≤ w ∧ w < 6) ∧ k < i then _ else _)
    by_cases c : k < i
    · rw [if_pos (by omega), if_pos (by omega)]
    · rw [if_neg (by omega), if_neg (by omega)]
  · show (if (3 ≤ w ∧ w < 6) ∧ k < i + 1 then _ else _) = (if (3 ≤ w ∧ w < 6) ∧ k < i then _ else _)
    rw [if_neg (by omega), if_neg (by omega)]
  · have e : ∀ w, 3 ≤ w → w < 6 → (cpS σ τ (i + 1)).2.2 w i = σ.2.2 w i := fun w hw hw2 => if_pos (by omega)
    unfold lsE
    rw [e 3 (by omega) (by omega), e 4 (by omega) (by omega), e 5 (by omega) (by omega)]
theorem cpM_0 (σ τ : CS) : cpM σ τ 0 = τ := by
  refine Prod.ext rfl (Prod.ext rfl (funext fun w => funext fun k => ?_))
  show (if w < 3 ∧ k < 0 then _ else _) = _
  rw [if_neg (by omega)]
theorem cpS_0 (σ τ : CS) : cpS σ τ 0 = τ := by
  refine Prod.ext rfl (Prod.ext rfl (funext fun w => funext fun k => ?_))
  show (if (3 ≤ w ∧ w < 6) ∧ k < 0 then _ else _) = _
  rw [if_neg (by omega)]
/-- the copy as it grows: all that a had is still there; the new cells lie from z on -/
def CPI (G : ev_G) (a c : ev_H) (z m : Nat) (B : Nat → Nat) (τ : CS) (mI : Nat → TI) : Prop := sub a c ∧ LC G c B τ 0 mI ∧ (∀ k, k < 6 → B k = ofA z m k) ∧ ∀ k, z ≤ B k
theorem pn_2 {a : ev_H} {z z9 z' q0 : Nat} {e e' : va_E} (h : a.2 = some z) (hz : z' = z + 1) : (ev_put (ev_new a z9 e) q0 e').2 = some z' := by
  show a.2.map (· + 1) = _
  rw [h, hz]; rfl
theorem lc_h4 {G : ev_G} {l : Launch} {M : ev_M} {J : ev_K} {pc k n idx q : Nat} {L : List (Option Value)} {st : List Value} {a : ev_H} {A : Nat → Nat} {σ : CS} {nI : Nat} {mI : Nat → TI} (hC : LC G a A σ nI mI) (hq : q = A 0) (hw : Cond.fieldLink M.1.cls idx "SpringChainLaw$Chain" "masses" "[LSpringChainLaw$Mass;" ∈ ev_ws) (hd : decode M.2.1 pc = .ok (.getfield idx, 3)) (k0 : ev_V G l M J (pc + 3) L (.ref (A 1) :: st) a k n) : ev_V G l M J pc L (.ref q :: st) a k n := by
  subst hq
  exact lc_g4 hC hw hd k0
theorem lc_h5 {G : ev_G} {l : Launch} {M : ev_M} {J : ev_K} {pc k n idx q : Nat} {L : List (Option Value)} {st : List Value} {a : ev_H} {A : Nat → Nat} {σ : CS} {nI : Nat} {mI : Nat → TI} (hC : LC G a A σ nI mI) (hq : q = A 0) (hw : Cond.fieldLink M.1.cls idx "SpringChainLaw$Chain" "springs" "[LSpringChainLaw$Spring;" ∈ ev_ws) (hd : decode M.2.1 pc = .ok (.getfield idx, 3)) (k0 : ev_V G l M J (pc + 3) L (.ref (A 2) :: st) a k n) : ev_V G l M J pc L (.ref q :: st) a k n := by
  subst hq
  exact lc_g5 hC hw hd k0
section CPW
variable {G : ev_G} {l : Launch} {a : ev_H} {A : Nat → Nat} {σ τ : CS} {nI z : Nat} {mI : Nat → TI}
set_option maxRecDepth 20000 in
theorem lp_cpm {J : ev_K} {k n : Nat} (hJ : 3 ≤ J.2.2.1) (hC : LC G a A σ nI mI) (hv : sInv σ) (hnI : nI ≤ 20) (hτ : sNm τ = sNm σ) (ht : ∀ (q : Nat) (e : va_E), a.1 q = some e → q < z) (hk : ∀ (c : ev_H) (B : Nat → Nat) (y : Int32), c.2 = some (z + 12 + 2 * sNm σ + (sNm σ)) → CPI G a c z (sNm σ) B (cpM σ τ (sNm σ)) mI → ev_V G l mX7_copy J 73 [some (.ref (A 0)), some (.ref z), some (.int y)] [] c k n) : ∀ (r i : Nat) (y : Int32) (c : ev_H) (B : Nat → Nat), r + i = sNm σ → y.toInt = (i : Int) → c.2 = some (z + 12 + 2 * sNm σ + i) → CPI G a c z (sNm σ) B (cpM σ τ i) mI → ev_V G l mX7_copy J 43 [some (.ref (A 0)), some (.ref z), some (.int y)] [] c (k + r) (n + 3 * r) := by
  intro r
  induction r with
  | zero =>
    intro i y c B hr hy hz hI
    have hmn := hv.1.nat
    have hmu : (σ.1 0).toInt = (sNm σ : Int) := hmn.1.symm
    have hM : (Int32.ofNat (sNm σ + 1)).toInt = ((sNm σ + 1 : Nat) : Int) := ar_of (by omega)
    obtain ⟨hs, hD, hB5, hBz⟩ := id hI
    have hO := hC.mono hs
    refine e_iload_n dX7_copy_43 rfl rfl ?_
    refine e_aload_n dX7_copy_44 rfl rfl ?_
    refine lc_g4 hO wF_X7_10 dX7_copy_45 ?_
    refine lc_n1 hO hv dX7_copy_48 ?_
    obtain rfl : i = sNm σ := by omega
    exact e_icmp_ge (tgt := 73) dX7_copy_49 (by decide) (fun _ => hk c B y hz hI) (fun c9 => absurd c9 (by omega))
  | succ r ih =>
    intro i y c B hr hy hz hI
    have hmn := hv.1.nat
    have hmu : (σ.1 0).toInt = (sNm σ : Int) := hmn.1.symm
    have hM : (Int32.ofNat (sNm σ + 1)).toInt = ((sNm σ + 1 : Nat) : Int) := ar_of (by omega)
    obtain ⟨hs, hD, hB5, hBz⟩ := id hI
    have hO := hC.mono hs
    refine e_iload_n dX7_copy_43 rfl rfl ?_
    refine e_aload_n dX7_copy_44 rfl rfl ?_
    refine lc_g4 hO wF_X7_10 dX7_copy_45 ?_
    refine lc_n1 hO hv dX7_copy_48 ?_
    have hi : i < sNm σ := by omega
    have hn : y.toInt.toNat = i := ar_nat hy
    refine e_icmp_ge (tgt := 73) dX7_copy_49 (by decide) (fun c9 => absurd c9 (by omega)) (fun _ => ?_)
    refine e_top hz fun hct => ?_
    refine e_aload_n dX7_copy_52 rfl rfl ?_
    refine lc_h4 hD (hB5 0 (by omega)).symm wF_X7_10 dX7_copy_53 ?_
    refine e_iload_n dX7_copy_56 rfl rfl ?_
    refine e_aload_n dX7_copy_57 rfl rfl ?_
    refine lc_g4 hO wF_X7_10 dX7_copy_58 ?_
    refine e_iload_n dX7_copy_61 rfl rfl ?_
    refine lc_q1 hO hy hi dX7_copy_62 ?_
    refine e_wide (k0 := (k + r) + 1) (n0 := (n + 3 * r) + 3) (by omega) (by omega) ?_
    refine e_invV (ci := 8) (mcY := 1) (msY := 3) (ct_X8_copy hz (hO.2.1.1 i hi)) vX8_copy wM_X7_54 (hO.2.1.1 i hi) rfl dX7_copy_63 rfl rfl (Nat.le_of_ble_eq_true rfl) (Nat.le_trans (Nat.le_of_ble_eq_true rfl) hJ) ?_
    rintro _ _ ⟨rfl, rfl⟩
    obtain ⟨f, x1, x2⟩ := hD.1.2.1
    have hb1 := hct _ _ x1
    have eq0 := (cpM_up σ τ i)
    have eN : sNm (cpM σ τ i) = sNm σ := hτ
    refine e_aastO (t0 := 7) (ci := 8) ((new_ne _ _ (by omega)).trans x1) rfl rfl (new_eq _ _ _) (by omega) (by rw [eN]; omega) dX7_copy_66 ?_
    rw [hn]
    refine e_iinc dX7_copy_67 rfl rfl (Nat.le_of_ble_eq_true rfl) ?_
    refine e_goto (tgt := 43) dX7_copy_70 (by decide) ?_
    have q := hD.wq1 (σ' := cpM σ τ (i + 1)) (j := i) (zz := z + 12 + 2 * sNm σ + i) (by rw [eN]; omega) (by rw [eN]; omega) (by omega) (by rw [hB5 2 (by omega), hB5 1 (by omega)]; show z + 10 ≠ z + 9; omega) (by rw [hB5 3 (by omega), hB5 1 (by omega)]; show z + 6 ≠ z + 9; omega) (by rw [hB5 4 (by omega), hB5 1 (by omega)]; show z + 7 ≠ z + 9; omega) hct x2 rfl rfl eq0.1 eq0.2.1
    rw [eq0.2.2] at q
    refine ih (i + 1) _ _ (lcM B (10 + i) (z + 12 + 2 * sNm σ + i)) (by omega) (ar_inc hy (by omega)) (pn_2 hz (by omega)) ⟨fun q0 e0 h0 => ?_, q, fun k hk => ?_, fun k => ?_⟩
    · have h1 := ht q0 e0 h0
      have h2 := hBz 1
      rw [put_ne _ _ (by omega), new_ne _ _ (by omega)]
      exact hs q0 e0 h0
    · rw [lcM_o B (by omega)]; exact hB5 k hk
    · unfold lcM
      split
      · omega
      · exact hBz k
set_option maxRecDepth 20000 in
theorem lp_cps {J : ev_K} {k n : Nat} (hJ : 3 ≤ J.2.2.1) (hC : LC G a A σ nI mI) (hv : sInv σ) (hb : RBs σ) (hnI : nI ≤ 20) (hτ : sNm τ = sNm σ) (ht : ∀ (q : Nat) (e : va_E), a.1 q = some e → q < z) (hk : ∀ (c : ev_H) (B : Nat → Nat) (y : Int32), c.2 = some (z + 12 + 3 * sNm σ + (sNm σ + 1)) → CPI G a c z (sNm σ) B (cpS σ τ (sNm σ + 1)) mI → ev_V G l mX7_copy J 105 [some (.ref (A 0)), some (.ref z), some (.int y)] [] c k n) : ∀ (r i : Nat) (y : Int32) (c : ev_H) (B : Nat → Nat), r + i = sNm σ + 1 → y.toInt = (i : Int) → c.2 = some (z + 12 + 3 * sNm σ + i) → CPI G a c z (sNm σ) B (cpS σ τ i) mI → ev_V G l mX7_copy J 75 [some (.ref (A 0)), some (.ref z), some (.int y)] [] c (k + r) (n + 3 * r) := by
  intro r
  induction r with
  | zero =>
    intro i y c B hr hy hz hI
    have hmn := hv.1.nat
    have hmu : (σ.1 0).toInt = (sNm σ : Int) := hmn.1.symm
    have hM : (Int32.ofNat (sNm σ + 1)).toInt = ((sNm σ + 1 : Nat) : Int) := ar_of (by omega)
    obtain ⟨hs, hD, hB5, hBz⟩ := id hI
    have hO := hC.mono hs
    refine e_iload_n dX7_copy_75 rfl rfl ?_
    refine e_aload_n dX7_copy_76 rfl rfl ?_
    refine lc_g5 hO wF_X7_19 dX7_copy_77 ?_
    refine lc_n2 hO dX7_copy_80 ?_
    obtain rfl : i = sNm σ + 1 := by omega
    exact e_icmp_ge (tgt := 105) dX7_copy_81 (by decide) (fun _ => hk c B y hz hI) (fun c9 => absurd c9 (by omega))
  | succ r ih =>
    intro i y c B hr hy hz hI
    have hmn := hv.1.nat
    have hmu : (σ.1 0).toInt = (sNm σ : Int) := hmn.1.symm
    have hM : (Int32.ofNat (sNm σ + 1)).toInt = ((sNm σ + 1 : Nat) : Int) := ar_of (by omega)
    obtain ⟨hs, hD, hB5, hBz⟩ := id hI
    have hO := hC.mono hs
    refine e_iload_n dX7_copy_75 rfl rfl ?_
    refine e_aload_n dX7_copy_76 rfl rfl ?_
    refine lc_g5 hO wF_X7_19 dX7_copy_77 ?_
    refine lc_n2 hO dX7_copy_80 ?_
    have hi : i < sNm σ + 1 := by omega
    have hn : y.toInt.toNat = i := ar_nat hy
    refine e_icmp_ge (tgt := 105) dX7_copy_81 (by decide) (fun c9 => absurd c9 (by omega)) (fun _ => ?_)
    refine e_top hz fun hct => ?_
    refine e_aload_n dX7_copy_84 rfl rfl ?_
    refine lc_h5 hD (hB5 0 (by omega)).symm wF_X7_19 dX7_copy_85 ?_
    refine e_iload_n dX7_copy_88 rfl rfl ?_
    refine e_aload_n dX7_copy_89 rfl rfl ?_
    refine lc_g5 hO wF_X7_19 dX7_copy_90 ?_
    refine e_iload_n dX7_copy_93 rfl rfl ?_
    refine lc_q2 hO hy hi dX7_copy_94 ?_
    refine e_wide (k0 := (k + r) + 1) (n0 := (n + 3 * r) + 3) (by omega) (by omega) ?_
    refine e_invV (ci := 10) (mcY := 1) (msY := 3) (ct_X10_copy hz (hO.2.1.2 i hi) (by have h5 := (hb.2.2.2 i (by omega)).2.2; rcases h5 with h5 | h5 <;> rw [h5] <;> rfl) (by have h5 := (hb.2.2.2 i (by omega)).2.2; rcases h5 with h5 | h5 <;> rw [h5] <;> rfl)) vX10_copy wM_X7_58 (hO.2.1.2 i hi) rfl dX7_copy_95 rfl rfl (Nat.le_of_ble_eq_true rfl) (Nat.le_trans (Nat.le_of_ble_eq_true rfl) hJ) ?_
    rintro _ _ ⟨rfl, rfl⟩
    obtain ⟨f, x1, x2⟩ := hD.1.2.2.1
    have hb1 := hct _ _ x1
    have eq0 := (cpS_up σ τ i)
    have eN : sNm (cpS σ τ i) = sNm σ := hτ
    refine e_aastO (t0 := 8) (ci := 10) ((new_ne _ _ (by omega)).trans x1) rfl rfl (new_eq _ _ _) (by omega) (by rw [eN]; omega) dX7_copy_98 ?_
    rw [hn]
    refine e_iinc dX7_copy_99 rfl rfl (Nat.le_of_ble_eq_true rfl) ?_
    refine e_goto (tgt := 75) dX7_copy_102 (by decide) ?_
    have q := hD.wq2 (σ' := cpS σ τ (i + 1)) (j := i) (zz := z + 12 + 3 * sNm σ + i) (by rw [eN]; omega) (by rw [eN]; omega) (by omega) (by rw [hB5 1 (by omega), hB5 2 (by omega)]; show z + 9 ≠ z + 10; omega) (by rw [hB5 3 (by omega), hB5 2 (by omega)]; show z + 6 ≠ z + 10; omega) (by rw [hB5 4 (by omega), hB5 2 (by omega)]; show z + 7 ≠ z + 10; omega) hct x2 rfl rfl eq0.1 eq0.2.1
    rw [eq0.2.2] at q
    refine ih (i + 1) _ _ (lcM B (30 + i) (z + 12 + 3 * sNm σ + i)) (by omega) (ar_inc hy (by omega)) (pn_2 hz (by omega)) ⟨fun q0 e0 h0 => ?_, q, fun k hk => ?_, fun k => ?_⟩
    · have h1 := ht q0 e0 h0
      have h2 := hBz 2
      rw [put_ne _ _ (by omega), new_ne _ _ (by omega)]
      exact hs q0 e0 h0
    · rw [lcM_o B (by omega)]; exact hB5 k hk
    · unfold lcM
      split
      · omega
      · exact hBz k
set_option maxRecDepth 20000 in
theorem lp_cpp {J : ev_K} {k n : Nat} (hJ : 1 ≤ J.2.2.1) (hC : LC G a A σ nI mI) (hv : sInv σ) (ht : ∀ (q : Nat) (e : va_E), a.1 q = some e → q < z) {c5 : ev_H} {B : Nat → Nat} {ρ : CS} {zz : Nat} (hzz : z ≤ zz) (hB0 : z ≤ B 0) (hBz : B 0 < zz) (ht5 : ∀ (q : Nat) (e : va_E), c5.1 q = some e → q < zz) (hk : ∀ (c : ev_H) (y : Int32), c.2 = some (zz + 1 + sPn σ) → sub a c → (∀ (q : Nat) (e : va_E), c5.1 q = some e → q ≠ B 0 → c.1 q = some e) → c.1 (B 0) = some (.inr (7, [.int (ρ.1 1), .int (ρ.1 3), .int (ρ.1 4), .int (ρ.1 2), .ref (B 1), .ref (B 2), .ref (B 3), .ref zz, .ref (B 5)])) → aP c (G.2.1 5) zz (sPn σ) (sPn σ) (fun k => zz + 1 + k) → (∀ k, k < sPn σ → aI c (G.2.1 0) (zz + 1 + k) 2 (paF σ k)) → ev_V G l mX7_copy J 160 [some (.ref (A 0)), some (.ref (B 0)), some (.int y)] [] c k n) : ∀ (r i : Nat) (y : Int32) (c : ev_H), r + i = sPn σ → y.toInt = (i : Int) → c.2 = some (zz + 1 + i) → sub a c → (∀ (q : Nat) (e : va_E), c5.1 q = some e → q ≠ B 0 → c.1 q = some e) → c.1 (B 0) = some (.inr (7, [.int (ρ.1 1), .int (ρ.1 3), .int (ρ.1 4), .int (ρ.1 2), .ref (B 1), .ref (B 2), .ref (B 3), .ref zz, .ref (B 5)])) → aP c (G.2.1 5) zz (sPn σ) i (fun k => zz + 1 + k) → (∀ k, k < i → aI c (G.2.1 0) (zz + 1 + k) 2 (paF σ k)) → ev_V G l mX7_copy J 127 [some (.ref (A 0)), some (.ref (B 0)), some (.int y)] [] c (k + r) (n + 2 * r) := by
  intro r
  induction r with
  | zero =>
    intro i y c hr hy hz hs h5 hE hP hR
    have hO := hC.mono hs
    have hpn := hv.2.2.2.2
    have hpe : (σ.1 6).toInt = (sPn σ : Int) := by unfold sPn; omega
    refine e_iload_n dX7_copy_127 rfl rfl ?_
    refine e_aload_n dX7_copy_128 rfl rfl ?_
    refine lc_g7 hO wF_X7_29 dX7_copy_129 ?_
    refine lc_n4 hO hv dX7_copy_132 ?_
    obtain rfl : i = sPn σ := by omega
    exact e_icmp_ge (tgt := 160) dX7_copy_133 (by decide) (fun _ => hk c y hz hs h5 hE hP hR) (fun c9 => absurd c9 (by omega))
  | succ r ih =>
    intro i y c hr hy hz hs h5 hE hP hR
    have hO := hC.mono hs
    have hpn := hv.2.2.2.2
    have hpe : (σ.1 6).toInt = (sPn σ : Int) := by unfold sPn; omega
    refine e_iload_n dX7_copy_127 rfl rfl ?_
    refine e_aload_n dX7_copy_128 rfl rfl ?_
    refine lc_g7 hO wF_X7_29 dX7_copy_129 ?_
    refine lc_n4 hO hv dX7_copy_132 ?_
    have hi : i < sPn σ := by omega
    have hn : y.toInt.toNat = i := ar_nat hy
    refine e_icmp_ge (tgt := 160) dX7_copy_133 (by decide) (fun c9 => absurd c9 (by omega)) (fun _ => ?_)
    refine e_top hz fun hct => ?_
    refine e_aload_n dX7_copy_136 rfl rfl ?_
    refine e_getf (C := RX7) (T := TX7) (N := 9) (ci := 7) 7 inX7 rfl hE (by decide) wF_X7_29 rfl dX7_copy_137 ?_
    refine e_iload_n dX7_copy_140 rfl rfl ?_
    refine e_aload_n dX7_copy_141 rfl rfl ?_
    refine lc_g7 hO wF_X7_29 dX7_copy_142 ?_
    refine e_iload_n dX7_copy_145 rfl rfl ?_
    refine lc_q4 hO hy hi dX7_copy_146 ?_
    obtain ⟨f, x1, x2⟩ := hO.2.2.1.2 i hi
    obtain ⟨fp, p1, p2⟩ := hP
    have hb1 := hct _ _ p1
    refine e_wide (k0 := (k + r) + 1) (n0 := (n + 2 * r) + 2) (by omega) (by omega) ?_
    refine e_cloneI x1 hz wq_link_61 wq_same_I wq_nat wq_inst wq_sel_I wq_cast_I (Nat.le_of_ble_eq_true rfl) (Nat.le_trans (Nat.le_of_ble_eq_true rfl) hJ) dX7_copy_147 ?_
    refine e_castI (new_eq _ _ _) wq_L_X7_23 dX7_copy_150 ?_
    refine e_aastA ((new_ne _ _ (by omega)).trans p1) (new_eq _ _ _) (by omega) (by omega) dX7_copy_153 ?_
    rw [hn]
    refine e_iinc dX7_copy_154 rfl rfl (Nat.le_of_ble_eq_true rfl) ?_
    refine e_goto (tgt := 127) dX7_copy_157 (by decide) ?_
    refine ih (i + 1) _ _ (by omega) (ar_inc hy (by omega)) (pn_2 hz (by omega)) (fun q0 e0 h0 => ?_) (fun q0 e0 h0 h1 => ?_) ?_ ⟨_, put_eq _ _ _, fun k hk => ?_⟩ (fun k hk => ?_)
    · have h1 := ht q0 e0 h0
      rw [put_ne _ _ (by omega), new_ne _ _ (by omega)]
      exact hs q0 e0 h0
    · have h2 := ht5 q0 e0 h0
      rw [put_ne _ _ (by omega), new_ne _ _ (by omega)]
      exact h5 q0 e0 h0 h1
    · rw [put_ne _ _ (by omega), new_ne _ _ (by omega)]
      exact hE
    · by_cases c9 : k = i
      · rw [c9, ev_u_self]
      · rw [ev_u_ne _ _ c9]
        exact p2 k (by omega)
    · by_cases c9 : k = i
      · subst c9
        exact ⟨f, by rw [put_ne _ _ (by omega)]; exact new_eq _ _ _, x2⟩
      · obtain ⟨f9, y1, y2⟩ := hR k (by omega)
        exact ⟨f9, by rw [put_ne _ _ (by omega), new_ne _ _ (by omega)]; exact y1, y2⟩
set_option maxRecDepth 20000 in
theorem ct_X7_copy (hC : LC G a A σ nI mI) (hv : sInv σ) (hb : RBs σ) (hm6 : sNm σ ≤ 6) (hnI : nI ≤ 20) (hz : a.2 = some z) : ev_Ct G l mX7_copy 4 71 220 [.ref (A 0)] a (fun v b => v = some (.ref z) ∧ ∃ (B : Nat → Nat) (z2 : Nat), B 0 = z ∧ LC G b B σ nI mI ∧ sub a b ∧ b.2 = some z2 ∧ ∀ q, mtA B (sNm σ) (sPn σ) q → z ≤ q) (fun _ _ => False) := by
  refine ev_Ct.of (by decide +kernel) (Nat.le_of_ble_eq_true rfl) ?_
  refine e_top hz fun ht => ?_
  have hmn := hv.1.nat
  have hmu : (σ.1 0).toInt = (sNm σ : Int) := hmn.1.symm
  have hpn := hv.2.2.2.2
  have hpe : (σ.1 6).toInt = (sPn σ : Int) := by unfold sPn; omega
  refine e_wide (k0 := ((0 + 1 + sPn σ + 1) + (sNm σ + 1) + sNm σ) + 24) (n0 := ((((0 + 6 + 2 * sPn σ) + sPn σ) + 3 * (sNm σ + 1)) + 3 * sNm σ) + 79) (by omega) (by omega) ?_
  refine e_aload_n dX7_copy_0 rfl rfl ?_
  refine lc_g4 hC wF_X7_10 dX7_copy_1 ?_
  refine lc_n1 hC hv dX7_copy_4 ?_
  refine e_invS (mcY := 24) (msY := 79) (ct_X7_of (m := sNm σ) hmu (by omega) hm6 hz mI) vX7_of wM_X7_37 dX7_copy_5 rfl rfl (Nat.le_of_ble_eq_true rfl) (Nat.le_of_ble_eq_true rfl) ?_
  rintro _ b0 ⟨rfl, s0, hz0, D0⟩
  have g0 : ∀ q, mtA (ofA z (sNm σ)) (sNm σ) 0 q → z ≤ q := fun q hq => mut_ge (ofA_ge z (sNm σ)) hq
  have eN0 : sNm (cs_of (σ.1 0)) = sNm σ := rfl
  have eP0 : sPn (cs_of (σ.1 0)) = 0 := by show (0 : Int32).toInt.toNat = 0; decide +kernel
  refine e_astore_n dX7_copy_8 rfl (Nat.le_of_ble_eq_true rfl) ?_
  refine e_aload_n dX7_copy_9 rfl rfl ?_
  refine e_aload_n dX7_copy_10 rfl rfl ?_
  refine lc_g0 (hC.mono s0) wF_X7_41 dX7_copy_11 ?_
  refine lc_wt D0 wF_X7_41 dX7_copy_14 ?_
  intro b1 D1 f1 e1
  have s1 : sub a b1 := fun q e he => f1 q e (s0 q e he) (fun hq => by have h1 := ht q e he; have h2 := g0 q hq; omega)
  have hz1 : b1.2 = some (z + 12 + 2 * sNm σ) := e1.trans hz0
  refine e_aload_n dX7_copy_17 rfl rfl ?_
  refine e_aload_n dX7_copy_18 rfl rfl ?_
  refine lc_g1 (hC.mono s1) wF_X7_45 dX7_copy_19 ?_
  refine lc_wl D1 wF_X7_45 dX7_copy_22 ?_
  intro b2 D2 f2 e2
  have s2 : sub a b2 := fun q e he => f2 q e (s1 q e he) (fun hq => by have h1 := ht q e he; have h2 := g0 q hq; omega)
  have hz2 : b2.2 = some (z + 12 + 2 * sNm σ) := e2.trans hz1
  refine e_aload_n dX7_copy_25 rfl rfl ?_
  refine e_aload_n dX7_copy_26 rfl rfl ?_
  refine lc_g2 (hC.mono s2) wF_X7_48 dX7_copy_27 ?_
  refine lc_wr D2 wF_X7_48 dX7_copy_30 ?_
  intro b3 D3 f3 e3
  have s3 : sub a b3 := fun q e he => f3 q e (s2 q e he) (fun hq => by have h1 := ht q e he; have h2 := g0 q hq; omega)
  have hz3 : b3.2 = some (z + 12 + 2 * sNm σ) := e3.trans hz2
  refine e_aload_n dX7_copy_33 rfl rfl ?_
  refine e_aload_n dX7_copy_34 rfl rfl ?_
  refine lc_g3 (hC.mono s3) wF_X7_51 dX7_copy_35 ?_
  refine lc_wd D3 wF_X7_51 dX7_copy_38 ?_
  intro b4 D4 f4 e4
  have s4 : sub a b4 := fun q e he => f4 q e (s3 q e he) (fun hq => by have h1 := ht q e he; have h2 := g0 q hq; omega)
  have hz4 : b4.2 = some (z + 12 + 2 * sNm σ) := e4.trans hz3
  generalize hτ : cs_I (cs_I (cs_I (cs_I (cs_of (σ.1 0)) 1 (σ.1 1)) 3 (σ.1 3)) 4 (σ.1 4)) 2 (σ.1 2) = τ at D4
  have t0 : sNm τ = sNm σ := by rw [← hτ]; rfl
  have t1 : τ.1 1 = σ.1 1 ∧ τ.1 3 = σ.1 3 ∧ τ.1 4 = σ.1 4 ∧ τ.1 2 = σ.1 2 := by rw [← hτ]; exact ⟨rfl, rfl, rfl, rfl⟩
  refine e_iconst (v := 0) dX7_copy_41 (by decide) ?_
  refine e_istore_n dX7_copy_42 rfl (Nat.le_of_ble_eq_true rfl) ?_
  refine lp_cpm (τ := τ) (Nat.le_of_ble_eq_true rfl) hC hv hnI t0 ht (fun c B y hzc hI => ?_) (sNm σ) 0 _ _ (ofA z (sNm σ)) (by omega) ar_0 hz4 ⟨s4, by rw [cpM_0]; exact D4, fun _ _ => rfl, ofA_ge z (sNm σ)⟩
  refine e_iconst (v := 0) dX7_copy_73 (by decide) ?_
  refine e_istore_n dX7_copy_74 rfl (Nat.le_of_ble_eq_true rfl) ?_
  refine lp_cps (τ := cpM σ τ (sNm σ)) (Nat.le_of_ble_eq_true rfl) hC hv hb hnI t0 ht (fun c B y hzc hI => ?_) (sNm σ + 1) 0 _ _ B (by omega) ar_0 (hzc.trans (congrArg some (by omega))) (by rw [cpS_0]; exact hI)
  obtain ⟨s5, D5, hB5, hBz⟩ := hI
  have hO5 := hC.mono s5
  generalize hρ : cpS σ (cpM σ τ (sNm σ)) (sNm σ + 1) = ρ at D5
  have r0 : sNm ρ = sNm σ := by rw [← hρ]; exact t0
  have r1 : ρ.1 1 = σ.1 1 ∧ ρ.1 3 = σ.1 3 ∧ ρ.1 4 = σ.1 4 ∧ ρ.1 2 = σ.1 2 := by rw [← hρ]; exact t1
  have rm : ∀ k, k < sNm σ → lmE ρ k = lmE σ k := fun k hk => by
    have e : ∀ w, w < 3 → ρ.2.2 w k = σ.2.2 w k := fun w hw => by
      rw [← hρ]
      show (if (3 ≤ w ∧ w < 6) ∧ k < sNm σ + 1 then _ else (if w < 3 ∧ k < sNm σ then _ else _)) = _
      rw [if_neg (by omega), if_pos (by omega)]
    unfold lmE; rw [e 0 (by omega), e 1 (by omega), e 2 (by omega)]
  have rs : ∀ k, k < sNm σ + 1 → lsE ρ k = lsE σ k := fun k hk => by
    have e : ∀ w, 3 ≤ w → w < 6 → ρ.2.2 w k = σ.2.2 w k := fun w hw hw2 => by
      rw [← hρ]
      show (if (3 ≤ w ∧ w < 6) ∧ k < sNm σ + 1 then _ else _) = _
      rw [if_pos (by omega)]
    unfold lsE; rw [e 3 (by omega) (by omega), e 4 (by omega) (by omega), e 5 (by omega) (by omega)]
  have hB0 : B 0 = z := hB5 0 (by omega)
  refine ev_loc (L' := [some (.ref (A 0)), some (.ref (B 0)), some (.int y)]) (by rw [hB0]; exact ⟨rfl, rfl, rfl, trivial⟩) ?_
  refine e_top hzc fun ht5 => ?_
  refine e_aload_n dX7_copy_105 rfl rfl ?_
  refine e_aload_n dX7_copy_106 rfl rfl ?_
  refine lc_g6 hO5 wF_X7_25 dX7_copy_107 ?_
  refine lc_wi0 D5 (by rw [r0]; omega) hnI hO5.1.2.2.2.1 hO5.2.2.1.1 wF_X7_25 dX7_copy_110 ?_
  intro b6 D6 f6 e6
  have s6 : sub a b6 := fun q e he => f6 q e (s5 q e he) (fun hq => by have h1 := ht q e he; have h2 := mut_ge hBz hq; omega)
  have hz6 : b6.2 = some (z + 13 + 4 * sNm σ) := e6.trans (hzc.trans (congrArg some (by omega)))
  have hO6 := hC.mono s6
  refine e_top hz6 fun ht6 => ?_
  have hBi : ∀ k, z ≤ lcI B (A 3) (fun k => A (50 + k)) k ∨ (k = 3 ∨ (50 ≤ k ∧ k < 70)) := fun k => by
    unfold lcI
    by_cases c1 : k = 3
    · exact Or.inr (Or.inl c1)
    · by_cases c2 : 50 ≤ k ∧ k < 70
      · exact Or.inr (Or.inr c2)
      · rw [if_neg c1, if_neg c2]; exact Or.inl (hBz k)
  generalize hBB : lcI B (A 3) (fun k => A (50 + k)) = B6 at D6 hBi
  have b60 : B6 0 = B 0 := by rw [← hBB]; rfl
  refine ev_loc (L' := [some (.ref (A 0)), some (.ref (B6 0)), some (.int y)]) (by rw [b60]; exact ⟨rfl, rfl, rfl, trivial⟩) ?_
  have h60 : z ≤ B6 0 := by rw [b60, hB0]; exact Nat.le_refl _
  have h60b : B6 0 < z + 13 + 4 * sNm σ := by rw [b60, hB0]; omega
  refine e_aload_n dX7_copy_113 rfl rfl ?_
  refine e_aload_n dX7_copy_114 rfl rfl ?_
  refine lc_g7 hO6 wF_X7_29 dX7_copy_115 ?_
  refine lc_n4 hO6 hv dX7_copy_118 ?_
  refine e_wide (k0 := (0 + 1 + sPn σ) + 1) (n0 := ((0 + 6) + 2 * sPn σ) + sPn σ) (by omega) (by omega) ?_
  refine e_anewA (N := sPn σ) wq_L_X7_23 hpe (by omega) hz6 dX7_copy_119 ?_
  refine e_putf (Cn := RX7) (T := TX7) (N := 9) (ci := 7) 7 tyX7 tyX7_ok nmX7 inX7 rfl ((new_ne _ _ (by omega)).trans D6.1.1) (by decide) wF_X7_29 (Or.inl rfl) (tyX7_ok 7 (by decide)) rfl rfl (Nat.le_of_ble_eq_true rfl) dX7_copy_122 ?_
  refine e_iconst (v := 0) dX7_copy_125 (by decide) ?_
  refine e_istore_n dX7_copy_126 rfl (Nat.le_of_ble_eq_true rfl) ?_
  refine lp_cpp (c5 := b6) (B := B6) (ρ := ρ) (zz := z + 13 + 4 * sNm σ) (Nat.le_of_ble_eq_true rfl) hC hv ht (by omega) h60 h60b ht6 (fun c7 y7 hz7 s7 h7 hE7 hP7 hR7 => ?_) (sPn σ) 0 _ _ (by omega) ar_0 (pn_2 hz6 (by omega)) (fun q e he => ?_) (fun q e he hq => ?_) (put_eq _ _ _) ⟨_, (put_ne _ _ (by omega)).trans (new_eq _ _ _), fun k hk => absurd hk (Nat.not_lt_zero _)⟩ (fun k hk => absurd hk (Nat.not_lt_zero _))
  · have hO7 := hC.mono s7
    obtain ⟨fa, a1, a2⟩ := hO7.1.2.2.2.2.2
    refine e_top hz7 fun ht7 => ?_
    have l7 := ht7 _ _ hE7
    refine e_aload_n dX7_copy_160 rfl rfl ?_
    refine e_aload_n dX7_copy_161 rfl rfl ?_
    refine lc_g8 hO7 wF_X7_32 dX7_copy_162 ?_
    refine e_cloneJ a1 hz7 wq_link_65 wq_same_J wq_nat wq_inst wq_sel_J wq_cast_J (Nat.le_of_ble_eq_true rfl) (Nat.le_of_ble_eq_true rfl) dX7_copy_165 ?_
    refine e_castJ (new_eq _ _ _) wq_L_X7_66 dX7_copy_168 ?_
    refine e_putf (Cn := RX7) (T := TX7) (N := 9) (ci := 7) 8 tyX7 tyX7_ok nmX7 inX7 rfl ((new_ne _ _ (by omega)).trans hE7) (by decide) wF_X7_32 (Or.inl rfl) (tyX7_ok 8 (by decide)) rfl rfl (Nat.le_of_ble_eq_true rfl) dX7_copy_171 ?_
    refine e_aload_n dX7_copy_174 rfl rfl ?_
    refine e_aret rfl (Or.inl ⟨_, rfl⟩) (Or.inr ⟨_, rfl⟩) dX7_copy_175 ?_
    have zb : B6 0 = z := by rw [b60, hB0]
    have up : ∀ (q : Nat) (e : va_E), b6.1 q = some e → q ≠ B6 0 → ∀ e9 e10 : va_E, (ev_put (ev_new c7 (z + 13 + 4 * sNm σ + 1 + sPn σ) e9) (B6 0) e10).1 q = some e := fun q e he hq e9 e10 => by
      have h1 := ht6 q e he
      rw [put_ne _ _ hq, new_ne _ _ (by omega)]
      exact h7 q e he hq
    have kk : ∀ {q : Nat} {e : va_E}, b6.1 q = some e → kd e ≠ 7 → ∀ e9 e10 : va_E, (ev_put (ev_new c7 (z + 13 + 4 * sNm σ + 1 + sPn σ) e9) (B6 0) e10).1 q = some e := fun {q e} he hk => up q e he (kd_ne he D6.1.1 hk)
    have o7 : ∀ (q : Nat) (e : va_E), c7.1 q = some e → q ≠ B6 0 → ∀ e9 e10 : va_E, (ev_put (ev_new c7 (z + 13 + 4 * sNm σ + 1 + sPn σ) e9) (B6 0) e10).1 q = some e := fun q e he hq e9 e10 => by
      have h1 := ht7 q e he
      rw [put_ne _ _ hq, new_ne _ _ (by omega)]
      exact he
    let BF : Nat → Nat := fun k => if k = 4 then z + 13 + 4 * sNm σ else if k = 5 then z + 13 + 4 * sNm σ + 1 + sPn σ else if 70 ≤ k then z + 13 + 4 * sNm σ + 1 + (k - 70) else B6 k
    have bo : ∀ k, k ≠ 4 → k ≠ 5 → k < 70 → BF k = B6 k := fun k h1 h2 h3 => by
      show (if k = 4 then _ else if k = 5 then _ else if 70 ≤ k then _ else B6 k) = _
      rw [if_neg h1, if_neg h2, if_neg (by omega)]
    have bp : ∀ k, BF (70 + k) = z + 13 + 4 * sNm σ + 1 + k := fun k => by
      show (if 70 + k = 4 then _ else if 70 + k = 5 then _ else if 70 ≤ 70 + k then _ else B6 (70 + k)) = _
      rw [if_neg (by omega), if_neg (by omega), if_pos (by omega), show 70 + k - 70 = k by omega]
    refine ⟨by rw [zb], BF, z + 13 + 4 * sNm σ + 1 + sPn σ + 1, by rw [bo 0 (by omega) (by omega) (by omega)]; exact zb, ⟨⟨?_, ?_, ?_, ?_, ?_, ?_⟩, ⟨fun k hk => ?_, fun k hk => ?_⟩, ⟨fun k hk => ?_, fun k hk => ?_⟩, fun i j hi hj e => ?_, fun i j hi hj e => ?_, fun i j hi hj e => ?_⟩, fun q e he => ?_, pn_2 hz7 rfl, fun q hq => ?_⟩
    · rw [bo 0 (by omega) (by omega) (by omega)]
      refine (put_eq _ _ _).trans ?_
      unfold lcE
      rw [bo 1 (by omega) (by omega) (by omega), bo 2 (by omega) (by omega) (by omega), bo 3 (by omega) (by omega) (by omega), ← r1.1, ← r1.2.1, ← r1.2.2.1, ← r1.2.2.2]
      rfl
    · obtain ⟨f, x1, x2⟩ := D6.1.2.1
      rw [bo 1 (by omega) (by omega) (by omega)]
      rw [r0] at x1 x2
      exact ⟨f, kk x1 (by show (101 : Nat) ≠ 7; omega) _ _, fun k hk => (x2 k hk).trans (congrArg some (bo (10 + k) (by omega) (by omega) (by omega)).symm)⟩
    · obtain ⟨f, x1, x2⟩ := D6.1.2.2.1
      rw [bo 2 (by omega) (by omega) (by omega)]
      rw [r0] at x1 x2
      exact ⟨f, kk x1 (by show (101 : Nat) ≠ 7; omega) _ _, fun k hk => (x2 k hk).trans (congrArg some (bo (30 + k) (by omega) (by omega) (by omega)).symm)⟩
    · obtain ⟨f, x1, x2⟩ := D6.1.2.2.2.1
      rw [bo 3 (by omega) (by omega) (by omega)]
      exact ⟨f, kk x1 (by show (101 : Nat) ≠ 7; omega) _ _, fun k hk => (x2 k hk).trans (congrArg some (bo (50 + k) (by omega) (by omega) (by omega)).symm)⟩
    · obtain ⟨f, x1, x2⟩ := hP7
      exact ⟨f, o7 _ _ x1 (by omega) _ _, fun k hk => (x2 k hk).trans (congrArg some (bp k).symm)⟩
    · exact ⟨fa, (put_ne _ _ (by show z + 13 + 4 * sNm σ + 1 + sPn σ ≠ _; omega)).trans (new_eq _ _ _), a2⟩
    · rw [bo (10 + k) (by omega) (by omega) (by omega), ← rm k hk]
      exact kk (D6.2.1.1 k (by rw [r0]; exact hk)) (by show (8 : Nat) ≠ 7; omega) _ _
    · rw [bo (30 + k) (by omega) (by omega) (by omega), ← rs k hk]
      exact kk (D6.2.1.2 k (by rw [r0]; exact hk)) (by show (10 : Nat) ≠ 7; omega) _ _
    · rw [bo (50 + k) (by omega) (by omega) (by omega)]
      obtain ⟨f, x1, x2⟩ := D6.2.2.1.1 k hk
      exact ⟨f, kk x1 (by show (200 + 3 : Nat) ≠ 7; omega) _ _, x2⟩
    · rw [bp]
      obtain ⟨f, x1, x2⟩ := hR7 k hk
      exact ⟨f, o7 _ _ x1 (by omega) _ _, x2⟩
    · rw [bo (10 + i) (by omega) (by omega) (by omega), bo (10 + j) (by omega) (by omega) (by omega)] at e
      exact D6.2.2.2.1 i j (by rw [r0]; exact hi) (by rw [r0]; exact hj) e
    · rw [bo (30 + i) (by omega) (by omega) (by omega), bo (30 + j) (by omega) (by omega) (by omega)] at e
      exact D6.2.2.2.2.1 i j (by rw [r0]; exact hi) (by rw [r0]; exact hj) e
    · rw [bp, bp] at e
      omega
    · have h1 := ht q e he
      rw [put_ne _ _ (by omega), new_ne _ _ (by omega)]
      exact s7 q e he
    · have bz : ∀ k, k ≠ 3 → ¬ (50 ≤ k ∧ k < 70) → z ≤ BF k := fun k h1 h2 => by
        show z ≤ (if k = 4 then _ else if k = 5 then _ else if 70 ≤ k then _ else B6 k)
        rcases hBi k with h | h
        · repeat' split
          all_goals omega
        · omega
      rcases hq with rfl | rfl | ⟨k, hk, rfl⟩ | ⟨k, hk, rfl⟩ | ⟨k, hk, rfl⟩
      · exact bz 0 (by omega) (by omega)
      · exact bz 5 (by omega) (by omega)
      · exact bz _ (by omega) (by omega)
      · exact bz _ (by omega) (by omega)
      · exact bz _ (by omega) (by omega)
  · have h1 := ht q e he
    rw [put_ne _ _ (by omega), new_ne _ _ (by omega)]
    exact s6 q e he
  · have h1 := ht6 q e he
    rw [put_ne _ _ hq, new_ne _ _ (by omega)]
    exact he
end CPW
