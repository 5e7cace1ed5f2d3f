/-! the collected text is loaded -/
theorem sKeep_1 (S : SS) : (sKeep S).2.2.2 1 = S.2.2.2 1 := by
  show ev_u S.2.2.2 (2 + (S.1 3).toInt.toNat) _ 1 = _
  rw [ev_u_ne _ _ (by omega)]
theorem bl5_T {T : List Nat} (h : ∀ c ∈ T, c < 128) {p : Nat} {x y z w u : Int32} (hx : x = Int32.ofNat (wdT T (p + 4 * 0))) (hy : y = Int32.ofNat (wdT T (p + 4 * 1))) (hz : z = Int32.ofNat (wdT T (p + 4 * 2))) (hw : w = Int32.ofNat (wdT T (p + 4 * 3))) (hu : u = Int32.ofNat (wdT T (p + 4 * 4))) : ∀ i, i < 20 → ∃ v, (bl5 x y z w u)[i]? = some v ∧ v &&& 255 = Int32.ofNat (chT T (p + i)) := by
  intro i hi
  have b0 := wd_by h (p + 4 * 0)
  have b1 := wd_by h (p + 4 * 1)
  have b2 := wd_by h (p + 4 * 2)
  have b3 := wd_by h (p + 4 * 3)
  have b4 := wd_by h (p + 4 * 4)
  rw [← hx] at b0
  rw [← hy] at b1
  rw [← hz] at b2
  rw [← hw] at b3
  rw [← hu] at b4
  rcases (show i = 0 ∨ i = 1 ∨ i = 2 ∨ i = 3 ∨ i = 4 ∨ i = 5 ∨ i = 6 ∨ i = 7 ∨ i = 8 ∨ i = 9 ∨ i = 10 ∨ i = 11 ∨ i = 12 ∨ i = 13 ∨ i = 14 ∨ i = 15 ∨ i = 16 ∨ i = 17 ∨ i = 18 ∨ i = 19 by omega) with rfl | rfl | rfl | rfl | rfl | rfl | rfl | rfl | rfl | rfl | rfl | rfl | rfl | rfl | rfl | rfl | rfl | rfl | rfl | rfl
  · exact ⟨_, rfl, b0.1⟩
  · exact ⟨_, rfl, b0.2.1⟩
  · exact ⟨_, rfl, b0.2.2.1⟩
  · exact ⟨_, rfl, b0.2.2.2⟩
  · exact ⟨_, rfl, b1.1⟩
  · exact ⟨_, rfl, b1.2.1⟩
  · exact ⟨_, rfl, b1.2.2.1⟩
  · exact ⟨_, rfl, b1.2.2.2⟩
  · exact ⟨_, rfl, b2.1⟩
  · exact ⟨_, rfl, b2.2.1⟩
  · exact ⟨_, rfl, b2.2.2.1⟩
  · exact ⟨_, rfl, b2.2.2.2⟩
  · exact ⟨_, rfl, b3.1⟩
  · exact ⟨_, rfl, b3.2.1⟩
  · exact ⟨_, rfl, b3.2.2.1⟩
  · exact ⟨_, rfl, b3.2.2.2⟩
  · exact ⟨_, rfl, b4.1⟩
  · exact ⟨_, rfl, b4.2.1⟩
  · exact ⟨_, rfl, b4.2.2.1⟩
  · exact ⟨_, rfl, b4.2.2.2⟩
section LLT
variable {G : ev_G} {l : Launch} {a : ev_H} {b u c np ns : Nat} {S0 : SS} {T : List Nat} {D0 D : CS} {dt : Int32}
set_option maxRecDepth 20000 in
theorem ct_L_loadText (hl0 : l.stackTraces = false) (h : TX G b u S0 T a) (hP : PG D0 T c D dt np ns) (hD : S0.2.2.2 1 = D0) (hh : hOk S0) (hub : ¬ (b ≤ u ∧ u < b + 157)) (hT : T.length < 480) : ev_Ct G l mL_loadText 13 1 6 [.ref b, .ref u] a (fun v c => v = some (.int (D.1 0)) ∧ ∃ V : SS, (V.1 0 = 0 ∧ V.1 1 = -1 ∧ V.1 2 = S0.1 2 ∧ V.1 3 = S0.1 3 ∧ ∀ i, i ≠ 1 → V.2.2.2 i = S0.2.2.2 i) ∧ V.2.2.2 1 = D ∧ sInv D ∧ SY G b (ss_C (sKeep V) 0 (sBec (V.2.2.2 0) D)) c ∧ fw a c b u ∧ (∃ f9 : Nat → Int32, c.1 u = some (.inl (G.2.1 0, 8, .inl f9))) ∧ c.2 = none) (fun _ _ => False) := by
  refine ev_Ct.of (by decide +kernel) (Nat.le_of_ble_eq_true rfl) ?_
  obtain ⟨S2, hS2, ⟨⟨f, hu, hf0, hf1⟩, t1, t2, t3⟩, kp⟩ := h
  have i0 : (0 : Int32).toInt.toNat = 0 := by decide +kernel
  have hLT : (Int32.ofNat T.length).toInt = (T.length : Int) := ar_of (by omega)
  have fin : ∀ (S3 : SS) (a3 : ev_H) (f3 : Nat → Int32), SY G b S3 a3 → a3.1 u = some (.inl (G.2.1 0, 8, .inl f3)) → kpx S0 S3 → bufOk (S3.2.1 0) T.length T → (T.length : Int) ≤ (S3.1 0).toInt → (S3.1 0).toInt ≤ 500 → fw a a3 b u → ev_V G l mL_loadText (false, [], 13, 1, 6, (fun v c => v = some (.int (D.1 0)) ∧ ∃ V : SS, (V.1 0 = 0 ∧ V.1 1 = -1 ∧ V.1 2 = S0.1 2 ∧ V.1 3 = S0.1 3 ∧ ∀ i, i ≠ 1 → V.2.2.2 i = S0.2.2.2 i) ∧ V.2.2.2 1 = D ∧ sInv D ∧ SY G b (ss_C (sKeep V) 0 (sBec (V.2.2.2 0) D)) c ∧ fw a c b u ∧ (∃ f9 : Nat → Int32, c.1 u = some (.inl (G.2.1 0, 8, .inl f9))) ∧ c.2 = none), fun _ _ => False) 16 [some (.ref b), some (.ref u), some (.int (Int32.ofNat T.length))] [] a3 (0 + 1) (0 + 6) := by
    intro S3 a3 f3 hS3 hu3 k3 hb3 l1 l2 w3
    refine e_aload_n dL_loadText_16 rfl rfl ?_
    refine e_iconst (v := 0) dL_loadText_17 (by decide) ?_
    refine e_iconst (v := 0) dL_loadText_18 (by decide) ?_
    refine e_iast hu3 (by decide) (by decide) dL_loadText_19 ?_
    have hS4 := hS3.put (.inl (G.2.1 0, 8, .inl (ev_u f3 (0 : Int32).toInt.toNat 0))) hub
    have w4 : fw a (ev_put a3 u (.inl (G.2.1 0, 8, .inl (ev_u f3 (0 : Int32).toInt.toNat 0)))) b u := fun q e he h1 h2 => (put_ne _ _ h2).trans (w3 q e he h1 h2)
    have hu4 : (ev_put a3 u (.inl (G.2.1 0, 8, .inl (ev_u f3 (0 : Int32).toInt.toNat 0)))).1 u = some (.inl (G.2.1 0, 8, .inl (ev_u f3 (0 : Int32).toInt.toNat 0))) := put_eq _ _ _
    generalize ev_put a3 u (.inl (G.2.1 0, 8, .inl (ev_u f3 (0 : Int32).toInt.toNat 0))) = a4 at hS4 w4 hu4
    refine e_aload_n dL_loadText_20 rfl rfl ?_
    refine e_iload_n dL_loadText_21 rfl rfl ?_
    refine e_forget (f := a4.1) (z := a4.2) ?_
    have hS5 : SY G b S3 (a4.1, none) := hS4
    refine ev_as hS5.eq ?_
    have hDn := hP.done (b := b) (S := S3) (by rw [k3.2]; exact hD) hb3
    have hh3 : hOk S3 := by unfold hOk; rw [k3.1 2 (by decide), k3.1 3 (by decide)]; exact hh
    have c2 : (pAll b S3 (Int32.ofNat T.length).toInt.toNat).1 = 0 := by rw [ar_nat hLT]; exact hDn.1
    refine e_invSH (lh_load_ok hl0 rfl hh3 (by omega) l2 (by omega) c2) vL_load wM_L_19 dL_loadText_22 rfl rfl (Nat.le_of_ble_eq_true rfl) (Nat.le_of_ble_eq_true rfl) ?_
    rintro v c9 ⟨V, ⟨v0, v1, v2, v3, v4⟩, v5, v6, rfl, e9⟩
    rw [ar_nat hLT, hDn.2] at v5
    rw [v5] at v6
    rw [sKeep_0, sKeep_1, v5] at e9
    rw [sKeep_1, v5, e9]
    refine e_iret rfl dL_loadText_25 ⟨rfl, V, ⟨v0, v1, v2.trans (k3.1 2 (by decide)), v3.trans (k3.1 3 (by decide)), fun i hi => (v4 i hi).trans (by rw [k3.2])⟩, v5, v6, SY.of _ _ _ _, fun q e he h1 h2 => ?_, ⟨_, (sy_o G b _ _ hub).trans hu4⟩, rfl⟩
    rw [sy_o G b _ _ h1]
    exact w4 q e he h1 h2
  refine e_aload_n dL_loadText_0 rfl rfl ?_
  refine e_iconst (v := 0) dL_loadText_1 (by decide) ?_
  refine e_iald hu (by decide) (by decide) dL_loadText_2 ?_
  rw [i0, hf0]
  refine e_istore_n dL_loadText_3 rfl (Nat.le_of_ble_eq_true rfl) ?_
  refine e_iload_n dL_loadText_4 rfl rfl ?_
  refine e_bipush (v := 20) dL_loadText_5 (by decide) ?_
  refine e_irem dL_loadText_7 (by decide) ?_
  rw [put_20 ⟨T.length, by omega⟩]
  refine e_if_le (tgt := 16) dL_loadText_8 (by decide) (fun q8 => ?_) (fun q8 => ?_)
  · have m20 : T.length % 20 = 0 := by
      have : (Int32.ofNat (T.length % 20)).toInt = ((T.length % 20 : Nat) : Int) := ar_of (by omega)
      have q9 : (Int32.ofNat (T.length % 20)).toInt ≤ 0 := q8
      omega
    have d20 : 20 * (T.length / 20) = T.length := by omega
    rw [d20] at t1 t2
    refine ev_lc (fin S2 a f hS2 hu kp ⟨Nat.le_refl _, t2⟩ (by rw [t1, hLT]; omega) (by rw [t1, hLT]; omega) (fw.rf a b u)) ⟨rfl, rfl, rfl, trivial⟩
  · have m20 : 0 < T.length % 20 := by
      have : (Int32.ofNat (T.length % 20)).toInt = ((T.length % 20 : Nat) : Int) := ar_of (by omega)
      have q9 : 0 < (Int32.ofNat (T.length % 20)).toInt := q8
      omega
    refine e_aload_n dL_loadText_11 rfl rfl ?_
    refine e_aload_n dL_loadText_12 rfl rfl ?_
    refine e_invS (mcY := 0) (msY := 0) (ct_L_flush (p := 20 * (T.length / 20)) hS2 hu hub t1 (by omega)) vL_flush wM_L_7 dL_loadText_13 rfl rfl (Nat.le_of_ble_eq_true rfl) (Nat.le_of_ble_eq_true rfl) ?_
    rintro v a2 ⟨rfl, hSf, ⟨f2, u2, -, -⟩, hw2, -⟩
    obtain ⟨k1, k2, k3, k4⟩ := sAW5 (x := f 1) (y := f 2) (z := f 3) (w := f 4) (u := f 5) t1 (by omega)
    have e20 : (Int32.ofNat (20 * (T.length / 20) + 20)).toInt = ((20 * (T.length / 20) + 20 : Nat) : Int) := ar_of (by omega)
    refine ev_lc (fin _ a2 f2 hSf u2 (kp.tr k1) ⟨Nat.le_refl _, fun k hk => ?_⟩ (by rw [k2, e20]; omega) (by rw [k2, e20]; omega) hw2) ⟨rfl, rfl, rfl, trivial⟩
    by_cases ck : k < 20 * (T.length / 20)
    · rw [k3 k ck]; exact t2 k ck
    · obtain ⟨i, rfl⟩ : ∃ i, k = 20 * (T.length / 20) + i := ⟨k - 20 * (T.length / 20), by omega⟩
      obtain ⟨v, g1, g2⟩ := bl5_T t3 (hf1 0 (by decide)) (hf1 1 (by decide)) (hf1 2 (by decide)) (hf1 3 (by decide)) (hf1 4 (by decide)) i (by omega)
      exact (k4 i v g1).trans g2
end LLT
