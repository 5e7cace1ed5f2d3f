/-! statements read back -/
theorem pb_z {q : Nat} {v : Int} {f : Nat → Int → PR} : pb (0, q, v) f = f q v := rfl
section STM
variable {B : Nat → Int32} {n p : Nat} {M nI : Int} {dt : Int32} {pl st : Nat → Int32} {x y z : Int32}
theorem stm_mass (h : tx B p (txtN 2 ++ (nmW x ++ (nmW y ++ [59])))) (hn : p + (txtN 2 ++ (nmW x ++ (nmW y ++ [59]))).length ≤ n) (hM : M ≤ 12) (hx : 0 ≤ x.toInt ∧ x.toInt < M) (hy : 1 ≤ y.toInt ∧ y.toInt ≤ 99) : ∃ q, q + 1 = p + (txtN 2 ++ (nmW x ++ (nmW y ++ [59]))).length ∧ B q = 59 ∧ B p ≠ 32 ∧ pStm B n M nI dt pl st p = (0, q, 0, x.toInt, y.toInt, 0) := by
  have el : (txtN 2).length = 4 := by decide +kernel
  have c0 : B p ≠ 32 := by have := h.l 0 (by decide); rw [Nat.add_zero] at this; rw [this]; decide +kernel
  have h1 := h.r
  rw [el] at h1
  have g1 := h1.l
  have h2 := h1.r
  have l1 := nmW_1 x
  have g2 := h2.l
  have h3 := h2.r
  have l2 := nmW_1 y
  have e59 := (tx.hd h3).trans of_59
  simp only [List.length_append, List.length_cons, List.length_nil, el] at hn ⊢
  have d1 := (nl_32 (nmW_hd g2)).2
  have d2 := (nl_59 e59).2.1
  refine ⟨p + 4 + (nmW x).length + (nmW y).length, by omega, e59, c0, ?_⟩
  unfold pStm
  rw [(wB_ok (j := 2) (by decide) h.l (by show ¬ isLt (B (p + 4)); exact (nl_32 (nmW_hd g1)).1)), cond_true]
  unfold pWt
  rw [(pN_w g1 (by omega) (by omega) (by omega) (by omega) (by omega) d1).1, pb_z, (pN_w g2 (by omega) (by omega) (by omega) (by omega) (by omega) d2).1]
  rfl
theorem stm_masses (h : tx B p (txtN 3 ++ (nmW x ++ [59]))) (hn : p + (txtN 3 ++ (nmW x ++ [59])).length ≤ n) (hx : 1 ≤ x.toInt ∧ x.toInt ≤ 99) : ∃ q, q + 1 = p + (txtN 3 ++ (nmW x ++ [59])).length ∧ B q = 59 ∧ B p ≠ 32 ∧ pStm B n M nI dt pl st p = (0, q, 1, x.toInt, 0, 0) := by
  have el : (txtN 3).length = 6 := by decide +kernel
  have c0 : B p ≠ 32 := by have := h.l 0 (by decide); rw [Nat.add_zero] at this; rw [this]; decide +kernel
  have h1 := h.r
  rw [el] at h1
  have g1 := h1.l
  have h2 := h1.r
  have l1 := nmW_1 x
  have e59 := (tx.hd h2).trans of_59
  simp only [List.length_append, List.length_cons, List.length_nil, el] at hn ⊢
  have d1 := (nl_59 e59).2.1
  refine ⟨p + 6 + (nmW x).length, by omega, e59, c0, ?_⟩
  unfold pStm
  rw [(wB_nl (j := 2) (by show isLt (B (p + 4)); rw [h.l 4 (by decide)]; decide +kernel)), cond_false, (wB_ok (j := 3) (by decide) h.l (by show ¬ isLt (B (p + 6)); exact (nl_32 (nmW_hd g1)).1)), cond_true]
  unfold pAW
  rw [(pN_w g1 (by omega) (by omega) (by omega) (by omega) (by omega) d1).1]
  rfl
theorem stm_springs (h : tx B p (txtN 6 ++ (nmW x ++ [59]))) (hn : p + (txtN 6 ++ (nmW x ++ [59])).length ≤ n) (hx : 0 ≤ x.toInt ∧ x.toInt ≤ 999) : ∃ q, q + 1 = p + (txtN 6 ++ (nmW x ++ [59])).length ∧ B q = 59 ∧ B p ≠ 32 ∧ pStm B n M nI dt pl st p = (0, q, 3, x.toInt, 0, 0) := by
  have el : (txtN 6).length = 7 := by decide +kernel
  have c0 : B p ≠ 32 := by have := h.l 0 (by decide); rw [Nat.add_zero] at this; rw [this]; decide +kernel
  have h1 := h.r
  rw [el] at h1
  have g1 := h1.l
  have h2 := h1.r
  have l1 := nmW_1 x
  have e59 := (tx.hd h2).trans of_59
  simp only [List.length_append, List.length_cons, List.length_nil, el] at hn ⊢
  have d1 := (nl_59 e59).2.1
  refine ⟨p + 7 + (nmW x).length, by omega, e59, c0, ?_⟩
  unfold pStm
  rw [(wB_no (j := 2) (k := 0) (h.l 0 (by decide)) (by decide) (by decide +kernel)), cond_false, (wB_no (j := 3) (k := 0) (h.l 0 (by decide)) (by decide) (by decide +kernel)), cond_false, (wB_nl (j := 4) (by show isLt (B (p + 6)); rw [h.l 6 (by decide)]; decide +kernel)), cond_false, (wB_ok (j := 6) (by decide) h.l (by show ¬ isLt (B (p + 7)); exact (nl_32 (nmW_hd g1)).1)), cond_true]
  unfold pAS
  rw [(pN_w g1 (by omega) (by omega) (by omega) (by omega) (by omega) d1).1]
  rfl
theorem stm_damp (h : tx B p (txtN 7 ++ (nmW x ++ [59]))) (hn : p + (txtN 7 ++ (nmW x ++ [59])).length ≤ n) (hdt : dt = 0) (hx : 0 ≤ x.toInt ∧ x.toInt ≤ 999) : ∃ q, q + 1 = p + (txtN 7 ++ (nmW x ++ [59])).length ∧ B q = 59 ∧ B p ≠ 32 ∧ pStm B n M nI dt pl st p = (0, q, 4, x.toInt, 0, 0) := by
  have el : (txtN 7).length = 4 := by decide +kernel
  have c0 : B p ≠ 32 := by have := h.l 0 (by decide); rw [Nat.add_zero] at this; rw [this]; decide +kernel
  have h1 := h.r
  rw [el] at h1
  have g1 := h1.l
  have h2 := h1.r
  have l1 := nmW_1 x
  have e59 := (tx.hd h2).trans of_59
  simp only [List.length_append, List.length_cons, List.length_nil, el] at hn ⊢
  have d1 := (nl_59 e59).2.1
  refine ⟨p + 4 + (nmW x).length, by omega, e59, c0, ?_⟩
  unfold pStm
  rw [(wB_no (j := 2) (k := 0) (h.l 0 (by decide)) (by decide) (by decide +kernel)), cond_false, (wB_no (j := 3) (k := 0) (h.l 0 (by decide)) (by decide) (by decide +kernel)), cond_false, (wB_no (j := 4) (k := 0) (h.l 0 (by decide)) (by decide) (by decide +kernel)), cond_false, (wB_no (j := 6) (k := 0) (h.l 0 (by decide)) (by decide) (by decide +kernel)), cond_false, (wB_ok (j := 7) (by decide) h.l (by show ¬ isLt (B (p + 4)); exact (nl_32 (nmW_hd g1)).1)), cond_true]
  unfold pDm
  rw [if_pos hdt, (pN_w g1 (by omega) (by omega) (by omega) (by omega) (by omega) d1).1]
  rfl
theorem stm_pluck (h : tx B p (txtN 8 ++ (nmW x ++ (nmW y ++ [59])))) (hn : p + (txtN 8 ++ (nmW x ++ (nmW y ++ [59]))).length ≤ n) (hM : M ≤ 12) (hx : 0 ≤ x.toInt ∧ x.toInt < M) (hpl : pl x.toInt.toNat = 0) (hy : -10000 ≤ y.toInt ∧ y.toInt ≤ 10000) : ∃ q, q + 1 = p + (txtN 8 ++ (nmW x ++ (nmW y ++ [59]))).length ∧ B q = 59 ∧ B p ≠ 32 ∧ pStm B n M nI dt pl st p = (0, q, 5, x.toInt, y.toInt, 0) := by
  have el : (txtN 8).length = 5 := by decide +kernel
  have c0 : B p ≠ 32 := by have := h.l 0 (by decide); rw [Nat.add_zero] at this; rw [this]; decide +kernel
  have h1 := h.r
  rw [el] at h1
  have g1 := h1.l
  have h2 := h1.r
  have l1 := nmW_1 x
  have g2 := h2.l
  have h3 := h2.r
  have l2 := nmW_1 y
  have e59 := (tx.hd h3).trans of_59
  simp only [List.length_append, List.length_cons, List.length_nil, el] at hn ⊢
  have d1 := (nl_32 (nmW_hd g2)).2
  have d2 := (nl_59 e59).2.1
  refine ⟨p + 5 + (nmW x).length + (nmW y).length, by omega, e59, c0, ?_⟩
  unfold pStm
  rw [(wB_no (j := 2) (k := 0) (h.l 0 (by decide)) (by decide) (by decide +kernel)), cond_false, (wB_no (j := 3) (k := 0) (h.l 0 (by decide)) (by decide) (by decide +kernel)), cond_false, (wB_no (j := 4) (k := 0) (h.l 0 (by decide)) (by decide) (by decide +kernel)), cond_false, (wB_no (j := 6) (k := 0) (h.l 0 (by decide)) (by decide) (by decide +kernel)), cond_false, (wB_no (j := 7) (k := 0) (h.l 0 (by decide)) (by decide) (by decide +kernel)), cond_false, (wB_ok (j := 8) (by decide) h.l (by show ¬ isLt (B (p + 5)); exact (nl_32 (nmW_hd g1)).1)), cond_true]
  unfold pPl
  rw [(pN_w g1 (by omega) (by omega) (by omega) (by omega) (by omega) d1).1, pb_z, if_pos hpl, (pS_w g2 (by omega) (by omega) (by omega) (by omega) d2).1]
  rfl
theorem stm_strike (h : tx B p (txtN 9 ++ (nmW x ++ (nmW y ++ [59])))) (hn : p + (txtN 9 ++ (nmW x ++ (nmW y ++ [59]))).length ≤ n) (hM : M ≤ 12) (hx : 0 ≤ x.toInt ∧ x.toInt < M) (hpl : st x.toInt.toNat = 0) (hy : -99999 ≤ y.toInt ∧ y.toInt ≤ 99999) : ∃ q, q + 1 = p + (txtN 9 ++ (nmW x ++ (nmW y ++ [59]))).length ∧ B q = 59 ∧ B p ≠ 32 ∧ pStm B n M nI dt pl st p = (0, q, 6, x.toInt, y.toInt, 0) := by
  have el : (txtN 9).length = 6 := by decide +kernel
  have c0 : B p ≠ 32 := by have := h.l 0 (by decide); rw [Nat.add_zero] at this; rw [this]; decide +kernel
  have h1 := h.r
  rw [el] at h1
  have g1 := h1.l
  have h2 := h1.r
  have l1 := nmW_1 x
  have g2 := h2.l
  have h3 := h2.r
  have l2 := nmW_1 y
  have e59 := (tx.hd h3).trans of_59
  simp only [List.length_append, List.length_cons, List.length_nil, el] at hn ⊢
  have d1 := (nl_32 (nmW_hd g2)).2
  have d2 := (nl_59 e59).2.1
  refine ⟨p + 6 + (nmW x).length + (nmW y).length, by omega, e59, c0, ?_⟩
  unfold pStm
  rw [(wB_no (j := 2) (k := 0) (h.l 0 (by decide)) (by decide) (by decide +kernel)), cond_false, (wB_no (j := 3) (k := 0) (h.l 0 (by decide)) (by decide) (by decide +kernel)), cond_false, (wB_no (j := 4) (k := 1) (h.l 1 (by decide)) (by decide) (by decide +kernel)), cond_false, (wB_no (j := 6) (k := 1) (h.l 1 (by decide)) (by decide) (by decide +kernel)), cond_false, (wB_no (j := 7) (k := 0) (h.l 0 (by decide)) (by decide) (by decide +kernel)), cond_false, (wB_no (j := 8) (k := 0) (h.l 0 (by decide)) (by decide) (by decide +kernel)), cond_false, (wB_ok (j := 9) (by decide) h.l (by show ¬ isLt (B (p + 6)); exact (nl_32 (nmW_hd g1)).1)), cond_true]
  unfold pSr
  rw [(pN_w g1 (by omega) (by omega) (by omega) (by omega) (by omega) d1).1, pb_z, if_pos hpl, (pS_w g2 (by omega) (by omega) (by omega) (by omega) d2).1]
  rfl
theorem stm_end (h : tx B p (txtN 25 ++ (nmW x ++ [59]))) (hn : p + (txtN 25 ++ (nmW x ++ [59])).length ≤ n) (hx : -99999 ≤ x.toInt ∧ x.toInt ≤ 99999) : ∃ q, q + 1 = p + (txtN 25 ++ (nmW x ++ [59])).length ∧ B q = 59 ∧ B p ≠ 32 ∧ pStm B n M nI dt pl st p = (0, q, 7, 0, x.toInt, 0) := by
  have el : (txtN 25).length = 8 := by decide +kernel
  have c0 : B p ≠ 32 := by have := h.l 0 (by decide); rw [Nat.add_zero] at this; rw [this]; decide +kernel
  have h1 := h.r
  rw [el] at h1
  have g1 := h1.l
  have h2 := h1.r
  have l1 := nmW_1 x
  have e59 := (tx.hd h2).trans of_59
  simp only [List.length_append, List.length_cons, List.length_nil, el] at hn ⊢
  have d1 := (nl_59 e59).2.1
  have q10 : tx B p (txtN 10) := fun k hk => (h.l k (Nat.lt_of_lt_of_le hk (by decide))).trans (congrArg Int32.ofNat ((by decide +kernel : ∀ k : Fin 3, (txtN 25).getD k.1 0 = (txtN 10).getD k.1 0) ⟨k, hk⟩))
  have q12 : tx B (p + 3 + 1) (txtN 12) := fun k hk => by
    have := h.l (4 + k) (by have : k < 4 := hk; show 4 + k < 8; omega)
    rw [show p + 3 + 1 + k = p + (4 + k) by omega, this]
    exact congrArg Int32.ofNat ((by decide +kernel : ∀ k : Fin 4, (txtN 25).getD (4 + k.1) 0 = (txtN 12).getD k.1 0) ⟨k, hk⟩)
  have e3 : B (p + 3) = 32 := (h.l 3 (by decide)).trans (by decide +kernel)
  have e4 : B (p + 3 + 1) = Int32.ofNat 108 := (h.l 4 (by decide)).trans (by decide +kernel)
  have s3 : sk B n (p + 3) = p + 3 + 1 := sk_1 e3 (by rw [e4]; decide +kernel) (by omega)
  have r0 : wB B 11 (p + 3 + 1) = false := wB_no (k := 0) (c := 108) e4 (by decide) (by decide +kernel)
  have r1 : wB B 12 (p + 3 + 1) = true := wB_ok (j := 12) (by decide) q12 (by show ¬ isLt (B (p + 8)); exact (nl_32 (nmW_hd g1)).1)
  refine ⟨p + 8 + (nmW x).length, by omega, e59, c0, ?_⟩
  unfold pStm
  rw [(wB_no (j := 2) (k := 0) (h.l 0 (by decide)) (by decide) (by decide +kernel)), cond_false, (wB_no (j := 3) (k := 0) (h.l 0 (by decide)) (by decide) (by decide +kernel)), cond_false, (wB_no (j := 4) (k := 0) (h.l 0 (by decide)) (by decide) (by decide +kernel)), cond_false, (wB_no (j := 6) (k := 0) (h.l 0 (by decide)) (by decide) (by decide +kernel)), cond_false, (wB_no (j := 7) (k := 0) (h.l 0 (by decide)) (by decide) (by decide +kernel)), cond_false, (wB_no (j := 8) (k := 0) (h.l 0 (by decide)) (by decide) (by decide +kernel)), cond_false, (wB_no (j := 9) (k := 0) (h.l 0 (by decide)) (by decide) (by decide +kernel)), cond_false, (wB_ok (j := 10) (by decide) q10 (by show ¬ isLt (B (p + 3)); exact (nl_32 e3).1)), cond_true]
  unfold pEn
  rw [s3, r0, cond_false, r1, cond_true, show p + 3 + 1 + 4 = p + 8 by omega, (pS_w g1 (by omega) (by omega) (by omega) (by omega) d1).1]
  rfl
theorem stm_imp (h : tx B p (txtN 13 ++ (nmW x ++ (nmW y ++ (nmW z ++ [59]))))) (hn : p + (txtN 13 ++ (nmW x ++ (nmW y ++ (nmW z ++ [59])))).length ≤ n) (hI : nI < 16) (hM : M ≤ 12) (hx : 0 ≤ x.toInt ∧ x.toInt ≤ 9999) (hy : 0 ≤ y.toInt ∧ y.toInt < M) (hz : -9999 ≤ z.toInt ∧ z.toInt ≤ 9999) (hz0 : z.toInt ≠ 0) : ∃ q, q + 1 = p + (txtN 13 ++ (nmW x ++ (nmW y ++ (nmW z ++ [59])))).length ∧ B q = 59 ∧ B p ≠ 32 ∧ pStm B n M nI dt pl st p = (0, q, 8, x.toInt, y.toInt, z.toInt) := by
  have el : (txtN 13).length = 7 := by decide +kernel
  have c0 : B p ≠ 32 := by have := h.l 0 (by decide); rw [Nat.add_zero] at this; rw [this]; decide +kernel
  have h1 := h.r
  rw [el] at h1
  have g1 := h1.l
  have h2 := h1.r
  have l1 := nmW_1 x
  have g2 := h2.l
  have h3 := h2.r
  have l2 := nmW_1 y
  have g3 := h3.l
  have h4 := h3.r
  have l3 := nmW_1 z
  have e59 := (tx.hd h4).trans of_59
  simp only [List.length_append, List.length_cons, List.length_nil, el] at hn ⊢
  have d1 := (nl_32 (nmW_hd g2)).2
  have d2 := (nl_32 (nmW_hd g3)).2
  have d3 := (nl_59 e59).2.1
  refine ⟨p + 7 + (nmW x).length + (nmW y).length + (nmW z).length, by omega, e59, c0, ?_⟩
  unfold pStm
  rw [(wB_no (j := 2) (k := 0) (h.l 0 (by decide)) (by decide) (by decide +kernel)), cond_false, (wB_no (j := 3) (k := 0) (h.l 0 (by decide)) (by decide) (by decide +kernel)), cond_false, (wB_no (j := 4) (k := 0) (h.l 0 (by decide)) (by decide) (by decide +kernel)), cond_false, (wB_no (j := 6) (k := 0) (h.l 0 (by decide)) (by decide) (by decide +kernel)), cond_false, (wB_no (j := 7) (k := 0) (h.l 0 (by decide)) (by decide) (by decide +kernel)), cond_false, (wB_no (j := 8) (k := 0) (h.l 0 (by decide)) (by decide) (by decide +kernel)), cond_false, (wB_no (j := 9) (k := 0) (h.l 0 (by decide)) (by decide) (by decide +kernel)), cond_false, (wB_no (j := 10) (k := 0) (h.l 0 (by decide)) (by decide) (by decide +kernel)), cond_false, (wB_ok (j := 13) (by decide) h.l (by show ¬ isLt (B (p + 7)); exact (nl_32 (nmW_hd g1)).1)), cond_true]
  unfold pIm
  rw [if_pos hI, (pN_w g1 (by omega) (by omega) (by omega) (by omega) (by omega) d1).1, pb_z, (pN_w g2 (by omega) (by omega) (by omega) (by omega) (by omega) d2).1, pb_z, pS_sk (by omega), (pS_w g3 (by omega) (by omega) (by omega) (by omega) d3).1]
  exact if_neg hz0
theorem stm_spring (h : tx B p (txtN 4 ++ (nmW x ++ (nmW y ++ [59])))) (hn : p + (txtN 4 ++ (nmW x ++ (nmW y ++ [59]))).length ≤ n) (hM : M ≤ 12) (hx : 0 ≤ x.toInt ∧ x.toInt ≤ M) (hy : 0 ≤ y.toInt ∧ y.toInt ≤ 999) : ∃ q, q + 1 = p + (txtN 4 ++ (nmW x ++ (nmW y ++ [59]))).length ∧ B q = 59 ∧ B p ≠ 32 ∧ pStm B n M nI dt pl st p = (0, q, 2, x.toInt, y.toInt, 0) := by
  have el : (txtN 4).length = 6 := by decide +kernel
  have c0 : B p ≠ 32 := by have := h.l 0 (by decide); rw [Nat.add_zero] at this; rw [this]; decide +kernel
  have h1 := h.r
  rw [el] at h1
  have g1 := h1.l
  have h2 := h1.r
  have l1 := nmW_1 x
  have g2 := h2.l
  have h3 := h2.r
  have l2 := nmW_1 y
  have e59 := (tx.hd h3).trans of_59
  simp only [List.length_append, List.length_cons, List.length_nil, el] at hn ⊢
  have d1 := (nl_32 (nmW_hd g2)).2
  have d2 := (nl_59 e59).2.1
  have s9 : sk B n (p + 6 + (nmW x).length + (nmW y).length) = p + 6 + (nmW x).length + (nmW y).length := sk_fix (Or.inr (nl_59 e59).2.2)
  have r5 : wB B 5 (p + 6 + (nmW x).length + (nmW y).length) = false := wB_no (k := 0) (c := 59) (e59.trans of_59.symm) (by decide) (by decide +kernel)
  refine ⟨p + 6 + (nmW x).length + (nmW y).length, by omega, e59, c0, ?_⟩
  unfold pStm
  rw [(wB_no (j := 2) (k := 0) (h.l 0 (by decide)) (by decide) (by decide +kernel)), cond_false, (wB_no (j := 3) (k := 0) (h.l 0 (by decide)) (by decide) (by decide +kernel)), cond_false, (wB_ok (j := 4) (by decide) h.l (by show ¬ isLt (B (p + 6)); exact (nl_32 (nmW_hd g1)).1)), cond_true]
  unfold pSp
  rw [(pN_w g1 (by omega) (by omega) (by omega) (by omega) (by omega) d1).1, pb_z, (pN_w g2 (by omega) (by omega) (by omega) (by omega) (by omega) d2).1, pb_z, s9, r5, cond_false]
theorem stm_springl (h : tx B p (txtN 4 ++ (nmW x ++ (nmW y ++ (txtN 24 ++ (nmW z ++ [59])))))) (hn : p + (txtN 4 ++ (nmW x ++ (nmW y ++ (txtN 24 ++ (nmW z ++ [59]))))).length ≤ n) (hM : M ≤ 12) (hx : 0 ≤ x.toInt ∧ x.toInt ≤ M) (hy : 0 ≤ y.toInt ∧ y.toInt ≤ 999) (hz : 0 ≤ z.toInt ∧ z.toInt ≤ 99999) : ∃ q, q + 1 = p + (txtN 4 ++ (nmW x ++ (nmW y ++ (txtN 24 ++ (nmW z ++ [59]))))).length ∧ B q = 59 ∧ B p ≠ 32 ∧ pStm B n M nI dt pl st p = (0, q, 2, x.toInt, y.toInt, z.toInt) := by
  have el : (txtN 4).length = 6 := by decide +kernel
  have el2 : (txtN 24).length = 6 := by decide +kernel
  have c0 : B p ≠ 32 := by have := h.l 0 (by decide); rw [Nat.add_zero] at this; rw [this]; decide +kernel
  have h1 := h.r
  rw [el] at h1
  have g1 := h1.l
  have h2 := h1.r
  have l1 := nmW_1 x
  have g2 := h2.l
  have h3 := h2.r
  have l2 := nmW_1 y
  have g3 := h3.l
  have h4 := h3.r
  rw [el2] at h4
  have g4 := h4.l
  have h5 := h4.r
  have l4 := nmW_1 z
  have e59 := (tx.hd h5).trans of_59
  simp only [List.length_append, List.length_cons, List.length_nil, el, el2] at hn ⊢
  have d1 := (nl_32 (nmW_hd g2)).2
  have e32 : B (p + 6 + (nmW x).length + (nmW y).length) = 32 := (g3 0 (by decide)).trans (by decide +kernel)
  have d2 := (nl_32 e32).2
  have d4 := (nl_59 e59).2.1
  have e33 : B (p + 6 + (nmW x).length + (nmW y).length + 1) = Int32.ofNat 108 := (g3 1 (by decide)).trans (by decide +kernel)
  have s9 : sk B n (p + 6 + (nmW x).length + (nmW y).length) = p + 6 + (nmW x).length + (nmW y).length + 1 := sk_1 e32 (by rw [e33]; decide +kernel) (by omega)
  have q5 : tx B (p + 6 + (nmW x).length + (nmW y).length + 1) (txtN 5) := fun k hk => by
    have := g3 (1 + k) (by have : k < 5 := hk; show 1 + k < 6; omega)
    rw [Nat.add_assoc _ 1 k, this]
    exact congrArg Int32.ofNat ((by decide +kernel : ∀ k : Fin 5, (txtN 24).getD (1 + k.1) 0 = (txtN 5).getD k.1 0) ⟨k, hk⟩)
  have r5 : wB B 5 (p + 6 + (nmW x).length + (nmW y).length + 1) = true := wB_ok (j := 5) (by decide) q5 (by show ¬ isLt (B (p + 6 + (nmW x).length + (nmW y).length + 6)); exact (nl_32 (nmW_hd g4)).1)
  refine ⟨p + 6 + (nmW x).length + (nmW y).length + 6 + (nmW z).length, by omega, e59, c0, ?_⟩
  unfold pStm
  rw [(wB_no (j := 2) (k := 0) (h.l 0 (by decide)) (by decide) (by decide +kernel)), cond_false, (wB_no (j := 3) (k := 0) (h.l 0 (by decide)) (by decide) (by decide +kernel)), cond_false, (wB_ok (j := 4) (by decide) h.l (by show ¬ isLt (B (p + 6)); exact (nl_32 (nmW_hd g1)).1)), cond_true]
  unfold pSp
  rw [(pN_w g1 (by omega) (by omega) (by omega) (by omega) (by omega) d1).1, pb_z, (pN_w g2 (by omega) (by omega) (by omega) (by omega) (by omega) d2).1, pb_z, s9, r5, cond_true, show p + 6 + (nmW x).length + (nmW y).length + 1 + 5 = p + 6 + (nmW x).length + (nmW y).length + 6 by omega, (pN_w g4 (by omega) (by omega) (by omega) (by omega) (by omega) d4).1]
  rfl
theorem hd_chain (h : tx B 0 (txtN 1 ++ (nmW x ++ [59]))) (hn : (txtN 1 ++ (nmW x ++ [59])).length ≤ n) (hx : 1 ≤ x.toInt ∧ x.toInt ≤ 12) : pHd B n 0 = (0, (txtN 1 ++ (nmW x ++ [59])).length, x.toInt) := by
  have el : (txtN 1).length = 5 := by decide +kernel
  have c0 : B 0 ≠ 32 := by have := h.l 0 (by decide); rw [Nat.add_zero] at this; rw [this]; decide +kernel
  have h1 := h.r
  rw [el] at h1
  have g1 := h1.l
  have h2 := h1.r
  have e59 := (tx.hd h2).trans of_59
  simp only [List.length_append, List.length_cons, List.length_nil, el] at hn ⊢
  have d1 := (nl_59 e59).2.1
  have s0 : sk B n 0 = 0 := sk_fix (Or.inr c0)
  have w1 : wB B 1 0 = true := wB_ok (j := 1) (by decide) h.l (by show ¬ isLt (B (0 + 5)); exact (nl_32 (nmW_hd g1)).1)
  have e := (pN_w (n := n) (lo := 1) (hi := 12) g1 (by omega) (by omega) (by omega) (by omega) (by omega) d1).1
  unfold pHd
  rw [s0, w1, cond_true, e]
  have s9 : sk B n (0 + 5 + (nmW x).length) = 0 + 5 + (nmW x).length := sk_fix (Or.inr (nl_59 e59).2.2)
  show (if (0 : Nat) = 0 then (if B (sk B n (0 + 5 + (nmW x).length)) = 59 then (0, sk B n (0 + 5 + (nmW x).length) + 1, x.toInt) else _) else _) = _
  rw [if_pos rfl, s9, if_pos e59]
  refine Prod.ext rfl (Prod.ext ?_ rfl)
  show 0 + 5 + (nmW x).length + 1 = 5 + ((nmW x).length + (0 + 1))
  omega
end STM
/-- the reader's state behind a text -/
def bufOk (F : Nat → Int32) (n : Nat) (T : List Nat) : Prop := T.length ≤ n ∧ ∀ k, k < T.length → F k &&& 255 = Int32.ofNat (chT T k)
def zr (m : Nat) (f : Nat → Int32) : Prop := ∀ k, m ≤ k → k < 12 → f k = 0
def PG (D0 : CS) (T : List Nat) (c : Nat) (D : CS) (dt : Int32) (np ns : Nat) : Prop := ∀ (b : Nat) (S : SS) (n : Nat), S.2.2.2 1 = D0 → bufOk (S.2.1 0) n T → ∃ Z : SS, pAll b S n = pRun n (500 - c) Z T.length ∧ Z.2.1 0 = S.2.1 0 ∧ Z.2.2.2 1 = D ∧ Z.1 9 = dt ∧ zr np (Z.2.1 1) ∧ zr ns (Z.2.1 2)
theorem chT_take {T R : List Nat} {k : Nat} (h : k < T.length) : chT (T ++ R) k = chT T k := chT_l R h
theorem bufOk.l {F : Nat → Int32} {n : Nat} {T R : List Nat} (h : bufOk F n (T ++ R)) : bufOk F n T := ⟨by have := h.1; rw [List.length_append] at this; omega, fun k hk => by rw [h.2 k (by rw [List.length_append]; omega), chT_l R hk]⟩
theorem bufOk.tx {F : Nat → Int32} {n : Nat} {T R : List Nat} (h : bufOk F n (T ++ R)) : tx (tB F n) T.length R := fun k hk => by
  have h1 := h.1
  rw [List.length_append] at h1
  rw [tB_lt (by omega), h.2 (T.length + k) (by rw [List.length_append]; omega), chT_r R (by omega), Nat.add_sub_cancel_left]
  rfl
theorem run_step {n f p q : Nat} {S : SS} {t : Nat × Int × Int × Int} (hp : p < n) (h0 : tB (S.2.1 0) n p ≠ 32) (hs : pStm (tB (S.2.1 0) n) n (sM (S.2.2.2 1)) ((S.2.2.2 1).1 5).toInt (S.1 9) (S.2.1 1) (S.2.1 2) p = (0, q, t)) (hq : tB (S.2.1 0) n q = 59) : pRun n (f + 1) S p = pRun n f (aS t S) (q + 1) := by
  have e1 : sk (tB (S.2.1 0) n) n p = p := sk_fix (Or.inr h0)
  have e2 : sk (tB (S.2.1 0) n) n q = q := sk_fix (Or.inr (nl_59 hq).2.2)
  conv => lhs; unfold pRun
  rw [e1, if_neg (by omega), hs]
  show (if (0 : Nat) = 0 then (if tB (S.2.1 0) n (sk (tB (S.2.1 0) n) n q) = 59 then pRun n f (aS t S) (sk (tB (S.2.1 0) n) n q + 1) else _) else _) = _
  rw [if_pos rfl, e2, if_pos hq]
theorem PG.step {D0 D D' : CS} {T w : List Nat} {c np ns np' ns' : Nat} {dt dt' : Int32} {t : Nat × Int × Int × Int} (h : PG D0 T c D dt np ns) (hc : c < 500) (hw : 1 ≤ w.length)
    (hs : ∀ (B : Nat → Int32) (n p : Nat) (pl st : Nat → Int32), tx B p w → p + w.length ≤ n → zr np pl → zr ns st → ∃ q, q + 1 = p + w.length ∧ B q = 59 ∧ B p ≠ 32 ∧ pStm B n (sM D) (D.1 5).toInt dt pl st p = (0, q, t))
    (hD : ∀ Z : SS, Z.2.2.2 1 = D → Z.1 9 = dt → zr np (Z.2.1 1) → zr ns (Z.2.1 2) → (aS t Z).2.1 0 = Z.2.1 0 ∧ (aS t Z).2.2.2 1 = D' ∧ (aS t Z).1 9 = dt' ∧ zr np' ((aS t Z).2.1 1) ∧ zr ns' ((aS t Z).2.1 2)) : PG D0 (T ++ w) (c + 1) D' dt' np' ns' := by
  intro b S n hS hb
  obtain ⟨Z, z1, z2, z3, z4, z5, z6⟩ := h b S n hS hb.l
  have ht := hb.tx
  have hl := hb.1
  rw [List.length_append] at hl
  rw [← z2] at ht
  obtain ⟨q, q1, q2, q3, q4⟩ := hs _ n T.length (Z.2.1 1) (Z.2.1 2) ht hl z5 z6
  have e := run_step (f := 500 - (c + 1)) (S := Z) (by omega) q3 (by rw [z3, z4]; exact q4) q2
  rw [show 500 - (c + 1) + 1 = 500 - c by omega] at e
  obtain ⟨d1, d2, d3, d4, d5⟩ := hD Z z3 z4 z5 z6
  exact ⟨aS t Z, by rw [z1, e, List.length_append, q1], d1.trans z2, d2, d3, d4, d5⟩
theorem PG.head {D0 : CS} {x : Int32} (hx : 1 ≤ x.toInt ∧ x.toInt ≤ 12) : PG D0 (txtN 1 ++ (nmW x ++ [59])) 0 (sBeg D0 x) 0 0 0 := by
  intro b S n hS hb
  have ht := bufOk.tx (T := []) hb
  have e := hd_chain (n := n) ht hb.1 hx
  have ex : Int32.ofInt x.toInt = x := ar_eq (by rw [ar_ofI (by omega) (by omega)])
  refine ⟨ss_C (rC (rU b S (Int32.ofNat n)) 12) 1 (sBeg (S.2.2.2 1) x), ?_, rfl, ?_, rfl, fun k _ hk => fillTo_lt (i := 12) (fun _ => 0) ((rU b S (Int32.ofNat n)).2.1 1) hk, fun k _ hk => fillTo_lt (i := 12) (fun _ => 0) ((rU b S (Int32.ofNat n)).2.1 2) hk⟩
  · unfold pAll
    rw [e]
    show (if (0 : Nat) = 0 then pRun n 500 (ss_C (rC (rU b S (Int32.ofNat n)) 12) 1 (sBeg (S.2.2.2 1) (Int32.ofInt x.toInt))) _ else _) = _
    rw [if_pos rfl, ex]
  · show sBeg (S.2.2.2 1) x = _
    rw [hS]
theorem PG.done {D0 D : CS} {T : List Nat} {c np ns : Nat} {dt : Int32} (h : PG D0 T c D dt np ns) {b : Nat} {S : SS} (hS : S.2.2.2 1 = D0) (hb : bufOk (S.2.1 0) T.length T) : (pAll b S T.length).1 = 0 ∧ (pAll b S T.length).2.2.2.2.2 1 = D := by
  obtain ⟨Z, z1, z2, z3, -, -, -⟩ := h b S T.length hS hb
  have e : sk (tB (Z.2.1 0) T.length) T.length T.length = T.length := sk_fix (Or.inl rfl)
  have r : pRun T.length (500 - c) Z T.length = (0, T.length, Z) := by
    cases 500 - c with
    | zero => show (0, sk _ _ _, Z) = _; rw [e]
    | succ f => unfold pRun; rw [e, if_pos (Nat.le_refl _)]
  rw [z1, r]
  exact ⟨rfl, z3⟩
