/-! the reader: what a statement keeps; the head; the whole text -/
theorem sInv_beg (σ : CS) {y : Int32} (y0 : 1 ≤ y.toInt) (y1 : y.toInt ≤ 12) : sInv (sBeg σ y) := by
  have w10 : (10 : Int32).toInt = 10 := by decide +kernel
  have e0 : (sBeg σ y).1 0 = y := rfl
  have e5 : (sBeg σ y).1 5 = 0 := rfl
  have e6 : (sBeg σ y).1 6 = 0 := rfl
  refine ⟨⟨by unfold sM; rw [e0]; exact y0, by unfold sM; rw [e0]; exact y1⟩, ?_, ⟨by rw [e5, ar_0]; decide, by rw [e5, ar_0]; decide⟩, ?_, ⟨by rw [e6, ar_0]; decide, by rw [e6, ar_0]; decide⟩⟩
  · intro j hj
    have hj2 : j < 12 := by unfold sNm at hj; rw [e0] at hj; omega
    have e : (sBeg σ y).2.2 0 j = fillTo 12 (fun _ => 10) (σ.2.2 0) j := rfl
    rw [e]
    unfold fillTo
    rw [if_pos hj2, w10]
    decide
  · intro j hj
    unfold sIn at hj
    rw [e5, ar_0] at hj
    exact absurd hj (Nat.not_lt_zero _)
theorem sInv_bec (σ : CS) {τ : CS} (hv : sInv τ) : sInv (sBec σ τ) := by
  have e0 : (sBec σ τ).1 0 = τ.1 0 := rfl
  have e5 : (sBec σ τ).1 5 = τ.1 5 := rfl
  have e6 : (sBec σ τ).1 6 = τ.1 6 := rfl
  obtain ⟨h1, h2, h3, h4, h5⟩ := hv
  have m1 : 1 ≤ (τ.1 0).toInt := h1.1
  have m2 : (τ.1 0).toInt ≤ 12 := h1.2
  refine ⟨⟨by unfold sM; rw [e0]; exact h1.1, by unfold sM; rw [e0]; exact h1.2⟩, ?_, ⟨by rw [e5]; exact h3.1, by rw [e5]; exact h3.2⟩, ?_, ⟨by rw [e6]; exact h5.1, by rw [e6]; exact h5.2⟩⟩
  · intro j hj
    unfold sNm at hj
    rw [e0] at hj
    have hj2 : j < 12 := by omega
    have e : (sBec σ τ).2.2 0 j = fillTo 12 (τ.2.2 0) (σ.2.2 0) j := rfl
    rw [e]
    unfold fillTo
    rw [if_pos hj2]
    exact h2 j hj
  · intro j hj
    unfold sIn at hj
    rw [e5] at hj
    have h32 := h3.2
    have hj2 : j < 16 := by omega
    have e : (sBec σ τ).2.2 8 j = fillTo 16 (τ.2.2 8) (σ.2.2 8) j := rfl
    have em : sM (sBec σ τ) = sM τ := by unfold sM; rw [e0]
    rw [e, em]
    unfold fillTo
    rw [if_pos hj2]
    exact h4 j hj
theorem sInv_ins {σ : CS} (hv : sInv σ) (h16 : sIn σ < 16) {t m s : Int32} (m0 : 0 ≤ m.toInt) (m1 : m.toInt < sM σ) : sInv (sIns σ t m s) := by
  have e5 : (sIns σ t m s).1 5 = σ.1 5 + 1 := rfl
  have e8 : (sIns σ t m s).2.2 8 = ev_u (sShiftF (σ.2.2 8) (sInsP σ t m) (sIn σ)) (sInsP σ t m) m := rfl
  obtain ⟨h1, h2, h3, h4, h5⟩ := hv
  have hn := (sIok.nat h3).1
  have c0 := h3.1
  have c1 := h3.2
  have e5i : (σ.1 5 + 1).toInt = (σ.1 5).toInt + 1 := by rw [ar_add (by rw [ar_1]; omega) (by rw [ar_1]; omega), ar_1]
  refine ⟨h1, h2, ⟨by rw [e5, e5i]; omega, by rw [e5, e5i]; omega⟩, ?_, h5⟩
  intro j hj
  unfold sIn at hj
  rw [e5, e5i] at hj
  rw [e8]
  show 0 ≤ (ev_u _ (sInsP σ t m) m j).toInt ∧ (ev_u _ (sInsP σ t m) m j).toInt < sM σ
  by_cases c : j = sInsP σ t m
  · subst c
    rw [ev_u_self]
    exact ⟨m0, m1⟩
  · rw [ev_u_ne _ _ c]
    have hp : sInsP σ t m ≤ sIn σ := sPlaceF_le σ t m _
    unfold sShiftF
    by_cases d : sInsP σ t m < j ∧ j ≤ sIn σ
    · rw [if_pos d]
      exact h4 (j - 1) (by omega)
    · rw [if_neg d]
      exact h4 j (by omega)
/-- what a statement that was read has -/
def okA (M nI : Int) (r : Nat × Int × Int × Int) : Prop :=
  (r.1 = 0 ∧ 0 ≤ r.2.1 ∧ r.2.1 < M ∧ 1 ≤ r.2.2.1 ∧ r.2.2.1 ≤ 99) ∨
  (r.1 = 1 ∧ 1 ≤ r.2.1 ∧ r.2.1 ≤ 99) ∨
  (r.1 = 2 ∧ 0 ≤ r.2.1 ∧ r.2.1 ≤ M ∧ 0 ≤ r.2.2.1 ∧ r.2.2.1 ≤ 999 ∧ 0 ≤ r.2.2.2 ∧ r.2.2.2 ≤ 99999) ∨
  (r.1 = 3 ∧ 0 ≤ r.2.1 ∧ r.2.1 ≤ 999) ∨
  (r.1 = 4 ∧ 0 ≤ r.2.1 ∧ r.2.1 ≤ 999) ∨
  (r.1 = 5 ∧ 0 ≤ r.2.1 ∧ r.2.1 < M ∧ -10000 ≤ r.2.2.1 ∧ r.2.2.1 ≤ 10000) ∨
  (r.1 = 6 ∧ 0 ≤ r.2.1 ∧ r.2.1 < M ∧ -100000 ≤ r.2.2.1 ∧ r.2.2.1 ≤ 100000) ∨
  (r.1 = 7 ∧ (r.2.1 = 0 ∨ r.2.1 = 1) ∧ -100000 ≤ r.2.2.1 ∧ r.2.2.1 ≤ 100000) ∨
  (r.1 = 8 ∧ nI < 16 ∧ 0 ≤ r.2.1 ∧ r.2.1 ≤ 9999 ∧ 0 ≤ r.2.2.1 ∧ r.2.2.1 < M ∧ -9999 ≤ r.2.2.2 ∧ r.2.2.2 ≤ 9999 ∧ r.2.2.2 ≠ 0)
def okR (n p : Nat) (M nI : Int) (r : PR) : Prop := r.1 = 0 → p < r.2.1 ∧ r.2.1 ≤ n ∧ okA M nI r.2.2
section OKR
variable {B : Nat → Int32} {n p : Nat} {M nI : Int}
theorem okR_pb {r : Nat × Nat × Int} {f : Nat → Int → PR} (h : r.1 = 0 → okR n p M nI (f r.2.1 r.2.2)) : okR n p M nI (pb r f) := by
  by_cases c : r.1 = 0
  · rw [pb_ok c]; exact h c
  · rw [pb_no c]; intro q; exact absurd q c
theorem okR_no {k q : Nat} {t : Nat × Int × Int × Int} (hk : k ≠ 0) : okR n p M nI (k, q, t) := fun e => absurd e hk
theorem ok_Wt (hB : ∀ k, n ≤ k → B k = -1) (hp : p ≤ n) : okR n p M nI (pWt B n M p) := by
  refine okR_pb fun c => ?_
  have f0 := pN_0 hB hp c
  refine okR_pb fun c2 => ?_
  have f1 := pN_0 hB f0.2.1 c2
  intro _
  exact ⟨by show p < (pN B n 1 99 _).2.1; omega, f1.2.1, Or.inl ⟨rfl, f0.2.2.1, by show (pN B n 0 (M - 1) p).2.2 < M; omega, f1.2.2.1, f1.2.2.2⟩⟩
theorem ok_AW (hB : ∀ k, n ≤ k → B k = -1) (hp : p ≤ n) : okR n p M nI (pAW B n p) := by
  refine okR_pb fun c => ?_
  have f0 := pN_0 hB hp c
  intro _
  exact ⟨f0.1, f0.2.1, Or.inr (Or.inl ⟨rfl, f0.2.2.1, f0.2.2.2⟩)⟩
theorem ok_AS (hB : ∀ k, n ≤ k → B k = -1) (hp : p ≤ n) : okR n p M nI (pAS B n p) := by
  refine okR_pb fun c => ?_
  have f0 := pN_0 hB hp c
  intro _
  exact ⟨f0.1, f0.2.1, Or.inr (Or.inr (Or.inr (Or.inl ⟨rfl, f0.2.2.1, f0.2.2.2⟩)))⟩
theorem ok_Sp (hB : ∀ k, n ≤ k → B k = -1) (hp : p ≤ n) : okR n p M nI (pSp B n M p) := by
  refine okR_pb fun c => ?_
  have f0 := pN_0 hB hp c
  refine okR_pb fun c2 => ?_
  have f1 := pN_0 hB f0.2.1 c2
  have hs := sk_rng B f1.2.1
  show okR n p M nI (bif wB B 5 (sk B n (pN B n 0 999 (pN B n 0 M p).2.1).2.1) then _ else _)
  cases hw : wB B 5 (sk B n (pN B n 0 999 (pN B n 0 M p).2.1).2.1) with
  | false =>
    rw [cond_false]
    intro _
    exact ⟨by show p < sk B n _; omega, hs.2, Or.inr (Or.inr (Or.inl ⟨rfl, f0.2.2.1, f0.2.2.2, f1.2.2.1, f1.2.2.2, Int.le_refl _, (by show (0 : Int) ≤ 99999; decide)⟩))⟩
  | true =>
    have h5 := wAt_n hB (wB_iff.mp hw) (by decide)
    change sk B n (pN B n 0 999 (pN B n 0 M p).2.1).2.1 + 5 ≤ n at h5
    rw [cond_true]
    refine okR_pb fun c3 => ?_
    have f2 := pN_0 hB h5 c3
    intro _
    exact ⟨by show p < (pN B n 0 99999 _).2.1; omega, f2.2.1, Or.inr (Or.inr (Or.inl ⟨rfl, f0.2.2.1, f0.2.2.2, f1.2.2.1, f1.2.2.2, f2.2.2.1, f2.2.2.2⟩))⟩
theorem ok_Dm (hB : ∀ k, n ≤ k → B k = -1) {dt : Int32} {q : Nat} (hp : p ≤ n) : okR n p M nI (pDm B n dt q p) := by
  unfold pDm
  split
  · refine okR_pb fun c => ?_
    have f0 := pN_0 hB hp c
    intro _
    exact ⟨f0.1, f0.2.1, Or.inr (Or.inr (Or.inr (Or.inr (Or.inl ⟨rfl, f0.2.2.1, f0.2.2.2⟩))))⟩
  · exact okR_no (by decide)
theorem ok_Pl (hB : ∀ k, n ≤ k → B k = -1) {pl : Nat → Int32} (hp : p ≤ n) : okR n p M nI (pPl B n M pl p) := by
  refine okR_pb fun c => ?_
  have f0 := pN_0 hB hp c
  show okR n p M nI (if pl (pN B n 0 (M - 1) p).2.2.toNat = 0 then _ else _)
  split
  · refine okR_pb fun c2 => ?_
    have f1 := pS_0 hB f0.2.1 (by decide) c2
    intro _
    exact ⟨by show p < (pS B n 10000 _).2.1; omega, f1.2.1, Or.inr (Or.inr (Or.inr (Or.inr (Or.inr (Or.inl ⟨rfl, f0.2.2.1, by show (pN B n 0 (M - 1) p).2.2 < M; omega, f1.2.2.1, f1.2.2.2⟩)))))⟩
  · exact okR_no (by decide)
theorem ok_Sr (hB : ∀ k, n ≤ k → B k = -1) {pl : Nat → Int32} (hp : p ≤ n) : okR n p M nI (pSr B n M pl p) := by
  refine okR_pb fun c => ?_
  have f0 := pN_0 hB hp c
  show okR n p M nI (if pl (pN B n 0 (M - 1) p).2.2.toNat = 0 then _ else _)
  split
  · refine okR_pb fun c2 => ?_
    have f1 := pS_0 hB f0.2.1 (by decide) c2
    intro _
    exact ⟨by show p < (pS B n 100000 _).2.1; omega, f1.2.1, Or.inr (Or.inr (Or.inr (Or.inr (Or.inr (Or.inr (Or.inl ⟨rfl, f0.2.2.1, by show (pN B n 0 (M - 1) p).2.2 < M; omega, f1.2.2.1, f1.2.2.2⟩))))))⟩
  · exact okR_no (by decide)
theorem ok_En (hB : ∀ k, n ≤ k → B k = -1) (hp : p ≤ n) : okR n p M nI (pEn B n p) := by
  have hs := sk_rng B hp
  unfold pEn
  cases hw : wB B 11 (sk B n p) with
  | true =>
    have h5 := wAt_n hB (wB_iff.mp hw) (by decide)
    change sk B n p + 5 ≤ n at h5
    rw [cond_true]
    refine okR_pb fun c => ?_
    have f0 := pS_0 hB h5 (by decide) c
    intro _
    exact ⟨by show p < (pS B n 100000 _).2.1; omega, f0.2.1, Or.inr (Or.inr (Or.inr (Or.inr (Or.inr (Or.inr (Or.inr (Or.inl ⟨rfl, Or.inr rfl, f0.2.2.1, f0.2.2.2⟩)))))))⟩
  | false =>
    cases hw2 : wB B 12 (sk B n p) with
    | true =>
      have h5 := wAt_n hB (wB_iff.mp hw2) (by decide)
      change sk B n p + 4 ≤ n at h5
      rw [cond_false, cond_true]
      refine okR_pb fun c => ?_
      have f0 := pS_0 hB h5 (by decide) c
      intro _
      exact ⟨by show p < (pS B n 100000 _).2.1; omega, f0.2.1, Or.inr (Or.inr (Or.inr (Or.inr (Or.inr (Or.inr (Or.inr (Or.inl ⟨rfl, Or.inl rfl, f0.2.2.1, f0.2.2.2⟩)))))))⟩
    | false => exact okR_no (by decide)
theorem ok_Im (hB : ∀ k, n ≤ k → B k = -1) {q : Nat} (hp : p ≤ n) : okR n p M nI (pIm B n M nI q p) := by
  unfold pIm
  split
  · rename_i hI
    refine okR_pb fun c => ?_
    have f0 := pN_0 hB hp c
    refine okR_pb fun c2 => ?_
    have f1 := pN_0 hB f0.2.1 c2
    have hs := sk_rng B f1.2.1
    refine okR_pb fun c3 => ?_
    have f2 := pS_0 hB hs.2 (by decide) c3
    show okR n p M nI (if (pS B n 9999 _).2.2 = 0 then _ else _)
    split
    · exact okR_no (by decide)
    · rename_i hz
      intro _
      exact ⟨by show p < (pS B n 9999 _).2.1; omega, f2.2.1, Or.inr (Or.inr (Or.inr (Or.inr (Or.inr (Or.inr (Or.inr (Or.inr ⟨rfl, hI, f0.2.2.1, f0.2.2.2, f1.2.2.1, by show (pN B n 0 (M - 1) _).2.2 < M; omega, f2.2.2.1, f2.2.2.2, hz⟩)))))))⟩
  · exact okR_no (by decide)
theorem okR_up {r : PR} {q : Nat} (h : okR n q M nI r) (hq : p ≤ q) : okR n p M nI r := fun e => ⟨Nat.lt_of_le_of_lt hq (h e).1, (h e).2⟩
theorem ok_Stm (hB : ∀ k, n ≤ k → B k = -1) {dt : Int32} {pl st : Nat → Int32} : okR n p M nI (pStm B n M nI dt pl st p) := by
  unfold pStm
  cases hw2 : wB B 2 p with
  | true =>
    have h5 := wAt_n hB (wB_iff.mp hw2) (by decide)
    change p + 4 ≤ n at h5
    exact okR_up (ok_Wt hB h5) (Nat.le_add_right _ _)
  | false =>
  cases hw3 : wB B 3 p with
  | true =>
    have h5 := wAt_n hB (wB_iff.mp hw3) (by decide)
    change p + 6 ≤ n at h5
    exact okR_up (ok_AW hB h5) (Nat.le_add_right _ _)
  | false =>
  cases hw4 : wB B 4 p with
  | true =>
    have h5 := wAt_n hB (wB_iff.mp hw4) (by decide)
    change p + 6 ≤ n at h5
    exact okR_up (ok_Sp hB h5) (Nat.le_add_right _ _)
  | false =>
  cases hw6 : wB B 6 p with
  | true =>
    have h5 := wAt_n hB (wB_iff.mp hw6) (by decide)
    change p + 7 ≤ n at h5
    exact okR_up (ok_AS hB h5) (Nat.le_add_right _ _)
  | false =>
  cases hw7 : wB B 7 p with
  | true =>
    have h5 := wAt_n hB (wB_iff.mp hw7) (by decide)
    change p + 4 ≤ n at h5
    exact okR_up (ok_Dm hB h5) (Nat.le_add_right _ _)
  | false =>
  cases hw8 : wB B 8 p with
  | true =>
    have h5 := wAt_n hB (wB_iff.mp hw8) (by decide)
    change p + 5 ≤ n at h5
    exact okR_up (ok_Pl hB h5) (Nat.le_add_right _ _)
  | false =>
  cases hw9 : wB B 9 p with
  | true =>
    have h5 := wAt_n hB (wB_iff.mp hw9) (by decide)
    change p + 6 ≤ n at h5
    exact okR_up (ok_Sr hB h5) (Nat.le_add_right _ _)
  | false =>
  cases hw10 : wB B 10 p with
  | true =>
    have h5 := wAt_n hB (wB_iff.mp hw10) (by decide)
    change p + 3 ≤ n at h5
    exact okR_up (ok_En hB h5) (Nat.le_add_right _ _)
  | false =>
  cases hw13 : wB B 13 p with
  | true =>
    have h5 := wAt_n hB (wB_iff.mp hw13) (by decide)
    change p + 7 ≤ n at h5
    exact okR_up (ok_Im hB h5) (Nat.le_add_right _ _)
  | false =>
  exact okR_no (by decide)
end OKR
