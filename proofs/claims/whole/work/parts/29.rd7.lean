/-! the reader: what a statement keeps; the head; the whole text -/
/-- what a statement that was read has -/
def okA (M nI : Int) (r : Nat × Int × Int × Int) : Prop :=
  (r.1 = 0 ∧ 0 ≤ r.2.1 ∧ r.2.1 < M ∧ 1 ≤ r.2.2.1 ∧ r.2.2.1 ≤ 99) ∨
  (r.1 = 1 ∧ 1 ≤ r.2.1 ∧ r.2.1 ≤ 99) ∨
  (r.1 = 2 ∧ 0 ≤ r.2.1 ∧ r.2.1 ≤ M ∧ 0 ≤ r.2.2.1 ∧ r.2.2.1 ≤ 999 ∧ 0 ≤ r.2.2.2 ∧ r.2.2.2 ≤ 99999) ∨
  (r.1 = 3 ∧ 0 ≤ r.2.1 ∧ r.2.1 ≤ 999) ∨
  (r.1 = 4 ∧ 0 ≤ r.2.1 ∧ r.2.1 ≤ 999) ∨
  (r.1 = 5 ∧ 0 ≤ r.2.1 ∧ r.2.1 < M ∧ -10000 ≤ r.2.2.1 ∧ r.2.2.1 ≤ 10000) ∨
  (r.1 = 6 ∧ 0 ≤ r.2.1 ∧ r.2.1 < M ∧ -100000 ≤ r.2.2.1 ∧ r.2.2.1 ≤ 100000) ∨
  (r.1 = 7 ∧ (r.2.1 = 0 ∨ r.2.1 = 1) ∧ -100000 ≤ r.2.2.1 ∧ r.2.2.1 ≤ 100000) ∨
  (r.1 = 8 ∧ nI < 16 ∧ 0 ≤ r.2.1 ∧ r.2.1 ≤ 9999 ∧ 0 ≤ r.2.2.1 ∧ r.2.2.1 < M ∧ -9999 ≤ r.2.2.2 ∧ r.2.2.2 ≤ 9999 ∧ r.2.2.2 ≠ 0)
def okR (n p : Nat) (M nI : Int) (r : PR) : Prop := r.1 = 0 → p < r.2.1 ∧ r.2.1 ≤ n ∧ okA M nI r.2.2
section OKR
variable {B : Nat → Int32} {n p : Nat} {M nI : Int}
theorem okR_pb {r : Nat × Nat × Int} {f : Nat → Int → PR} (h : r.1 = 0 → okR n p M nI (f r.2.1 r.2.2)) : okR n p M nI (pb r f) := by
  by_cases c : r.1 = 0
  · rw [pb_ok c]; exact h c
  · rw [pb_no c]; intro q; exact absurd q c
theorem okR_no {k q : Nat} {t : Nat × Int × Int × Int} (hk : k ≠ 0) : okR n p M nI (k, q, t) := fun e => absurd e hk
theorem ok_Wt (hB : ∀ k, n ≤ k → B k = -1) (hp : p ≤ n) : okR n p M nI (pWt B n M p) := by
  refine okR_pb fun c => ?_
  have f0 := pN_0 hB hp c
  refine okR_pb fun c2 => ?_
  have f1 := pN_0 hB f0.2.1 c2
  intro _
  exact ⟨by show p < (pN B n 1 99 _).2.1; omega, f1.2.1, Or.inl ⟨rfl, f0.2.2.1, by show (pN B n 0 (M - 1) p).2.2 < M; omega, f1.2.2.1, f1.2.2.2⟩⟩
theorem ok_AW (hB : ∀ k, n ≤ k → B k = -1) (hp : p ≤ n) : okR n p M nI (pAW B n p) := by
  refine okR_pb fun c => ?_
  have f0 := pN_0 hB hp c
  intro _
  exact ⟨f0.1, f0.2.1, Or.inr (Or.inl ⟨rfl, f0.2.2.1, f0.2.2.2⟩)⟩
theorem ok_AS (hB : ∀ k, n ≤ k → B k = -1) (hp : p ≤ n) : okR n p M nI (pAS B n p) := by
  refine okR_pb fun c => ?_
  have f0 := pN_0 hB hp c
  intro _
  exact ⟨f0.1, f0.2.1, Or.inr (Or.inr (Or.inr (Or.inl ⟨rfl, f0.2.2.1, f0.2.2.2⟩)))⟩

end OKR
