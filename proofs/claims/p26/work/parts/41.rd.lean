/-! the model's numbers beside the class's -/
theorem ar_64 (x : Int32) : x.toInt64.toInt = x.toInt := by rw [Int32.toInt_toInt64]
theorem ar_6432 (x : Int32) : x.toInt64.toInt32 = x := ar_eq (by rw [Int64.toInt_toInt32, ar_64, ar_bm (ar_r x).1 (ar_r x).2])
theorem ar_64i {x y : Int32} (h : x.toInt64 = y.toInt64) : x = y := ar_eq (by rw [← ar_64, ← ar_64, h])
theorem ar_64add {x y : Int32} (h1 : -2147483648 ≤ x.toInt + y.toInt) (h2 : x.toInt + y.toInt < 2147483648) : (x + y).toInt64 = x.toInt64 + y.toInt64 := ar_eqL (by rw [ar_64, ar_add h1 h2, ar_addL (by rw [ar_64, ar_64]; omega) (by rw [ar_64, ar_64]; omega), ar_64, ar_64])
theorem ar_64sub {x y : Int32} (h1 : -2147483648 ≤ x.toInt - y.toInt) (h2 : x.toInt - y.toInt < 2147483648) : (x - y).toInt64 = x.toInt64 - y.toInt64 := ar_eqL (by rw [ar_64, ar_sub h1 h2, ar_subL (by rw [ar_64, ar_64]; omega) (by rw [ar_64, ar_64]; omega), ar_64, ar_64])
theorem ar_lt64 {x y : Int64} : x < y ↔ x.toInt < y.toInt := Int64.lt_iff_toInt_lt
theorem ar_lc {x y : Int64} : (y.toInt < x.toInt ∧ (lg_cmp x y).toInt = 1) ∨ (x.toInt = y.toInt ∧ (lg_cmp x y).toInt = 0) ∨ (x.toInt < y.toInt ∧ (lg_cmp x y).toInt = -1) := by
  unfold lg_cmp
  by_cases h : x > y
  · rw [if_pos h]; exact Or.inl ⟨ar_lt64.mp h, ar_1⟩
  · rw [if_neg h]
    have h' : ¬ y.toInt < x.toInt := fun c => h (ar_lt64.mpr c)
    by_cases e : x = y
    · rw [if_pos e]; exact Or.inr (Or.inl ⟨by rw [e], ar_0⟩)
    · rw [if_neg e]
      have e' : ¬ x.toInt = y.toInt := fun c => e (ar_eqL c)
      exact Or.inr (Or.inr ⟨by omega, ar_m1⟩)
theorem ar_lc_le {x y : Int64} (h : (lg_cmp x y).toInt ≤ 0) : x.toInt ≤ y.toInt := by rcases ar_lc (x := x) (y := y) with c | c | c <;> omega
theorem ar_lc_gt {x y : Int64} (h : 0 < (lg_cmp x y).toInt) : y.toInt < x.toInt := by rcases ar_lc (x := x) (y := y) with c | c | c <;> omega
theorem ar_lc_ge {x y : Int64} (h : 0 ≤ (lg_cmp x y).toInt) : y.toInt ≤ x.toInt := by rcases ar_lc (x := x) (y := y) with c | c | c <;> omega
theorem ar_lc_lt {x y : Int64} (h : (lg_cmp x y).toInt < 0) : x.toInt < y.toInt := by rcases ar_lc (x := x) (y := y) with c | c | c <;> omega
/-- an index of a field of three -/
theorem ar_ix {b x y : Int32} {b0 j w : Nat} (hb : b.toInt = (b0 : Int)) (hx : x.toInt = (j : Int)) (hy : y.toInt = (w : Int)) (h1 : b0 ≤ 200) (h2 : j ≤ 100) (h3 : w ≤ 3) : (b + 3 * x + y).toInt = ((b0 + 3 * j + w : Nat) : Int) := by
  have z3 : (3 : Int32).toInt = 3 := by decide +kernel
  have e1 : (3 * x).toInt = 3 * x.toInt := by rw [ar_mul (by rw [z3]; omega) (by rw [z3]; omega), z3]
  rw [ar_add, ar_add, e1] <;> (try rw [ar_add]) <;> (try rw [e1]) <;> omega
theorem ar_ix3 {b x : Int32} {b0 j : Nat} (hb : b.toInt = (b0 : Int)) (hx : x.toInt = (j : Int)) (h1 : b0 ≤ 200) (h2 : j ≤ 100) : (b + 3 * x).toInt = ((b0 + 3 * j : Nat) : Int) := by
  have z3 : (3 : Int32).toInt = 3 := by decide +kernel
  have e1 : (3 * x).toInt = 3 * x.toInt := by rw [ar_mul (by rw [z3]; omega) (by rw [z3]; omega), z3]
  rw [ar_add, e1] <;> (try rw [e1]) <;> omega
theorem ar_ix2 {b x : Int32} {b0 j : Nat} (hb : b.toInt = (b0 : Int)) (hx : x.toInt = (j : Int)) (h1 : b0 ≤ 200) (h2 : j ≤ 100) : (b + 2 * x).toInt = ((b0 + 2 * j : Nat) : Int) := by
  have z3 : (2 : Int32).toInt = 2 := by decide +kernel
  have e1 : (2 * x).toInt = 2 * x.toInt := by rw [ar_mul (by rw [z3]; omega) (by rw [z3]; omega), z3]
  rw [ar_add, e1] <;> (try rw [e1]) <;> omega
/-! impulses as lists -/
abbrev TI : Type := Int32 × Int32 × Int32
/-- y is told behind x -/
def tLat (x y : TI) : Prop := x.1.toInt < y.1.toInt ∨ (y.1 = x.1 ∧ x.2.1.toInt < y.2.1.toInt)
def tLatB (x y : TI) : Bool := decide (x.1.toInt < y.1.toInt) || (decide (y.1 = x.1) && decide (x.2.1.toInt < y.2.1.toInt))
theorem tLatB_iff {x y : TI} : tLatB x y = true ↔ tLat x y := by unfold tLatB tLat; rw [Bool.or_eq_true, Bool.and_eq_true, decide_eq_true_iff, decide_eq_true_iff, decide_eq_true_iff]
/-- the list by its reversed form: from behind -/
def rIns (x : TI) : List TI → List TI
  | [] => [x]
  | y :: l => bif tLatB x y then y :: rIns x l else x :: y :: l
/-- the sorted list, its last one first -/
def rSrt (l : List TI) : List TI := l.foldl (fun a x => rIns x a) []
theorem rSrt_snoc (l : List TI) (x : TI) : rSrt (l ++ [x]) = rIns x (rSrt l) := by unfold rSrt; rw [List.foldl_append]; rfl
theorem rIns_cons (x y : TI) (l : List TI) : rIns x (y :: l) = bif tLatB x y then y :: rIns x l else x :: y :: l := rfl
theorem rIns_len (x : TI) : ∀ l : List TI, (rIns x l).length = l.length + 1
  | [] => rfl
  | y :: l => by
    unfold rIns
    cases tLatB x y with
    | true => rw [cond_true, List.length_cons, rIns_len x l, List.length_cons]
    | false => rfl
theorem rIns_perm (x : TI) : ∀ l : List TI, (rIns x l).Perm (x :: l)
  | [] => List.Perm.refl _
  | y :: l => by
    unfold rIns
    cases tLatB x y with
    | true => exact ((rIns_perm x l).cons y).trans (List.Perm.swap x y l)
    | false => exact List.Perm.refl _
theorem rSrt_perm (l : List TI) : (rSrt l).Perm l := by
  suffices H : ∀ (l a : List TI), (l.foldl (fun a x => rIns x a) a).Perm (l ++ a) by
    have := H l []
    rw [List.append_nil] at this
    exact this
  intro l
  induction l with
  | nil => intro a; exact List.Perm.refl _
  | cons x l ih =>
    intro a
    refine (ih _).trans ?_
    refine ((rIns_perm x a).append_left l).trans ?_
    exact List.perm_middle
theorem rSrt_len (l : List TI) : (rSrt l).length = l.length := (rSrt_perm l).length_eq
/-- none behind is told earlier than one ahead: of the reversed list, each is not behind its front -/
def rOrd (l : List TI) : Prop := l.Pairwise (fun y z => ¬ tLat y z)
theorem rIns_mem {x y : TI} {l : List TI} (h : y ∈ rIns x l) : y = x ∨ y ∈ l := by
  have := (rIns_perm x l).mem_iff.mp h
  rcases List.mem_cons.mp this with c | c
  · exact Or.inl c
  · exact Or.inr c
theorem tLat_asym {x y : TI} (h : tLat x y) : ¬ tLat y x := by
  intro c
  rcases h with h | ⟨e, h⟩
  · rcases c with c | ⟨e2, c⟩
    · omega
    · rw [e2] at h; omega
  · rcases c with c | ⟨e2, c⟩
    · rw [e] at c; omega
    · omega
theorem tLat_neg_trans {x y z : TI} (h1 : ¬ tLat x y) (h2 : ¬ tLat y z) : ¬ tLat x z := by
  intro h
  unfold tLat at h1 h2
  rw [not_or, not_and] at h1 h2
  rcases h with h | ⟨e, h⟩
  · by_cases c : y.1 = z.1
    · have := h1.1; rw [c] at this; omega
    · have h3 := h1.1; have h4 := h2.1; omega
  · by_cases c : y.1 = x.1
    · have h3 := h1.2 c
      have h4 := h2.2 (e.trans c.symm)
      omega
    · have h3 := h1.1; have h4 := h2.1
      rw [e] at h4
      exact c (ar_eq (by omega))
theorem rIns_ord {x : TI} : ∀ {l : List TI}, rOrd l → rOrd (rIns x l)
  | [], _ => List.pairwise_singleton _ _
  | y :: l, h => by
    have hp := List.pairwise_cons.mp h
    unfold rIns
    cases c : tLatB x y with
    | true =>
      rw [cond_true]
      refine List.pairwise_cons.mpr ⟨fun z hz => ?_, rIns_ord hp.2⟩
      rcases rIns_mem hz with rfl | hz
      · exact tLat_asym (tLatB_iff.mp c)
      · exact hp.1 z hz
    | false =>
      rw [cond_false]
      have c2 : ¬ tLat x y := fun q => by rw [tLatB_iff.mpr q] at c; exact absurd c (by decide)
      refine List.pairwise_cons.mpr ⟨fun z hz => ?_, h⟩
      rcases List.mem_cons.mp hz with rfl | hz
      · exact c2
      · exact tLat_neg_trans c2 (hp.1 z hz)
theorem rSrt_ord (l : List TI) : rOrd (rSrt l) := by
  suffices H : ∀ (l a : List TI), rOrd a → rOrd (l.foldl (fun a x => rIns x a) a) from H l [] List.Pairwise.nil
  intro l
  induction l with
  | nil => intro a h; exact h
  | cons x l ih => intro a h; exact ih _ (rIns_ord h)
/-- picking some, by a test, goes well with inserting -/
theorem rIns_filter {x : TI} (t : TI → Bool) : ∀ {l : List TI}, rOrd l → (rIns x l).filter t = bif t x then rIns x (l.filter t) else l.filter t
  | [], _ => by cases h : t x <;> simp [rIns, h]
  | y :: l, h => by
    have hp := List.pairwise_cons.mp h
    have ih := rIns_filter (x := x) t hp.2
    rw [rIns_cons]
    cases c : tLatB x y with
    | true =>
      rw [cond_true, List.filter_cons, ih, List.filter_cons]
      cases ty : t y <;> cases tx : t x <;> simp [rIns_cons, c]
    | false =>
      rw [cond_false, List.filter_cons]
      cases tx : t x with
      | false => simp
      | true =>
        rw [cond_true, if_pos rfl]
        have hz : ∀ z ∈ (y :: l).filter t, tLatB x z = false := fun z hz => by
          have hm := (List.mem_filter.mp hz).1
          have c2 : ¬ tLat x y := fun q => by rw [tLatB_iff.mpr q] at c; exact absurd c (by decide)
          have : ¬ tLat x z := by
            rcases List.mem_cons.mp hm with rfl | hm
            · exact c2
            · exact tLat_neg_trans c2 (hp.1 z hm)
          cases q : tLatB x z with
          | false => rfl
          | true => exact absurd (tLatB_iff.mp q) this
        cases e : (y :: l).filter t with
        | nil => rfl
        | cons z r =>
          rw [rIns_cons, hz z (by rw [e]; exact List.mem_cons_self), cond_false]
theorem rSrt_filter (t : TI → Bool) (l : List TI) : (rSrt l).filter t = rSrt (l.filter t) := by
  suffices H : ∀ (l a : List TI), rOrd a → (l.foldl (fun a x => rIns x a) a).filter t = (l.filter t).foldl (fun a x => rIns x a) (a.filter t) from H l [] List.Pairwise.nil
  intro l
  induction l with
  | nil => intro a _; rfl
  | cons x l ih =>
    intro a ha
    show (l.foldl (fun a x => rIns x a) (rIns x a)).filter t = _
    rw [ih _ (rIns_ord ha), rIns_filter t ha, List.filter_cons]
    cases h : t x <;> simp

