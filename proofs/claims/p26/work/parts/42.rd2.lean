/-! the class's impulses as the sorted list -/
/-- the first n, the last one first -/
def cRev (F : Nat → TI) : Nat → List TI
  | 0 => []
  | n + 1 => F n :: cRev F n
theorem cRev_len (F : Nat → TI) : ∀ n, (cRev F n).length = n
  | 0 => rfl
  | n + 1 => by show (cRev F n).length + 1 = n + 1; rw [cRev_len F n]
theorem cRev_congr {F F' : Nat → TI} : ∀ {n : Nat}, (∀ k, k < n → F k = F' k) → cRev F n = cRev F' n
  | 0, _ => rfl
  | n + 1, h => by
    show F n :: cRev F n = F' n :: cRev F' n
    rw [h n (by omega), cRev_congr (fun k hk => h k (by omega))]
theorem cRev_inj {F F' : Nat → TI} : ∀ {n : Nat}, cRev F n = cRev F' n → ∀ k, k < n → F k = F' k
  | 0, _, k, hk => absurd hk (by omega)
  | n + 1, h, k, hk => by
    have h2 : F n :: cRev F n = F' n :: cRev F' n := h
    have h3 := List.cons.inj h2
    by_cases e : k = n
    · subst e; exact h3.1
    · exact cRev_inj h3.2 k (by omega)
theorem cRev_mem {F : Nat → TI} {x : TI} : ∀ {n : Nat}, x ∈ cRev F n ↔ ∃ k, k < n ∧ F k = x
  | 0 => ⟨fun h => absurd h (List.not_mem_nil), fun ⟨k, h, _⟩ => absurd h (by omega)⟩
  | n + 1 => by
    show x ∈ F n :: cRev F n ↔ _
    rw [List.mem_cons, cRev_mem (n := n)]
    constructor
    · rintro (rfl | ⟨k, h1, h2⟩)
      · exact ⟨n, by omega, rfl⟩
      · exact ⟨k, by omega, h2⟩
    · rintro ⟨k, h1, h2⟩
      by_cases e : k = n
      · subst e; exact Or.inl h2.symm
      · exact Or.inr ⟨k, by omega, h2⟩
theorem cRev_of (l : List TI) (n : Nat) (h : l.length = n) : ∃ F, cRev F n = l := by
  induction l generalizing n with
  | nil => subst h; exact ⟨fun _ => (0, 0, 0), rfl⟩
  | cons x l ih =>
    subst h
    obtain ⟨F, hF⟩ := ih l.length rfl
    refine ⟨ev_u F l.length x, ?_⟩
    show ev_u F l.length x l.length :: cRev (ev_u F l.length x) l.length = _
    rw [ev_u_self, cRev_congr (F' := F) (fun k hk => ev_u_ne _ _ (by omega)), hF]
theorem cRev_add (F : Nat → TI) (d : Nat) : ∀ r, cRev F (r + d) = cRev (fun j => F (j + d)) r ++ cRev F d
  | 0 => by rw [Nat.zero_add]; rfl
  | r + 1 => by
    rw [show r + 1 + d = (r + d) + 1 by omega]
    show F (r + d) :: cRev F (r + d) = F (r + d) :: (cRev (fun j => F (j + d)) r ++ cRev F d)
    rw [cRev_add F d r]
theorem cRev_ord {F : Nat → TI} : ∀ {n : Nat}, rOrd (cRev F n) → ∀ i j, i < j → j < n → ¬ tLat (F j) (F i)
  | 0, _, _, _, _, h => absurd h (by omega)
  | n + 1, h, i, j, h1, h2 => by
    have h3 : rOrd (F n :: cRev F n) := h
    have hp := List.pairwise_cons.mp h3
    by_cases e : j = n
    · subst e; exact hp.1 _ (cRev_mem.mpr ⟨i, h1, rfl⟩)
    · exact cRev_ord hp.2 i j h1 (by omega)
/-- the place of a new one -/
def plF (F : Nat → TI) (x : TI) : Nat → Nat
  | 0 => 0
  | p + 1 => bif tLatB x (F p) then plF F x p else p + 1
theorem plF_le (F : Nat → TI) (x : TI) : ∀ n, plF F x n ≤ n
  | 0 => Nat.le_refl _
  | p + 1 => by
    unfold plF
    cases tLatB x (F p) with
    | true => have := plF_le F x p; rw [cond_true]; omega
    | false => exact Nat.le_refl _
def inF (F : Nat → TI) (x : TI) (p : Nat) : Nat → TI := fun j => if j < p then F j else if j = p then x else F (j - 1)
theorem rIns_rev (F : Nat → TI) (x : TI) : ∀ n, rIns x (cRev F n) = cRev (inF F x (plF F x n)) (n + 1)
  | 0 => rfl
  | n + 1 => by
    have hl := plF_le F x n
    show rIns x (F n :: cRev F n) = inF F x (plF F x (n + 1)) (n + 1) :: cRev (inF F x (plF F x (n + 1))) (n + 1)
    unfold rIns
    show _ = inF F x (bif tLatB x (F n) then plF F x n else n + 1) (n + 1) :: cRev (inF F x (bif tLatB x (F n) then plF F x n else n + 1)) (n + 1)
    cases tLatB x (F n) with
    | true =>
      rw [cond_true, cond_true, rIns_rev F x n]
      congr 1
      unfold inF
      rw [if_neg (by omega), if_neg (by omega), show n + 1 - 1 = n by omega]
    | false =>
      rw [cond_false, cond_false]
      have e1 : inF F x (n + 1) (n + 1) = x := by unfold inF; rw [if_neg (by omega), if_pos rfl]
      rw [e1, cRev_congr (F := inF F x (n + 1)) (F' := F) (fun k hk => by unfold inF; rw [if_pos hk])]
      rfl
/-- ahead of the place none is later, from it on all are -/
theorem plF_lt {F : Nat → TI} {x : TI} : ∀ {n : Nat}, rOrd (cRev F n) → (∀ k, k < plF F x n → ¬ tLat x (F k)) ∧ (∀ k, plF F x n ≤ k → k < n → tLat x (F k))
  | 0, _ => ⟨fun k h => absurd h (by unfold plF; omega), fun k _ h => absurd h (by omega)⟩
  | n + 1, h => by
    have h3 : rOrd (F n :: cRev F n) := h
    have hp := List.pairwise_cons.mp h3
    have ih := plF_lt (x := x) hp.2
    have hl := plF_le F x n
    unfold plF
    cases c : tLatB x (F n) with
    | true =>
      rw [cond_true]
      refine ⟨ih.1, fun k h1 h2 => ?_⟩
      by_cases e : k = n
      · subst e; exact tLatB_iff.mp c
      · exact ih.2 k h1 (by omega)
    | false =>
      rw [cond_false]
      have c2 : ¬ tLat x (F n) := fun q => by rw [tLatB_iff.mpr q] at c; exact absurd c (by decide)
      refine ⟨fun k hk => ?_, fun k h1 h2 => absurd h2 (by omega)⟩
      by_cases e : k = n
      · subst e; exact c2
      · exact tLat_neg_trans c2 (hp.1 _ (cRev_mem.mpr ⟨k, by omega, rfl⟩))
/-! the rank of an impulse: how many are ahead of it -/
/-- j-th told is ahead of the i-th -/
def aheB (ml : Nat → TI) (j i : Nat) : Bool := tLatB (ml j) (ml i) || (!(tLatB (ml i) (ml j)) && decide (j < i))
def rankN (ml : Nat → TI) (i : Nat) : Nat → Nat
  | 0 => 0
  | n + 1 => rankN ml i n + (bif aheB ml n i then 1 else 0)
theorem rankN_congr {m m' : Nat → TI} {i : Nat} (hi : m i = m' i) : ∀ {n : Nat}, (∀ k, k < n → m k = m' k) → rankN m i n = rankN m' i n
  | 0, _ => rfl
  | n + 1, h => by
    show rankN m i n + _ = rankN m' i n + _
    rw [rankN_congr hi (fun k hk => h k (by omega))]
    unfold aheB
    rw [hi, h n (by omega)]
theorem rankN_le (m : Nat → TI) (i : Nat) : ∀ n, rankN m i n ≤ n
  | 0 => Nat.le_refl _
  | n + 1 => by
    have := rankN_le m i n
    unfold rankN
    cases aheB m n i <;> simp <;> omega
/-- the list of the first n told, as a function -/
def mAt (ml : List TI) : Nat → TI := fun k => ml.getD k (0, 0, 0)
theorem tLatB_no {x y : TI} : tLatB x y = false ↔ ¬ tLat x y := by
  rw [← tLatB_iff]
  cases tLatB x y <;> simp
theorem rankN_last (F : Nat → TI) (x : TI) (m : Nat → TI) (n : Nat) (hx : m n = x) : ∀ k, k ≤ n → rankN m n k = ((List.range k).filter (fun j => !tLatB x (m j))).length
  | 0, _ => rfl
  | k + 1, hk => by
    rw [List.range_succ, List.filter_append, List.length_append, ← rankN_last F x m n hx k (by omega)]
    show rankN m n k + _ = _
    congr 1
    unfold aheB
    rw [hx, decide_eq_true (show k < n by omega), Bool.and_true]
    have h2 : ¬ tLat x (m k) ∨ ¬ tLat (m k) x := by
      by_cases c : tLat x (m k)
      · exact Or.inr (tLat_asym c)
      · exact Or.inl c
    cases a : tLatB x (m k) with
    | true =>
      have : tLatB (m k) x = false := tLatB_no.mpr (tLat_asym (tLatB_iff.mp a))
      rw [this]
      simp [a]
    | false => cases tLatB (m k) x <;> simp [a]
theorem cRev_cnt (F : Nat → TI) (x : TI) : ∀ n, rOrd (cRev F n) → ((cRev F n).filter (fun y => !tLatB x y)).length = plF F x n
  | 0, _ => rfl
  | n + 1, h => by
    have h3 : rOrd (F n :: cRev F n) := h
    have hp := List.pairwise_cons.mp h3
    show ((F n :: cRev F n).filter _).length = (bif tLatB x (F n) then plF F x n else n + 1)
    rw [List.filter_cons]
    cases c : tLatB x (F n) with
    | true =>
      rw [cond_true]
      simp only [Bool.not_true, Bool.false_eq_true, if_false]
      exact cRev_cnt F x n hp.2
    | false =>
      rw [cond_false]
      simp only [Bool.not_false, if_true]
      rw [List.length_cons, List.filter_eq_self.mpr, cRev_len]
      intro y hy
      have c2 : ¬ tLat x y := tLat_neg_trans (tLatB_no.mp c) (hp.1 y hy)
      rw [tLatB_no.mpr c2]
      rfl
theorem mAt_range (ml : List TI) : (List.range ml.length).map (mAt ml) = ml := by
  refine List.ext_getElem (by simp) (fun i h1 h2 => ?_)
  rw [List.getElem_map, List.getElem_range]
  unfold mAt
  rw [List.getD_eq_getElem?_getD, List.getElem?_eq_getElem h2]
  rfl
/-- each stands in the sorted list at its rank, and every place is a rank -/
def rkOk (m F : Nat → TI) (n : Nat) : Prop := (∀ i, i < n → rankN m i n < n ∧ F (rankN m i n) = m i) ∧ (∀ k, k < n → ∃ i, i < n ∧ rankN m i n = k)
theorem rk_snoc {m F : Nat → TI} {n : Nat} (hs : rOrd (cRev F n)) (hp : rankN m n n = plF F (m n) n) (h : rkOk m F n) : rkOk m (inF F (m n) (plF F (m n) n)) (n + 1) := by
  have hl := plF_le F (m n) n
  have hq := plF_lt (x := m n) hs
  have e1 : rankN m n (n + 1) = plF F (m n) n := by
    show rankN m n n + (bif aheB m n n then 1 else 0) = _
    have : aheB m n n = false := by
      unfold aheB
      rw [tLatB_no.mpr (fun c => tLat_asym c c), decide_eq_false (Nat.lt_irrefl n)]
      rfl
    rw [this, hp]; rfl
  have e2 : ∀ i, i < n → rankN m i (n + 1) = rankN m i n + (bif tLatB (m n) (m i) then 1 else 0) := fun i hi => by
    show rankN m i n + (bif aheB m n i then 1 else 0) = _
    congr 2
    unfold aheB
    rw [decide_eq_false (show ¬ n < i by omega), Bool.and_false, Bool.or_false]
  have e3 : ∀ i, i < n → rankN m i (n + 1) < n + 1 ∧ inF F (m n) (plF F (m n) n) (rankN m i (n + 1)) = m i := fun i hi => by
    obtain ⟨h1, h2⟩ := h.1 i hi
    rw [e2 i hi]
    cases c : tLatB (m n) (m i) with
    | true =>
      rw [cond_true]
      have hge : plF F (m n) n ≤ rankN m i n := Nat.le_of_not_lt fun q => hq.1 _ q (by rw [h2]; exact tLatB_iff.mp c)
      refine ⟨by omega, ?_⟩
      unfold inF
      rw [if_neg (by omega), if_neg (by omega), show rankN m i n + 1 - 1 = rankN m i n by omega, h2]
    | false =>
      rw [cond_false]
      have hlt : rankN m i n < plF F (m n) n := Nat.lt_of_not_le fun q => tLatB_no.mp c (by rw [← h2]; exact hq.2 _ q h1)
      refine ⟨by omega, ?_⟩
      unfold inF
      rw [Nat.add_zero, if_pos hlt, h2]
  refine ⟨fun i hi => ?_, fun k hk => ?_⟩
  · by_cases e : i = n
    · subst e
      rw [e1]
      refine ⟨by omega, ?_⟩
      unfold inF
      rw [if_neg (by omega), if_pos rfl]
    · exact e3 i (by omega)
  · by_cases c1 : k < plF F (m n) n
    · obtain ⟨i, hi, hr⟩ := h.2 k (by omega)
      refine ⟨i, by omega, ?_⟩
      rw [e2 i hi]
      have : tLatB (m n) (m i) = false := tLatB_no.mpr (by rw [← (h.1 i hi).2, hr]; exact hq.1 k c1)
      rw [this, hr]; rfl
    · by_cases c2 : k = plF F (m n) n
      · exact ⟨n, by omega, e1.trans c2.symm⟩
      · obtain ⟨i, hi, hr⟩ := h.2 (k - 1) (by omega)
        refine ⟨i, by omega, ?_⟩
        rw [e2 i hi]
        have : tLatB (m n) (m i) = true := tLatB_iff.mpr (by rw [← (h.1 i hi).2, hr]; exact hq.2 _ (by omega) (by omega))
        rw [this, hr, cond_true]
        omega
theorem rk_all : ∀ (n : Nat) (m F : Nat → TI), cRev F n = rSrt ((List.range n).map m) → rkOk m F n
  | 0, m, F, _ => ⟨fun i h => absurd h (by omega), fun k h => absurd h (by omega)⟩
  | n + 1, m, F, h => by
    have h1 : cRev F (n + 1) = rIns (m n) (rSrt ((List.range n).map m)) := by
      rw [h, List.range_succ, List.map_append, List.map_cons, List.map_nil, rSrt_snoc]
    obtain ⟨F0, hF0⟩ := cRev_of (rSrt ((List.range n).map m)) n (by rw [rSrt_len, List.length_map, List.length_range])
    have ho : rOrd (cRev F0 n) := by rw [hF0]; exact rSrt_ord _
    have ih := rk_all n m F0 hF0
    rw [← hF0, rIns_rev] at h1
    have hc : rankN m n n = plF F0 (m n) n := by
      rw [rankN_last F0 (m n) m n rfl n (Nat.le_refl _), ← cRev_cnt F0 (m n) n ho, hF0, ((rSrt_perm _).filter _).length_eq, List.filter_map, List.length_map]
      rfl
    have hk := rk_snoc ho hc ih
    have hj := cRev_inj h1
    exact ⟨fun i hi => ⟨(hk.1 i hi).1, by rw [hj _ (hk.1 i hi).1]; exact (hk.1 i hi).2⟩, hk.2⟩

