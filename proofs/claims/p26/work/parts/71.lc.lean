/-! the law's own chain: an object, its masses and springs as objects, impulses and patterns as rows; seen as a CS -/
def aQ (a : ev_H) (c : ClassId) (q N : Nat) (g : Nat → Nat) : Prop := ∃ f : Nat → Option Nat, a.1 q = some (.inl (c, N, .inr (.inr (.inr (.inr f))))) ∧ ∀ k, k < N → f k = some (g k)
def aI (a : ev_H) (c : ClassId) (q N : Nat) (g : Nat → Int32) : Prop := ∃ f : Nat → Int32, a.1 q = some (.inl (c, N, .inl f)) ∧ ∀ k, k < N → f k = g k
def aJ (a : ev_H) (c : ClassId) (q N : Nat) (g : Nat → Int64) : Prop := ∃ f : Nat → Int64, a.1 q = some (.inl (c, N, .inr (.inl f))) ∧ ∀ k, k < N → f k = g k
/-- the accounts, one place on -/
def acJ (σ : CS) (k : Nat) : Int64 := if k = 0 then 0 else σ.2.1 (k - 1)
def tiF (x : TI) (i : Nat) : Int32 := if i = 0 then x.1 else if i = 1 then x.2.1 else x.2.2
def paF (σ : CS) (k i : Nat) : Int32 := if i = 0 then σ.2.2 10 k else σ.2.2 11 k
def lcE (A : Nat → Nat) (σ : CS) : va_E := .inr (7, [.int (σ.1 1), .int (σ.1 3), .int (σ.1 4), .int (σ.1 2), .ref (A 1), .ref (A 2), .ref (A 3), .ref (A 4), .ref (A 5)])
def lmE (σ : CS) (k : Nat) : va_E := .inr (8, [.int (σ.2.2 0 k), .long (σ.2.2 1 k).toInt64, .long (σ.2.2 2 k).toInt64])
def lsE (σ : CS) (k : Nat) : va_E := .inr (10, [.int (σ.2.2 3 k), .int (σ.2.2 4 k), .int (σ.2.2 5 k)])
/-- A: 0 the chain, 1 its masses' row, 2 its springs' row, 3 impulses' row, 4 patterns' row, 5 accounts; from 10 on masses, from 30 springs, from 50 impulses, from 70 patterns -/
def LC (G : ev_G) (a : ev_H) (A : Nat → Nat) (σ : CS) (n : Nat) (m : Nat → TI) : Prop :=
  (a.1 (A 0) = some (lcE A σ) ∧ aQ a (G.2.1 7) (A 1) (sNm σ) (fun k => A (10 + k)) ∧ aQ a (G.2.1 8) (A 2) (sNm σ + 1) (fun k => A (30 + k)) ∧ aQ a (G.2.1 5) (A 3) n (fun k => A (50 + k)) ∧ aQ a (G.2.1 5) (A 4) (sPn σ) (fun k => A (70 + k)) ∧ aJ a (G.2.1 1) (A 5) 6 (acJ σ)) ∧
  ((∀ k, k < sNm σ → a.1 (A (10 + k)) = some (lmE σ k)) ∧ (∀ k, k < sNm σ + 1 → a.1 (A (30 + k)) = some (lsE σ k))) ∧
  ((∀ k, k < n → aI a (G.2.1 0) (A (50 + k)) 3 (tiF (m k))) ∧ (∀ k, k < sPn σ → aI a (G.2.1 0) (A (70 + k)) 2 (paF σ k))) ∧
  ((∀ i j, i < sNm σ → j < sNm σ → A (10 + i) = A (10 + j) → i = j) ∧ (∀ i j, i < sNm σ + 1 → j < sNm σ + 1 → A (30 + i) = A (30 + j) → i = j) ∧ (∀ i j, i < sPn σ → j < sPn σ → A (70 + i) = A (70 + j) → i = j))
/-- the kind of a cell -/
def kd (e : va_E) : Nat := match e with
  | .inr o => o.1
  | .inl (_, N, .inl _) => 200 + N
  | .inl (_, _, .inr (.inl _)) => 100
  | .inl _ => 101
def mutE (x : Nat) : Prop := x = 7 ∨ x = 8 ∨ x = 10 ∨ x = 100 ∨ x = 202
/-- the cells of a chain that change -/
def mtA (A : Nat → Nat) (m p q : Nat) : Prop := q = A 0 ∨ q = A 5 ∨ (∃ k, k < m ∧ q = A (10 + k)) ∨ (∃ k, k < m + 1 ∧ q = A (30 + k)) ∨ ∃ k, k < p ∧ q = A (70 + k)
theorem kd_ne {a : ev_H} {q q0 : Nat} {e e0 : va_E} (h : a.1 q = some e) (h0 : a.1 q0 = some e0) (hk : kd e ≠ kd e0) : q ≠ q0 := by
  intro c
  subst c
  rw [h] at h0
  cases h0
  exact hk rfl
theorem put_ne (a : ev_H) {q q0 : Nat} (e : va_E) (h : q ≠ q0) : (ev_put a q0 e).1 q = a.1 q := if_neg h
theorem put_eq (a : ev_H) (q0 : Nat) (e : va_E) : (ev_put a q0 e).1 q0 = some e := if_pos rfl
theorem new_ne (a : ev_H) {q q0 : Nat} (e : va_E) (h : q ≠ q0) : (ev_new a q0 e).1 q = a.1 q := if_neg h
theorem new_eq (a : ev_H) (q0 : Nat) (e : va_E) : (ev_new a q0 e).1 q0 = some e := if_pos rfl
theorem new_2 (a : ev_H) {z : Nat} (e : va_E) (h : a.2 = some z) : (ev_new a z e).2 = some (z + 1) := by
  show a.2.map (· + 1) = _
  rw [h]; rfl
theorem aQ.to {a a' : ev_H} {c : ClassId} {q N : Nat} {g : Nat → Nat} (h : aQ a c q N g) (e : a'.1 q = a.1 q) : aQ a' c q N g := by
  obtain ⟨f, h1, h2⟩ := h
  exact ⟨f, e.trans h1, h2⟩
theorem aI.to {a a' : ev_H} {c : ClassId} {q N : Nat} {g : Nat → Int32} (h : aI a c q N g) (e : a'.1 q = a.1 q) : aI a' c q N g := by
  obtain ⟨f, h1, h2⟩ := h
  exact ⟨f, e.trans h1, h2⟩
theorem aJ.to {a a' : ev_H} {c : ClassId} {q N : Nat} {g : Nat → Int64} (h : aJ a c q N g) (e : a'.1 q = a.1 q) : aJ a' c q N g := by
  obtain ⟨f, h1, h2⟩ := h
  exact ⟨f, e.trans h1, h2⟩
theorem aQ.nth {a : ev_H} {c : ClassId} {q N : Nat} {g g' : Nat → Nat} (h : aQ a c q N g) (e : ∀ k, k < N → g' k = g k) : aQ a c q N g' := by
  obtain ⟨f, h1, h2⟩ := h
  exact ⟨f, h1, fun k hk => by rw [h2 k hk, e k hk]⟩
theorem aI.nth {a : ev_H} {c : ClassId} {q N : Nat} {g g' : Nat → Int32} (h : aI a c q N g) (e : ∀ k, k < N → g' k = g k) : aI a c q N g' := by
  obtain ⟨f, h1, h2⟩ := h
  exact ⟨f, h1, fun k hk => by rw [h2 k hk, e k hk]⟩
theorem aJ.nth {a : ev_H} {c : ClassId} {q N : Nat} {g g' : Nat → Int64} (h : aJ a c q N g) (e : ∀ k, k < N → g' k = g k) : aJ a c q N g' := by
  obtain ⟨f, h1, h2⟩ := h
  exact ⟨f, h1, fun k hk => by rw [h2 k hk, e k hk]⟩
theorem LC.mue {G : ev_G} {a : ev_H} {A : Nat → Nat} {σ : CS} {n : Nat} {m : Nat → TI} (h : LC G a A σ n m) {q : Nat} (hq : mtA A (sNm σ) (sPn σ) q) : ∃ e, a.1 q = some e ∧ mutE (kd e) := by
  obtain ⟨⟨h0, h1, h2, h3, h4, f, h5, -⟩, ⟨h6, h7⟩, ⟨h8, h9⟩, -⟩ := h
  rcases hq with rfl | rfl | ⟨k, hk, rfl⟩ | ⟨k, hk, rfl⟩ | ⟨k, hk, rfl⟩
  · exact ⟨_, h0, Or.inl rfl⟩
  · exact ⟨_, h5, Or.inr (Or.inr (Or.inr (Or.inl rfl)))⟩
  · exact ⟨_, h6 k hk, Or.inr (Or.inl rfl)⟩
  · exact ⟨_, h7 k hk, Or.inr (Or.inr (Or.inl rfl))⟩
  · obtain ⟨f9, h10, -⟩ := h9 k hk
    exact ⟨_, h10, Or.inr (Or.inr (Or.inr (Or.inr rfl)))⟩
/-- a cell of another kind isn't one of those that change -/
theorem LC.nmut {G : ev_G} {a : ev_H} {A : Nat → Nat} {σ : CS} {n : Nat} {m : Nat → TI} (h : LC G a A σ n m) {q : Nat} {e : va_E} (he : a.1 q = some e) (hk : ¬ mutE (kd e)) : ¬ mtA A (sNm σ) (sPn σ) q := by
  intro hq
  obtain ⟨e', h1, h2⟩ := h.mue hq
  rw [he] at h1
  cases h1
  exact hk h2
/-- from a to a' nothing has changed but cells of that chain -/
def fr (a a' : ev_H) (A : Nat → Nat) (m p : Nat) : Prop := ∀ (q : Nat) (e : va_E), a.1 q = some e → ¬ mtA A m p q → a'.1 q = some e
theorem fr.rf (a : ev_H) (A : Nat → Nat) (m p : Nat) : fr a a A m p := fun _ _ h _ => h
theorem fr.tr {a b c : ev_H} {A : Nat → Nat} {m p : Nat} (h : fr a b A m p) (g : fr b c A m p) : fr a c A m p := fun q e he hq => g q e (h q e he hq) hq
/-- nothing has changed -/
def sub (a a' : ev_H) : Prop := ∀ (q : Nat) (e : va_E), a.1 q = some e → a'.1 q = some e
theorem sub.rf (a : ev_H) : sub a a := fun _ _ h => h
theorem sub.tr {a b c : ev_H} (h : sub a b) (g : sub b c) : sub a c := fun q e he => g q e (h q e he)
theorem sub.fr {a b : ev_H} (h : sub a b) (A : Nat → Nat) (m p : Nat) : fr a b A m p := fun q e he _ => h q e he
theorem sub.new {a : ev_H} {z : Nat} (e : va_E) (ht : ∀ (q : Nat) (e : va_E), a.1 q = some e → q < z) : sub a (ev_new a z e) := fun q e1 h1 => by rw [new_ne _ _ (by have := ht q e1 h1; omega)]; exact h1
theorem sub.xQ {a a' : ev_H} {c : ClassId} {q N : Nat} {g : Nat → Nat} (s : sub a a') (h : aQ a c q N g) : aQ a' c q N g := by
  obtain ⟨f, h1, h2⟩ := h
  exact ⟨f, s _ _ h1, h2⟩
theorem sub.xI {a a' : ev_H} {c : ClassId} {q N : Nat} {g : Nat → Int32} (s : sub a a') (h : aI a c q N g) : aI a' c q N g := by
  obtain ⟨f, h1, h2⟩ := h
  exact ⟨f, s _ _ h1, h2⟩
theorem sub.xJ {a a' : ev_H} {c : ClassId} {q N : Nat} {g : Nat → Int64} (s : sub a a') (h : aJ a c q N g) : aJ a' c q N g := by
  obtain ⟨f, h1, h2⟩ := h
  exact ⟨f, s _ _ h1, h2⟩
theorem LC.mono {G : ev_G} {a a' : ev_H} {A : Nat → Nat} {σ : CS} {n : Nat} {m : Nat → TI} (h : LC G a A σ n m) (s : sub a a') : LC G a' A σ n m :=
  ⟨⟨s _ _ h.1.1, s.xQ h.1.2.1, s.xQ h.1.2.2.1, s.xQ h.1.2.2.2.1, s.xQ h.1.2.2.2.2.1, s.xJ h.1.2.2.2.2.2⟩, ⟨fun k hk => s _ _ (h.2.1.1 k hk), fun k hk => s _ _ (h.2.1.2 k hk)⟩, ⟨fun k hk => s.xI (h.2.2.1.1 k hk), fun k hk => s.xI (h.2.2.1.2 k hk)⟩, h.2.2.2⟩
/-- another chain, apart from this one, stays as it is -/
theorem LC.frame {G : ev_G} {a a' : ev_H} {A B : Nat → Nat} {σ τ : CS} {n n' : Nat} {m m' : Nat → TI} (hc : LC G a A σ n m) (ho : LC G a B τ n' m') (hd : ∀ q, mtA A (sNm σ) (sPn σ) q → ¬ mtA B (sNm τ) (sPn τ) q) (hf : fr a a' A (sNm σ) (sPn σ)) : LC G a' B τ n' m' := by
  have im : ∀ {q : Nat} {e : va_E}, a.1 q = some e → ¬ mutE (kd e) → a'.1 q = some e := fun he hk => hf _ _ he (hc.nmut he hk)
  have mm : ∀ {q : Nat} {e : va_E}, a.1 q = some e → mtA B (sNm τ) (sPn τ) q → a'.1 q = some e := fun he hk => hf _ _ he (fun x => hd _ x hk)
  have iq : ∀ {c : ClassId} {q N : Nat} {g : Nat → Nat}, aQ a c q N g → aQ a' c q N g := fun ⟨f, h1, h2⟩ => ⟨f, im h1 (by show ¬ mutE 101; unfold mutE; omega), h2⟩
  obtain ⟨⟨h0, h1, h2, h3, h4, f, h5, h5'⟩, ⟨h6, h7⟩, ⟨h8, h9⟩, h10⟩ := ho
  refine ⟨⟨mm h0 (Or.inl rfl), iq h1, iq h2, iq h3, iq h4, f, mm h5 (Or.inr (Or.inl rfl)), h5'⟩, ⟨fun k hk => mm (h6 k hk) (Or.inr (Or.inr (Or.inl ⟨k, hk, rfl⟩))), fun k hk => mm (h7 k hk) (Or.inr (Or.inr (Or.inr (Or.inl ⟨k, hk, rfl⟩))))⟩, ⟨fun k hk => ?_, fun k hk => ?_⟩, h10⟩
  · obtain ⟨f, g1, g2⟩ := h8 k hk
    exact ⟨f, im g1 (by show ¬ mutE (200 + 3); unfold mutE; omega), g2⟩
  · obtain ⟨f, g1, g2⟩ := h9 k hk
    exact ⟨f, mm g1 (Or.inr (Or.inr (Or.inr (Or.inr ⟨k, hk, rfl⟩)))), g2⟩
/-- the picture looks at what is seen of σ -/
def vis (σ τ : CS) : Prop := (∀ k, k < 7 → k ≠ 5 → τ.1 k = σ.1 k) ∧ (∀ k, k < 5 → τ.2.1 k = σ.2.1 k) ∧ (∀ w k, w < 3 → k < sNm σ → τ.2.2 w k = σ.2.2 w k) ∧ (∀ w k, 3 ≤ w → w < 6 → k < sNm σ + 1 → τ.2.2 w k = σ.2.2 w k) ∧ (∀ w k, 10 ≤ w → w < 12 → k < sPn σ → τ.2.2 w k = σ.2.2 w k)
theorem acJ_congr {σ τ : CS} (h : ∀ k, k < 5 → τ.2.1 k = σ.2.1 k) (k : Nat) (hk : k < 6) : acJ τ k = acJ σ k := by
  unfold acJ
  by_cases e : k = 0
  · rw [if_pos e, if_pos e]
  · rw [if_neg e, if_neg e, h _ (by omega)]
theorem LC.see {G : ev_G} {a : ev_H} {A : Nat → Nat} {σ τ : CS} {n : Nat} {m : Nat → TI} (h : LC G a A σ n m) (v : vis σ τ) : LC G a A τ n m := by
  obtain ⟨v1, v2, v3, v4, v5⟩ := v
  have eN : sNm τ = sNm σ := by unfold sNm; rw [v1 0 (by decide) (by decide)]
  have eP : sPn τ = sPn σ := by unfold sPn; rw [v1 6 (by decide) (by decide)]
  obtain ⟨⟨h0, h1, h2, h3, h4, h5⟩, ⟨h6, h7⟩, ⟨h8, h9⟩, h10⟩ := h
  refine ⟨⟨?_, by rw [eN]; exact h1, by rw [eN]; exact h2, h3, by rw [eP]; exact h4, h5.nth (acJ_congr v2)⟩, ⟨fun k hk => ?_, fun k hk => ?_⟩, ⟨h8, fun k hk => ?_⟩, by rw [eN, eP]; exact h10⟩
  · rw [h0]; unfold lcE; rw [v1 1 (by decide) (by decide), v1 2 (by decide) (by decide), v1 3 (by decide) (by decide), v1 4 (by decide) (by decide)]
  · rw [eN] at hk
    rw [h6 k hk]; unfold lmE; rw [v3 0 k (by decide) hk, v3 1 k (by decide) hk, v3 2 k (by decide) hk]
  · rw [eN] at hk
    rw [h7 k hk]; unfold lsE; rw [v4 3 k (by decide) (by decide) hk, v4 4 k (by decide) (by decide) hk, v4 5 k (by decide) (by decide) hk]
  · rw [eP] at hk
    refine (h9 k hk).nth fun i _ => ?_
    unfold paF
    rw [v5 10 k (by decide) (by decide) hk, v5 11 k (by decide) (by decide) hk]
section LCW
variable {G : ev_G} {a : ev_H} {A : Nat → Nat} {σ σ' : CS} {n : Nat} {m : Nat → TI}
theorem fr.put {q0 : Nat} {e : va_E} {m p : Nat} (h : mtA A m p q0) : fr a (ev_put a q0 e) A m p := fun q e1 h1 h2 => by rw [put_ne _ _ (fun c => h2 (by rw [c]; exact h))]; exact h1
/-- a mass is written -/
theorem LC.wm (h : LC G a A σ n m) {j : Nat} (hj : j < sNm σ) (h1 : ∀ k, k < 7 → σ'.1 k = σ.1 k) (h2 : ∀ k, k < 5 → σ'.2.1 k = σ.2.1 k) (h3 : ∀ w k, w < 3 → k ≠ j → σ'.2.2 w k = σ.2.2 w k) (h4 : ∀ w k, 3 ≤ w → σ'.2.2 w k = σ.2.2 w k) : LC G (ev_put a (A (10 + j)) (lmE σ' j)) A σ' n m := by
  have eN : sNm σ' = sNm σ := by unfold sNm; rw [h1 0 (by decide)]
  have eP : sPn σ' = sPn σ := by unfold sPn; rw [h1 6 (by decide)]
  obtain ⟨⟨g0, g1, g2, g3, g4, g5⟩, ⟨g6, g7⟩, ⟨g8, g9⟩, g10⟩ := h
  have hq := g6 j hj
  have kQ : ∀ {c : ClassId} {q N : Nat} {g : Nat → Nat}, aQ a c q N g → aQ (ev_put a (A (10 + j)) (lmE σ' j)) c q N g := fun ⟨f, x1, x2⟩ => ⟨f, (put_ne _ _ (kd_ne x1 hq (by show (101 : Nat) ≠ 8; omega))).trans x1, x2⟩
  refine ⟨⟨?_, by rw [eN]; exact kQ g1, by rw [eN]; exact kQ g2, kQ g3, by rw [eP]; exact kQ g4, ?_⟩, ⟨fun k hk => ?_, fun k hk => ?_⟩, ⟨fun k hk => ?_, fun k hk => ?_⟩, by rw [eN, eP]; exact g10⟩
  · rw [put_ne _ _ (kd_ne g0 hq (by show (7 : Nat) ≠ 8; omega)), g0]; unfold lcE; rw [h1 1 (by decide), h1 2 (by decide), h1 3 (by decide), h1 4 (by decide)]
  · obtain ⟨f, x1, x2⟩ := g5.nth (acJ_congr h2)
    exact ⟨f, (put_ne _ _ (kd_ne x1 hq (by show (100 : Nat) ≠ 8; omega))).trans x1, x2⟩
  · rw [eN] at hk
    by_cases e : k = j
    · subst e; exact put_eq _ _ _
    · rw [put_ne _ _ (fun c => e (g10.1 k j hk hj c)), g6 k hk]; unfold lmE; rw [h3 0 k (by decide) e, h3 1 k (by decide) e, h3 2 k (by decide) e]
  · rw [eN] at hk
    rw [put_ne _ _ (kd_ne (g7 k hk) hq (by show (10 : Nat) ≠ 8; omega)), g7 k hk]; unfold lsE; rw [h4 3 k (by decide), h4 4 k (by decide), h4 5 k (by decide)]
  · obtain ⟨f, x1, x2⟩ := g8 k hk
    exact ⟨f, (put_ne _ _ (kd_ne x1 hq (by show (200 + 3 : Nat) ≠ 8; omega))).trans x1, x2⟩
  · rw [eP] at hk
    obtain ⟨f, x1, x2⟩ := g9 k hk
    exact ⟨f, (put_ne _ _ (kd_ne x1 hq (by show (200 + 2 : Nat) ≠ 8; omega))).trans x1, fun i hi => by rw [x2 i hi]; unfold paF; rw [h4 10 k (by decide), h4 11 k (by decide)]⟩
/-- a spring is written -/
theorem LC.ws (h : LC G a A σ n m) {j : Nat} (hj : j < sNm σ + 1) (h1 : ∀ k, k < 7 → σ'.1 k = σ.1 k) (h2 : ∀ k, k < 5 → σ'.2.1 k = σ.2.1 k) (h3 : ∀ w k, 3 ≤ w → w < 6 → k ≠ j → σ'.2.2 w k = σ.2.2 w k) (h4 : ∀ w k, (w < 3 ∨ 6 ≤ w) → σ'.2.2 w k = σ.2.2 w k) : LC G (ev_put a (A (30 + j)) (lsE σ' j)) A σ' n m := by
  have eN : sNm σ' = sNm σ := by unfold sNm; rw [h1 0 (by decide)]
  have eP : sPn σ' = sPn σ := by unfold sPn; rw [h1 6 (by decide)]
  obtain ⟨⟨g0, g1, g2, g3, g4, g5⟩, ⟨g6, g7⟩, ⟨g8, g9⟩, g10⟩ := h
  have hq := g7 j hj
  have kQ : ∀ {c : ClassId} {q N : Nat} {g : Nat → Nat}, aQ a c q N g → aQ (ev_put a (A (30 + j)) (lsE σ' j)) c q N g := fun ⟨f, x1, x2⟩ => ⟨f, (put_ne _ _ (kd_ne x1 hq (by show (101 : Nat) ≠ 10; omega))).trans x1, x2⟩
  refine ⟨⟨?_, by rw [eN]; exact kQ g1, by rw [eN]; exact kQ g2, kQ g3, by rw [eP]; exact kQ g4, ?_⟩, ⟨fun k hk => ?_, fun k hk => ?_⟩, ⟨fun k hk => ?_, fun k hk => ?_⟩, by rw [eN, eP]; exact g10⟩
  · rw [put_ne _ _ (kd_ne g0 hq (by show (7 : Nat) ≠ 10; omega)), g0]; unfold lcE; rw [h1 1 (by decide), h1 2 (by decide), h1 3 (by decide), h1 4 (by decide)]
  · obtain ⟨f, x1, x2⟩ := g5.nth (acJ_congr h2)
    exact ⟨f, (put_ne _ _ (kd_ne x1 hq (by show (100 : Nat) ≠ 10; omega))).trans x1, x2⟩
  · rw [eN] at hk
    rw [put_ne _ _ (kd_ne (g6 k hk) hq (by show (8 : Nat) ≠ 10; omega)), g6 k hk]; unfold lmE; rw [h4 0 k (by omega), h4 1 k (by omega), h4 2 k (by omega)]
  · rw [eN] at hk
    by_cases e : k = j
    · subst e; exact put_eq _ _ _
    · rw [put_ne _ _ (fun c => e (g10.2.1 k j hk hj c)), g7 k hk]; unfold lsE; rw [h3 3 k (by decide) (by decide) e, h3 4 k (by decide) (by decide) e, h3 5 k (by decide) (by decide) e]
  · obtain ⟨f, x1, x2⟩ := g8 k hk
    exact ⟨f, (put_ne _ _ (kd_ne x1 hq (by show (200 + 3 : Nat) ≠ 10; omega))).trans x1, x2⟩
  · rw [eP] at hk
    obtain ⟨f, x1, x2⟩ := g9 k hk
    exact ⟨f, (put_ne _ _ (kd_ne x1 hq (by show (200 + 2 : Nat) ≠ 10; omega))).trans x1, fun i hi => by rw [x2 i hi]; unfold paF; rw [h4 10 k (by omega), h4 11 k (by omega)]⟩
/-- an account is written -/
theorem LC.wa (h : LC G a A σ n m) {f : Nat → Int64} (hf : ∀ k, k < 6 → f k = acJ σ' k) (h1 : ∀ k, k < 7 → σ'.1 k = σ.1 k) (h4 : ∀ w k, σ'.2.2 w k = σ.2.2 w k) : LC G (ev_put a (A 5) (.inl (G.2.1 1, 6, .inr (.inl f)))) A σ' n m := by
  have eN : sNm σ' = sNm σ := by unfold sNm; rw [h1 0 (by decide)]
  have eP : sPn σ' = sPn σ := by unfold sPn; rw [h1 6 (by decide)]
  obtain ⟨⟨g0, g1, g2, g3, g4, g5⟩, ⟨g6, g7⟩, ⟨g8, g9⟩, g10⟩ := h
  obtain ⟨f0, hq, -⟩ := g5
  have kQ : ∀ {c : ClassId} {q N : Nat} {g : Nat → Nat}, aQ a c q N g → aQ (ev_put a (A 5) (.inl (G.2.1 1, 6, .inr (.inl f)))) c q N g := fun ⟨f, x1, x2⟩ => ⟨f, (put_ne _ _ (kd_ne x1 hq (by show (101 : Nat) ≠ 100; omega))).trans x1, x2⟩
  refine ⟨⟨?_, by rw [eN]; exact kQ g1, by rw [eN]; exact kQ g2, kQ g3, by rw [eP]; exact kQ g4, f, put_eq _ _ _, hf⟩, ⟨fun k hk => ?_, fun k hk => ?_⟩, ⟨fun k hk => ?_, fun k hk => ?_⟩, by rw [eN, eP]; exact g10⟩
  · rw [put_ne _ _ (kd_ne g0 hq (by show (7 : Nat) ≠ 100; omega)), g0]; unfold lcE; rw [h1 1 (by decide), h1 2 (by decide), h1 3 (by decide), h1 4 (by decide)]
  · rw [eN] at hk
    rw [put_ne _ _ (kd_ne (g6 k hk) hq (by show (8 : Nat) ≠ 100; omega)), g6 k hk]; unfold lmE; rw [h4 0 k, h4 1 k, h4 2 k]
  · rw [eN] at hk
    rw [put_ne _ _ (kd_ne (g7 k hk) hq (by show (10 : Nat) ≠ 100; omega)), g7 k hk]; unfold lsE; rw [h4 3 k, h4 4 k, h4 5 k]
  · obtain ⟨f, x1, x2⟩ := g8 k hk
    exact ⟨f, (put_ne _ _ (kd_ne x1 hq (by show (200 + 3 : Nat) ≠ 100; omega))).trans x1, x2⟩
  · rw [eP] at hk
    obtain ⟨f, x1, x2⟩ := g9 k hk
    exact ⟨f, (put_ne _ _ (kd_ne x1 hq (by show (200 + 2 : Nat) ≠ 100; omega))).trans x1, fun i hi => by rw [x2 i hi]; unfold paF; rw [h4 10 k, h4 11 k]⟩
/-- a pattern's row is written -/
theorem LC.wp (h : LC G a A σ n m) {j : Nat} (hj : j < sPn σ) {f : Nat → Int32} (hf : ∀ i, i < 2 → f i = paF σ' j i) (h1 : ∀ k, k < 7 → σ'.1 k = σ.1 k) (h2 : ∀ k, k < 5 → σ'.2.1 k = σ.2.1 k) (h3 : ∀ w k, w < 10 → σ'.2.2 w k = σ.2.2 w k) (h4 : ∀ w k, 10 ≤ w → k ≠ j → σ'.2.2 w k = σ.2.2 w k) : LC G (ev_put a (A (70 + j)) (.inl (G.2.1 0, 2, .inl f))) A σ' n m := by
  have eN : sNm σ' = sNm σ := by unfold sNm; rw [h1 0 (by decide)]
  have eP : sPn σ' = sPn σ := by unfold sPn; rw [h1 6 (by decide)]
  obtain ⟨⟨g0, g1, g2, g3, g4, g5⟩, ⟨g6, g7⟩, ⟨g8, g9⟩, g10⟩ := h
  obtain ⟨f0, hq, -⟩ := g9 j hj
  have kQ : ∀ {c : ClassId} {q N : Nat} {g : Nat → Nat}, aQ a c q N g → aQ (ev_put a (A (70 + j)) (.inl (G.2.1 0, 2, .inl f))) c q N g := fun ⟨f, x1, x2⟩ => ⟨f, (put_ne _ _ (kd_ne x1 hq (by show (101 : Nat) ≠ 200 + 2; omega))).trans x1, x2⟩
  refine ⟨⟨?_, by rw [eN]; exact kQ g1, by rw [eN]; exact kQ g2, kQ g3, by rw [eP]; exact kQ g4, ?_⟩, ⟨fun k hk => ?_, fun k hk => ?_⟩, ⟨fun k hk => ?_, fun k hk => ?_⟩, by rw [eN, eP]; exact g10⟩
  · rw [put_ne _ _ (kd_ne g0 hq (by show (7 : Nat) ≠ 200 + 2; omega)), g0]; unfold lcE; rw [h1 1 (by decide), h1 2 (by decide), h1 3 (by decide), h1 4 (by decide)]
  · obtain ⟨f, x1, x2⟩ := g5.nth (acJ_congr h2)
    exact ⟨f, (put_ne _ _ (kd_ne x1 hq (by show (100 : Nat) ≠ 200 + 2; omega))).trans x1, x2⟩
  · rw [eN] at hk
    rw [put_ne _ _ (kd_ne (g6 k hk) hq (by show (8 : Nat) ≠ 200 + 2; omega)), g6 k hk]; unfold lmE; rw [h3 0 k (by omega), h3 1 k (by omega), h3 2 k (by omega)]
  · rw [eN] at hk
    rw [put_ne _ _ (kd_ne (g7 k hk) hq (by show (10 : Nat) ≠ 200 + 2; omega)), g7 k hk]; unfold lsE; rw [h3 3 k (by omega), h3 4 k (by omega), h3 5 k (by omega)]
  · obtain ⟨f, x1, x2⟩ := g8 k hk
    exact ⟨f, (put_ne _ _ (kd_ne x1 hq (by show (200 + 3 : Nat) ≠ 200 + 2; omega))).trans x1, x2⟩
  · rw [eP] at hk
    by_cases e : k = j
    · subst e; exact ⟨f, put_eq _ _ _, hf⟩
    · obtain ⟨f, x1, x2⟩ := g9 k hk
      exact ⟨f, (put_ne _ _ (fun c => e (g10.2.2 k j hk hj c))).trans x1, fun i hi => by rw [x2 i hi]; unfold paF; rw [h4 10 k (by omega) e, h4 11 k (by omega) e]⟩
/-- the chain's own numbers, or its rows of impulses or patterns, are written -/
theorem LC.wc (h : LC G a A σ n m) {A' : Nat → Nat} {n' : Nat} {m' : Nat → TI} (h0 : A' 0 = A 0 ∧ A' 1 = A 1 ∧ A' 2 = A 2 ∧ A' 5 = A 5) (h1 : σ'.1 0 = σ.1 0) (h2 : σ'.2.1 = σ.2.1) (h3 : ∀ w k, w < 6 → σ'.2.2 w k = σ.2.2 w k) (hA : ∀ k, (k < sNm σ → A' (10 + k) = A (10 + k)) ∧ (k < sNm σ + 1 → A' (30 + k) = A (30 + k))) (hi : aQ a (G.2.1 5) (A' 3) n' (fun k => A' (50 + k))) (hi2 : ∀ k, k < n' → aI a (G.2.1 0) (A' (50 + k)) 3 (tiF (m' k))) (hp : aQ a (G.2.1 5) (A' 4) (sPn σ') (fun k => A' (70 + k))) (hp2 : ∀ k, k < sPn σ' → aI a (G.2.1 0) (A' (70 + k)) 2 (paF σ' k)) (hp3 : ∀ i j, i < sPn σ' → j < sPn σ' → A' (70 + i) = A' (70 + j) → i = j) : LC G (ev_put a (A 0) (lcE A' σ')) A' σ' n' m' := by
  have eN : sNm σ' = sNm σ := by unfold sNm; rw [h1]
  obtain ⟨⟨g0, g1, g2, g3, g4, g5⟩, ⟨g6, g7⟩, ⟨g8, g9⟩, g10⟩ := h
  obtain ⟨a0, a1, a2, a5⟩ := h0
  have kQ : ∀ {c : ClassId} {q N : Nat} {g : Nat → Nat}, aQ a c q N g → aQ (ev_put a (A 0) (lcE A' σ')) c q N g := fun ⟨f, x1, x2⟩ => ⟨f, (put_ne _ _ (kd_ne x1 g0 (by show (101 : Nat) ≠ 7; omega))).trans x1, x2⟩
  have kI : ∀ {c : ClassId} {q N : Nat} {g : Nat → Int32}, aI a c q N g → aI (ev_put a (A 0) (lcE A' σ')) c q N g := fun ⟨f, x1, x2⟩ => ⟨f, (put_ne _ _ (kd_ne x1 g0 (by show (200 + _ : Nat) ≠ 7; omega))).trans x1, x2⟩
  refine ⟨⟨by rw [a0]; exact put_eq _ _ _, by rw [eN, a1]; exact kQ (g1.nth fun k hk => (hA k).1 hk), by rw [eN, a2]; exact kQ (g2.nth fun k hk => (hA k).2 hk), kQ hi, kQ hp, ?_⟩, ⟨fun k hk => ?_, fun k hk => ?_⟩, ⟨fun k hk => kI (hi2 k hk), fun k hk => kI (hp2 k hk)⟩, ⟨fun i j hi hj e => ?_, fun i j hi hj e => ?_, hp3⟩⟩
  · obtain ⟨f, x1, x2⟩ := g5.nth (acJ_congr (fun k _ => by rw [h2]))
    rw [a5]
    exact ⟨f, (put_ne _ _ (kd_ne x1 g0 (by show (100 : Nat) ≠ 7; omega))).trans x1, x2⟩
  · rw [eN] at hk
    rw [(hA k).1 hk, put_ne _ _ (kd_ne (g6 k hk) g0 (by show (8 : Nat) ≠ 7; omega)), g6 k hk]; unfold lmE; rw [h3 0 k (by omega), h3 1 k (by omega), h3 2 k (by omega)]
  · rw [eN] at hk
    rw [(hA k).2 hk, put_ne _ _ (kd_ne (g7 k hk) g0 (by show (10 : Nat) ≠ 7; omega)), g7 k hk]; unfold lsE; rw [h3 3 k (by omega), h3 4 k (by omega), h3 5 k (by omega)]
  · rw [eN] at hi hj
    rw [(hA i).1 hi, (hA j).1 hj] at e
    exact g10.1 i j hi hj e
  · rw [eN] at hi hj
    rw [(hA i).2 hi, (hA j).2 hj] at e
    exact g10.2.1 i j hi hj e
end LCW
