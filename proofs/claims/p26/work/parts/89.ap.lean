/-! what lies apart -/
def kok (x : Nat) : Prop := x ≠ 7 ∧ x ≠ 8 ∧ x ≠ 9 ∧ x ≠ 10 ∧ x ≠ 100 ∧ x ≠ 101 ∧ x ≠ 202 ∧ x ≠ 203 ∧ x ≠ 208
theorem ch_kd (G : ev_G) (c : Nat) (σ : CS) : ∀ j, j < 15 → kok (kd (ch_cell G c σ j))
  | 0, _ => by show kok 0; unfold kok; omega
  | 1, _ => by show kok 212; unfold kok; omega
  | 2, _ => by show kok 212; unfold kok; omega
  | 3, _ => by show kok 212; unfold kok; omega
  | 4, _ => by show kok 213; unfold kok; omega
  | 5, _ => by show kok 213; unfold kok; omega
  | 6, _ => by show kok 213; unfold kok; omega
  | 7, _ => by show kok 3; unfold kok; omega
  | 8, _ => by show kok 2; unfold kok; omega
  | 9, _ => by show kok 216; unfold kok; omega
  | 10, _ => by show kok 216; unfold kok; omega
  | 11, _ => by show kok 216; unfold kok; omega
  | 12, _ => by show kok 4; unfold kok; omega
  | 13, _ => by show kok 232; unfold kok; omega
  | 14, _ => by show kok 232; unfold kok; omega
  | j + 15, h => absurd h (by omega)
theorem sy_kd (G : ev_G) (b : Nat) (S : SS) {j : Nat} (hj : j < 157) (h36 : j ≠ 36) : kok (kd (sy_cell G b S j)) := by
  unfold sy_cell
  by_cases c : j = 0
  · rw [if_pos c]; show kok 6; unfold kok; omega
  rw [if_neg c]
  by_cases c : j = 1
  · rw [if_pos c]; show kok (200 + 500); unfold kok; omega
  rw [if_neg c]
  by_cases c : j = 2
  · rw [if_pos c]; show kok 5; unfold kok; omega
  rw [if_neg c]
  by_cases c : j = 3
  · rw [if_pos c]; show kok (200 + 12); unfold kok; omega
  rw [if_neg c]
  by_cases c : j = 4
  · rw [if_pos c]; show kok (200 + 12); unfold kok; omega
  rw [if_neg c]
  by_cases c : j < 20
  · rw [if_pos c]; exact ch_kd _ _ _ _ (by omega)
  rw [if_neg c]
  by_cases c : j < 35
  · rw [if_pos c]; exact ch_kd _ _ _ _ (by omega)
  rw [if_neg c]
  by_cases c : j = 35
  · rw [if_pos c]; show kok 1; unfold kok; omega
  rw [if_neg c, if_neg h36]
  exact ch_kd _ _ _ _ (Nat.mod_lt _ (by decide))
theorem SY.kd {G : ev_G} {b : Nat} {S : SS} {a : ev_H} (h : SY G b S a) {q : Nat} {e : va_E} (he : a.1 q = some e) (hq : b ≤ q ∧ q < b + 157) : kok (kd e) ∨ (kd e = 101 ∧ q = b + 36) := by
  have e1 := h (q - b) (by omega)
  rw [show b + (q - b) = q by omega, he] at e1
  cases e1
  by_cases c : q - b = 36
  · right
    rw [c]
    exact ⟨rfl, by omega⟩
  · exact Or.inl (sy_kd G b S (by omega) c)
theorem SY.out {G : ev_G} {b : Nat} {S : SS} {a : ev_H} (h : SY G b S a) {q : Nat} {e : va_E} (he : a.1 q = some e) (h1 : ¬ kok (Jvm.Pilot.CSpringChainLaw_law_r6692_339830.kd e)) (h2 : Jvm.Pilot.CSpringChainLaw_law_r6692_339830.kd e ≠ 101) : ¬ (b ≤ q ∧ q < b + 157) := fun hq => by
  rcases h.kd he hq with c | c
  · exact h1 c
  · exact h2 c.1
/-- the chain's cells are no cells of the system, nor a row of eight ints -/
theorem LC.fw {G : ev_G} {a a' : ev_H} {A : Nat → Nat} {σ : CS} {n : Nat} {m : Nat → TI} {b u : Nat} {S : SS} {fb : Nat → Int32} (h : LC G a A σ n m) (hS : SY G b S a) (hu : a.1 u = some (.inl (G.2.1 0, 8, .inl fb))) (hf : Jvm.Pilot.CSpringChainLaw_law_r6692_339830.fw a a' b u) : LC G a' A σ n m := by
  have out : ∀ {q : Nat} {e : va_E}, a.1 q = some e → ¬ kok (Jvm.Pilot.CSpringChainLaw_law_r6692_339830.kd e) → Jvm.Pilot.CSpringChainLaw_law_r6692_339830.kd e ≠ 101 → Jvm.Pilot.CSpringChainLaw_law_r6692_339830.kd e ≠ 208 → a'.1 q = some e := fun {q e} he h1 h2 h3 => hf q e he (hS.out he h1 h2) (fun c => by
    rw [c, hu] at he
    cases he
    exact h3 rfl)
  have outQ : ∀ {c : ClassId} {q N : Nat} {g : Nat → Nat}, aQ a c q N g → (∀ k, k < N → ∃ e, a.1 (g k) = some e ∧ Jvm.Pilot.CSpringChainLaw_law_r6692_339830.kd e ≠ 0) → aQ a' c q N g := fun {c q N g} hQ hg => by
    obtain ⟨f, x1, x2⟩ := hQ
    refine ⟨f, hf q _ x1 (fun hq => ?_) (fun e => ?_), x2⟩
    · rcases hS.kd x1 hq with k | k
      · exact k.2.2.2.2.2.1 rfl
      · have e1 := hS 36 (by decide)
        rw [← k.2, x1] at e1
        have e2 : ((c, N, .inr (.inr (.inr (.inr f)))) : ClassId × vp_A) = (G.2.1 4, 8, .inr (.inr (.inr (.inr (fun k => some (b + 37 + 15 * k)))))) := Sum.inl.inj (Option.some.inj e1)
        have e3 : N = 8 := congrArg (fun q => q.2.1) e2
        have e4 : f = fun k => some (b + 37 + 15 * k) := Sum.inr.inj (Sum.inr.inj (Sum.inr.inj (Sum.inr.inj (congrArg (fun q => q.2.2) e2))))
        have e5 := x2 0 (by omega)
        rw [e4] at e5
        have e6 : b + 37 = g 0 := Option.some.inj e5
        obtain ⟨e7, e8, e9⟩ := hg 0 (by omega)
        have e10 := hS 37 (by decide)
        rw [e6, e8] at e10
        cases e10
        exact e9 rfl
    · rw [e, hu] at x1
      cases x1
  obtain ⟨⟨h0, h1, h2, h3, h4, f5, h5, h5'⟩, ⟨h6, h7⟩, ⟨h8, h9⟩, h10⟩ := h
  have k8 : ∀ k, k < n → ∃ e, a.1 (A (50 + k)) = some e ∧ Jvm.Pilot.CSpringChainLaw_law_r6692_339830.kd e ≠ 0 := fun k hk => by
    obtain ⟨f, x1, -⟩ := h8 k hk
    exact ⟨_, x1, by show (200 + 3 : Nat) ≠ 0; omega⟩
  have k9 : ∀ k, k < sPn σ → ∃ e, a.1 (A (70 + k)) = some e ∧ Jvm.Pilot.CSpringChainLaw_law_r6692_339830.kd e ≠ 0 := fun k hk => by
    obtain ⟨f, x1, -⟩ := h9 k hk
    exact ⟨_, x1, by show (200 + 2 : Nat) ≠ 0; omega⟩
  refine ⟨⟨out h0 (by show ¬ kok 7; unfold kok; omega) (by show (7 : Nat) ≠ 101; omega) (by show (7 : Nat) ≠ 208; omega), outQ h1 (fun k hk => ⟨_, h6 k hk, by show (8 : Nat) ≠ 0; omega⟩), outQ h2 (fun k hk => ⟨_, h7 k hk, by show (10 : Nat) ≠ 0; omega⟩), outQ h3 k8, outQ h4 k9, f5, out h5 (by show ¬ kok 100; unfold kok; omega) (by show (100 : Nat) ≠ 101; omega) (by show (100 : Nat) ≠ 208; omega), h5'⟩, ⟨fun k hk => out (h6 k hk) (by show ¬ kok 8; unfold kok; omega) (by show (8 : Nat) ≠ 101; omega) (by show (8 : Nat) ≠ 208; omega), fun k hk => out (h7 k hk) (by show ¬ kok 10; unfold kok; omega) (by show (10 : Nat) ≠ 101; omega) (by show (10 : Nat) ≠ 208; omega)⟩, ⟨fun k hk => ?_, fun k hk => ?_⟩, h10⟩
  · obtain ⟨f, x1, x2⟩ := h8 k hk
    exact ⟨f, out x1 (by show ¬ kok 203; unfold kok; omega) (by show (203 : Nat) ≠ 101; omega) (by show (203 : Nat) ≠ 208; omega), x2⟩
  · obtain ⟨f, x1, x2⟩ := h9 k hk
    exact ⟨f, out x1 (by show ¬ kok 202; unfold kok; omega) (by show (202 : Nat) ≠ 101; omega) (by show (202 : Nat) ≠ 208; omega), x2⟩
/-- a cell of another kind is written -/
theorem LC.but {G : ev_G} {a : ev_H} {A : Nat → Nat} {σ : CS} {n : Nat} {m : Nat → TI} {r : Nat} {e0 e1 : va_E} (h : LC G a A σ n m) (hr : a.1 r = some e0) (hk : ¬ mutE (Jvm.Pilot.CSpringChainLaw_law_r6692_339830.kd e0)) (hk1 : Jvm.Pilot.CSpringChainLaw_law_r6692_339830.kd e0 ≠ 101) (hk3 : Jvm.Pilot.CSpringChainLaw_law_r6692_339830.kd e0 ≠ 203) : LC G (ev_put a r e1) A σ n m := by
  unfold mutE at hk
  have nr : ∀ {q : Nat} {e : va_E}, a.1 q = some e → Jvm.Pilot.CSpringChainLaw_law_r6692_339830.kd e ≠ Jvm.Pilot.CSpringChainLaw_law_r6692_339830.kd e0 → (ev_put a r e1).1 q = some e := fun he hne => (put_ne _ _ (kd_ne he hr hne)).trans he
  have kQ : ∀ {c : ClassId} {q N : Nat} {g : Nat → Nat}, aQ a c q N g → aQ (ev_put a r e1) c q N g := fun ⟨f, x1, x2⟩ => ⟨f, nr x1 (fun e => hk1 e.symm), x2⟩
  obtain ⟨⟨h0, h1, h2, h3, h4, f5, h5, h5'⟩, ⟨h6, h7⟩, ⟨h8, h9⟩, h10⟩ := h
  refine ⟨⟨nr h0 (fun e => hk (Or.inl e.symm)), kQ h1, kQ h2, kQ h3, kQ h4, f5, nr h5 (fun e => hk (Or.inr (Or.inr (Or.inr (Or.inl e.symm))))), h5'⟩, ⟨fun k hk9 => nr (h6 k hk9) (fun e => hk (Or.inr (Or.inl e.symm))), fun k hk9 => nr (h7 k hk9) (fun e => hk (Or.inr (Or.inr (Or.inl e.symm))))⟩, ⟨fun k hk9 => ?_, fun k hk9 => ?_⟩, h10⟩
  · obtain ⟨f, x1, x2⟩ := h8 k hk9
    exact ⟨f, nr x1 (fun e => hk3 e.symm), x2⟩
  · obtain ⟨f, x1, x2⟩ := h9 k hk9
    exact ⟨f, nr x1 (fun e => hk (Or.inr (Or.inr (Or.inr (Or.inr e.symm))))), x2⟩
/-- what the chain's writes leave -/
theorem LC.keep {G : ev_G} {a a' : ev_H} {A : Nat → Nat} {σ : CS} {n : Nat} {m : Nat → TI} {q : Nat} {e : va_E} (h : LC G a A σ n m) (f : fr a a' A (sNm σ) (sPn σ)) (he : a.1 q = some e) (hk : ¬ mutE (Jvm.Pilot.CSpringChainLaw_law_r6692_339830.kd e)) : a'.1 q = some e := f q e he (h.nmut he hk)
theorem kok_m {x : Nat} (h : kok x ∨ x = 101 ∨ x = 208 ∨ x = 9) : ¬ mutE x := by
  unfold kok at h; unfold mutE; omega
theorem SY.fr {G : ev_G} {b : Nat} {S : SS} {a a' : ev_H} {A : Nat → Nat} {σ : CS} {n : Nat} {m : Nat → TI} (h : SY G b S a) (hC : LC G a A σ n m) (f : Jvm.Pilot.CSpringChainLaw_law_r6692_339830.fr a a' A (sNm σ) (sPn σ)) : SY G b S a' := fun j hj => hC.keep f (h j hj) (kok_m (by
  rcases h.kd (h j hj) ⟨by omega, by omega⟩ with c | c
  · exact Or.inl c
  · exact Or.inr (Or.inl c.1)))
theorem TX.to {G : ev_G} {b u : Nat} {S0 : SS} {T : List Nat} {a a' : ev_H} (h : TX G b u S0 T a) (h1 : ∀ S, SY G b S a → SY G b S a') (h2 : ∀ f, a.1 u = some (.inl (G.2.1 0, 8, .inl f)) → a'.1 u = some (.inl (G.2.1 0, 8, .inl f))) : TX G b u S0 T a' := by
  obtain ⟨S2, g1, ⟨⟨f, g2, g3⟩, g4⟩, g5⟩ := h
  exact ⟨S2, h1 S2 g1, ⟨⟨f, h2 f g2, g3⟩, g4⟩, g5⟩
theorem TX.fr {G : ev_G} {b u : Nat} {S0 : SS} {T : List Nat} {a a' : ev_H} {A : Nat → Nat} {σ : CS} {n : Nat} {m : Nat → TI} (h : TX G b u S0 T a) (hC : LC G a A σ n m) (f : Jvm.Pilot.CSpringChainLaw_law_r6692_339830.fr a a' A (sNm σ) (sPn σ)) : TX G b u S0 T a' :=
  h.to (fun _ g => g.fr hC f) (fun _ g => hC.keep f g (kok_m (Or.inr (Or.inr (Or.inl rfl)))))
theorem TX.sub {G : ev_G} {b u : Nat} {S0 : SS} {T : List Nat} {a a' : ev_H} (h : TX G b u S0 T a) (s : Jvm.Pilot.CSpringChainLaw_law_r6692_339830.sub a a') : TX G b u S0 T a' := h.to (fun _ g => g.to s) (fun _ g => s _ _ g)
theorem TX.rnd {G : ev_G} {b u r : Nat} {S0 : SS} {T : List Nat} {a : ev_H} {s t : Int32} (h : TX G b u S0 T a) (hr : a.1 r = some (.inr (9, [.int s]))) : TX G b u S0 T (ev_put a r (.inr (9, [.int t]))) := by
  refine h.to (fun S g => g.put _ (g.out hr ?_ ?_)) (fun f g => (put_ne _ _ (kd_ne g hr ?_)).trans g)
  · show ¬ kok 9; unfold kok; omega
  · show (9 : Nat) ≠ 101; omega
  · show (200 + 8 : Nat) ≠ 9; omega
theorem TX.lc {G : ev_G} {b u : Nat} {S0 : SS} {T : List Nat} {a a' : ev_H} {A : Nat → Nat} {σ : CS} {n : Nat} {m : Nat → TI} (h : TX G b u S0 T a) (hC : LC G a A σ n m) (f : Jvm.Pilot.CSpringChainLaw_law_r6692_339830.fw a a' b u) : LC G a' A σ n m := by
  obtain ⟨S2, g1, ⟨⟨f5, g2, -⟩, -⟩, -⟩ := h
  exact hC.fw g1 g2 f
theorem TX.ob {G : ev_G} {b u q : Nat} {S0 : SS} {T : List Nat} {a a' : ev_H} {e : va_E} (h : TX G b u S0 T a) (he : a.1 q = some e) (h1 : ¬ kok (Jvm.Pilot.CSpringChainLaw_law_r6692_339830.kd e)) (h2 : Jvm.Pilot.CSpringChainLaw_law_r6692_339830.kd e ≠ 101) (h3 : Jvm.Pilot.CSpringChainLaw_law_r6692_339830.kd e ≠ 208) (f : Jvm.Pilot.CSpringChainLaw_law_r6692_339830.fw a a' b u) : a'.1 q = some e := by
  obtain ⟨S2, g1, ⟨⟨f5, g2, -⟩, -⟩, -⟩ := h
  exact f q e he (g1.out he h1 h2) (fun c => by
    rw [c, g2] at he
    cases he
    exact h3 rfl)
