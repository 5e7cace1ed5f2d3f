/-! the row of kept chains -/
def gok (K : KPT) (g : Nat → Option Nat) : Prop := ∀ j, j < 9 → g j = none ∨ ∃ (B : Nat → Nat) (τ : CS) (n : Nat) (m : Nat → TI), K B τ n m ∧ g j = some (B 0)
theorem LC.q8 {G : ev_G} {a : ev_H} {B : Nat → Nat} {τ : CS} {n q8 : Nat} {m : Nat → TI} {g : Nat → Option Nat} {e' : va_E} (hC : LC G a B τ n m) (hN : sNm τ ≤ 6) (h4 : a.1 q8 = some (.inl (G.2.1 6, 9, .inr (.inr (.inr (.inr g)))))) (hg : g 0 = none ∨ ∃ (q : Nat) (fs : List Value), g 0 = some q ∧ a.1 q = some (.inr (7, fs))) : LC G (ev_put a q8 e') B τ n m := by
  have nr : ∀ {q : Nat} {e : va_E}, a.1 q = some e → Jvm.Pilot.CSpringChainLaw_law_r6692_339830.kd e ≠ 101 → (ev_put a q8 e').1 q = some e := fun he hne => (put_ne _ _ (kd_ne he h4 hne)).trans he
  have rw9 : ∀ {c : ClassId} {q N : Nat} {g' : Nat → Nat}, aQ a c q N g' → (N = 9 → ∃ e, a.1 (g' 0) = some e ∧ Jvm.Pilot.CSpringChainLaw_law_r6692_339830.kd e ≠ 7) → aQ (ev_put a q8 e') c q N g' := fun {c q N g'} hQ hx => by
    obtain ⟨f, x1, x2⟩ := hQ
    refine ⟨f, (put_ne _ _ (fun e => ?_)).trans x1, x2⟩
    rw [e, h4] at x1
    have e2 : ((G.2.1 6, 9, .inr (.inr (.inr (.inr g)))) : ClassId × vp_A) = (c, N, .inr (.inr (.inr (.inr f)))) := Sum.inl.inj (Option.some.inj x1)
    have e3 : 9 = N := congrArg (fun q => q.2.1) e2
    have e4 : g = f := Sum.inr.inj (Sum.inr.inj (Sum.inr.inj (Sum.inr.inj (congrArg (fun q => q.2.2) e2))))
    obtain ⟨e5, e6, e7⟩ := hx e3.symm
    have e8 := x2 0 (by omega)
    rw [← e4] at e8
    rcases hg with hg | ⟨q9, fs, hg, hc⟩
    · rw [hg] at e8; cases e8
    · rw [hg] at e8
      rw [Option.some.inj e8, e6] at hc
      cases hc
      exact e7 rfl
  obtain ⟨⟨h0, h1, h2, h3, h5, f5, h6, h6'⟩, ⟨h7, h8⟩, ⟨h9, h10⟩, h11⟩ := hC
  refine ⟨⟨nr h0 (by show (7 : Nat) ≠ 101; omega), rw9 h1 (fun e => absurd e (by omega)), rw9 h2 (fun e => absurd e (by omega)), rw9 h3 (fun e => ?_), rw9 h5 (fun e => ?_), f5, nr h6 (by show (100 : Nat) ≠ 101; omega), h6'⟩, ⟨fun k hk => nr (h7 k hk) (by show (8 : Nat) ≠ 101; omega), fun k hk => nr (h8 k hk) (by show (10 : Nat) ≠ 101; omega)⟩, ⟨fun k hk => ?_, fun k hk => ?_⟩, h11⟩
  · obtain ⟨f, x1, -⟩ := h9 0 (by omega)
    exact ⟨_, x1, by show (200 + 3 : Nat) ≠ 7; omega⟩
  · obtain ⟨f, x1, -⟩ := h10 0 (by omega)
    exact ⟨_, x1, by show (200 + 2 : Nat) ≠ 7; omega⟩
  · obtain ⟨f, x1, x2⟩ := h9 k hk
    exact ⟨f, nr x1 (by show (200 + 3 : Nat) ≠ 101; omega), x2⟩
  · obtain ⟨f, x1, x2⟩ := h10 k hk
    exact ⟨f, nr x1 (by show (200 + 2 : Nat) ≠ 101; omega), x2⟩
section SAR
variable {G : ev_G} {l : Launch} {M : ev_M} {J : ev_K} {pc k n : Nat} {L : List (Option Value)} {st : List Value} {a : ev_H} {b u r q8 z : Nat} {K : KPT} {S : SS} {A : Nat → Nat} {σ : CS} {nI : Nat} {mI : Nat → TI} {g g' : Nat → Option Nat}
theorem ST.arr (h : ST G b u r q8 K S A σ nI mI g a) (hg : gok K g) (hq8 : q8 ≠ b + 36) (hN : sNm σ ≤ 6) (hK : ∀ B τ n m, K B τ n m → sNm τ ≤ 6) : ST G b u r q8 K S A σ nI mI g' (ev_put a q8 (.inl (G.2.1 6, 9, .inr (.inr (.inr (.inr g')))))) := by
  have ho := h.q8o hq8
  obtain ⟨h1, ⟨fb, h2⟩, ⟨s, h3⟩, h4, h5, h6⟩ := h
  have hg0 : g 0 = none ∨ ∃ (q : Nat) (fs : List Value), g 0 = some q ∧ a.1 q = some (.inr (7, fs)) := by
    rcases hg 0 (by decide) with c | ⟨B, τ, n, m, c1, c2⟩
    · exact Or.inl c
    · exact Or.inr ⟨_, _, c2, (h6 B τ n m c1).1.1.1⟩
  exact ⟨h1.put _ ho.1, ⟨fb, (put_ne _ _ (fun e => ho.2.1 e.symm)).trans h2⟩, ⟨s, (put_ne _ _ (fun e => ho.2.2.1 e.symm)).trans h3⟩, put_eq _ _ _, h5.q8 hN h4 hg0, fun B τ n m hk => ⟨(h6 B τ n m hk).1.q8 (hK B τ n m hk) h4 hg0, (h6 B τ n m hk).2⟩⟩
/-- what lies in the row is stored in the row -/
theorem st_aast {i : Int32} {j : Nat} {o : Option Nat} (h : ST G b u r q8 K S A σ nI mI g a) (hg : gok K g) (hq8 : q8 ≠ b + 36) (hN : sNm σ ≤ 6) (hK : ∀ B τ n m, K B τ n m → sNm τ ≤ 6) (ho : o = none ∨ ∃ (B : Nat → Nat) (τ : CS) (n : Nat) (m : Nat → TI), K B τ n m ∧ o = some (B 0)) (hi : i.toInt = (j : Int)) (hj : j < 9) (hd : decode M.2.1 pc = .ok (.aastore, 1)) (kk : ∀ a2 : ev_H, ST G b u r q8 K S A σ nI mI (ev_u g j o) a2 → a2.2 = a.2 → ev_V G l M J (pc + 1) L st a2 k n) : ev_V G l M J pc L (va_rf o :: .int i :: .ref q8 :: st) a k n := by
  have hn := ar_nat hi
  rcases ho with rfl | ⟨B, τ, n, m, c1, rfl⟩
  · refine e_aastN (t0 := 6) h.2.2.2.1 rfl (by omega) (by omega) hd ?_
    rw [hn]
    exact kk _ (h.arr hg hq8 hN hK) rfl
  · refine e_aastO (t0 := 6) (ci := 7) (T := TX7) (N2 := 9) (E := RX7) h.2.2.2.1 rfl rfl (h.2.2.2.2.2 B τ n m c1).1.1.1 (by omega) (by omega) hd ?_
    rw [hn]
    exact kk _ (h.arr hg hq8 hN hK) rfl
theorem gok_up {o : Option Nat} {j : Nat} (hg : gok K g) (ho : o = none ∨ ∃ (B : Nat → Nat) (τ : CS) (n : Nat) (m : Nat → TI), K B τ n m ∧ o = some (B 0)) : gok K (ev_u g j o) := fun i hi => by
  by_cases e : i = j
  · rw [e, ev_u_self]; exact ho
  · rw [ev_u_ne _ _ e]; exact hg i hi
/-- the row, moved by one from x on -/
def gsh (g : Nat → Option Nat) (x : Nat) : Nat → Option Nat := fun j => if x < j ∧ j < 9 then g (j - 1) else g j
theorem gsh_up (g : Nat → Option Nat) {x : Nat} (hx : x < 8) : ev_u (gsh g (x + 1)) (x + 1) (g x) = gsh g x := by
  funext j
  by_cases e : j = x + 1
  · rw [e, ev_u_self]; exact (if_pos (by omega)).symm
  · rw [ev_u_ne _ _ e]
    unfold gsh
    by_cases c : x + 1 < j ∧ j < 9
    · rw [if_pos c, if_pos (by omega)]
    · rw [if_neg c, if_neg (by omega)]
end SAR
