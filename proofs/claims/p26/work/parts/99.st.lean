/-! the law's state between its steps -/
abbrev KPT : Type := (Nat → Nat) → CS → Nat → (Nat → TI) → Prop
/-- K: the chains that are kept, with what they show -/
def ST (G : ev_G) (b u r q8 : Nat) (K : KPT) (S : SS) (A : Nat → Nat) (σ : CS) (nI : Nat) (mI : Nat → TI) (g : Nat → Option Nat) (a : ev_H) : Prop :=
  SY G b S a ∧ (∃ fb : Nat → Int32, a.1 u = some (.inl (G.2.1 0, 8, .inl fb))) ∧ (∃ s : Int32, a.1 r = some (.inr (9, [.int s]))) ∧ a.1 q8 = some (.inl (G.2.1 6, 9, .inr (.inr (.inr (.inr g))))) ∧ LC G a A σ nI mI ∧ ∀ (B : Nat → Nat) (τ : CS) (n : Nat) (m : Nat → TI), K B τ n m → LC G a B τ n m ∧ ∀ q, mtA A (sNm σ) (sPn σ) q → ¬ mtA B (sNm τ) (sPn τ) q
section STS
variable {G : ev_G} {l : Launch} {M : ev_M} {J : ev_K} {pc k n idx : Nat} {L : List (Option Value)} {st : List Value} {a a' : ev_H} {b u r q8 z : Nat} {K K' : KPT} {S S' : SS} {A A' : Nat → Nat} {σ σ' : CS} {nI n' : Nat} {mI m' : Nat → TI} {g g' : Nat → Option Nat} {x y : Int32}
theorem ST.rnd (h : ST G b u r q8 K S A σ nI mI g a) (t : Int32) : ST G b u r q8 K S A σ nI mI g (ev_put a r (.inr (9, [.int t]))) := by
  obtain ⟨h1, ⟨fb, h2⟩, ⟨s, h3⟩, h4, h5, h6⟩ := h
  have lc : ∀ {B : Nat → Nat} {τ : CS} {n : Nat} {m : Nat → TI}, LC G a B τ n m → LC G (ev_put a r (.inr (9, [.int t]))) B τ n m := fun hB => hB.but h3 (by show ¬ mutE 9; unfold mutE; omega) (by show (9 : Nat) ≠ 101; omega) (by show (9 : Nat) ≠ 203; omega)
  refine ⟨h1.put _ (h1.out h3 kok_9.1 kok_9.2.1), ⟨fb, (put_ne _ _ (kd_ne h2 h3 (by show (200 + 8 : Nat) ≠ 9; omega))).trans h2⟩, ⟨t, put_eq _ _ _⟩, (put_ne _ _ (kd_ne h4 h3 (by show (101 : Nat) ≠ 9; omega))).trans h4, lc h5, fun B τ n m hK => ⟨lc (h6 B τ n m hK).1, (h6 B τ n m hK).2⟩⟩
/-- the chain is written -/
theorem ST.wr (h : ST G b u r q8 K S A σ nI mI g a) (hC : LC G a' A' σ' n' m') (hf : Jvm.Pilot.CSpringChainLaw_law_r6692_339830.fr a a' A (sNm σ) (sPn σ)) (hm : ∀ q, mtA A' (sNm σ') (sPn σ') q → mtA A (sNm σ) (sPn σ) q ∨ ∀ e, a.1 q ≠ some e) : ST G b u r q8 K S A' σ' n' m' g a' := by
  obtain ⟨h1, ⟨fb, h2⟩, ⟨s, h3⟩, h4, h5, h6⟩ := h
  refine ⟨h1.fr h5 hf, ⟨fb, h5.keep hf h2 (kok_m (Or.inr (Or.inr (Or.inl rfl))))⟩, ⟨s, h5.keep hf h3 (kok_m (Or.inr (Or.inr (Or.inr rfl))))⟩, h5.keep hf h4 (kok_m (Or.inr (Or.inl rfl))), hC, fun B τ n m hK => ?_⟩
  obtain ⟨g1, g2⟩ := h6 B τ n m hK
  refine ⟨h5.frame g1 g2 hf, fun q hq hB => ?_⟩
  rcases hm q hq with c | c
  · exact g2 q c hB
  · obtain ⟨e, he, -⟩ := g1.mue hB
    exact c e he
theorem ST.sub (h : ST G b u r q8 K S A σ nI mI g a) (s : Jvm.Pilot.CSpringChainLaw_law_r6692_339830.sub a a') : ST G b u r q8 K S A σ nI mI g a' := by
  obtain ⟨h1, ⟨fb, h2⟩, ⟨s1, h3⟩, h4, h5, h6⟩ := h
  exact ⟨h1.to s, ⟨fb, s _ _ h2⟩, ⟨s1, s _ _ h3⟩, s _ _ h4, h5.mono s, fun B τ n m hK => ⟨(h6 B τ n m hK).1.mono s, (h6 B τ n m hK).2⟩⟩
theorem ST.see (h : ST G b u r q8 K S A σ nI mI g a) (v : vis σ σ') : ST G b u r q8 K S A σ' nI mI g a := by
  obtain ⟨h1, h2, h3, h4, h5, h6⟩ := h
  have eN : sNm σ' = sNm σ := by unfold sNm; rw [v.1 0 (by decide) (by decide)]
  have eP : sPn σ' = sPn σ := by unfold sPn; rw [v.1 6 (by decide) (by decide)]
  exact ⟨h1, h2, h3, h4, h5.see v, fun B τ n m hK => by rw [eN, eP]; exact h6 B τ n m hK⟩
/-- the row of chains is no cell of the system -/
theorem ST.q8o (h : ST G b u r q8 K S A σ nI mI g a) (hq8 : q8 ≠ b + 36) : ¬ (b ≤ q8 ∧ q8 < b + 157) ∧ q8 ≠ u ∧ q8 ≠ r ∧ ¬ (b ≤ r ∧ r < b + 157) ∧ r ≠ u := by
  obtain ⟨h1, ⟨fb, h2⟩, ⟨s, h3⟩, h4, h5, h6⟩ := h
  refine ⟨fun hq => ?_, kd_ne h4 h2 (by show (101 : Nat) ≠ 200 + 8; omega), kd_ne h4 h3 (by show (101 : Nat) ≠ 9; omega), h1.out h3 kok_9.1 kok_9.2.1, kd_ne h3 h2 (by show (9 : Nat) ≠ 200 + 8; omega)⟩
  rcases h1.kd h4 hq with c | c
  · exact c.2.2.2.2.2.1 rfl
  · exact hq8 c.2
/-- what a call of the class leaves -/
theorem ST.cls (h : ST G b u r q8 K S A σ nI mI g a) (hq8 : q8 ≠ b + 36) (hub : ¬ (b ≤ u ∧ u < b + 157)) (S' : SS) (zz : Option Nat) : ST G b u r q8 K S' A σ nI mI g (sy G b S' (a.1, zz)) := by
  have ho := h.q8o hq8
  obtain ⟨h1, ⟨fb, h2⟩, ⟨s, h3⟩, h4, h5, h6⟩ := h
  have hf : Jvm.Pilot.CSpringChainLaw_law_r6692_339830.fw a (sy G b S' (a.1, zz)) b u := fun q e he hq _ => (sy_o G b S' (a.1, zz) hq).trans he
  exact ⟨SY.of _ _ _ _, ⟨fb, (sy_o G b S' (a.1, zz) hub).trans h2⟩, ⟨s, hf _ _ h3 ho.2.2.2.1 ho.2.2.2.2⟩, hf _ _ h4 ho.1 ho.2.1, h5.fw h1 h2 hf, fun B τ n m hK => ⟨(h6 B τ n m hK).1.fw h1 h2 hf, (h6 B τ n m hK).2⟩⟩
theorem ST.size (h : ST G b u r q8 K S A σ nI mI g a) (zz : Option Nat) : ST G b u r q8 K S A σ nI mI g (a.1, zz) := h
theorem ST.less (h : ST G b u r q8 K S A σ nI mI g a) (hK : ∀ B τ n m, K' B τ n m → K B τ n m) : ST G b u r q8 K' S A σ nI mI g a :=
  ⟨h.1, h.2.1, h.2.2.1, h.2.2.2.1, h.2.2.2.2.1, fun B τ n m hk => h.2.2.2.2.2 B τ n m (hK B τ n m hk)⟩
/-- one chain more is kept -/
theorem ST.more (h : ST G b u r q8 K S A σ nI mI g a) {B0 : Nat → Nat} {τ0 : CS} {n0 : Nat} {m0 : Nat → TI} (hB : LC G a B0 τ0 n0 m0) (hd : ∀ q, mtA A (sNm σ) (sPn σ) q → ¬ mtA B0 (sNm τ0) (sPn τ0) q) : ST G b u r q8 (fun B τ n m => K B τ n m ∨ (B = B0 ∧ τ = τ0 ∧ n = n0 ∧ m = m0)) S A σ nI mI g a := by
  refine ⟨h.1, h.2.1, h.2.2.1, h.2.2.2.1, h.2.2.2.2.1, fun B τ n m hk => ?_⟩
  rcases hk with hk | ⟨rfl, rfl, rfl, rfl⟩
  · exact h.2.2.2.2.2 B τ n m hk
  · exact ⟨hB, hd⟩
theorem ST.eq (h : ST G b u r q8 K S A σ nI mI g a) : a = sy G b S a := h.1.eq
/-- the generator's next number -/
theorem st_bel (h : ST G b u r q8 K S A σ nI mI g a) (hz : a.2 = some z) (hx : 0 < x.toInt) (hw : Cond.methodLink M.1.cls idx mX9_below.1 ∈ ev_ws) (hd : decode M.2.1 pc = .ok (.invokevirtual idx, 3)) (hcat : (st.map fun v => v.category).sum ≤ 8) (hJ : 1 ≤ J.2.2.1) (kk : ∀ (y : Int32) (a2 : ev_H), 0 ≤ y.toInt → y.toInt < x.toInt → ST G b u r q8 K S A σ nI mI g a2 → a2.2 = some z → ev_V G l M J (pc + 3) L (.int y :: st) a2 k n) : ev_V G l M J pc L (.int x :: .ref r :: st) a k n := by
  obtain ⟨s, h3⟩ := h.2.2.1
  refine e_invV (mcY := 0) (msY := 0) (ct_X9_below h3 hx) vX9_below hw h3 rfl hd (as := [.int x]) rfl rfl hcat hJ ?_
  rintro v c ⟨y, t, rfl, ⟨y1, y2⟩, e⟩
  rw [e]
  exact kk y _ y1 y2 (h.rnd t) hz
end STS
