/-! what each helper answers -/
theorem ev_Ht.mono {G : ev_G} {l : Launch} {M : ev_M} {hh : List (Nat × Nat × Nat × Nat)} {d mc ms : Nat} {as : List Value} {a : ev_H} {P P' : Option Value → ev_H → Prop} (h : ev_Ht G l M hh d mc ms as a P) (hP : ∀ v b, P v b → P' v b) : ev_Ht G l M hh d mc ms as a P' := by
  intro p e ha hc hk s m args below hf happ hPr hK
  obtain ⟨n, o, h1, h2, h3, ⟨⟨v, b, q1, q2, q3⟩, q4⟩, q5⟩ := h p e ha hc hk s m args below hf happ hPr hK
  exact ⟨n, o, h1, h2, h3, ⟨⟨v, b, q1, hP _ _ q2, q3⟩, q4⟩, q5⟩
section LHE
variable {G : ev_G} {l : Launch} {b : Nat} {S : SS} {h : ev_H} {x y z : Int32}
theorem lh_noted_ok (hl0 : l.stackTraces = false) (hq : h.2 = none) (hv : sInv (S.2.2.2 0)) (c1 : (0 ≤ x.toInt ∧ x.toInt < ((S.2.2.2 0).1 6).toInt)) (c2 : (0 ≤ y.toInt ∧ y.toInt ≤ 1)) : ev_Ht G l mL_noted [(0, 6, 7, 65), (0, 6, 11, 40)] 12 2 12 [.ref b, .int x, .int y] (sy G b S h) (fun v a => (v = some (.int (if y = 0 then (S.2.2.2 0).2.2 10 x.toInt.toNat else (S.2.2.2 0).2.2 11 x.toInt.toNat)) ∧ a = sy G b S h)) := by
  refine (ct_L_noted (by decide) (ct_X6_noted hl0 hq hv) (fun v a p => ⟨_, p.1.1⟩) (fun E a p => p.elim (fun q => Or.inl q.1.1) (fun q => Or.inr q.1.1))).mono (fun v a p => ?_)
  rcases p with p | ⟨p, hv9⟩ | ⟨p, hv9⟩
  · exact p.1
  · rcases p with ⟨⟨e, ha⟩, m1⟩ | ⟨⟨e, ha⟩, m1, m2⟩
    · exact absurd c1 m1
    · exact absurd e (by decide)
  · rcases p with ⟨⟨e, ha⟩, m1⟩ | ⟨⟨e, ha⟩, m1, m2⟩
    · exact absurd e (by decide)
    · exact absurd c2 m2
theorem lh_noted_N (hl0 : l.stackTraces = false) (hq : h.2 = none) (hv : sInv (S.2.2.2 0))  (n1 : ¬ (0 ≤ x.toInt ∧ x.toInt < ((S.2.2.2 0).1 6).toInt)) : ev_Ht G l mL_noted [(0, 6, 7, 65), (0, 6, 11, 40)] 12 2 12 [.ref b, .int x, .int y] (sy G b S h) (fun v a => v = some (.int (-2000000100)) ∧ a = sy G b S h) := by
  refine (ct_L_noted (by decide) (ct_X6_noted hl0 hq hv) (fun v a p => ⟨_, p.1.1⟩) (fun E a p => p.elim (fun q => Or.inl q.1.1) (fun q => Or.inr q.1.1))).mono (fun v a p => ?_)
  rcases p with p | ⟨p, hv9⟩ | ⟨p, hv9⟩
  · exact absurd p.2.1 n1
  · rcases p with ⟨⟨e, ha⟩, m1⟩ | ⟨⟨e, ha⟩, m1, m2⟩
    · exact ⟨hv9, ha⟩
    · exact absurd e (by decide)
  · rcases p with ⟨⟨e, ha⟩, m1⟩ | ⟨⟨e, ha⟩, m1, m2⟩
    · exact absurd e (by decide)
    · exact absurd m1 n1
theorem lh_noted_A (hl0 : l.stackTraces = false) (hq : h.2 = none) (hv : sInv (S.2.2.2 0)) (c1 : (0 ≤ x.toInt ∧ x.toInt < ((S.2.2.2 0).1 6).toInt)) (n2 : ¬ (0 ≤ y.toInt ∧ y.toInt ≤ 1)) : ev_Ht G l mL_noted [(0, 6, 7, 65), (0, 6, 11, 40)] 12 2 12 [.ref b, .int x, .int y] (sy G b S h) (fun v a => v = some (.int (-2000000098)) ∧ a = sy G b S h) := by
  refine (ct_L_noted (by decide) (ct_X6_noted hl0 hq hv) (fun v a p => ⟨_, p.1.1⟩) (fun E a p => p.elim (fun q => Or.inl q.1.1) (fun q => Or.inr q.1.1))).mono (fun v a p => ?_)
  rcases p with p | ⟨p, hv9⟩ | ⟨p, hv9⟩
  · exact absurd p.2.2 n2
  · rcases p with ⟨⟨e, ha⟩, m1⟩ | ⟨⟨e, ha⟩, m1, m2⟩
    · exact absurd c1 m1
    · exact absurd e (by decide)
  · rcases p with ⟨⟨e, ha⟩, m1⟩ | ⟨⟨e, ha⟩, m1, m2⟩
    · exact absurd e (by decide)
    · exact ⟨hv9, ha⟩
theorem lh_waiting_ok (hl0 : l.stackTraces = false) (hq : h.2 = none) (hv : sInv (S.2.2.2 0)) (c1 : (0 ≤ x.toInt ∧ x.toInt < ((S.2.2.2 0).1 5).toInt)) (c2 : (0 ≤ y.toInt ∧ y.toInt ≤ 2)) : ev_Ht G l mL_waiting [(0, 6, 7, 65), (0, 6, 11, 40)] 12 2 12 [.ref b, .int x, .int y] (sy G b S h) (fun v a => (v = some (.int (if y.toInt = 0 then (S.2.2.2 0).2.2 7 x.toInt.toNat else if y.toInt = 1 then (S.2.2.2 0).2.2 8 x.toInt.toNat else (S.2.2.2 0).2.2 9 x.toInt.toNat)) ∧ a = sy G b S h)) := by
  refine (ct_L_waiting (by decide) (ct_X6_waiting hl0 hq hv) (fun v a p => ⟨_, p.1.1⟩) (fun E a p => p.elim (fun q => Or.inl q.1.1) (fun q => Or.inr q.1.1))).mono (fun v a p => ?_)
  rcases p with p | ⟨p, hv9⟩ | ⟨p, hv9⟩
  · exact p.1
  · rcases p with ⟨⟨e, ha⟩, m1⟩ | ⟨⟨e, ha⟩, m1, m2⟩
    · exact absurd c1 m1
    · exact absurd e (by decide)
  · rcases p with ⟨⟨e, ha⟩, m1⟩ | ⟨⟨e, ha⟩, m1, m2⟩
    · exact absurd e (by decide)
    · exact absurd c2 m2
theorem lh_waiting_N (hl0 : l.stackTraces = false) (hq : h.2 = none) (hv : sInv (S.2.2.2 0))  (n1 : ¬ (0 ≤ x.toInt ∧ x.toInt < ((S.2.2.2 0).1 5).toInt)) : ev_Ht G l mL_waiting [(0, 6, 7, 65), (0, 6, 11, 40)] 12 2 12 [.ref b, .int x, .int y] (sy G b S h) (fun v a => v = some (.int (-2000000100)) ∧ a = sy G b S h) := by
  refine (ct_L_waiting (by decide) (ct_X6_waiting hl0 hq hv) (fun v a p => ⟨_, p.1.1⟩) (fun E a p => p.elim (fun q => Or.inl q.1.1) (fun q => Or.inr q.1.1))).mono (fun v a p => ?_)
  rcases p with p | ⟨p, hv9⟩ | ⟨p, hv9⟩
  · exact absurd p.2.1 n1
  · rcases p with ⟨⟨e, ha⟩, m1⟩ | ⟨⟨e, ha⟩, m1, m2⟩
    · exact ⟨hv9, ha⟩
    · exact absurd e (by decide)
  · rcases p with ⟨⟨e, ha⟩, m1⟩ | ⟨⟨e, ha⟩, m1, m2⟩
    · exact absurd e (by decide)
    · exact absurd m1 n1
theorem lh_waiting_A (hl0 : l.stackTraces = false) (hq : h.2 = none) (hv : sInv (S.2.2.2 0)) (c1 : (0 ≤ x.toInt ∧ x.toInt < ((S.2.2.2 0).1 5).toInt)) (n2 : ¬ (0 ≤ y.toInt ∧ y.toInt ≤ 2)) : ev_Ht G l mL_waiting [(0, 6, 7, 65), (0, 6, 11, 40)] 12 2 12 [.ref b, .int x, .int y] (sy G b S h) (fun v a => v = some (.int (-2000000098)) ∧ a = sy G b S h) := by
  refine (ct_L_waiting (by decide) (ct_X6_waiting hl0 hq hv) (fun v a p => ⟨_, p.1.1⟩) (fun E a p => p.elim (fun q => Or.inl q.1.1) (fun q => Or.inr q.1.1))).mono (fun v a p => ?_)
  rcases p with p | ⟨p, hv9⟩ | ⟨p, hv9⟩
  · exact absurd p.2.2 n2
  · rcases p with ⟨⟨e, ha⟩, m1⟩ | ⟨⟨e, ha⟩, m1, m2⟩
    · exact absurd c1 m1
    · exact absurd e (by decide)
  · rcases p with ⟨⟨e, ha⟩, m1⟩ | ⟨⟨e, ha⟩, m1, m2⟩
    · exact absurd e (by decide)
    · exact ⟨hv9, ha⟩
theorem lh_foretold_ok (hl0 : l.stackTraces = false) (hq : h.2 = none) (hvd : sInv (sDr S)) (c1 : (0 ≤ y.toInt ∧ y.toInt < sM (S.2.2.2 0))) (c2 : ((1 ≤ x.toInt ∧ x.toInt ≤ 200) ∧ (0 ≤ z.toInt ∧ z.toInt ≤ 4))) : ev_Ht G l mL_foretold [(0, 7, 8, 56), (0, 7, 13, 40)] 12 3 18 [.ref b, .int x, .int y, .int z] (sy G b S h) (fun v a => (v = some (.int (match z.toInt.toNat with | 0 => (tickN x.toInt.toNat (sDr S)).2.2 1 y.toInt.toNat | 1 => (tickN x.toInt.toNat (sDr S)).2.2 2 y.toInt.toNat | 2 => sGr (sDr S) y.toInt.toNat x.toInt.toNat | 3 => acc32 0 (sBrk (tickN x.toInt.toNat (sDr S))) (sNm (tickN x.toInt.toNat (sDr S)) + 1) | _ => sNod (tickN x.toInt.toNat (sDr S)))) ∧ ∃ τ, a = sy G b (ss_C S 1 τ) h)) := by
  refine (ct_L_foretold (by decide) (ct_X6_foretold hl0 hq hvd) (fun v a p => ⟨_, p.1.1⟩) (fun E a p => p.elim (fun q => Or.inl q.1.1) (fun q => Or.inr q.1.1))).mono (fun v a p => ?_)
  rcases p with p | ⟨p, hv9⟩ | ⟨p, hv9⟩
  · exact p.1
  · rcases p with ⟨⟨e, ha⟩, m1⟩ | ⟨⟨e, ha⟩, m1, m2⟩
    · exact absurd c1 m1
    · exact absurd e (by decide)
  · rcases p with ⟨⟨e, ha⟩, m1⟩ | ⟨⟨e, ha⟩, m1, m2⟩
    · exact absurd e (by decide)
    · exact absurd c2 m2
theorem lh_foretold_I (hl0 : l.stackTraces = false) (hq : h.2 = none) (hvd : sInv (sDr S))  (n1 : ¬ (0 ≤ y.toInt ∧ y.toInt < sM (S.2.2.2 0))) : ev_Ht G l mL_foretold [(0, 7, 8, 56), (0, 7, 13, 40)] 12 3 18 [.ref b, .int x, .int y, .int z] (sy G b S h) (fun v a => v = some (.int (-2000000097)) ∧ a = sy G b S h) := by
  refine (ct_L_foretold (by decide) (ct_X6_foretold hl0 hq hvd) (fun v a p => ⟨_, p.1.1⟩) (fun E a p => p.elim (fun q => Or.inl q.1.1) (fun q => Or.inr q.1.1))).mono (fun v a p => ?_)
  rcases p with p | ⟨p, hv9⟩ | ⟨p, hv9⟩
  · exact absurd p.2.1 n1
  · rcases p with ⟨⟨e, ha⟩, m1⟩ | ⟨⟨e, ha⟩, m1, m2⟩
    · exact ⟨hv9, ha⟩
    · exact absurd e (by decide)
  · rcases p with ⟨⟨e, ha⟩, m1⟩ | ⟨⟨e, ha⟩, m1, m2⟩
    · exact absurd e (by decide)
    · exact absurd m1 n1
theorem lh_foretold_A (hl0 : l.stackTraces = false) (hq : h.2 = none) (hvd : sInv (sDr S)) (c1 : (0 ≤ y.toInt ∧ y.toInt < sM (S.2.2.2 0))) (n2 : ¬ ((1 ≤ x.toInt ∧ x.toInt ≤ 200) ∧ (0 ≤ z.toInt ∧ z.toInt ≤ 4))) : ev_Ht G l mL_foretold [(0, 7, 8, 56), (0, 7, 13, 40)] 12 3 18 [.ref b, .int x, .int y, .int z] (sy G b S h) (fun v a => v = some (.int (-2000000098)) ∧ a = sy G b S h) := by
  refine (ct_L_foretold (by decide) (ct_X6_foretold hl0 hq hvd) (fun v a p => ⟨_, p.1.1⟩) (fun E a p => p.elim (fun q => Or.inl q.1.1) (fun q => Or.inr q.1.1))).mono (fun v a p => ?_)
  rcases p with p | ⟨p, hv9⟩ | ⟨p, hv9⟩
  · exact absurd p.2.2 n2
  · rcases p with ⟨⟨e, ha⟩, m1⟩ | ⟨⟨e, ha⟩, m1, m2⟩
    · exact absurd c1 m1
    · exact absurd e (by decide)
  · rcases p with ⟨⟨e, ha⟩, m1⟩ | ⟨⟨e, ha⟩, m1, m2⟩
    · exact absurd e (by decide)
    · exact ⟨hv9, ha⟩
theorem lh_period_ok (hl0 : l.stackTraces = false) (hq : h.2 = none) (hvd : sInv (sDr S)) (c1 : (0 ≤ x.toInt ∧ x.toInt < sM (S.2.2.2 0))) (c2 : (1 ≤ y.toInt ∧ y.toInt ≤ 300)) : ev_Ht G l mL_period [(0, 6, 7, 56), (0, 6, 11, 40)] 12 2 12 [.ref b, .int x, .int y] (sy G b S h) (fun v a => (∃ r : Int32, v = some (.int r) ∧ r.toInt = sPerF (sDr S) x.toInt.toNat y.toInt.toNat 0 0) ∧ (∃ τ, a = sy G b (ss_C S 1 τ) h)) := by
  refine (ct_L_period (by decide) (ct_X6_period hl0 hq hvd) (fun v a p => p.1.imp fun _ q => q.1) (fun E a p => p.elim (fun q => Or.inl q.1.1) (fun q => Or.inr q.1.1))).mono (fun v a p => ?_)
  rcases p with p | ⟨p, hv9⟩ | ⟨p, hv9⟩
  · exact ⟨p.1, p.2.1⟩
  · rcases p with ⟨⟨e, ha⟩, m1⟩ | ⟨⟨e, ha⟩, m1, m2⟩
    · exact absurd c1 m1
    · exact absurd e (by decide)
  · rcases p with ⟨⟨e, ha⟩, m1⟩ | ⟨⟨e, ha⟩, m1, m2⟩
    · exact absurd e (by decide)
    · exact absurd c2 m2
theorem lh_period_I (hl0 : l.stackTraces = false) (hq : h.2 = none) (hvd : sInv (sDr S))  (n1 : ¬ (0 ≤ x.toInt ∧ x.toInt < sM (S.2.2.2 0))) : ev_Ht G l mL_period [(0, 6, 7, 56), (0, 6, 11, 40)] 12 2 12 [.ref b, .int x, .int y] (sy G b S h) (fun v a => v = some (.int (-2000000097)) ∧ a = sy G b S h) := by
  refine (ct_L_period (by decide) (ct_X6_period hl0 hq hvd) (fun v a p => p.1.imp fun _ q => q.1) (fun E a p => p.elim (fun q => Or.inl q.1.1) (fun q => Or.inr q.1.1))).mono (fun v a p => ?_)
  rcases p with p | ⟨p, hv9⟩ | ⟨p, hv9⟩
  · exact absurd p.2.2.1 n1
  · rcases p with ⟨⟨e, ha⟩, m1⟩ | ⟨⟨e, ha⟩, m1, m2⟩
    · exact ⟨hv9, ha⟩
    · exact absurd e (by decide)
  · rcases p with ⟨⟨e, ha⟩, m1⟩ | ⟨⟨e, ha⟩, m1, m2⟩
    · exact absurd e (by decide)
    · exact absurd m1 n1
theorem lh_period_A (hl0 : l.stackTraces = false) (hq : h.2 = none) (hvd : sInv (sDr S)) (c1 : (0 ≤ x.toInt ∧ x.toInt < sM (S.2.2.2 0))) (n2 : ¬ (1 ≤ y.toInt ∧ y.toInt ≤ 300)) : ev_Ht G l mL_period [(0, 6, 7, 56), (0, 6, 11, 40)] 12 2 12 [.ref b, .int x, .int y] (sy G b S h) (fun v a => v = some (.int (-2000000098)) ∧ a = sy G b S h) := by
  refine (ct_L_period (by decide) (ct_X6_period hl0 hq hvd) (fun v a p => p.1.imp fun _ q => q.1) (fun E a p => p.elim (fun q => Or.inl q.1.1) (fun q => Or.inr q.1.1))).mono (fun v a p => ?_)
  rcases p with p | ⟨p, hv9⟩ | ⟨p, hv9⟩
  · exact absurd p.2.2.2 n2
  · rcases p with ⟨⟨e, ha⟩, m1⟩ | ⟨⟨e, ha⟩, m1, m2⟩
    · exact absurd c1 m1
    · exact absurd e (by decide)
  · rcases p with ⟨⟨e, ha⟩, m1⟩ | ⟨⟨e, ha⟩, m1, m2⟩
    · exact absurd e (by decide)
    · exact ⟨hv9, ha⟩
theorem lh_breaksIn_ok (hl0 : l.stackTraces = false) (hq : h.2 = none) (hvd : sInv (sDr S)) (c1 : (1 ≤ x.toInt ∧ x.toInt ≤ 200)) : ev_Ht G l mL_breaksIn [(0, 5, 6, 40)] 12 1 6 [.ref b, .int x] (sy G b S h) (fun v a => (∃ r : Int32, v = some (.int r) ∧ r.toInt = sBrkF (sDr S) x.toInt.toNat 0) ∧ (∃ τ, a = sy G b (ss_C S 1 τ) h)) := by
  refine (ct_L_breaksIn (by decide) (ct_X6_breaksIn hl0 hq hvd) (fun v a p => p.1.imp fun _ q => q.1) (fun E a p => p.1.1)).mono (fun v a p => ?_)
  rcases p with p | ⟨p, hv9⟩
  · exact ⟨p.1, p.2.1⟩
  · obtain ⟨⟨-, ha⟩, m1⟩ := p
    exact absurd c1 m1
theorem lh_breaksIn_A (hl0 : l.stackTraces = false) (hq : h.2 = none) (hvd : sInv (sDr S))  (n1 : ¬ (1 ≤ x.toInt ∧ x.toInt ≤ 200)) : ev_Ht G l mL_breaksIn [(0, 5, 6, 40)] 12 1 6 [.ref b, .int x] (sy G b S h) (fun v a => v = some (.int (-2000000098)) ∧ a = sy G b S h) := by
  refine (ct_L_breaksIn (by decide) (ct_X6_breaksIn hl0 hq hvd) (fun v a p => p.1.imp fun _ q => q.1) (fun E a p => p.1.1)).mono (fun v a p => ?_)
  rcases p with p | ⟨p, hv9⟩
  · exact absurd p.2.2 n1
  · obtain ⟨⟨-, ha⟩, m1⟩ := p
    exact ⟨hv9, ha⟩
theorem lh_pass_ok (hl0 : l.stackTraces = false) (hq : h.2 = none) (hh : hOk S) (hv : sInv (S.2.2.2 0)) (c1 : (1 ≤ x.toInt ∧ x.toInt ≤ 50)) : ev_Ht G l mL_pass [(0, 5, 6, 40)] 12 1 6 [.ref b, .int x] (sy G b S h) (fun v a => (v = some (.int (sBrks (S.2.2.2 0) x.toInt.toNat)) ∧ a = sy G b (ss_C (sKeep S) 0 (tickN x.toInt.toNat (S.2.2.2 0))) h)) := by
  refine (ct_L_pass (by decide) (ct_X6_pass hl0 hq hh hv) (fun v a p => ⟨_, p.1.1⟩) (fun E a p => p.1.1)).mono (fun v a p => ?_)
  rcases p with p | ⟨p, hv9⟩
  · exact p.1
  · obtain ⟨⟨-, ha⟩, m1⟩ := p
    exact absurd c1 m1
theorem lh_pass_A (hl0 : l.stackTraces = false) (hq : h.2 = none) (hh : hOk S) (hv : sInv (S.2.2.2 0))  (n1 : ¬ (1 ≤ x.toInt ∧ x.toInt ≤ 50)) : ev_Ht G l mL_pass [(0, 5, 6, 40)] 12 1 6 [.ref b, .int x] (sy G b S h) (fun v a => v = some (.int (-2000000098)) ∧ a = sy G b S h) := by
  refine (ct_L_pass (by decide) (ct_X6_pass hl0 hq hh hv) (fun v a p => ⟨_, p.1.1⟩) (fun E a p => p.1.1)).mono (fun v a p => ?_)
  rcases p with p | ⟨p, hv9⟩
  · exact absurd p.2 n1
  · obtain ⟨⟨-, ha⟩, m1⟩ := p
    exact ⟨hv9, ha⟩
theorem lh_pluck_ok (hl0 : l.stackTraces = false) (hq : h.2 = none) (hh : hOk S) (hv : sInv (S.2.2.2 0)) (c1 : (0 ≤ x.toInt ∧ x.toInt < sM (S.2.2.2 0))) (c2 : (-10000 ≤ y.toInt ∧ y.toInt ≤ 10000)) : ev_Ht G l mL_pluck [(0, 6, 7, 56), (0, 6, 11, 40)] 12 2 12 [.ref b, .int x, .int y] (sy G b S h) (fun v a => (v = some (.int ((S.2.2.2 0).2.2 1 x.toInt.toNat)) ∧ a = sy G b (ss_C (sKeep S) 0 (cs_A (S.2.2.2 0) 1 (ev_u ((S.2.2.2 0).2.2 1) x.toInt.toNat y))) h)) := by
  refine (ct_L_pluck (by decide) (ct_X6_pluck hl0 hq hh hv) (fun v a p => ⟨_, p.1.1⟩) (fun E a p => p.elim (fun q => Or.inl q.1.1) (fun q => Or.inr q.1.1))).mono (fun v a p => ?_)
  rcases p with p | ⟨p, hv9⟩ | ⟨p, hv9⟩
  · exact p.1
  · rcases p with ⟨⟨e, ha⟩, m1⟩ | ⟨⟨e, ha⟩, m1, m2⟩
    · exact absurd c1 m1
    · exact absurd e (by decide)
  · rcases p with ⟨⟨e, ha⟩, m1⟩ | ⟨⟨e, ha⟩, m1, m2⟩
    · exact absurd e (by decide)
    · exact absurd c2 m2
theorem lh_pluck_I (hl0 : l.stackTraces = false) (hq : h.2 = none) (hh : hOk S) (hv : sInv (S.2.2.2 0))  (n1 : ¬ (0 ≤ x.toInt ∧ x.toInt < sM (S.2.2.2 0))) : ev_Ht G l mL_pluck [(0, 6, 7, 56), (0, 6, 11, 40)] 12 2 12 [.ref b, .int x, .int y] (sy G b S h) (fun v a => v = some (.int (-2000000097)) ∧ a = sy G b S h) := by
  refine (ct_L_pluck (by decide) (ct_X6_pluck hl0 hq hh hv) (fun v a p => ⟨_, p.1.1⟩) (fun E a p => p.elim (fun q => Or.inl q.1.1) (fun q => Or.inr q.1.1))).mono (fun v a p => ?_)
  rcases p with p | ⟨p, hv9⟩ | ⟨p, hv9⟩
  · exact absurd p.2.1 n1
  · rcases p with ⟨⟨e, ha⟩, m1⟩ | ⟨⟨e, ha⟩, m1, m2⟩
    · exact ⟨hv9, ha⟩
    · exact absurd e (by decide)
  · rcases p with ⟨⟨e, ha⟩, m1⟩ | ⟨⟨e, ha⟩, m1, m2⟩
    · exact absurd e (by decide)
    · exact absurd m1 n1
theorem lh_pluck_A (hl0 : l.stackTraces = false) (hq : h.2 = none) (hh : hOk S) (hv : sInv (S.2.2.2 0)) (c1 : (0 ≤ x.toInt ∧ x.toInt < sM (S.2.2.2 0))) (n2 : ¬ (-10000 ≤ y.toInt ∧ y.toInt ≤ 10000)) : ev_Ht G l mL_pluck [(0, 6, 7, 56), (0, 6, 11, 40)] 12 2 12 [.ref b, .int x, .int y] (sy G b S h) (fun v a => v = some (.int (-2000000098)) ∧ a = sy G b S h) := by
  refine (ct_L_pluck (by decide) (ct_X6_pluck hl0 hq hh hv) (fun v a p => ⟨_, p.1.1⟩) (fun E a p => p.elim (fun q => Or.inl q.1.1) (fun q => Or.inr q.1.1))).mono (fun v a p => ?_)
  rcases p with p | ⟨p, hv9⟩ | ⟨p, hv9⟩
  · exact absurd p.2.2 n2
  · rcases p with ⟨⟨e, ha⟩, m1⟩ | ⟨⟨e, ha⟩, m1, m2⟩
    · exact absurd c1 m1
    · exact absurd e (by decide)
  · rcases p with ⟨⟨e, ha⟩, m1⟩ | ⟨⟨e, ha⟩, m1, m2⟩
    · exact absurd e (by decide)
    · exact ⟨hv9, ha⟩
theorem lh_strike_ok (hl0 : l.stackTraces = false) (hq : h.2 = none) (hh : hOk S) (hv : sInv (S.2.2.2 0)) (c1 : (0 ≤ x.toInt ∧ x.toInt < sM (S.2.2.2 0))) (c2 : (-100000 ≤ y.toInt ∧ y.toInt ≤ 100000)) : ev_Ht G l mL_strike [(0, 6, 7, 56), (0, 6, 11, 40)] 12 2 12 [.ref b, .int x, .int y] (sy G b S h) (fun v a => (v = some (.int ((sHit (S.2.2.2 0) x.toInt.toNat y).2.2 2 x.toInt.toNat)) ∧ a = sy G b (ss_C (sKeep S) 0 (sHit (S.2.2.2 0) x.toInt.toNat y)) h)) := by
  refine (ct_L_strike (by decide) (ct_X6_strike hl0 hq hh hv) (fun v a p => ⟨_, p.1.1⟩) (fun E a p => p.elim (fun q => Or.inl q.1.1) (fun q => Or.inr q.1.1))).mono (fun v a p => ?_)
  rcases p with p | ⟨p, hv9⟩ | ⟨p, hv9⟩
  · exact p.1
  · rcases p with ⟨⟨e, ha⟩, m1⟩ | ⟨⟨e, ha⟩, m1, m2⟩
    · exact absurd c1 m1
    · exact absurd e (by decide)
  · rcases p with ⟨⟨e, ha⟩, m1⟩ | ⟨⟨e, ha⟩, m1, m2⟩
    · exact absurd e (by decide)
    · exact absurd c2 m2
theorem lh_strike_I (hl0 : l.stackTraces = false) (hq : h.2 = none) (hh : hOk S) (hv : sInv (S.2.2.2 0))  (n1 : ¬ (0 ≤ x.toInt ∧ x.toInt < sM (S.2.2.2 0))) : ev_Ht G l mL_strike [(0, 6, 7, 56), (0, 6, 11, 40)] 12 2 12 [.ref b, .int x, .int y] (sy G b S h) (fun v a => v = some (.int (-2000000097)) ∧ a = sy G b S h) := by
  refine (ct_L_strike (by decide) (ct_X6_strike hl0 hq hh hv) (fun v a p => ⟨_, p.1.1⟩) (fun E a p => p.elim (fun q => Or.inl q.1.1) (fun q => Or.inr q.1.1))).mono (fun v a p => ?_)
  rcases p with p | ⟨p, hv9⟩ | ⟨p, hv9⟩
  · exact absurd p.2.1 n1
  · rcases p with ⟨⟨e, ha⟩, m1⟩ | ⟨⟨e, ha⟩, m1, m2⟩
    · exact ⟨hv9, ha⟩
    · exact absurd e (by decide)
  · rcases p with ⟨⟨e, ha⟩, m1⟩ | ⟨⟨e, ha⟩, m1, m2⟩
    · exact absurd e (by decide)
    · exact absurd m1 n1
theorem lh_strike_A (hl0 : l.stackTraces = false) (hq : h.2 = none) (hh : hOk S) (hv : sInv (S.2.2.2 0)) (c1 : (0 ≤ x.toInt ∧ x.toInt < sM (S.2.2.2 0))) (n2 : ¬ (-100000 ≤ y.toInt ∧ y.toInt ≤ 100000)) : ev_Ht G l mL_strike [(0, 6, 7, 56), (0, 6, 11, 40)] 12 2 12 [.ref b, .int x, .int y] (sy G b S h) (fun v a => v = some (.int (-2000000098)) ∧ a = sy G b S h) := by
  refine (ct_L_strike (by decide) (ct_X6_strike hl0 hq hh hv) (fun v a p => ⟨_, p.1.1⟩) (fun E a p => p.elim (fun q => Or.inl q.1.1) (fun q => Or.inr q.1.1))).mono (fun v a p => ?_)
  rcases p with p | ⟨p, hv9⟩ | ⟨p, hv9⟩
  · exact absurd p.2.2 n2
  · rcases p with ⟨⟨e, ha⟩, m1⟩ | ⟨⟨e, ha⟩, m1, m2⟩
    · exact absurd c1 m1
    · exact absurd e (by decide)
  · rcases p with ⟨⟨e, ha⟩, m1⟩ | ⟨⟨e, ha⟩, m1, m2⟩
    · exact absurd e (by decide)
    · exact ⟨hv9, ha⟩
theorem lh_impulse_ok (hl0 : l.stackTraces = false) (hq : h.2 = none) (hh : hOk S) (hv : sInv (S.2.2.2 0)) (c1 : (0 ≤ y.toInt ∧ y.toInt < sM (S.2.2.2 0))) (c2 : ((((S.2.2.2 0).1 1).toInt ≤ x.toInt ∧ x.toInt ≤ 9999) ∧ (-9999 ≤ z.toInt ∧ z.toInt ≤ 9999) ∧ z ≠ 0)) (c3 : sIn (S.2.2.2 0) < 16) : ev_Ht G l mL_impulse [(0, 7, 8, 56), (0, 7, 13, 40), (0, 7, 18, 93)] 12 4 24 [.ref b, .int x, .int y, .int z] (sy G b S h) (fun v a => (v = some (.int ((S.2.2.2 0).1 5 + 1)) ∧ a = sy G b (ss_C (sKeep S) 0 (sIns (S.2.2.2 0) x y z)) h)) := by
  refine (ct_L_impulse (by decide) (ct_X6_impulse hl0 hq hh hv) (fun v a p => ⟨_, p.1.1⟩) (fun E a p => p.elim (fun q => Or.inl q.1.1) (fun q => q.elim (fun r => Or.inr (Or.inl r.1.1)) (fun r => Or.inr (Or.inr r.1.1))))).mono (fun v a p => ?_)
  rcases p with p | ⟨p, hv9⟩ | ⟨p, hv9⟩ | ⟨p, hv9⟩
  · exact p.1
  · rcases p with ⟨⟨e, ha⟩, m1⟩ | ⟨⟨e, ha⟩, m1, m2⟩ | ⟨⟨e, ha⟩, m1, m2, m3⟩
    · exact absurd c1 m1
    · exact absurd e (by decide)
    · exact absurd e (by decide)
  · rcases p with ⟨⟨e, ha⟩, m1⟩ | ⟨⟨e, ha⟩, m1, m2⟩ | ⟨⟨e, ha⟩, m1, m2, m3⟩
    · exact absurd e (by decide)
    · exact absurd c2 m2
    · exact absurd e (by decide)
  · rcases p with ⟨⟨e, ha⟩, m1⟩ | ⟨⟨e, ha⟩, m1, m2⟩ | ⟨⟨e, ha⟩, m1, m2, m3⟩
    · exact absurd e (by decide)
    · exact absurd e (by decide)
    · exact absurd c3 m3
theorem lh_impulse_I (hl0 : l.stackTraces = false) (hq : h.2 = none) (hh : hOk S) (hv : sInv (S.2.2.2 0))  (n1 : ¬ (0 ≤ y.toInt ∧ y.toInt < sM (S.2.2.2 0))) : ev_Ht G l mL_impulse [(0, 7, 8, 56), (0, 7, 13, 40), (0, 7, 18, 93)] 12 4 24 [.ref b, .int x, .int y, .int z] (sy G b S h) (fun v a => v = some (.int (-2000000097)) ∧ a = sy G b S h) := by
  refine (ct_L_impulse (by decide) (ct_X6_impulse hl0 hq hh hv) (fun v a p => ⟨_, p.1.1⟩) (fun E a p => p.elim (fun q => Or.inl q.1.1) (fun q => q.elim (fun r => Or.inr (Or.inl r.1.1)) (fun r => Or.inr (Or.inr r.1.1))))).mono (fun v a p => ?_)
  rcases p with p | ⟨p, hv9⟩ | ⟨p, hv9⟩ | ⟨p, hv9⟩
  · exact absurd p.2.1 n1
  · rcases p with ⟨⟨e, ha⟩, m1⟩ | ⟨⟨e, ha⟩, m1, m2⟩ | ⟨⟨e, ha⟩, m1, m2, m3⟩
    · exact ⟨hv9, ha⟩
    · exact absurd e (by decide)
    · exact absurd e (by decide)
  · rcases p with ⟨⟨e, ha⟩, m1⟩ | ⟨⟨e, ha⟩, m1, m2⟩ | ⟨⟨e, ha⟩, m1, m2, m3⟩
    · exact absurd e (by decide)
    · exact absurd m1 n1
    · exact absurd e (by decide)
  · rcases p with ⟨⟨e, ha⟩, m1⟩ | ⟨⟨e, ha⟩, m1, m2⟩ | ⟨⟨e, ha⟩, m1, m2, m3⟩
    · exact absurd e (by decide)
    · exact absurd e (by decide)
    · exact absurd m1 n1
theorem lh_impulse_A (hl0 : l.stackTraces = false) (hq : h.2 = none) (hh : hOk S) (hv : sInv (S.2.2.2 0)) (c1 : (0 ≤ y.toInt ∧ y.toInt < sM (S.2.2.2 0))) (n2 : ¬ ((((S.2.2.2 0).1 1).toInt ≤ x.toInt ∧ x.toInt ≤ 9999) ∧ (-9999 ≤ z.toInt ∧ z.toInt ≤ 9999) ∧ z ≠ 0)) : ev_Ht G l mL_impulse [(0, 7, 8, 56), (0, 7, 13, 40), (0, 7, 18, 93)] 12 4 24 [.ref b, .int x, .int y, .int z] (sy G b S h) (fun v a => v = some (.int (-2000000098)) ∧ a = sy G b S h) := by
  refine (ct_L_impulse (by decide) (ct_X6_impulse hl0 hq hh hv) (fun v a p => ⟨_, p.1.1⟩) (fun E a p => p.elim (fun q => Or.inl q.1.1) (fun q => q.elim (fun r => Or.inr (Or.inl r.1.1)) (fun r => Or.inr (Or.inr r.1.1))))).mono (fun v a p => ?_)
  rcases p with p | ⟨p, hv9⟩ | ⟨p, hv9⟩ | ⟨p, hv9⟩
  · exact absurd p.2.2.1 n2
  · rcases p with ⟨⟨e, ha⟩, m1⟩ | ⟨⟨e, ha⟩, m1, m2⟩ | ⟨⟨e, ha⟩, m1, m2, m3⟩
    · exact absurd c1 m1
    · exact absurd e (by decide)
    · exact absurd e (by decide)
  · rcases p with ⟨⟨e, ha⟩, m1⟩ | ⟨⟨e, ha⟩, m1, m2⟩ | ⟨⟨e, ha⟩, m1, m2, m3⟩
    · exact absurd e (by decide)
    · exact ⟨hv9, ha⟩
    · exact absurd e (by decide)
  · rcases p with ⟨⟨e, ha⟩, m1⟩ | ⟨⟨e, ha⟩, m1, m2⟩ | ⟨⟨e, ha⟩, m1, m2, m3⟩
    · exact absurd e (by decide)
    · exact absurd e (by decide)
    · exact absurd m2 n2
theorem lh_impulse_S (hl0 : l.stackTraces = false) (hq : h.2 = none) (hh : hOk S) (hv : sInv (S.2.2.2 0)) (c1 : (0 ≤ y.toInt ∧ y.toInt < sM (S.2.2.2 0))) (c2 : ((((S.2.2.2 0).1 1).toInt ≤ x.toInt ∧ x.toInt ≤ 9999) ∧ (-9999 ≤ z.toInt ∧ z.toInt ≤ 9999) ∧ z ≠ 0)) (n3 : ¬ (sIn (S.2.2.2 0) < 16)) : ev_Ht G l mL_impulse [(0, 7, 8, 56), (0, 7, 13, 40), (0, 7, 18, 93)] 12 4 24 [.ref b, .int x, .int y, .int z] (sy G b S h) (fun v a => v = some (.int (-2000000099)) ∧ a = sy G b S h) := by
  refine (ct_L_impulse (by decide) (ct_X6_impulse hl0 hq hh hv) (fun v a p => ⟨_, p.1.1⟩) (fun E a p => p.elim (fun q => Or.inl q.1.1) (fun q => q.elim (fun r => Or.inr (Or.inl r.1.1)) (fun r => Or.inr (Or.inr r.1.1))))).mono (fun v a p => ?_)
  rcases p with p | ⟨p, hv9⟩ | ⟨p, hv9⟩ | ⟨p, hv9⟩
  · exact absurd p.2.2.2 n3
  · rcases p with ⟨⟨e, ha⟩, m1⟩ | ⟨⟨e, ha⟩, m1, m2⟩ | ⟨⟨e, ha⟩, m1, m2, m3⟩
    · exact absurd c1 m1
    · exact absurd e (by decide)
    · exact absurd e (by decide)
  · rcases p with ⟨⟨e, ha⟩, m1⟩ | ⟨⟨e, ha⟩, m1, m2⟩ | ⟨⟨e, ha⟩, m1, m2, m3⟩
    · exact absurd e (by decide)
    · exact absurd c2 m2
    · exact absurd e (by decide)
  · rcases p with ⟨⟨e, ha⟩, m1⟩ | ⟨⟨e, ha⟩, m1, m2⟩ | ⟨⟨e, ha⟩, m1, m2, m3⟩
    · exact absurd e (by decide)
    · exact absurd e (by decide)
    · exact ⟨hv9, ha⟩
theorem lh_stiffen_ok (hl0 : l.stackTraces = false) (hq : h.2 = none) (hh : hOk S) (hv : sInv (S.2.2.2 0)) (c1 : (0 ≤ x.toInt ∧ x.toInt ≤ sM (S.2.2.2 0))) (c2 : (0 ≤ y.toInt ∧ y.toInt ≤ 999)) : ev_Ht G l mL_stiffen [(0, 6, 7, 56), (0, 6, 11, 40)] 12 2 12 [.ref b, .int x, .int y] (sy G b S h) (fun v a => (v = some (.int ((S.2.2.2 0).2.2 3 x.toInt.toNat)) ∧ a = sy G b (ss_C (sKeep S) 0 (cs_A (S.2.2.2 0) 3 (ev_u ((S.2.2.2 0).2.2 3) x.toInt.toNat y))) h)) := by
  refine (ct_L_stiffen (by decide) (ct_X6_stiffen hl0 hq hh hv) (fun v a p => ⟨_, p.1.1⟩) (fun E a p => p.elim (fun q => Or.inl q.1.1) (fun q => Or.inr q.1.1))).mono (fun v a p => ?_)
  rcases p with p | ⟨p, hv9⟩ | ⟨p, hv9⟩
  · exact p.1
  · rcases p with ⟨⟨e, ha⟩, m1⟩ | ⟨⟨e, ha⟩, m1, m2⟩
    · exact absurd c1 m1
    · exact absurd e (by decide)
  · rcases p with ⟨⟨e, ha⟩, m1⟩ | ⟨⟨e, ha⟩, m1, m2⟩
    · exact absurd e (by decide)
    · exact absurd c2 m2
theorem lh_stiffen_I (hl0 : l.stackTraces = false) (hq : h.2 = none) (hh : hOk S) (hv : sInv (S.2.2.2 0))  (n1 : ¬ (0 ≤ x.toInt ∧ x.toInt ≤ sM (S.2.2.2 0))) : ev_Ht G l mL_stiffen [(0, 6, 7, 56), (0, 6, 11, 40)] 12 2 12 [.ref b, .int x, .int y] (sy G b S h) (fun v a => v = some (.int (-2000000097)) ∧ a = sy G b S h) := by
  refine (ct_L_stiffen (by decide) (ct_X6_stiffen hl0 hq hh hv) (fun v a p => ⟨_, p.1.1⟩) (fun E a p => p.elim (fun q => Or.inl q.1.1) (fun q => Or.inr q.1.1))).mono (fun v a p => ?_)
  rcases p with p | ⟨p, hv9⟩ | ⟨p, hv9⟩
  · exact absurd p.2.1 n1
  · rcases p with ⟨⟨e, ha⟩, m1⟩ | ⟨⟨e, ha⟩, m1, m2⟩
    · exact ⟨hv9, ha⟩
    · exact absurd e (by decide)
  · rcases p with ⟨⟨e, ha⟩, m1⟩ | ⟨⟨e, ha⟩, m1, m2⟩
    · exact absurd e (by decide)
    · exact absurd m1 n1
theorem lh_stiffen_A (hl0 : l.stackTraces = false) (hq : h.2 = none) (hh : hOk S) (hv : sInv (S.2.2.2 0)) (c1 : (0 ≤ x.toInt ∧ x.toInt ≤ sM (S.2.2.2 0))) (n2 : ¬ (0 ≤ y.toInt ∧ y.toInt ≤ 999)) : ev_Ht G l mL_stiffen [(0, 6, 7, 56), (0, 6, 11, 40)] 12 2 12 [.ref b, .int x, .int y] (sy G b S h) (fun v a => v = some (.int (-2000000098)) ∧ a = sy G b S h) := by
  refine (ct_L_stiffen (by decide) (ct_X6_stiffen hl0 hq hh hv) (fun v a p => ⟨_, p.1.1⟩) (fun E a p => p.elim (fun q => Or.inl q.1.1) (fun q => Or.inr q.1.1))).mono (fun v a p => ?_)
  rcases p with p | ⟨p, hv9⟩ | ⟨p, hv9⟩
  · exact absurd p.2.2 n2
  · rcases p with ⟨⟨e, ha⟩, m1⟩ | ⟨⟨e, ha⟩, m1, m2⟩
    · exact absurd c1 m1
    · exact absurd e (by decide)
  · rcases p with ⟨⟨e, ha⟩, m1⟩ | ⟨⟨e, ha⟩, m1, m2⟩
    · exact absurd e (by decide)
    · exact ⟨hv9, ha⟩
theorem lh_mend_ok (hl0 : l.stackTraces = false) (hq : h.2 = none) (hh : hOk S) (hv : sInv (S.2.2.2 0)) (c1 : (0 ≤ x.toInt ∧ x.toInt ≤ sM (S.2.2.2 0))) (c2 : ((S.2.2.2 0).2.2 5 x.toInt.toNat ≠ 0)) : ev_Ht G l mL_mend [(0, 5, 6, 56), (0, 5, 10, 93)] 12 2 12 [.ref b, .int x] (sy G b S h) (fun v a => (v = some (.int (acc32 0 (sBrk (cs_A (S.2.2.2 0) 5 (ev_u ((S.2.2.2 0).2.2 5) x.toInt.toNat 0))) (sNm (S.2.2.2 0) + 1))) ∧ a = sy G b (ss_C (sKeep S) 0 (cs_A (S.2.2.2 0) 5 (ev_u ((S.2.2.2 0).2.2 5) x.toInt.toNat 0))) h)) := by
  refine (ct_L_mend (by decide) (ct_X6_mend hl0 hq hh hv) (fun v a p => ⟨_, p.1.1⟩) (fun E a p => p.elim (fun q => Or.inl q.1.1) (fun q => Or.inr q.1.1))).mono (fun v a p => ?_)
  rcases p with p | ⟨p, hv9⟩ | ⟨p, hv9⟩
  · exact p.1
  · rcases p with ⟨⟨e, ha⟩, m1⟩ | ⟨⟨e, ha⟩, m1, m2⟩
    · exact absurd c1 m1
    · exact absurd e (by decide)
  · rcases p with ⟨⟨e, ha⟩, m1⟩ | ⟨⟨e, ha⟩, m1, m2⟩
    · exact absurd e (by decide)
    · exact absurd c2 m2
theorem lh_mend_I (hl0 : l.stackTraces = false) (hq : h.2 = none) (hh : hOk S) (hv : sInv (S.2.2.2 0))  (n1 : ¬ (0 ≤ x.toInt ∧ x.toInt ≤ sM (S.2.2.2 0))) : ev_Ht G l mL_mend [(0, 5, 6, 56), (0, 5, 10, 93)] 12 2 12 [.ref b, .int x] (sy G b S h) (fun v a => v = some (.int (-2000000097)) ∧ a = sy G b S h) := by
  refine (ct_L_mend (by decide) (ct_X6_mend hl0 hq hh hv) (fun v a p => ⟨_, p.1.1⟩) (fun E a p => p.elim (fun q => Or.inl q.1.1) (fun q => Or.inr q.1.1))).mono (fun v a p => ?_)
  rcases p with p | ⟨p, hv9⟩ | ⟨p, hv9⟩
  · exact absurd p.2.1 n1
  · rcases p with ⟨⟨e, ha⟩, m1⟩ | ⟨⟨e, ha⟩, m1, m2⟩
    · exact ⟨hv9, ha⟩
    · exact absurd e (by decide)
  · rcases p with ⟨⟨e, ha⟩, m1⟩ | ⟨⟨e, ha⟩, m1, m2⟩
    · exact absurd e (by decide)
    · exact absurd m1 n1
theorem lh_mend_S (hl0 : l.stackTraces = false) (hq : h.2 = none) (hh : hOk S) (hv : sInv (S.2.2.2 0)) (c1 : (0 ≤ x.toInt ∧ x.toInt ≤ sM (S.2.2.2 0))) (n2 : ¬ ((S.2.2.2 0).2.2 5 x.toInt.toNat ≠ 0)) : ev_Ht G l mL_mend [(0, 5, 6, 56), (0, 5, 10, 93)] 12 2 12 [.ref b, .int x] (sy G b S h) (fun v a => v = some (.int (-2000000099)) ∧ a = sy G b S h) := by
  refine (ct_L_mend (by decide) (ct_X6_mend hl0 hq hh hv) (fun v a p => ⟨_, p.1.1⟩) (fun E a p => p.elim (fun q => Or.inl q.1.1) (fun q => Or.inr q.1.1))).mono (fun v a p => ?_)
  rcases p with p | ⟨p, hv9⟩ | ⟨p, hv9⟩
  · exact absurd p.2.2 n2
  · rcases p with ⟨⟨e, ha⟩, m1⟩ | ⟨⟨e, ha⟩, m1, m2⟩
    · exact absurd c1 m1
    · exact absurd e (by decide)
  · rcases p with ⟨⟨e, ha⟩, m1⟩ | ⟨⟨e, ha⟩, m1, m2⟩
    · exact absurd e (by decide)
    · exact ⟨hv9, ha⟩
theorem lh_move_ok (hl0 : l.stackTraces = false) (hq : h.2 = none) (hh : hOk S) (hv : sInv (S.2.2.2 0)) (c1 : (-100000 ≤ y.toInt ∧ y.toInt ≤ 100000)) : ev_Ht G l mL_move [(0, 6, 7, 40)] 12 1 6 [.ref b, .int x, .int y] (sy G b S h) (fun v a => (v = some (.int (if x = 0 then (S.2.2.2 0).1 3 else (S.2.2.2 0).1 4)) ∧ a = sy G b (ss_C (sKeep S) 0 (if x = 0 then cs_I (S.2.2.2 0) 3 y else cs_I (S.2.2.2 0) 4 y)) h)) := by
  refine (ct_L_move (by decide) (ct_X6_move hl0 hq hh hv) (fun v a p => ⟨_, p.1.1⟩) (fun E a p => p.1.1)).mono (fun v a p => ?_)
  rcases p with p | ⟨p, hv9⟩
  · exact p.1
  · obtain ⟨⟨-, ha⟩, m1⟩ := p
    exact absurd c1 m1
theorem lh_move_A (hl0 : l.stackTraces = false) (hq : h.2 = none) (hh : hOk S) (hv : sInv (S.2.2.2 0))  (n1 : ¬ (-100000 ≤ y.toInt ∧ y.toInt ≤ 100000)) : ev_Ht G l mL_move [(0, 6, 7, 40)] 12 1 6 [.ref b, .int x, .int y] (sy G b S h) (fun v a => v = some (.int (-2000000098)) ∧ a = sy G b S h) := by
  refine (ct_L_move (by decide) (ct_X6_move hl0 hq hh hv) (fun v a p => ⟨_, p.1.1⟩) (fun E a p => p.1.1)).mono (fun v a p => ?_)
  rcases p with p | ⟨p, hv9⟩
  · exact absurd p.2 n1
  · obtain ⟨⟨-, ha⟩, m1⟩ := p
    exact ⟨hv9, ha⟩
theorem lh_state_ok (hl0 : l.stackTraces = false) (hq : h.2 = none) (hv : sInv (S.2.2.2 0)) (c1 : (0 ≤ x.toInt ∧ x.toInt ≤ 11)) : ev_Ht G l mL_state [(0, 5, 6, 40)] 12 1 6 [.ref b, .int x] (sy G b S h) (fun v a => (v = some (.int (sTell (S.2.2.2 0) x.toInt.toNat)) ∧ a = sy G b S h)) := by
  refine (ct_L_state (by decide) (ct_X6_state hl0 hq hv) (fun v a p => ⟨_, p.1.1⟩) (fun E a p => p.1.1)).mono (fun v a p => ?_)
  rcases p with p | ⟨p, hv9⟩
  · exact p.1
  · obtain ⟨⟨-, ha⟩, m1⟩ := p
    exact absurd c1 m1
theorem lh_state_A (hl0 : l.stackTraces = false) (hq : h.2 = none) (hv : sInv (S.2.2.2 0))  (n1 : ¬ (0 ≤ x.toInt ∧ x.toInt ≤ 11)) : ev_Ht G l mL_state [(0, 5, 6, 40)] 12 1 6 [.ref b, .int x] (sy G b S h) (fun v a => v = some (.int (-2000000098)) ∧ a = sy G b S h) := by
  refine (ct_L_state (by decide) (ct_X6_state hl0 hq hv) (fun v a p => ⟨_, p.1.1⟩) (fun E a p => p.1.1)).mono (fun v a p => ?_)
  rcases p with p | ⟨p, hv9⟩
  · exact absurd p.2 n1
  · obtain ⟨⟨-, ha⟩, m1⟩ := p
    exact ⟨hv9, ha⟩
theorem lh_mass_ok (hl0 : l.stackTraces = false) (hq : h.2 = none) (hv : sInv (S.2.2.2 0)) (c1 : (0 ≤ x.toInt ∧ x.toInt < sM (S.2.2.2 0))) (c2 : (0 ≤ y.toInt ∧ y.toInt ≤ 3)) : ev_Ht G l mL_mass [(0, 6, 7, 56), (0, 6, 11, 40)] 12 2 12 [.ref b, .int x, .int y] (sy G b S h) (fun v a => (v = some (.int (sTellM (S.2.2.2 0) x.toInt.toNat y.toInt.toNat)) ∧ a = sy G b S h)) := by
  refine (ct_L_mass (by decide) (ct_X6_mass hl0 hq hv) (fun v a p => ⟨_, p.1.1⟩) (fun E a p => p.elim (fun q => Or.inl q.1.1) (fun q => Or.inr q.1.1))).mono (fun v a p => ?_)
  rcases p with p | ⟨p, hv9⟩ | ⟨p, hv9⟩
  · exact p.1
  · rcases p with ⟨⟨e, ha⟩, m1⟩ | ⟨⟨e, ha⟩, m1, m2⟩
    · exact absurd c1 m1
    · exact absurd e (by decide)
  · rcases p with ⟨⟨e, ha⟩, m1⟩ | ⟨⟨e, ha⟩, m1, m2⟩
    · exact absurd e (by decide)
    · exact absurd c2 m2
theorem lh_mass_I (hl0 : l.stackTraces = false) (hq : h.2 = none) (hv : sInv (S.2.2.2 0))  (n1 : ¬ (0 ≤ x.toInt ∧ x.toInt < sM (S.2.2.2 0))) : ev_Ht G l mL_mass [(0, 6, 7, 56), (0, 6, 11, 40)] 12 2 12 [.ref b, .int x, .int y] (sy G b S h) (fun v a => v = some (.int (-2000000097)) ∧ a = sy G b S h) := by
  refine (ct_L_mass (by decide) (ct_X6_mass hl0 hq hv) (fun v a p => ⟨_, p.1.1⟩) (fun E a p => p.elim (fun q => Or.inl q.1.1) (fun q => Or.inr q.1.1))).mono (fun v a p => ?_)
  rcases p with p | ⟨p, hv9⟩ | ⟨p, hv9⟩
  · exact absurd p.2.1 n1
  · rcases p with ⟨⟨e, ha⟩, m1⟩ | ⟨⟨e, ha⟩, m1, m2⟩
    · exact ⟨hv9, ha⟩
    · exact absurd e (by decide)
  · rcases p with ⟨⟨e, ha⟩, m1⟩ | ⟨⟨e, ha⟩, m1, m2⟩
    · exact absurd e (by decide)
    · exact absurd m1 n1
theorem lh_mass_A (hl0 : l.stackTraces = false) (hq : h.2 = none) (hv : sInv (S.2.2.2 0)) (c1 : (0 ≤ x.toInt ∧ x.toInt < sM (S.2.2.2 0))) (n2 : ¬ (0 ≤ y.toInt ∧ y.toInt ≤ 3)) : ev_Ht G l mL_mass [(0, 6, 7, 56), (0, 6, 11, 40)] 12 2 12 [.ref b, .int x, .int y] (sy G b S h) (fun v a => v = some (.int (-2000000098)) ∧ a = sy G b S h) := by
  refine (ct_L_mass (by decide) (ct_X6_mass hl0 hq hv) (fun v a p => ⟨_, p.1.1⟩) (fun E a p => p.elim (fun q => Or.inl q.1.1) (fun q => Or.inr q.1.1))).mono (fun v a p => ?_)
  rcases p with p | ⟨p, hv9⟩ | ⟨p, hv9⟩
  · exact absurd p.2.2 n2
  · rcases p with ⟨⟨e, ha⟩, m1⟩ | ⟨⟨e, ha⟩, m1, m2⟩
    · exact absurd c1 m1
    · exact absurd e (by decide)
  · rcases p with ⟨⟨e, ha⟩, m1⟩ | ⟨⟨e, ha⟩, m1, m2⟩
    · exact absurd e (by decide)
    · exact ⟨hv9, ha⟩
theorem lh_spring_ok (hl0 : l.stackTraces = false) (hq : h.2 = none) (hv : sInv (S.2.2.2 0)) (c1 : (0 ≤ x.toInt ∧ x.toInt ≤ sM (S.2.2.2 0))) (c2 : (0 ≤ y.toInt ∧ y.toInt ≤ 4)) : ev_Ht G l mL_spring [(0, 6, 7, 56), (0, 6, 11, 40)] 12 2 12 [.ref b, .int x, .int y] (sy G b S h) (fun v a => (v = some (.int (sTellS (S.2.2.2 0) x.toInt.toNat y.toInt.toNat)) ∧ a = sy G b S h)) := by
  refine (ct_L_spring (by decide) (ct_X6_spring hl0 hq hv) (fun v a p => ⟨_, p.1.1⟩) (fun E a p => p.elim (fun q => Or.inl q.1.1) (fun q => Or.inr q.1.1))).mono (fun v a p => ?_)
  rcases p with p | ⟨p, hv9⟩ | ⟨p, hv9⟩
  · exact p.1
  · rcases p with ⟨⟨e, ha⟩, m1⟩ | ⟨⟨e, ha⟩, m1, m2⟩
    · exact absurd c1 m1
    · exact absurd e (by decide)
  · rcases p with ⟨⟨e, ha⟩, m1⟩ | ⟨⟨e, ha⟩, m1, m2⟩
    · exact absurd e (by decide)
    · exact absurd c2 m2
theorem lh_spring_I (hl0 : l.stackTraces = false) (hq : h.2 = none) (hv : sInv (S.2.2.2 0))  (n1 : ¬ (0 ≤ x.toInt ∧ x.toInt ≤ sM (S.2.2.2 0))) : ev_Ht G l mL_spring [(0, 6, 7, 56), (0, 6, 11, 40)] 12 2 12 [.ref b, .int x, .int y] (sy G b S h) (fun v a => v = some (.int (-2000000097)) ∧ a = sy G b S h) := by
  refine (ct_L_spring (by decide) (ct_X6_spring hl0 hq hv) (fun v a p => ⟨_, p.1.1⟩) (fun E a p => p.elim (fun q => Or.inl q.1.1) (fun q => Or.inr q.1.1))).mono (fun v a p => ?_)
  rcases p with p | ⟨p, hv9⟩ | ⟨p, hv9⟩
  · exact absurd p.2.1 n1
  · rcases p with ⟨⟨e, ha⟩, m1⟩ | ⟨⟨e, ha⟩, m1, m2⟩
    · exact ⟨hv9, ha⟩
    · exact absurd e (by decide)
  · rcases p with ⟨⟨e, ha⟩, m1⟩ | ⟨⟨e, ha⟩, m1, m2⟩
    · exact absurd e (by decide)
    · exact absurd m1 n1
theorem lh_spring_A (hl0 : l.stackTraces = false) (hq : h.2 = none) (hv : sInv (S.2.2.2 0)) (c1 : (0 ≤ x.toInt ∧ x.toInt ≤ sM (S.2.2.2 0))) (n2 : ¬ (0 ≤ y.toInt ∧ y.toInt ≤ 4)) : ev_Ht G l mL_spring [(0, 6, 7, 56), (0, 6, 11, 40)] 12 2 12 [.ref b, .int x, .int y] (sy G b S h) (fun v a => v = some (.int (-2000000098)) ∧ a = sy G b S h) := by
  refine (ct_L_spring (by decide) (ct_X6_spring hl0 hq hv) (fun v a p => ⟨_, p.1.1⟩) (fun E a p => p.elim (fun q => Or.inl q.1.1) (fun q => Or.inr q.1.1))).mono (fun v a p => ?_)
  rcases p with p | ⟨p, hv9⟩ | ⟨p, hv9⟩
  · exact absurd p.2.2 n2
  · rcases p with ⟨⟨e, ha⟩, m1⟩ | ⟨⟨e, ha⟩, m1, m2⟩
    · exact absurd c1 m1
    · exact absurd e (by decide)
  · rcases p with ⟨⟨e, ha⟩, m1⟩ | ⟨⟨e, ha⟩, m1, m2⟩
    · exact absurd e (by decide)
    · exact ⟨hv9, ha⟩
theorem lh_load_A (hl0 : l.stackTraces = false) (hq : h.2 = none) (hh : hOk S) (s0 : 0 ≤ (S.1 0).toInt) (s1 : (S.1 0).toInt ≤ 500) (n1 : ¬ (0 ≤ x.toInt ∧ x.toInt ≤ (S.1 0).toInt)) : ev_Ht G l mL_load [(0, 5, 6, 40)] 12 1 6 [.ref b, .int x] (sy G b S h) (fun v a => v = some (.int (-2000000098)) ∧ a = sy G b S h) := by
  refine (ct_L_load (by decide) (ct_X6_load hl0 hq hh s0 s1) (fun v a p => ?_) (fun E a p => p.1.1)).mono (fun v a p => ?_)
  · rcases p.2 with ⟨-, q, -⟩ | ⟨-, V, -, -, -, q, -⟩ <;> exact ⟨_, q⟩
  · rcases p with p | ⟨p, hv9⟩
    · exact absurd p.1 n1
    · exact ⟨hv9, p.1.2⟩
theorem lh_load_ok (hl0 : l.stackTraces = false) (hq : h.2 = none) (hh : hOk S) (s0 : 0 ≤ (S.1 0).toInt) (s1 : (S.1 0).toInt ≤ 500) (c1 : 0 ≤ x.toInt ∧ x.toInt ≤ (S.1 0).toInt) (c2 : (pAll b S x.toInt.toNat).1 = 0) : ev_Ht G l mL_load [(0, 5, 6, 40)] 12 1 6 [.ref b, .int x] (sy G b S h) (fun v a => ∃ V, lf S V (-1) ∧ V.2.2.2 1 = (pAll b S x.toInt.toNat).2.2.2.2.2 1 ∧ sInv (V.2.2.2 1) ∧ v = some (.int (((sKeep V).2.2.2 1).1 0)) ∧ a = sy G b (ss_C (sKeep V) 0 (sBec ((sKeep V).2.2.2 0) ((sKeep V).2.2.2 1))) h) := by
  refine (ct_L_load (by decide) (ct_X6_load hl0 hq hh s0 s1) (fun v a p => ?_) (fun E a p => p.1.1)).mono (fun v a p => ?_)
  · rcases p.2 with ⟨-, q, -⟩ | ⟨-, V, -, -, -, q, -⟩ <;> exact ⟨_, q⟩
  · rcases p with p | ⟨p, hv9⟩
    · rcases p.2 with ⟨q, -⟩ | ⟨-, q⟩
      · exact absurd c2 q
      · exact q
    · exact absurd c1 p.2
end LHE
