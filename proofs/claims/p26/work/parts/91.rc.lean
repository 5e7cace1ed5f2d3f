/-! a random chain while it is made: text, picture, generator -/
def RC (G : ev_G) (a0 : ev_H) (b u r z0 : Nat) (S0 : SS) (T : List Nat) (A : Nat → Nat) (D : CS) (nI : Nat) (mI : Nat → TI) (a : ev_H) : Prop :=
  TX G b u S0 T a ∧ LC G a A D nI mI ∧ (∃ s : Int32, a.1 r = some (.inr (9, [.int s]))) ∧ (∃ z, a.2 = some z) ∧ (∀ q, mtA A (sNm D) (sPn D) q → z0 ≤ q) ∧ ∀ (q : Nat) (e : va_E), a0.1 q = some e → ¬ (b ≤ q ∧ q < b + 157) → q ≠ u → q ≠ r → a.1 q = some e
section RCS
variable {G : ev_G} {l : Launch} {M : ev_M} {J : ev_K} {pc k n idx : Nat} {L : List (Option Value)} {st : List Value} {a a0 a' : ev_H} {b u r z0 z j N : Nat} {S0 : SS} {T T' : List Nat} {A A' : Nat → Nat} {D D' : CS} {nI n' : Nat} {mI m' : Nat → TI} {x y : Int32} {f : Nat → Int32}
theorem kok_9 : ¬ kok 9 ∧ (9 : Nat) ≠ 101 ∧ (9 : Nat) ≠ 208 := by unfold kok; omega
theorem RC.rnd (h : RC G a0 b u r z0 S0 T A D nI mI a) (t : Int32) : RC G a0 b u r z0 S0 T A D nI mI (ev_put a r (.inr (9, [.int t]))) := by
  obtain ⟨h1, h2, ⟨s, h3⟩, h4, h5, h6⟩ := h
  exact ⟨h1.rnd h3, h2.but h3 (by show ¬ mutE 9; unfold mutE; omega) (by show (9 : Nat) ≠ 101; omega) (by show (9 : Nat) ≠ 203; omega), ⟨t, put_eq _ _ _⟩, h4, h5, fun q e he q1 q2 q3 => (put_ne _ _ q3).trans (h6 q e he q1 q2 q3)⟩
theorem RC.wr (ht0 : ∀ (q : Nat) (e : va_E), a0.1 q = some e → q < z0) (h : RC G a0 b u r z0 S0 T A D nI mI a) (hC : LC G a' A' D' n' m') (hf : Jvm.Pilot.CSpringChainLaw_law_r6692_339830.fr a a' A (sNm D) (sPn D)) (hz : a'.2 = a.2) (hm : ∀ q, mtA A' (sNm D') (sPn D') q → mtA A (sNm D) (sPn D) q) : RC G a0 b u r z0 S0 T A' D' n' m' a' := by
  obtain ⟨h1, h2, ⟨s, h3⟩, ⟨z, h4⟩, h5, h6⟩ := h
  exact ⟨h1.fr h2 hf, hC, ⟨s, h2.keep hf h3 (by show ¬ mutE 9; unfold mutE; omega)⟩, ⟨z, hz.trans h4⟩, fun q hq => h5 q (hm q hq), fun q e he q1 q2 q3 => hf q e (h6 q e he q1 q2 q3) (fun c => by have := h5 q c; have := ht0 q e he; omega)⟩
theorem RC.sub (h : RC G a0 b u r z0 S0 T A D nI mI a) (s : Jvm.Pilot.CSpringChainLaw_law_r6692_339830.sub a a') (hz : ∃ z, a'.2 = some z) : RC G a0 b u r z0 S0 T A D nI mI a' := by
  obtain ⟨h1, h2, ⟨s1, h3⟩, -, h5, h6⟩ := h
  exact ⟨h1.sub s, h2.mono s, ⟨s1, s _ _ h3⟩, hz, h5, fun q e he q1 q2 q3 => s _ _ (h6 q e he q1 q2 q3)⟩
theorem RC.txt (hub : ¬ (b ≤ u ∧ u < b + 157)) (h : RC G a0 b u r z0 S0 T A D nI mI a) (t : TX G b u S0 T' a') (hf : Jvm.Pilot.CSpringChainLaw_law_r6692_339830.fw a a' b u) (hz : a'.2 = a.2) : RC G a0 b u r z0 S0 T' A D nI mI a' := by
  obtain ⟨h1, h2, ⟨s1, h3⟩, ⟨z, h4⟩, h5, h6⟩ := h
  exact ⟨t, h1.lc h2 hf, ⟨s1, h1.ob h3 kok_9.1 kok_9.2.1 kok_9.2.2 hf⟩, ⟨z, hz.trans h4⟩, h5, fun q e he q1 q2 q3 => hf q e (h6 q e he q1 q2 q3) q1 q2⟩
theorem RC.see (h : RC G a0 b u r z0 S0 T A D nI mI a) (v : vis D D') : RC G a0 b u r z0 S0 T A D' nI mI a := by
  obtain ⟨h1, h2, h3, h4, h5, h6⟩ := h
  have eN : sNm D' = sNm D := by unfold sNm; rw [v.1 0 (by decide) (by decide)]
  have eP : sPn D' = sPn D := by unfold sPn; rw [v.1 6 (by decide) (by decide)]
  exact ⟨h1, h2.see v, h3, h4, by rw [eN, eP]; exact h5, h6⟩
theorem RC.nw (h : RC G a0 b u r z0 S0 T A D nI mI a) (hz : a.2 = some z) (ht : ∀ (q : Nat) (e : va_E), a.1 q = some e → q < z) (e : va_E) : RC G a0 b u r z0 S0 T A D nI mI (ev_new a z e) := h.sub (sub.new e ht) ⟨z + 1, new_2 _ _ hz⟩
/-- the generator's next number -/
theorem rc_bel (h : RC G a0 b u r z0 S0 T A D nI mI a) (hx : 0 < x.toInt) (hw : Cond.methodLink M.1.cls idx mX9_below.1 ∈ ev_ws) (hd : decode M.2.1 pc = .ok (.invokevirtual idx, 3)) (hcat : (st.map fun v => v.category).sum ≤ 8) (hJ : 1 ≤ J.2.2.1) (kk : ∀ (y : Int32) (a2 : ev_H), 0 ≤ y.toInt → y.toInt < x.toInt → RC G a0 b u r z0 S0 T A D nI mI a2 → ev_V G l M J (pc + 3) L (.int y :: st) a2 k n) : ev_V G l M J pc L (.int x :: .ref r :: st) a k n := by
  obtain ⟨s, h3⟩ := h.2.2.1
  refine e_invV (mcY := 0) (msY := 0) (ct_X9_below h3 hx) vX9_below hw h3 rfl hd (as := [.int x]) rfl rfl hcat hJ ?_
  rintro v c ⟨y, t, rfl, ⟨y1, y2⟩, e⟩
  rw [e]
  exact kk y _ y1 y2 (h.rnd t)
/-- a row for numbers -/
theorem rc_arr (h : RC G a0 b u r z0 S0 T A D nI mI a) (hi : x.toInt = (N : Int)) (hN : N ≤ 3) (hd : decode M.2.1 pc = .ok (.newarray .int, 2)) (kk : ∀ z, a.2 = some z → (∀ (q : Nat) (e : va_E), a.1 q = some e → q < z) → ev_V G l M J (pc + 2) L (.ref z :: st) (ev_new a z (.inl (G.2.1 0, N, .inl (fun _ => 0)))) k n) : ev_V G l M J pc L (.int x :: st) a (k + 1) (n + N) := by
  obtain ⟨z, hz⟩ := h.2.2.2.1
  refine e_top hz fun ht => ?_
  refine e_newa (atype := .int) (ty := .int) (t0 := 0) (N := N) (a0 := (N, .inl (fun _ => 0))) rfl rfl (fun C q => by cases q) wA_int (fun _ => rfl) hi ?_ hz hd (kk z hz ht)
  exact Nat.le_trans (Nat.mul_le_mul hN (show componentBytes .int ≤ 8 by decide)) (by decide)
theorem rc_iast {i : Int32} {v : Int32} (hi : i.toInt = (j : Int)) (hj : j < N) (hd : decode M.2.1 pc = .ok (.iastore, 1)) (kk : ev_V G l M J (pc + 1) L st (ev_new a z (.inl (G.2.1 0, N, .inl (ev_u f j v)))) k n) : ev_V G l M J pc L (.int v :: .int i :: .ref z :: st) (ev_new a z (.inl (G.2.1 0, N, .inl f))) k n := by
  refine e_iast (new_eq _ _ _) (by omega) (by omega) hd ?_
  rw [ar_nat hi, new_put]
  exact kk
/-- a word and numbers written -/
theorem rc_all (hub : ¬ (b ≤ u ∧ u < b + 157)) (h : RC G a0 b u r z0 S0 T A D nI mI a) (hz : a.2 = some z) (ht : ∀ (q : Nat) (e : va_E), a.1 q = some e → q < z) (hj : j < 26) (hN : N ≤ 3) (hf : ∀ i, i < N → -100000 < (f i).toInt ∧ (f i).toInt < 100000) (hL : (T ++ txtN j ++ nmsW f N).length ≤ 480) (hw : Cond.methodLink M.1.cls idx mL_writeAll.1 ∈ ev_ws) (hd : decode M.2.1 pc = .ok (.invokestatic idx, 3)) (hcat : (st.map fun v => v.category).sum ≤ 8) (hJ : 10 ≤ J.2.2.1) (kk : ∀ a2 : ev_H, RC G a0 b u r z0 S0 (T ++ txtN j ++ nmsW f N) A D nI mI a2 → ev_V G l M J (pc + 3) L st a2 k n) : ev_V G l M J pc L (.ref z :: .ref (ev_Ks G j) :: .ref u :: .ref b :: st) (ev_new a z (.inl (G.2.1 0, N, .inl f))) k n := by
  have h' := h.nw hz ht (.inl (G.2.1 0, N, .inl f))
  obtain ⟨S2, g1, ⟨⟨fb, g2, -⟩, -⟩, -⟩ := h.1
  have hb9 := ht _ _ (g1 156 (by decide))
  have hu9 := ht _ _ g2
  refine e_invS (mcY := 0) (msY := 0) (ct_L_writeAll h'.1 hj (new_eq _ _ _) (by omega) (by omega) hN hf hub hL) vL_writeAll hw hd (as := [.ref b, .ref u, .ref (ev_Ks G j), .ref z]) rfl rfl hcat hJ ?_
  rintro v c ⟨rfl, q1, q2, q3⟩
  exact kk c (h'.txt hub q1 q2 q3)
theorem rc_word (hub : ¬ (b ≤ u ∧ u < b + 157)) (h : RC G a0 b u r z0 S0 T A D nI mI a) (hj : j < 26) (hL : T.length + ev_len.getD j 0 ≤ 480) (hw : Cond.methodLink M.1.cls idx mL_write.1 ∈ ev_ws) (hd : decode M.2.1 pc = .ok (.invokestatic idx, 3)) (hcat : (st.map fun v => v.category).sum ≤ 8) (hJ : 9 ≤ J.2.2.1) (kk : ∀ a2 : ev_H, RC G a0 b u r z0 S0 (T ++ txtN j) A D nI mI a2 → ev_V G l M J (pc + 3) L st a2 k n) : ev_V G l M J pc L (.ref (ev_Ks G j) :: .ref u :: .ref b :: st) a k n := by
  refine e_invS (mcY := 0) (msY := 0) (ct_L_write h.1 hj hub hL) vL_write hw hd (as := [.ref b, .ref u, .ref (ev_Ks G j)]) rfl rfl hcat hJ ?_
  rintro v c ⟨rfl, q1, q2, q3⟩
  exact kk c (h.txt hub q1 q2 q3)
theorem nms1 (h0 : f 0 = x) : nmsW f 1 = nmW x := by show [] ++ nmW (f 0) = _; rw [h0, List.nil_append]
theorem nms2 (h0 : f 0 = x) (h1 : f 1 = y) : nmsW f 2 = nmW x ++ nmW y := by show nmsW f 1 ++ nmW (f 1) = _; rw [nms1 h0, h1]
theorem nms3 {w : Int32} (h0 : f 0 = x) (h1 : f 1 = y) (h2 : f 2 = w) : nmsW f 3 = nmW x ++ nmW y ++ nmW w := by show nmsW f 2 ++ nmW (f 2) = _; rw [nms2 h0 h1, h2]
theorem txt22 : txtN 22 = [59] := by decide +kernel
theorem dgs_le {N k : Nat} (h : N < 10 ^ k) (h1 : 1 ≤ k) (h5 : k ≤ 5) : (dgN N).length ≤ k := by
  unfold dgN
  rw [dgs_len]
  have e5 : k = 1 ∨ k = 2 ∨ k = 3 ∨ k = 4 ∨ k = 5 := by omega
  have h6 : N < 100000 := Nat.lt_of_lt_of_le h (by rcases e5 with rfl | rfl | rfl | rfl | rfl <;> decide)
  rcases e5 with rfl | rfl | rfl | rfl | rfl <;> rcases kdg_c h6 with c | c | c | c | c <;> omega
theorem nmW_le {m : Nat} (h0 : 0 ≤ x.toInt) (h : x.toInt < 10 ^ m) (h1 : 1 ≤ m) (h5 : m ≤ 5) : (nmW x).length ≤ m + 1 := by
  rw [nmW_n h0, List.length_cons]
  have := dgs_le (N := x.toInt.natAbs) (k := m) (by
    have e : ((10 ^ m : Nat) : Int) = (10 : Int) ^ m := by norm_cast
    omega) h1 h5
  omega
theorem nmW_sg {m : Nat} (h0 : -(10 ^ m) < x.toInt) (h : x.toInt < 10 ^ m) (h1 : 1 ≤ m) (h5 : m ≤ 5) : (nmW x).length ≤ m + 2 := by
  have e : ((10 ^ m : Nat) : Int) = (10 : Int) ^ m := by norm_cast
  have := dgs_le (N := x.toInt.natAbs) (k := m) (by omega) h1 h5
  unfold nmW
  rw [List.length_append]
  by_cases c : x.toInt < 0
  · rw [if_pos c]; show 2 + _ ≤ _; omega
  · rw [if_neg c]; show 1 + _ ≤ _; omega
end RCS
