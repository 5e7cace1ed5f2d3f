/-! calls caught here -/
section LW0
variable {G : ev_G} {l : Launch} {M : ev_M} {J : ev_K} {pc k n : Nat} {L : List (Option Value)} {st rest : List Value} {a : ev_H} {Y : ev_M} {dY mcY msY idx np q ci N : Nat} {T : u_T} {as fs : List Value} {PY : Option Value → ev_H → Prop} {XY : String → ev_H → Prop}
/-- what is thrown is caught by the entry x, past the entries before it -/
def ev_Hd (G : ev_G) (l : Launch) (M : ev_M) (J : ev_K) (pc : Nat) (L : List (Option Value)) (k n : Nat) (E : String) (b : ev_H) : Prop :=
  ∃ (pre suf : List ExceptionTableEntry) (x : ExceptionTableEntry) (nm : String), J.2.1 = pre ++ x :: suf ∧ covers x pc = true ∧ x.catchType ≠ 0 ∧ Cond.classLink M.1.cls x.catchType nm ∈ ev_ws ∧ Cond.castable E nm ∈ ev_nw ∧
    (∀ z ∈ pre, z.catchType ≠ 0 ∧ ∃ nm9 : String, Cond.classLink M.1.cls z.catchType nm9 ∈ ev_ws ∧ (E, nm9) ∈ ev_nc) ∧ ∀ t : Nat, ev_V G l M J x.handlerPc L [.ref t] b k n
theorem e_invVC (hM : ev_Ct G l Y dY mcY msY (.ref q :: as) a PY XY) (hy : ev_wV Y np) (hw : Cond.methodLink M.1.cls idx Y.1 ∈ ev_ws) (ha : a.1 q = some (.inr (ci, fs))) (hcl : vwCl[ci]? = some (Y.1.cls, T, N)) (hd : decode M.2.1 pc = .ok (.invokevirtual idx, 3)) (hst : st = as.reverse ++ .ref q :: rest) (hn : as.length = np) (hcat : (rest.map fun v => v.category).sum ≤ 8) (hdp : dY + 1 ≤ J.2.2.1) (hX : ∀ E b, XY E b → ev_Hd G l M J pc L k n E b) (kk : ∀ v b, PY v b → ev_V G l M J (pc + 3) L (v.toList ++ rest) b k n) : ev_V G l M J pc L st a (k + mcY) (n + msY) := by
  intro p e R s d0 m args below meth c C hD H locs cells slots ls hR hS hc hs hl
  subst hst
  obtain ⟨hx, hb, hml, hown, hts, hret, hlk, hK, hE, hini, hhh, ⟨hr1, hr2, hr3, hr4⟩, hfl⟩ := id C
  have hmL := hy.2.2
  have hRm : (ev_rm dY mcY msY).frames + 1 ≤ R.frames ∧ 8 + (Y.2.2.1 + 11) + (ev_rm dY mcY msY).locals ≤ R.locals := ⟨by show dY + 1 ≤ _; omega, by show 8 + (Y.2.2.1 + 11) + 36 * dY ≤ _; omega⟩
  refine ev_backX (s := s.setDrawn d0) (vx_runV ⟨hx, hb, hml, hown, hts⟩ hM (cwV np hts (ev_gV hy hw) rfl rfl rfl ⟨rfl, hy.2.1⟩ hRm) ⟨ev_pre_blind, ev_recv hK hR ha hcl, ev_pre hK hE hR hS⟩ rfl hn hl.1 rfl (lv_room hcat) hd ⟨by omega, by omega⟩) hS (fun E ce q9 b H1 locs1 hp hR1 hS1 hce hcv hcf => ?_) (fun v b H1 locs1 hp hR1 hS1 => kk v b hp p e R s d0 m args below meth c C hD H1 locs1 _ _ ls hR1 hS1 (by omega) (by omega) hl)
  obtain ⟨pre, suf, x, nm, hJ, hcov, h0, hlk9, hca, hpre, hk⟩ := hX E b hp
  refine vx_catch hown pre x suf (hhh.trans hJ) (fun z hz => ?_) hcov h0 (hts _ hlk9) (ev_nw_use hca (hE.2.1.1 _ hca)) hce hcv hcf (hk q9 p e R s d0 m args below meth c C hD H1 locs1 _ _ ls hR1 hS1 (by omega) (by omega) hl)
  obtain ⟨z0, nm9, z1, z2⟩ := hpre z hz
  exact Or.inr ⟨z0, nm9, hts _ z1, hE.2.1.2.2.2 _ z2⟩
/-- a method with handlers that throws nothing -/
def ev_Ht (G : ev_G) (l : Launch) (M : ev_M) (hh : List (Nat × Nat × Nat × Nat)) (d mc ms : Nat) (as : List Value) (a : ev_H) (P : Option Value → ev_H → Prop) : Prop :=
  Met l M.1 (Cond.codeWith M.1 M.2.1 M.2.2.1 M.2.2.2 hh :: ev_ws) (ev_rm d mc ms) (ev_Pre G as a) (ev_Qc G P) mc ms (ev_A G)
theorem ev_Ht.of {hh : List (Nat × Nat × Nat × Nat)} {d mc ms : Nat} {P : Option Value → ev_H → Prop} (hy : plainName M.1.cls = true) (hni : M.1.name ≠ "<init>") (hn : (lg_sl as).length ≤ M.2.2.1) (h : ev_V G l M (false, tableOf hh, d, mc, ms, P, fun _ _ => False) 0 (ev_ar as) [] a mc ms) : ev_Ht G l M hh d mc ms as a P := by
  have h1 : vx_Met l M.1 (Cond.codeWith M.1 M.2.1 M.2.2.1 M.2.2.2 hh :: ev_ws) (ev_rm d mc ms) (ev_Pre G as a) (ev_Qc G P) (ev_XC G (fun _ _ => False)) mc ms (ev_A G) := by
    refine vx_ofWH (cc := M.2.1) (maxL := M.2.2.1) (ret := M.2.2.2) (hh := hh) hy rfl ?_
    intro p e s m args below meth c s₁ B hml hv
    obtain ⟨rfl, h1, h2, h3⟩ := hv
    have hts := atoms_spec (ws := Cond.codeWith M.1 M.2.1 M.2.2.1 M.2.2.2 hh :: ev_ws) B.pre
    have C : ev_C G M (tableOf hh) d mc ms p (headSpec (Cond.codeWith M.1 M.2.1 M.2.2.1 M.2.2.2 hh :: ev_ws) (ev_rm d mc ms)).room (s.setDrawn s.drawn) m as.toArray meth c := ⟨B.exec, B.bytes, hml, findClass_of_methodNamed B.named, fun w hw => hts w (List.mem_cons_of_mem _ hw), B.returns, B.notSynchronized, h2, h3, fun hi => absurd hi hni, vx_table (x := M.1) B (hts _ List.mem_cons_self), ⟨Nat.le_refl _, Nat.le_refl _, Nat.le_refl _, Nat.le_refl _⟩, h1.2.2⟩
    rw [lg_entry_eq]
    exact h p e _ s s.drawn m as.toArray below meth c C ⟨(fun h => nomatch h), fun _ => rfl⟩ s.heap [] 0 0 _ h1 va_S.rf (by show 0 + mc ≤ mc; omega) (by show 0 + ms ≤ ms; omega) (ev_has.entry as hn)
  intro p e ha hc hk s m args below hf happ hP hK
  obtain ⟨n, o, h3, h4, h5, h6⟩ := h1 p e ha hc hk s m args below hf happ hP hK
  refine ⟨n, o, h3, h4, h5, ?_⟩
  rcases h6 with h6 | ⟨q, -, E, ce, L, ⟨⟨a', hx, -⟩, -⟩, -⟩
  · exact h6
  · exact hx.elim
def ev_wSH (Y : ev_M) (hh : List (Nat × Nat × Nat × Nat)) (np : Nat) : Prop := (Cond.static Y.1 ∈ ev_ws ∧ Cond.initialized Y.1.cls ∈ ev_ws ∧ Cond.codeWith Y.1 Y.2.1 Y.2.2.1 Y.2.2.2 hh ∈ ev_ws) ∧ (Y.1.cls ≠ "java/lang/invoke/MethodHandle" ∧ Y.1.cls ≠ "java/lang/invoke/VarHandle" ∧ (parseMethodDescriptor Y.1.desc).map (fun d => d.parameters.length) = some np) ∧ Y.2.2.1 ≤ 17
theorem e_invSH {hh : List (Nat × Nat × Nat × Nat)} (hM : ev_Ht G l Y hh dY mcY msY as a PY) (hy : ev_wSH Y hh np) (hw : Cond.methodLink M.1.cls idx Y.1 ∈ ev_ws) (hd : decode M.2.1 pc = .ok (.invokestatic idx, 3)) (hst : st = as.reverse ++ rest) (hn : as.length = np) (hcat : (rest.map fun v => v.category).sum ≤ 8) (hdp : dY + 1 ≤ J.2.2.1) (kk : ∀ v b, PY v b → ev_V G l M J (pc + 3) L (v.toList ++ rest) b k n) : ev_V G l M J pc L st a (k + mcY) (n + msY) := by
  intro p e R s d0 m args below meth c C hD H locs cells slots ls hR hS hc hs hl
  subst hst
  obtain ⟨hx, hb, hml, hown, hts, hret, hlk, hK, hE, hini, hhh, ⟨hr1, hr2, hr3, hr4⟩, hfl⟩ := id C
  have hmL := hy.2.2
  have hRm : (ev_rm dY mcY msY).frames + 1 ≤ R.frames ∧ 8 + (Y.2.2.1 + 11) + (ev_rm dY mcY msY).locals ≤ R.locals := ⟨by show dY + 1 ≤ _; omega, by show 8 + (Y.2.2.1 + 11) + 36 * dY ≤ _; omega⟩
  have hg : GoodIn ev_ws (va_wsS M.1.cls idx Y.1 (Cond.codeWith Y.1 Y.2.1 Y.2.2.1 Y.2.2.2 hh :: ev_ws)) := by
    intro w hm
    rcases List.mem_append.mp hm with hm | hm
    · simp only [List.mem_cons, List.not_mem_nil, or_false] at hm
      rcases hm with rfl | rfl | rfl
      · exact ⟨hw, ev_gw hw⟩
      · exact ⟨hy.1.1, ev_gw hy.1.1⟩
      · exact ⟨hy.1.2.1, ev_gw hy.1.2.1⟩
    · rcases List.mem_cons.mp hm with rfl | hm
      · exact ⟨hy.1.2.2, ev_gw hy.1.2.2⟩
      · exact ⟨hm, ev_gw hm⟩
  exact ev_back (s := s.setDrawn d0) (vx_runSW ⟨hx, hb, hml, hown, hts⟩ hM (vx_cwSW np hts hg rfl rfl rfl hy.2.1 hRm) ⟨ev_pre_blind, ev_pre hK hE hR hS⟩ rfl hn hl.1 rfl (lv_room hcat) hd ⟨by omega, by omega⟩) hS (fun v b H1 locs1 hp hR1 hS1 => kk v b hp p e R s d0 m args below meth c C hD H1 locs1 _ _ ls hR1 hS1 (by omega) (by omega) hl)
end LW0
/-! the law's helpers: each calls one method of the class, and tells by a number what was thrown -/
section LHC
variable {G : ev_G} {l : Launch} {b : Nat} {S : SS} {h : ev_H} {x y z : Int32}
theorem vL_load : ev_wSH mL_load [(0, 5, 6, 40)] 2 := ⟨⟨wT_L_load, wN_L, wC_L_load⟩, ⟨by decide +kernel, by decide +kernel, by decide +kernel⟩, by decide⟩
theorem vL_noted : ev_wSH mL_noted [(0, 6, 7, 65), (0, 6, 11, 40)] 3 := ⟨⟨wT_L_noted, wN_L, wC_L_noted⟩, ⟨by decide +kernel, by decide +kernel, by decide +kernel⟩, by decide⟩
theorem vL_waiting : ev_wSH mL_waiting [(0, 6, 7, 65), (0, 6, 11, 40)] 3 := ⟨⟨wT_L_waiting, wN_L, wC_L_waiting⟩, ⟨by decide +kernel, by decide +kernel, by decide +kernel⟩, by decide⟩
theorem vL_foretold : ev_wSH mL_foretold [(0, 7, 8, 56), (0, 7, 13, 40)] 4 := ⟨⟨wT_L_foretold, wN_L, wC_L_foretold⟩, ⟨by decide +kernel, by decide +kernel, by decide +kernel⟩, by decide⟩
theorem vL_period : ev_wSH mL_period [(0, 6, 7, 56), (0, 6, 11, 40)] 3 := ⟨⟨wT_L_period, wN_L, wC_L_period⟩, ⟨by decide +kernel, by decide +kernel, by decide +kernel⟩, by decide⟩
theorem vL_breaksIn : ev_wSH mL_breaksIn [(0, 5, 6, 40)] 2 := ⟨⟨wT_L_breaksIn, wN_L, wC_L_breaksIn⟩, ⟨by decide +kernel, by decide +kernel, by decide +kernel⟩, by decide⟩
theorem vL_pass : ev_wSH mL_pass [(0, 5, 6, 40)] 2 := ⟨⟨wT_L_pass, wN_L, wC_L_pass⟩, ⟨by decide +kernel, by decide +kernel, by decide +kernel⟩, by decide⟩
theorem vL_pluck : ev_wSH mL_pluck [(0, 6, 7, 56), (0, 6, 11, 40)] 3 := ⟨⟨wT_L_pluck, wN_L, wC_L_pluck⟩, ⟨by decide +kernel, by decide +kernel, by decide +kernel⟩, by decide⟩
theorem vL_strike : ev_wSH mL_strike [(0, 6, 7, 56), (0, 6, 11, 40)] 3 := ⟨⟨wT_L_strike, wN_L, wC_L_strike⟩, ⟨by decide +kernel, by decide +kernel, by decide +kernel⟩, by decide⟩
theorem vL_impulse : ev_wSH mL_impulse [(0, 7, 8, 56), (0, 7, 13, 40), (0, 7, 18, 93)] 4 := ⟨⟨wT_L_impulse, wN_L, wC_L_impulse⟩, ⟨by decide +kernel, by decide +kernel, by decide +kernel⟩, by decide⟩
theorem vL_stiffen : ev_wSH mL_stiffen [(0, 6, 7, 56), (0, 6, 11, 40)] 3 := ⟨⟨wT_L_stiffen, wN_L, wC_L_stiffen⟩, ⟨by decide +kernel, by decide +kernel, by decide +kernel⟩, by decide⟩
theorem vL_mend : ev_wSH mL_mend [(0, 5, 6, 56), (0, 5, 10, 93)] 2 := ⟨⟨wT_L_mend, wN_L, wC_L_mend⟩, ⟨by decide +kernel, by decide +kernel, by decide +kernel⟩, by decide⟩
theorem vL_move : ev_wSH mL_move [(0, 6, 7, 40)] 3 := ⟨⟨wT_L_move, wN_L, wC_L_move⟩, ⟨by decide +kernel, by decide +kernel, by decide +kernel⟩, by decide⟩
theorem vL_state : ev_wSH mL_state [(0, 5, 6, 40)] 2 := ⟨⟨wT_L_state, wN_L, wC_L_state⟩, ⟨by decide +kernel, by decide +kernel, by decide +kernel⟩, by decide⟩
theorem vL_mass : ev_wSH mL_mass [(0, 6, 7, 56), (0, 6, 11, 40)] 3 := ⟨⟨wT_L_mass, wN_L, wC_L_mass⟩, ⟨by decide +kernel, by decide +kernel, by decide +kernel⟩, by decide⟩
theorem vL_spring : ev_wSH mL_spring [(0, 6, 7, 56), (0, 6, 11, 40)] 3 := ⟨⟨wT_L_spring, wN_L, wC_L_spring⟩, ⟨by decide +kernel, by decide +kernel, by decide +kernel⟩, by decide⟩
set_option maxRecDepth 20000 in
theorem ct_L_load {PY : Option Value → ev_H → Prop} {XY : String → ev_H → Prop} {dY mcY msY : Nat} (hd : dY ≤ 11) (hM : ev_Ct G l mX6_load dY mcY msY [.ref b, .int x] (sy G b S h) PY XY) (hP : ∀ v a, PY v a → ∃ r : Int32, v = some (.int r)) (hX : ∀ E a, XY E a → E = xA) : ev_Ht G l mL_load [(0, 5, 6, 40)] 12 mcY msY [.ref b, .int x] (sy G b S h) (fun v a => PY v a ∨ (XY xA a ∧ v = some (.int (-2000000098)))) := by
  refine ev_Ht.of (by decide +kernel) (by decide +kernel) (Nat.le_of_ble_eq_true rfl) ?_
  have hb := sy_at G b S h 0 (by decide)
  rw [show mcY = 0 + mcY by omega, show msY = 0 + msY by omega]
  refine e_aload_n dL_load_0 rfl rfl ?_
  refine e_iload_n dL_load_1 rfl rfl ?_
  refine e_invVC (ci := 6) (as := [.int x]) (rest := []) hM vX6_load wM_L_37 hb rfl dL_load_2 rfl rfl (Nat.le_of_ble_eq_true rfl) (by show dY + 1 ≤ 12; omega) (fun E a1 hx => ?_) (fun v a1 hp => ?_)
  · obtain rfl := hX E a1 hx
    refine ⟨[], [], ⟨0, 5, 6, 40⟩, "java/lang/IllegalArgumentException", rfl, rfl, by decide, wL_L_40, (ev_nw_ok 525 (by decide +kernel) rfl), ?_, fun t => ?_⟩
    · exact fun z9 hz => nomatch hz
    · refine e_astore_n dL_load_6 rfl (Nat.le_of_ble_eq_true rfl) ?_
      refine e_ldc dL_load_7 wK_L_42 ?_
      exact e_iret rfl dL_load_9 (Or.inr (⟨hx, rfl⟩))
  · obtain ⟨r, rfl⟩ := hP v a1 hp
    exact e_iret rfl dL_load_5 (Or.inl hp)
set_option maxRecDepth 20000 in
theorem ct_L_noted {PY : Option Value → ev_H → Prop} {XY : String → ev_H → Prop} {dY mcY msY : Nat} (hd : dY ≤ 11) (hM : ev_Ct G l mX6_noted dY mcY msY [.ref b, .int x, .int y] (sy G b S h) PY XY) (hP : ∀ v a, PY v a → ∃ r : Int32, v = some (.int r)) (hX : ∀ E a, XY E a → E = xN ∨ E = xA) : ev_Ht G l mL_noted [(0, 6, 7, 65), (0, 6, 11, 40)] 12 mcY msY [.ref b, .int x, .int y] (sy G b S h) (fun v a => PY v a ∨ (XY xN a ∧ v = some (.int (-2000000100))) ∨ (XY xA a ∧ v = some (.int (-2000000098)))) := by
  refine ev_Ht.of (by decide +kernel) (by decide +kernel) (Nat.le_of_ble_eq_true rfl) ?_
  have hb := sy_at G b S h 0 (by decide)
  rw [show mcY = 0 + mcY by omega, show msY = 0 + msY by omega]
  refine e_aload_n dL_noted_0 rfl rfl ?_
  refine e_iload_n dL_noted_1 rfl rfl ?_
  refine e_iload_n dL_noted_2 rfl rfl ?_
  refine e_invVC (ci := 6) (as := [.int x, .int y]) (rest := []) hM vX6_noted wM_L_62 hb rfl dL_noted_3 rfl rfl (Nat.le_of_ble_eq_true rfl) (by show dY + 1 ≤ 12; omega) (fun E a1 hx => ?_) (fun v a1 hp => ?_)
  · rcases hX E a1 hx with rfl | rfl
    · refine ⟨[], [⟨0, 6, 11, 40⟩], ⟨0, 6, 7, 65⟩, "java/util/NoSuchElementException", rfl, rfl, by decide, wL_L_65, (ev_nw_ok 849 (by decide +kernel) rfl), ?_, fun t => ?_⟩
      · exact fun z9 hz => nomatch hz
      · refine e_astore_n dL_noted_7 rfl (Nat.le_of_ble_eq_true rfl) ?_
        refine e_ldc dL_noted_8 wK_L_67 ?_
        exact e_iret rfl dL_noted_10 (Or.inr (Or.inl ⟨hx, rfl⟩))
    · refine ⟨[⟨0, 6, 7, 65⟩], [], ⟨0, 6, 11, 40⟩, "java/lang/IllegalArgumentException", rfl, rfl, by decide, wL_L_40, (ev_nw_ok 525 (by decide +kernel) rfl), ?_, fun t => ?_⟩
      · intro z9 hz
        simp only [List.mem_cons, List.not_mem_nil, or_false] at hz
        subst hz
        exact ⟨by decide, "java/util/NoSuchElementException", wL_L_65, by decide +kernel⟩
      · refine e_astore_n dL_noted_11 rfl (Nat.le_of_ble_eq_true rfl) ?_
        refine e_ldc dL_noted_12 wK_L_42 ?_
        exact e_iret rfl dL_noted_14 (Or.inr (Or.inr (⟨hx, rfl⟩)))
  · obtain ⟨r, rfl⟩ := hP v a1 hp
    exact e_iret rfl dL_noted_6 (Or.inl hp)
set_option maxRecDepth 20000 in
theorem ct_L_waiting {PY : Option Value → ev_H → Prop} {XY : String → ev_H → Prop} {dY mcY msY : Nat} (hd : dY ≤ 11) (hM : ev_Ct G l mX6_waiting dY mcY msY [.ref b, .int x, .int y] (sy G b S h) PY XY) (hP : ∀ v a, PY v a → ∃ r : Int32, v = some (.int r)) (hX : ∀ E a, XY E a → E = xN ∨ E = xA) : ev_Ht G l mL_waiting [(0, 6, 7, 65), (0, 6, 11, 40)] 12 mcY msY [.ref b, .int x, .int y] (sy G b S h) (fun v a => PY v a ∨ (XY xN a ∧ v = some (.int (-2000000100))) ∨ (XY xA a ∧ v = some (.int (-2000000098)))) := by
  refine ev_Ht.of (by decide +kernel) (by decide +kernel) (Nat.le_of_ble_eq_true rfl) ?_
  have hb := sy_at G b S h 0 (by decide)
  rw [show mcY = 0 + mcY by omega, show msY = 0 + msY by omega]
  refine e_aload_n dL_waiting_0 rfl rfl ?_
  refine e_iload_n dL_waiting_1 rfl rfl ?_
  refine e_iload_n dL_waiting_2 rfl rfl ?_
  refine e_invVC (ci := 6) (as := [.int x, .int y]) (rest := []) hM vX6_waiting wM_L_68 hb rfl dL_waiting_3 rfl rfl (Nat.le_of_ble_eq_true rfl) (by show dY + 1 ≤ 12; omega) (fun E a1 hx => ?_) (fun v a1 hp => ?_)
  · rcases hX E a1 hx with rfl | rfl
    · refine ⟨[], [⟨0, 6, 11, 40⟩], ⟨0, 6, 7, 65⟩, "java/util/NoSuchElementException", rfl, rfl, by decide, wL_L_65, (ev_nw_ok 849 (by decide +kernel) rfl), ?_, fun t => ?_⟩
      · exact fun z9 hz => nomatch hz
      · refine e_astore_n dL_waiting_7 rfl (Nat.le_of_ble_eq_true rfl) ?_
        refine e_ldc dL_waiting_8 wK_L_67 ?_
        exact e_iret rfl dL_waiting_10 (Or.inr (Or.inl ⟨hx, rfl⟩))
    · refine ⟨[⟨0, 6, 7, 65⟩], [], ⟨0, 6, 11, 40⟩, "java/lang/IllegalArgumentException", rfl, rfl, by decide, wL_L_40, (ev_nw_ok 525 (by decide +kernel) rfl), ?_, fun t => ?_⟩
      · intro z9 hz
        simp only [List.mem_cons, List.not_mem_nil, or_false] at hz
        subst hz
        exact ⟨by decide, "java/util/NoSuchElementException", wL_L_65, by decide +kernel⟩
      · refine e_astore_n dL_waiting_11 rfl (Nat.le_of_ble_eq_true rfl) ?_
        refine e_ldc dL_waiting_12 wK_L_42 ?_
        exact e_iret rfl dL_waiting_14 (Or.inr (Or.inr (⟨hx, rfl⟩)))
  · obtain ⟨r, rfl⟩ := hP v a1 hp
    exact e_iret rfl dL_waiting_6 (Or.inl hp)
set_option maxRecDepth 20000 in
theorem ct_L_foretold {PY : Option Value → ev_H → Prop} {XY : String → ev_H → Prop} {dY mcY msY : Nat} (hd : dY ≤ 11) (hM : ev_Ct G l mX6_foretold dY mcY msY [.ref b, .int x, .int y, .int z] (sy G b S h) PY XY) (hP : ∀ v a, PY v a → ∃ r : Int32, v = some (.int r)) (hX : ∀ E a, XY E a → E = xI ∨ E = xA) : ev_Ht G l mL_foretold [(0, 7, 8, 56), (0, 7, 13, 40)] 12 mcY msY [.ref b, .int x, .int y, .int z] (sy G b S h) (fun v a => PY v a ∨ (XY xI a ∧ v = some (.int (-2000000097))) ∨ (XY xA a ∧ v = some (.int (-2000000098)))) := by
  refine ev_Ht.of (by decide +kernel) (by decide +kernel) (Nat.le_of_ble_eq_true rfl) ?_
  have hb := sy_at G b S h 0 (by decide)
  rw [show mcY = 0 + mcY by omega, show msY = 0 + msY by omega]
  refine e_aload_n dL_foretold_0 rfl rfl ?_
  refine e_iload_n dL_foretold_1 rfl rfl ?_
  refine e_iload_n dL_foretold_2 rfl rfl ?_
  refine e_iload_n dL_foretold_3 rfl rfl ?_
  refine e_invVC (ci := 6) (as := [.int x, .int y, .int z]) (rest := []) hM vX6_foretold wM_L_71 hb rfl dL_foretold_4 rfl rfl (Nat.le_of_ble_eq_true rfl) (by show dY + 1 ≤ 12; omega) (fun E a1 hx => ?_) (fun v a1 hp => ?_)
  · rcases hX E a1 hx with rfl | rfl
    · refine ⟨[], [⟨0, 7, 13, 40⟩], ⟨0, 7, 8, 56⟩, "java/lang/IndexOutOfBoundsException", rfl, rfl, by decide, wL_L_56, (ev_nw_ok 893 (by decide +kernel) rfl), ?_, fun t => ?_⟩
      · exact fun z9 hz => nomatch hz
      · refine e_astore dL_foretold_8 (Nat.le_of_ble_eq_true rfl) ?_
        refine e_ldc dL_foretold_10 wK_L_58 ?_
        exact e_iret rfl dL_foretold_12 (Or.inr (Or.inl ⟨hx, rfl⟩))
    · refine ⟨[⟨0, 7, 8, 56⟩], [], ⟨0, 7, 13, 40⟩, "java/lang/IllegalArgumentException", rfl, rfl, by decide, wL_L_40, (ev_nw_ok 525 (by decide +kernel) rfl), ?_, fun t => ?_⟩
      · intro z9 hz
        simp only [List.mem_cons, List.not_mem_nil, or_false] at hz
        subst hz
        exact ⟨by decide, "java/lang/IndexOutOfBoundsException", wL_L_56, by decide +kernel⟩
      · refine e_astore dL_foretold_13 (Nat.le_of_ble_eq_true rfl) ?_
        refine e_ldc dL_foretold_15 wK_L_42 ?_
        exact e_iret rfl dL_foretold_17 (Or.inr (Or.inr (⟨hx, rfl⟩)))
  · obtain ⟨r, rfl⟩ := hP v a1 hp
    exact e_iret rfl dL_foretold_7 (Or.inl hp)
set_option maxRecDepth 20000 in
theorem ct_L_period {PY : Option Value → ev_H → Prop} {XY : String → ev_H → Prop} {dY mcY msY : Nat} (hd : dY ≤ 11) (hM : ev_Ct G l mX6_period dY mcY msY [.ref b, .int x, .int y] (sy G b S h) PY XY) (hP : ∀ v a, PY v a → ∃ r : Int32, v = some (.int r)) (hX : ∀ E a, XY E a → E = xI ∨ E = xA) : ev_Ht G l mL_period [(0, 6, 7, 56), (0, 6, 11, 40)] 12 mcY msY [.ref b, .int x, .int y] (sy G b S h) (fun v a => PY v a ∨ (XY xI a ∧ v = some (.int (-2000000097))) ∨ (XY xA a ∧ v = some (.int (-2000000098)))) := by
  refine ev_Ht.of (by decide +kernel) (by decide +kernel) (Nat.le_of_ble_eq_true rfl) ?_
  have hb := sy_at G b S h 0 (by decide)
  rw [show mcY = 0 + mcY by omega, show msY = 0 + msY by omega]
  refine e_aload_n dL_period_0 rfl rfl ?_
  refine e_iload_n dL_period_1 rfl rfl ?_
  refine e_iload_n dL_period_2 rfl rfl ?_
  refine e_invVC (ci := 6) (as := [.int x, .int y]) (rest := []) hM vX6_period wM_L_75 hb rfl dL_period_3 rfl rfl (Nat.le_of_ble_eq_true rfl) (by show dY + 1 ≤ 12; omega) (fun E a1 hx => ?_) (fun v a1 hp => ?_)
  · rcases hX E a1 hx with rfl | rfl
    · refine ⟨[], [⟨0, 6, 11, 40⟩], ⟨0, 6, 7, 56⟩, "java/lang/IndexOutOfBoundsException", rfl, rfl, by decide, wL_L_56, (ev_nw_ok 893 (by decide +kernel) rfl), ?_, fun t => ?_⟩
      · exact fun z9 hz => nomatch hz
      · refine e_astore_n dL_period_7 rfl (Nat.le_of_ble_eq_true rfl) ?_
        refine e_ldc dL_period_8 wK_L_58 ?_
        exact e_iret rfl dL_period_10 (Or.inr (Or.inl ⟨hx, rfl⟩))
    · refine ⟨[⟨0, 6, 7, 56⟩], [], ⟨0, 6, 11, 40⟩, "java/lang/IllegalArgumentException", rfl, rfl, by decide, wL_L_40, (ev_nw_ok 525 (by decide +kernel) rfl), ?_, fun t => ?_⟩
      · intro z9 hz
        simp only [List.mem_cons, List.not_mem_nil, or_false] at hz
        subst hz
        exact ⟨by decide, "java/lang/IndexOutOfBoundsException", wL_L_56, by decide +kernel⟩
      · refine e_astore_n dL_period_11 rfl (Nat.le_of_ble_eq_true rfl) ?_
        refine e_ldc dL_period_12 wK_L_42 ?_
        exact e_iret rfl dL_period_14 (Or.inr (Or.inr (⟨hx, rfl⟩)))
  · obtain ⟨r, rfl⟩ := hP v a1 hp
    exact e_iret rfl dL_period_6 (Or.inl hp)
set_option maxRecDepth 20000 in
theorem ct_L_breaksIn {PY : Option Value → ev_H → Prop} {XY : String → ev_H → Prop} {dY mcY msY : Nat} (hd : dY ≤ 11) (hM : ev_Ct G l mX6_breaksIn dY mcY msY [.ref b, .int x] (sy G b S h) PY XY) (hP : ∀ v a, PY v a → ∃ r : Int32, v = some (.int r)) (hX : ∀ E a, XY E a → E = xA) : ev_Ht G l mL_breaksIn [(0, 5, 6, 40)] 12 mcY msY [.ref b, .int x] (sy G b S h) (fun v a => PY v a ∨ (XY xA a ∧ v = some (.int (-2000000098)))) := by
  refine ev_Ht.of (by decide +kernel) (by decide +kernel) (Nat.le_of_ble_eq_true rfl) ?_
  have hb := sy_at G b S h 0 (by decide)
  rw [show mcY = 0 + mcY by omega, show msY = 0 + msY by omega]
  refine e_aload_n dL_breaksIn_0 rfl rfl ?_
  refine e_iload_n dL_breaksIn_1 rfl rfl ?_
  refine e_invVC (ci := 6) (as := [.int x]) (rest := []) hM vX6_breaksIn wM_L_78 hb rfl dL_breaksIn_2 rfl rfl (Nat.le_of_ble_eq_true rfl) (by show dY + 1 ≤ 12; omega) (fun E a1 hx => ?_) (fun v a1 hp => ?_)
  · obtain rfl := hX E a1 hx
    refine ⟨[], [], ⟨0, 5, 6, 40⟩, "java/lang/IllegalArgumentException", rfl, rfl, by decide, wL_L_40, (ev_nw_ok 525 (by decide +kernel) rfl), ?_, fun t => ?_⟩
    · exact fun z9 hz => nomatch hz
    · refine e_astore_n dL_breaksIn_6 rfl (Nat.le_of_ble_eq_true rfl) ?_
      refine e_ldc dL_breaksIn_7 wK_L_42 ?_
      exact e_iret rfl dL_breaksIn_9 (Or.inr (⟨hx, rfl⟩))
  · obtain ⟨r, rfl⟩ := hP v a1 hp
    exact e_iret rfl dL_breaksIn_5 (Or.inl hp)
set_option maxRecDepth 20000 in
theorem ct_L_pass {PY : Option Value → ev_H → Prop} {XY : String → ev_H → Prop} {dY mcY msY : Nat} (hd : dY ≤ 11) (hM : ev_Ct G l mX6_pass dY mcY msY [.ref b, .int x] (sy G b S h) PY XY) (hP : ∀ v a, PY v a → ∃ r : Int32, v = some (.int r)) (hX : ∀ E a, XY E a → E = xA) : ev_Ht G l mL_pass [(0, 5, 6, 40)] 12 mcY msY [.ref b, .int x] (sy G b S h) (fun v a => PY v a ∨ (XY xA a ∧ v = some (.int (-2000000098)))) := by
  refine ev_Ht.of (by decide +kernel) (by decide +kernel) (Nat.le_of_ble_eq_true rfl) ?_
  have hb := sy_at G b S h 0 (by decide)
  rw [show mcY = 0 + mcY by omega, show msY = 0 + msY by omega]
  refine e_aload_n dL_pass_0 rfl rfl ?_
  refine e_iload_n dL_pass_1 rfl rfl ?_
  refine e_invVC (ci := 6) (as := [.int x]) (rest := []) hM vX6_pass wM_L_81 hb rfl dL_pass_2 rfl rfl (Nat.le_of_ble_eq_true rfl) (by show dY + 1 ≤ 12; omega) (fun E a1 hx => ?_) (fun v a1 hp => ?_)
  · obtain rfl := hX E a1 hx
    refine ⟨[], [], ⟨0, 5, 6, 40⟩, "java/lang/IllegalArgumentException", rfl, rfl, by decide, wL_L_40, (ev_nw_ok 525 (by decide +kernel) rfl), ?_, fun t => ?_⟩
    · exact fun z9 hz => nomatch hz
    · refine e_astore_n dL_pass_6 rfl (Nat.le_of_ble_eq_true rfl) ?_
      refine e_ldc dL_pass_7 wK_L_42 ?_
      exact e_iret rfl dL_pass_9 (Or.inr (⟨hx, rfl⟩))
  · obtain ⟨r, rfl⟩ := hP v a1 hp
    exact e_iret rfl dL_pass_5 (Or.inl hp)
set_option maxRecDepth 20000 in
theorem ct_L_pluck {PY : Option Value → ev_H → Prop} {XY : String → ev_H → Prop} {dY mcY msY : Nat} (hd : dY ≤ 11) (hM : ev_Ct G l mX6_pluck dY mcY msY [.ref b, .int x, .int y] (sy G b S h) PY XY) (hP : ∀ v a, PY v a → ∃ r : Int32, v = some (.int r)) (hX : ∀ E a, XY E a → E = xI ∨ E = xA) : ev_Ht G l mL_pluck [(0, 6, 7, 56), (0, 6, 11, 40)] 12 mcY msY [.ref b, .int x, .int y] (sy G b S h) (fun v a => PY v a ∨ (XY xI a ∧ v = some (.int (-2000000097))) ∨ (XY xA a ∧ v = some (.int (-2000000098)))) := by
  refine ev_Ht.of (by decide +kernel) (by decide +kernel) (Nat.le_of_ble_eq_true rfl) ?_
  have hb := sy_at G b S h 0 (by decide)
  rw [show mcY = 0 + mcY by omega, show msY = 0 + msY by omega]
  refine e_aload_n dL_pluck_0 rfl rfl ?_
  refine e_iload_n dL_pluck_1 rfl rfl ?_
  refine e_iload_n dL_pluck_2 rfl rfl ?_
  refine e_invVC (ci := 6) (as := [.int x, .int y]) (rest := []) hM vX6_pluck wM_L_84 hb rfl dL_pluck_3 rfl rfl (Nat.le_of_ble_eq_true rfl) (by show dY + 1 ≤ 12; omega) (fun E a1 hx => ?_) (fun v a1 hp => ?_)
  · rcases hX E a1 hx with rfl | rfl
    · refine ⟨[], [⟨0, 6, 11, 40⟩], ⟨0, 6, 7, 56⟩, "java/lang/IndexOutOfBoundsException", rfl, rfl, by decide, wL_L_56, (ev_nw_ok 893 (by decide +kernel) rfl), ?_, fun t => ?_⟩
      · exact fun z9 hz => nomatch hz
      · refine e_astore_n dL_pluck_7 rfl (Nat.le_of_ble_eq_true rfl) ?_
        refine e_ldc dL_pluck_8 wK_L_58 ?_
        exact e_iret rfl dL_pluck_10 (Or.inr (Or.inl ⟨hx, rfl⟩))
    · refine ⟨[⟨0, 6, 7, 56⟩], [], ⟨0, 6, 11, 40⟩, "java/lang/IllegalArgumentException", rfl, rfl, by decide, wL_L_40, (ev_nw_ok 525 (by decide +kernel) rfl), ?_, fun t => ?_⟩
      · intro z9 hz
        simp only [List.mem_cons, List.not_mem_nil, or_false] at hz
        subst hz
        exact ⟨by decide, "java/lang/IndexOutOfBoundsException", wL_L_56, by decide +kernel⟩
      · refine e_astore_n dL_pluck_11 rfl (Nat.le_of_ble_eq_true rfl) ?_
        refine e_ldc dL_pluck_12 wK_L_42 ?_
        exact e_iret rfl dL_pluck_14 (Or.inr (Or.inr (⟨hx, rfl⟩)))
  · obtain ⟨r, rfl⟩ := hP v a1 hp
    exact e_iret rfl dL_pluck_6 (Or.inl hp)
set_option maxRecDepth 20000 in
theorem ct_L_strike {PY : Option Value → ev_H → Prop} {XY : String → ev_H → Prop} {dY mcY msY : Nat} (hd : dY ≤ 11) (hM : ev_Ct G l mX6_strike dY mcY msY [.ref b, .int x, .int y] (sy G b S h) PY XY) (hP : ∀ v a, PY v a → ∃ r : Int32, v = some (.int r)) (hX : ∀ E a, XY E a → E = xI ∨ E = xA) : ev_Ht G l mL_strike [(0, 6, 7, 56), (0, 6, 11, 40)] 12 mcY msY [.ref b, .int x, .int y] (sy G b S h) (fun v a => PY v a ∨ (XY xI a ∧ v = some (.int (-2000000097))) ∨ (XY xA a ∧ v = some (.int (-2000000098)))) := by
  refine ev_Ht.of (by decide +kernel) (by decide +kernel) (Nat.le_of_ble_eq_true rfl) ?_
  have hb := sy_at G b S h 0 (by decide)
  rw [show mcY = 0 + mcY by omega, show msY = 0 + msY by omega]
  refine e_aload_n dL_strike_0 rfl rfl ?_
  refine e_iload_n dL_strike_1 rfl rfl ?_
  refine e_iload_n dL_strike_2 rfl rfl ?_
  refine e_invVC (ci := 6) (as := [.int x, .int y]) (rest := []) hM vX6_strike wM_L_87 hb rfl dL_strike_3 rfl rfl (Nat.le_of_ble_eq_true rfl) (by show dY + 1 ≤ 12; omega) (fun E a1 hx => ?_) (fun v a1 hp => ?_)
  · rcases hX E a1 hx with rfl | rfl
    · refine ⟨[], [⟨0, 6, 11, 40⟩], ⟨0, 6, 7, 56⟩, "java/lang/IndexOutOfBoundsException", rfl, rfl, by decide, wL_L_56, (ev_nw_ok 893 (by decide +kernel) rfl), ?_, fun t => ?_⟩
      · exact fun z9 hz => nomatch hz
      · refine e_astore_n dL_strike_7 rfl (Nat.le_of_ble_eq_true rfl) ?_
        refine e_ldc dL_strike_8 wK_L_58 ?_
        exact e_iret rfl dL_strike_10 (Or.inr (Or.inl ⟨hx, rfl⟩))
    · refine ⟨[⟨0, 6, 7, 56⟩], [], ⟨0, 6, 11, 40⟩, "java/lang/IllegalArgumentException", rfl, rfl, by decide, wL_L_40, (ev_nw_ok 525 (by decide +kernel) rfl), ?_, fun t => ?_⟩
      · intro z9 hz
        simp only [List.mem_cons, List.not_mem_nil, or_false] at hz
        subst hz
        exact ⟨by decide, "java/lang/IndexOutOfBoundsException", wL_L_56, by decide +kernel⟩
      · refine e_astore_n dL_strike_11 rfl (Nat.le_of_ble_eq_true rfl) ?_
        refine e_ldc dL_strike_12 wK_L_42 ?_
        exact e_iret rfl dL_strike_14 (Or.inr (Or.inr (⟨hx, rfl⟩)))
  · obtain ⟨r, rfl⟩ := hP v a1 hp
    exact e_iret rfl dL_strike_6 (Or.inl hp)
set_option maxRecDepth 20000 in
theorem ct_L_impulse {PY : Option Value → ev_H → Prop} {XY : String → ev_H → Prop} {dY mcY msY : Nat} (hd : dY ≤ 11) (hM : ev_Ct G l mX6_impulse dY mcY msY [.ref b, .int x, .int y, .int z] (sy G b S h) PY XY) (hP : ∀ v a, PY v a → ∃ r : Int32, v = some (.int r)) (hX : ∀ E a, XY E a → E = xI ∨ E = xA ∨ E = xS) : ev_Ht G l mL_impulse [(0, 7, 8, 56), (0, 7, 13, 40), (0, 7, 18, 93)] 12 mcY msY [.ref b, .int x, .int y, .int z] (sy G b S h) (fun v a => PY v a ∨ (XY xI a ∧ v = some (.int (-2000000097))) ∨ (XY xA a ∧ v = some (.int (-2000000098))) ∨ (XY xS a ∧ v = some (.int (-2000000099)))) := by
  refine ev_Ht.of (by decide +kernel) (by decide +kernel) (Nat.le_of_ble_eq_true rfl) ?_
  have hb := sy_at G b S h 0 (by decide)
  rw [show mcY = 0 + mcY by omega, show msY = 0 + msY by omega]
  refine e_aload_n dL_impulse_0 rfl rfl ?_
  refine e_iload_n dL_impulse_1 rfl rfl ?_
  refine e_iload_n dL_impulse_2 rfl rfl ?_
  refine e_iload_n dL_impulse_3 rfl rfl ?_
  refine e_invVC (ci := 6) (as := [.int x, .int y, .int z]) (rest := []) hM vX6_impulse wM_L_90 hb rfl dL_impulse_4 rfl rfl (Nat.le_of_ble_eq_true rfl) (by show dY + 1 ≤ 12; omega) (fun E a1 hx => ?_) (fun v a1 hp => ?_)
  · rcases hX E a1 hx with rfl | rfl | rfl
    · refine ⟨[], [⟨0, 7, 13, 40⟩, ⟨0, 7, 18, 93⟩], ⟨0, 7, 8, 56⟩, "java/lang/IndexOutOfBoundsException", rfl, rfl, by decide, wL_L_56, (ev_nw_ok 893 (by decide +kernel) rfl), ?_, fun t => ?_⟩
      · exact fun z9 hz => nomatch hz
      · refine e_astore dL_impulse_8 (Nat.le_of_ble_eq_true rfl) ?_
        refine e_ldc dL_impulse_10 wK_L_58 ?_
        exact e_iret rfl dL_impulse_12 (Or.inr (Or.inl ⟨hx, rfl⟩))
    · refine ⟨[⟨0, 7, 8, 56⟩], [⟨0, 7, 18, 93⟩], ⟨0, 7, 13, 40⟩, "java/lang/IllegalArgumentException", rfl, rfl, by decide, wL_L_40, (ev_nw_ok 525 (by decide +kernel) rfl), ?_, fun t => ?_⟩
      · intro z9 hz
        simp only [List.mem_cons, List.not_mem_nil, or_false] at hz
        subst hz
        exact ⟨by decide, "java/lang/IndexOutOfBoundsException", wL_L_56, by decide +kernel⟩
      · refine e_astore dL_impulse_13 (Nat.le_of_ble_eq_true rfl) ?_
        refine e_ldc dL_impulse_15 wK_L_42 ?_
        exact e_iret rfl dL_impulse_17 (Or.inr (Or.inr (Or.inl ⟨hx, rfl⟩)))
    · refine ⟨[⟨0, 7, 8, 56⟩, ⟨0, 7, 13, 40⟩], [], ⟨0, 7, 18, 93⟩, "java/lang/IllegalStateException", rfl, rfl, by decide, wL_L_93, (ev_nw_ok 1067 (by decide +kernel) rfl), ?_, fun t => ?_⟩
      · intro z9 hz
        simp only [List.mem_cons, List.not_mem_nil, or_false] at hz
        rcases hz with rfl | rfl
        · exact ⟨by decide, "java/lang/IndexOutOfBoundsException", wL_L_56, by decide +kernel⟩
        · exact ⟨by decide, "java/lang/IllegalArgumentException", wL_L_40, by decide +kernel⟩
      · refine e_astore dL_impulse_18 (Nat.le_of_ble_eq_true rfl) ?_
        refine e_ldc dL_impulse_20 wK_L_95 ?_
        exact e_iret rfl dL_impulse_22 (Or.inr (Or.inr (Or.inr (⟨hx, rfl⟩))))
  · obtain ⟨r, rfl⟩ := hP v a1 hp
    exact e_iret rfl dL_impulse_7 (Or.inl hp)
set_option maxRecDepth 20000 in
theorem ct_L_stiffen {PY : Option Value → ev_H → Prop} {XY : String → ev_H → Prop} {dY mcY msY : Nat} (hd : dY ≤ 11) (hM : ev_Ct G l mX6_stiffen dY mcY msY [.ref b, .int x, .int y] (sy G b S h) PY XY) (hP : ∀ v a, PY v a → ∃ r : Int32, v = some (.int r)) (hX : ∀ E a, XY E a → E = xI ∨ E = xA) : ev_Ht G l mL_stiffen [(0, 6, 7, 56), (0, 6, 11, 40)] 12 mcY msY [.ref b, .int x, .int y] (sy G b S h) (fun v a => PY v a ∨ (XY xI a ∧ v = some (.int (-2000000097))) ∨ (XY xA a ∧ v = some (.int (-2000000098)))) := by
  refine ev_Ht.of (by decide +kernel) (by decide +kernel) (Nat.le_of_ble_eq_true rfl) ?_
  have hb := sy_at G b S h 0 (by decide)
  rw [show mcY = 0 + mcY by omega, show msY = 0 + msY by omega]
  refine e_aload_n dL_stiffen_0 rfl rfl ?_
  refine e_iload_n dL_stiffen_1 rfl rfl ?_
  refine e_iload_n dL_stiffen_2 rfl rfl ?_
  refine e_invVC (ci := 6) (as := [.int x, .int y]) (rest := []) hM vX6_stiffen wM_L_96 hb rfl dL_stiffen_3 rfl rfl (Nat.le_of_ble_eq_true rfl) (by show dY + 1 ≤ 12; omega) (fun E a1 hx => ?_) (fun v a1 hp => ?_)
  · rcases hX E a1 hx with rfl | rfl
    · refine ⟨[], [⟨0, 6, 11, 40⟩], ⟨0, 6, 7, 56⟩, "java/lang/IndexOutOfBoundsException", rfl, rfl, by decide, wL_L_56, (ev_nw_ok 893 (by decide +kernel) rfl), ?_, fun t => ?_⟩
      · exact fun z9 hz => nomatch hz
      · refine e_astore_n dL_stiffen_7 rfl (Nat.le_of_ble_eq_true rfl) ?_
        refine e_ldc dL_stiffen_8 wK_L_58 ?_
        exact e_iret rfl dL_stiffen_10 (Or.inr (Or.inl ⟨hx, rfl⟩))
    · refine ⟨[⟨0, 6, 7, 56⟩], [], ⟨0, 6, 11, 40⟩, "java/lang/IllegalArgumentException", rfl, rfl, by decide, wL_L_40, (ev_nw_ok 525 (by decide +kernel) rfl), ?_, fun t => ?_⟩
      · intro z9 hz
        simp only [List.mem_cons, List.not_mem_nil, or_false] at hz
        subst hz
        exact ⟨by decide, "java/lang/IndexOutOfBoundsException", wL_L_56, by decide +kernel⟩
      · refine e_astore_n dL_stiffen_11 rfl (Nat.le_of_ble_eq_true rfl) ?_
        refine e_ldc dL_stiffen_12 wK_L_42 ?_
        exact e_iret rfl dL_stiffen_14 (Or.inr (Or.inr (⟨hx, rfl⟩)))
  · obtain ⟨r, rfl⟩ := hP v a1 hp
    exact e_iret rfl dL_stiffen_6 (Or.inl hp)
set_option maxRecDepth 20000 in
theorem ct_L_mend {PY : Option Value → ev_H → Prop} {XY : String → ev_H → Prop} {dY mcY msY : Nat} (hd : dY ≤ 11) (hM : ev_Ct G l mX6_mend dY mcY msY [.ref b, .int x] (sy G b S h) PY XY) (hP : ∀ v a, PY v a → ∃ r : Int32, v = some (.int r)) (hX : ∀ E a, XY E a → E = xI ∨ E = xS) : ev_Ht G l mL_mend [(0, 5, 6, 56), (0, 5, 10, 93)] 12 mcY msY [.ref b, .int x] (sy G b S h) (fun v a => PY v a ∨ (XY xI a ∧ v = some (.int (-2000000097))) ∨ (XY xS a ∧ v = some (.int (-2000000099)))) := by
  refine ev_Ht.of (by decide +kernel) (by decide +kernel) (Nat.le_of_ble_eq_true rfl) ?_
  have hb := sy_at G b S h 0 (by decide)
  rw [show mcY = 0 + mcY by omega, show msY = 0 + msY by omega]
  refine e_aload_n dL_mend_0 rfl rfl ?_
  refine e_iload_n dL_mend_1 rfl rfl ?_
  refine e_invVC (ci := 6) (as := [.int x]) (rest := []) hM vX6_mend wM_L_99 hb rfl dL_mend_2 rfl rfl (Nat.le_of_ble_eq_true rfl) (by show dY + 1 ≤ 12; omega) (fun E a1 hx => ?_) (fun v a1 hp => ?_)
  · rcases hX E a1 hx with rfl | rfl
    · refine ⟨[], [⟨0, 5, 10, 93⟩], ⟨0, 5, 6, 56⟩, "java/lang/IndexOutOfBoundsException", rfl, rfl, by decide, wL_L_56, (ev_nw_ok 893 (by decide +kernel) rfl), ?_, fun t => ?_⟩
      · exact fun z9 hz => nomatch hz
      · refine e_astore_n dL_mend_6 rfl (Nat.le_of_ble_eq_true rfl) ?_
        refine e_ldc dL_mend_7 wK_L_58 ?_
        exact e_iret rfl dL_mend_9 (Or.inr (Or.inl ⟨hx, rfl⟩))
    · refine ⟨[⟨0, 5, 6, 56⟩], [], ⟨0, 5, 10, 93⟩, "java/lang/IllegalStateException", rfl, rfl, by decide, wL_L_93, (ev_nw_ok 1067 (by decide +kernel) rfl), ?_, fun t => ?_⟩
      · intro z9 hz
        simp only [List.mem_cons, List.not_mem_nil, or_false] at hz
        subst hz
        exact ⟨by decide, "java/lang/IndexOutOfBoundsException", wL_L_56, by decide +kernel⟩
      · refine e_astore_n dL_mend_10 rfl (Nat.le_of_ble_eq_true rfl) ?_
        refine e_ldc dL_mend_11 wK_L_95 ?_
        exact e_iret rfl dL_mend_13 (Or.inr (Or.inr (⟨hx, rfl⟩)))
  · obtain ⟨r, rfl⟩ := hP v a1 hp
    exact e_iret rfl dL_mend_5 (Or.inl hp)
set_option maxRecDepth 20000 in
theorem ct_L_move {PY : Option Value → ev_H → Prop} {XY : String → ev_H → Prop} {dY mcY msY : Nat} (hd : dY ≤ 11) (hM : ev_Ct G l mX6_move dY mcY msY [.ref b, .int x, .int y] (sy G b S h) PY XY) (hP : ∀ v a, PY v a → ∃ r : Int32, v = some (.int r)) (hX : ∀ E a, XY E a → E = xA) : ev_Ht G l mL_move [(0, 6, 7, 40)] 12 mcY msY [.ref b, .int x, .int y] (sy G b S h) (fun v a => PY v a ∨ (XY xA a ∧ v = some (.int (-2000000098)))) := by
  refine ev_Ht.of (by decide +kernel) (by decide +kernel) (Nat.le_of_ble_eq_true rfl) ?_
  have hb := sy_at G b S h 0 (by decide)
  rw [show mcY = 0 + mcY by omega, show msY = 0 + msY by omega]
  refine e_aload_n dL_move_0 rfl rfl ?_
  refine e_iload_n dL_move_1 rfl rfl ?_
  refine e_iload_n dL_move_2 rfl rfl ?_
  refine e_invVC (ci := 6) (as := [.int x, .int y]) (rest := []) hM vX6_move wM_L_102 hb rfl dL_move_3 rfl rfl (Nat.le_of_ble_eq_true rfl) (by show dY + 1 ≤ 12; omega) (fun E a1 hx => ?_) (fun v a1 hp => ?_)
  · obtain rfl := hX E a1 hx
    refine ⟨[], [], ⟨0, 6, 7, 40⟩, "java/lang/IllegalArgumentException", rfl, rfl, by decide, wL_L_40, (ev_nw_ok 525 (by decide +kernel) rfl), ?_, fun t => ?_⟩
    · exact fun z9 hz => nomatch hz
    · refine e_astore_n dL_move_7 rfl (Nat.le_of_ble_eq_true rfl) ?_
      refine e_ldc dL_move_8 wK_L_42 ?_
      exact e_iret rfl dL_move_10 (Or.inr (⟨hx, rfl⟩))
  · obtain ⟨r, rfl⟩ := hP v a1 hp
    exact e_iret rfl dL_move_6 (Or.inl hp)
set_option maxRecDepth 20000 in
theorem ct_L_state {PY : Option Value → ev_H → Prop} {XY : String → ev_H → Prop} {dY mcY msY : Nat} (hd : dY ≤ 11) (hM : ev_Ct G l mX6_state dY mcY msY [.ref b, .int x] (sy G b S h) PY XY) (hP : ∀ v a, PY v a → ∃ r : Int32, v = some (.int r)) (hX : ∀ E a, XY E a → E = xA) : ev_Ht G l mL_state [(0, 5, 6, 40)] 12 mcY msY [.ref b, .int x] (sy G b S h) (fun v a => PY v a ∨ (XY xA a ∧ v = some (.int (-2000000098)))) := by
  refine ev_Ht.of (by decide +kernel) (by decide +kernel) (Nat.le_of_ble_eq_true rfl) ?_
  have hb := sy_at G b S h 0 (by decide)
  rw [show mcY = 0 + mcY by omega, show msY = 0 + msY by omega]
  refine e_aload_n dL_state_0 rfl rfl ?_
  refine e_iload_n dL_state_1 rfl rfl ?_
  refine e_invVC (ci := 6) (as := [.int x]) (rest := []) hM vX6_state wM_L_43 hb rfl dL_state_2 rfl rfl (Nat.le_of_ble_eq_true rfl) (by show dY + 1 ≤ 12; omega) (fun E a1 hx => ?_) (fun v a1 hp => ?_)
  · obtain rfl := hX E a1 hx
    refine ⟨[], [], ⟨0, 5, 6, 40⟩, "java/lang/IllegalArgumentException", rfl, rfl, by decide, wL_L_40, (ev_nw_ok 525 (by decide +kernel) rfl), ?_, fun t => ?_⟩
    · exact fun z9 hz => nomatch hz
    · refine e_astore_n dL_state_6 rfl (Nat.le_of_ble_eq_true rfl) ?_
      refine e_ldc dL_state_7 wK_L_42 ?_
      exact e_iret rfl dL_state_9 (Or.inr (⟨hx, rfl⟩))
  · obtain ⟨r, rfl⟩ := hP v a1 hp
    exact e_iret rfl dL_state_5 (Or.inl hp)
set_option maxRecDepth 20000 in
theorem ct_L_mass {PY : Option Value → ev_H → Prop} {XY : String → ev_H → Prop} {dY mcY msY : Nat} (hd : dY ≤ 11) (hM : ev_Ct G l mX6_mass dY mcY msY [.ref b, .int x, .int y] (sy G b S h) PY XY) (hP : ∀ v a, PY v a → ∃ r : Int32, v = some (.int r)) (hX : ∀ E a, XY E a → E = xI ∨ E = xA) : ev_Ht G l mL_mass [(0, 6, 7, 56), (0, 6, 11, 40)] 12 mcY msY [.ref b, .int x, .int y] (sy G b S h) (fun v a => PY v a ∨ (XY xI a ∧ v = some (.int (-2000000097))) ∨ (XY xA a ∧ v = some (.int (-2000000098)))) := by
  refine ev_Ht.of (by decide +kernel) (by decide +kernel) (Nat.le_of_ble_eq_true rfl) ?_
  have hb := sy_at G b S h 0 (by decide)
  rw [show mcY = 0 + mcY by omega, show msY = 0 + msY by omega]
  refine e_aload_n dL_mass_0 rfl rfl ?_
  refine e_iload_n dL_mass_1 rfl rfl ?_
  refine e_iload_n dL_mass_2 rfl rfl ?_
  refine e_invVC (ci := 6) (as := [.int x, .int y]) (rest := []) hM vX6_mass wM_L_52 hb rfl dL_mass_3 rfl rfl (Nat.le_of_ble_eq_true rfl) (by show dY + 1 ≤ 12; omega) (fun E a1 hx => ?_) (fun v a1 hp => ?_)
  · rcases hX E a1 hx with rfl | rfl
    · refine ⟨[], [⟨0, 6, 11, 40⟩], ⟨0, 6, 7, 56⟩, "java/lang/IndexOutOfBoundsException", rfl, rfl, by decide, wL_L_56, (ev_nw_ok 893 (by decide +kernel) rfl), ?_, fun t => ?_⟩
      · exact fun z9 hz => nomatch hz
      · refine e_astore_n dL_mass_7 rfl (Nat.le_of_ble_eq_true rfl) ?_
        refine e_ldc dL_mass_8 wK_L_58 ?_
        exact e_iret rfl dL_mass_10 (Or.inr (Or.inl ⟨hx, rfl⟩))
    · refine ⟨[⟨0, 6, 7, 56⟩], [], ⟨0, 6, 11, 40⟩, "java/lang/IllegalArgumentException", rfl, rfl, by decide, wL_L_40, (ev_nw_ok 525 (by decide +kernel) rfl), ?_, fun t => ?_⟩
      · intro z9 hz
        simp only [List.mem_cons, List.not_mem_nil, or_false] at hz
        subst hz
        exact ⟨by decide, "java/lang/IndexOutOfBoundsException", wL_L_56, by decide +kernel⟩
      · refine e_astore_n dL_mass_11 rfl (Nat.le_of_ble_eq_true rfl) ?_
        refine e_ldc dL_mass_12 wK_L_42 ?_
        exact e_iret rfl dL_mass_14 (Or.inr (Or.inr (⟨hx, rfl⟩)))
  · obtain ⟨r, rfl⟩ := hP v a1 hp
    exact e_iret rfl dL_mass_6 (Or.inl hp)
set_option maxRecDepth 20000 in
theorem ct_L_spring {PY : Option Value → ev_H → Prop} {XY : String → ev_H → Prop} {dY mcY msY : Nat} (hd : dY ≤ 11) (hM : ev_Ct G l mX6_spring dY mcY msY [.ref b, .int x, .int y] (sy G b S h) PY XY) (hP : ∀ v a, PY v a → ∃ r : Int32, v = some (.int r)) (hX : ∀ E a, XY E a → E = xI ∨ E = xA) : ev_Ht G l mL_spring [(0, 6, 7, 56), (0, 6, 11, 40)] 12 mcY msY [.ref b, .int x, .int y] (sy G b S h) (fun v a => PY v a ∨ (XY xI a ∧ v = some (.int (-2000000097))) ∨ (XY xA a ∧ v = some (.int (-2000000098)))) := by
  refine ev_Ht.of (by decide +kernel) (by decide +kernel) (Nat.le_of_ble_eq_true rfl) ?_
  have hb := sy_at G b S h 0 (by decide)
  rw [show mcY = 0 + mcY by omega, show msY = 0 + msY by omega]
  refine e_aload_n dL_spring_0 rfl rfl ?_
  refine e_iload_n dL_spring_1 rfl rfl ?_
  refine e_iload_n dL_spring_2 rfl rfl ?_
  refine e_invVC (ci := 6) (as := [.int x, .int y]) (rest := []) hM vX6_spring wM_L_59 hb rfl dL_spring_3 rfl rfl (Nat.le_of_ble_eq_true rfl) (by show dY + 1 ≤ 12; omega) (fun E a1 hx => ?_) (fun v a1 hp => ?_)
  · rcases hX E a1 hx with rfl | rfl
    · refine ⟨[], [⟨0, 6, 11, 40⟩], ⟨0, 6, 7, 56⟩, "java/lang/IndexOutOfBoundsException", rfl, rfl, by decide, wL_L_56, (ev_nw_ok 893 (by decide +kernel) rfl), ?_, fun t => ?_⟩
      · exact fun z9 hz => nomatch hz
      · refine e_astore_n dL_spring_7 rfl (Nat.le_of_ble_eq_true rfl) ?_
        refine e_ldc dL_spring_8 wK_L_58 ?_
        exact e_iret rfl dL_spring_10 (Or.inr (Or.inl ⟨hx, rfl⟩))
    · refine ⟨[⟨0, 6, 7, 56⟩], [], ⟨0, 6, 11, 40⟩, "java/lang/IllegalArgumentException", rfl, rfl, by decide, wL_L_40, (ev_nw_ok 525 (by decide +kernel) rfl), ?_, fun t => ?_⟩
      · intro z9 hz
        simp only [List.mem_cons, List.not_mem_nil, or_false] at hz
        subst hz
        exact ⟨by decide, "java/lang/IndexOutOfBoundsException", wL_L_56, by decide +kernel⟩
      · refine e_astore_n dL_spring_11 rfl (Nat.le_of_ble_eq_true rfl) ?_
        refine e_ldc dL_spring_12 wK_L_42 ?_
        exact e_iret rfl dL_spring_14 (Or.inr (Or.inr (⟨hx, rfl⟩)))
  · obtain ⟨r, rfl⟩ := hP v a1 hp
    exact e_iret rfl dL_spring_6 (Or.inl hp)
end LHC
