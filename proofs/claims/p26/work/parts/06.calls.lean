/-! calls -/
theorem ev_pre {G : ev_G} {as : List Value} {a : ev_H} {s : State} {H : Heap} {locs : List Loc} (hK : va_K G.1 vwCl (ev_tys G) s) (hE : ev_E G s s.heap) (hR : ev_R G a H) (hS : va_S (ev_A G) s.heap H locs) : ∀ U : State, U.heap = H → s.WarmedH U.vm → ev_Pre G as a as.toArray U := by
  intro U hU hW
  refine ⟨rfl, by rw [hU]; exact hR, va_K.moved hW.alike hK, ?_⟩
  rw [hU]
  exact ev_E.warm hW (hE.on hS)
/-- an instance method's words, with the number of its arguments -/
def ev_wV (Y : ev_M) (np : Nat) : Prop := (Cond.instanceMethod Y.1 ∈ ev_ws ∧ Cond.selects Y.1.cls Y.1 Y.1 ∈ ev_ws ∧ Cond.initialized Y.1.cls ∈ ev_ws ∧ Cond.code Y.1 Y.2.1 Y.2.2.1 Y.2.2.2 ∈ ev_ws) ∧ (Y.1.cls ≠ "java/lang/invoke/MethodHandle" ∧ Y.1.cls ≠ "java/lang/invoke/VarHandle" ∧ (parseMethodDescriptor Y.1.desc).map (fun d => d.parameters.length) = some np) ∧ Y.2.2.1 ≤ 17
def ev_wS (Y : ev_M) (np : Nat) : Prop := (Cond.static Y.1 ∈ ev_ws ∧ Cond.initialized Y.1.cls ∈ ev_ws ∧ Cond.code Y.1 Y.2.1 Y.2.2.1 Y.2.2.2 ∈ ev_ws) ∧ (Y.1.cls ≠ "java/lang/invoke/MethodHandle" ∧ Y.1.cls ≠ "java/lang/invoke/VarHandle" ∧ (parseMethodDescriptor Y.1.desc).map (fun d => d.parameters.length) = some np) ∧ Y.2.2.1 ≤ 17
def ev_wI (Y : ev_M) (np : Nat) : Prop := (Cond.instanceMethod Y.1 ∈ ev_ws ∧ Cond.initialized Y.1.cls ∈ ev_ws ∧ Cond.code Y.1 Y.2.1 Y.2.2.1 Y.2.2.2 ∈ ev_ws) ∧ (Y.1.cls ≠ "java/lang/invoke/MethodHandle" ∧ Y.1.cls ≠ "java/lang/invoke/VarHandle" ∧ (parseMethodDescriptor Y.1.desc).map (fun d => d.parameters.length) = some np) ∧ Y.2.2.1 ≤ 17 ∧ Y.1.name = "<init>" ∧ Y.2.2.2 = none
theorem ev_gms {Y : ev_M} (h : Cond.code Y.1 Y.2.1 Y.2.2.1 Y.2.2.2 ∈ ev_ws) : GoodIn ev_ws (ev_ms Y) := by
  intro w hw
  rcases List.mem_cons.mp hw with rfl | hw
  · exact ⟨h, ev_gw h⟩
  · exact ⟨hw, ev_gw hw⟩
theorem ev_gV {Y : ev_M} {np idx : Nat} {own : String} (h : ev_wV Y np) (hw : Cond.methodLink own idx Y.1 ∈ ev_ws) : GoodIn ev_ws (wsV own idx Y.1.cls Y.1 (ev_ms Y)) := by
  intro w hm
  rcases List.mem_append.mp hm with hm | hm
  · simp only [List.mem_cons, List.not_mem_nil, or_false] at hm
    rcases hm with rfl | rfl | rfl | rfl
    · exact ⟨hw, ev_gw hw⟩
    · exact ⟨h.1.1, ev_gw h.1.1⟩
    · exact ⟨h.1.2.1, ev_gw h.1.2.1⟩
    · exact ⟨h.1.2.2.1, ev_gw h.1.2.2.1⟩
  · exact ev_gms h.1.2.2.2 w hm
section EVL
variable {p : Program} {l : Launch} {e : Env} {R : Room} {s : State} {m : MethodId} {args : Array Value} {below : List Frame} {meth : Method} {c : Code} {H : Heap} {locs : List Loc} {cells slots mc ms pc : Nat} {ls : Array Slot} {st0 rest : List Value} {Q : State → Prop} {G : ev_G} {PY : Option Value → ev_H → Prop} {XY : String → ev_H → Prop} {aY : Array Value}
theorem ev_back (hr : va_Run p l e R s m args below meth c H locs cells slots mc ms (F0 m pc ls st0) rest (ev_Qc G PY aY) (ev_A G)) (hS : va_S (ev_A G) s.heap H locs)
    (kk : ∀ (v : Option Value) (a : ev_H) (H1 : Heap) (locs1 : List Loc), PY v a → ev_R G a H1 → va_S (ev_A G) s.heap H1 locs1 → W p l e R s m args below meth c H1 locs1 (cells + mc) (slots + ms) Q (F0 m (pc + 3) ls (v.toList ++ rest))) : W p l e R s m args below meth c H locs cells slots Q (F0 m pc ls st0) := by
  intro T hT X
  obtain ⟨v, st₀, t, T', L, h0, X', hL, e1, e2, ⟨⟨v2, a, hv, hp, hb⟩, hF⟩, st⟩ := hr T hT X
  cases hv
  obtain ⟨k1, k2, k3⟩ := vx_keep h0 e1 hS (fun _ _ h => h) (fun _ h => h) hL hF
  obtain ⟨t2, a1, b1⟩ := kk _ a T'.heap (locs ++ L) hp (by rw [e1]; exact hb) k3 T' rfl X'
  exact ⟨t2, st t2 a1, b1⟩
theorem ev_backX (hr : vx_Run p l e R s m args below meth c H locs cells slots mc ms (F0 m pc ls st0) rest (ev_Qc G PY aY) (ev_XC G XY) (ev_A G)) (hS : va_S (ev_A G) s.heap H locs)
    (kx : ∀ (E : String) (ce : Cell) (q : Addr) (a : ev_H) (H1 : Heap) (locs1 : List Loc), XY E a → ev_R G a H1 → va_S (ev_A G) s.heap H1 locs1 → H1[q]? = some ce → ce.vm = .none → s.vm.findClass E = some ce.cls → vx_W p l e R s m args below meth c H1 locs1 (cells + mc) (slots + ms) Q (F0 m pc ls rest) q)
    (kk : ∀ (v : Option Value) (a : ev_H) (H1 : Heap) (locs1 : List Loc), PY v a → ev_R G a H1 → va_S (ev_A G) s.heap H1 locs1 → W p l e R s m args below meth c H1 locs1 (cells + mc) (slots + ms) Q (F0 m (pc + 3) ls (v.toList ++ rest))) : W p l e R s m args below meth c H locs cells slots Q (F0 m pc ls st0) := by
  intro T hT X
  rcases hr T hT X with ⟨v, st₀, t, T', L, h0, X', hL, e1, e2, ⟨⟨v2, a, hv, hp, hb⟩, hF⟩, st⟩ | ⟨q, st₀, t, T', L, E, ce, h0, X', hL, e1, e2, ⟨⟨a, hp, hb⟩, hF⟩, hce, hcv, hcl, st⟩
  · cases hv
    obtain ⟨k1, k2, k3⟩ := vx_keep h0 e1 hS (fun _ _ h => h) (fun _ h => h) hL hF
    obtain ⟨t2, a1, b1⟩ := kk _ a T'.heap (locs ++ L) hp (by rw [e1]; exact hb) k3 T' rfl X'
    exact ⟨t2, st t2 a1, b1⟩
  · obtain ⟨k1, k2, k3⟩ := vx_keep h0 e1 hS (fun _ _ h => h) (fun _ h => h) hL hF
    obtain ⟨t2, a1, b1⟩ := kx E ce q a T'.heap (locs ++ L) hp (by rw [e1]; exact hb) k3 (by rw [e1]; exact hce) hcv hcl T' rfl X'
    exact ⟨t2, st.trans a1, b1⟩
end EVL
/-- a contract of a method that throws nothing -/
theorem ev_Ct.met {G : ev_G} {l : Launch} {Y : ev_M} {d mc ms : Nat} {as : List Value} {a : ev_H} {P : Option Value → ev_H → Prop} (h : ev_Ct G l Y d mc ms as a P (fun _ _ => False)) : Met l Y.1 (ev_ms Y) (ev_rm d mc ms) (ev_Pre G as a) (ev_Qc G P) mc ms (ev_A G) := by
  intro p e ha hc hk s m args below hf happ hP hK
  obtain ⟨n, o, h1, h2, h3, h4⟩ := h p e ha hc hk s m args below hf happ hP hK
  refine ⟨n, o, h1, h2, h3, ?_⟩
  rcases h4 with h4 | ⟨q, -, E, ce, L, ⟨⟨a', hx, -⟩, -⟩, -⟩
  · exact h4
  · exact hx.elim
theorem ev_Ct.mono {G : ev_G} {l : Launch} {Y : ev_M} {d mc ms : Nat} {as : List Value} {a : ev_H} {P P' : Option Value → ev_H → Prop} {X X' : String → ev_H → Prop} (h : ev_Ct G l Y d mc ms as a P X) (hP : ∀ v b, P v b → P' v b) (hX : ∀ E b, X E b → X' E b) : ev_Ct G l Y d mc ms as a P' X' := by
  intro p e ha hc hk s m args below hf happ hPr hK
  obtain ⟨n, o, h1, h2, h3, h4⟩ := h p e ha hc hk s m args below hf happ hPr hK
  refine ⟨n, o, h1, h2, h3, ?_⟩
  rcases h4 with ⟨⟨⟨v, b, q1, q2, q3⟩, q4⟩, q5⟩ | ⟨q, q0, E, ce, L, ⟨⟨b, q1, q2⟩, q3⟩, q4⟩
  · exact Or.inl ⟨⟨⟨v, b, q1, hP _ _ q2, q3⟩, q4⟩, q5⟩
  · exact Or.inr ⟨q, q0, E, ce, L, ⟨⟨b, hX _ _ q1, q2⟩, q3⟩, q4⟩
section EVI
variable {G : ev_G} {l : Launch} {M : ev_M} {J : ev_K} {pc k n : Nat} {L : List (Option Value)} {st rest : List Value} {a : ev_H} {Y : ev_M} {dY mcY msY idx np q ci N : Nat} {T : u_T} {as fs : List Value} {PY : Option Value → ev_H → Prop} {XY : String → ev_H → Prop}
theorem ev_recv {s : State} {H : Heap} {C : String} (hK : va_K G.1 vwCl (ev_tys G) s) (hR : ev_R G a H) (ha : a.1 q = some (.inr (ci, fs))) (hcl : vwCl[ci]? = some (C, T, N)) : ∃ cell : Cell, H[q]? = some cell ∧ cell.vm.isStatics = false ∧ s.vm.findClass C = some cell.cls := va_recv (q := (C, T, N)) hK (ev_one hR ha) hcl (q0 := 0) rfl

theorem e_invV (hM : ev_Ct G l Y dY mcY msY (.ref q :: as) a PY (fun _ _ => False)) (hy : ev_wV Y np) (hw : Cond.methodLink M.1.cls idx Y.1 ∈ ev_ws) (ha : a.1 q = some (.inr (ci, fs))) (hcl : vwCl[ci]? = some (Y.1.cls, T, N)) (hd : decode M.2.1 pc = .ok (.invokevirtual idx, 3)) (hst : st = as.reverse ++ .ref q :: rest) (hn : as.length = np) (hcat : (rest.map fun v => v.category).sum ≤ 8) (hdp : dY + 1 ≤ J.2.2.1) (kk : ∀ v b, PY v b → ev_V G l M J (pc + 3) L (v.toList ++ rest) b k n) : ev_V G l M J pc L st a (k + mcY) (n + msY) := by
  intro p e R s d0 m args below meth c C hD H locs cells slots ls hR hS hc hs hl
  subst hst
  obtain ⟨hx, hb, hml, hown, hts, hret, hlk, hK, hE, hini, hhh, ⟨hr1, hr2, hr3, hr4⟩, hfl⟩ := id C
  have hmL := hy.2.2
  have hRm : (ev_rm dY mcY msY).frames + 1 ≤ R.frames ∧ 8 + (Y.2.2.1 + 11) + (ev_rm dY mcY msY).locals ≤ R.locals := ⟨by show dY + 1 ≤ _; omega, by show 8 + (Y.2.2.1 + 11) + 36 * dY ≤ _; omega⟩
  exact ev_back (s := s.setDrawn d0) (va_runV ⟨hx, hb, hml, hown, hts⟩ hM.met (cwV np hts (ev_gV hy hw) rfl rfl rfl ⟨rfl, hy.2.1⟩ hRm) ⟨ev_pre_blind, ev_recv hK hR ha hcl, ev_pre hK hE hR hS⟩ rfl hn hl.1 rfl (lv_room hcat) hd ⟨by omega, by omega⟩) hS (fun v b H1 locs1 hp hR1 hS1 => kk v b hp p e R s d0 m args below meth c C hD H1 locs1 _ _ ls hR1 hS1 (by omega) (by omega) hl)
theorem e_invVX (hM : ev_Ct G l Y dY mcY msY (.ref q :: as) a PY XY) (hy : ev_wV Y np) (hw : Cond.methodLink M.1.cls idx Y.1 ∈ ev_ws) (ha : a.1 q = some (.inr (ci, fs))) (hcl : vwCl[ci]? = some (Y.1.cls, T, N)) (hd : decode M.2.1 pc = .ok (.invokevirtual idx, 3)) (hst : st = as.reverse ++ .ref q :: rest) (hn : as.length = np) (hcat : (rest.map fun v => v.category).sum ≤ 8) (hdp : dY + 1 ≤ J.2.2.1) (hkd : J.1 = false) (hhh0 : J.2.1 = []) (hX : ∀ E b, XY E b → J.2.2.2.2.2.2 E b) (kk : ∀ v b, PY v b → ev_V G l M J (pc + 3) L (v.toList ++ rest) b k n) : ev_V G l M J pc L st a (k + mcY) (n + msY) := by
  intro p e R s d0 m args below meth c C hD H locs cells slots ls hR hS hc hs hl
  subst hst
  obtain ⟨hx, hb, hml, hown, hts, hret, hlk, hK, hE, hini, hhh, ⟨hr1, hr2, hr3, hr4⟩, hfl⟩ := id C
  have hmL := hy.2.2
  have hRm : (ev_rm dY mcY msY).frames + 1 ≤ R.frames ∧ 8 + (Y.2.2.1 + 11) + (ev_rm dY mcY msY).locals ≤ R.locals := ⟨by show dY + 1 ≤ _; omega, by show 8 + (Y.2.2.1 + 11) + 36 * dY ≤ _; omega⟩
  refine ev_backX (s := s.setDrawn d0) (vx_runV ⟨hx, hb, hml, hown, hts⟩ hM (cwV np hts (ev_gV hy hw) rfl rfl rfl ⟨rfl, hy.2.1⟩ hRm) ⟨ev_pre_blind, ev_recv hK hR ha hcl, ev_pre hK hE hR hS⟩ rfl hn hl.1 rfl (lv_room hcat) hd ⟨by omega, by omega⟩) hS (fun E ce q9 b H1 locs1 hp hR1 hS1 hce hcv hcf => ?_) (fun v b H1 locs1 hp hR1 hS1 => kk v b hp p e R s d0 m args below meth c C hD H1 locs1 _ _ ls hR1 hS1 (by omega) (by omega) hl)
  obtain ⟨kd, hh, d1, mc1, ms1, P1, X1⟩ := J
  dsimp only at hkd hhh0 hX
  subst hkd
  subst hhh0
  have h2 := hD.2 rfl
  subst h2
  exact vx_out (XC := ev_XC G X1) (E := E) (by rw [hhh]; exact fun x hx9 => nomatch hx9) hlk hce hcv hcf (fun t ht _ => ⟨⟨b, hX E b hp, by rw [ht]; exact hR1⟩, va_S.F (s := s) hS1 ht⟩) hS1.2.2 (by dsimp only at hc ⊢; omega) (by dsimp only at hs ⊢; omega)
theorem e_invS (hM : ev_Ct G l Y dY mcY msY as a PY (fun _ _ => False)) (hy : ev_wS Y np) (hw : Cond.methodLink M.1.cls idx Y.1 ∈ ev_ws) (hd : decode M.2.1 pc = .ok (.invokestatic idx, 3)) (hst : st = as.reverse ++ rest) (hn : as.length = np) (hcat : (rest.map fun v => v.category).sum ≤ 8) (hdp : dY + 1 ≤ J.2.2.1) (kk : ∀ v b, PY v b → ev_V G l M J (pc + 3) L (v.toList ++ rest) b k n) : ev_V G l M J pc L st a (k + mcY) (n + msY) := by
  intro p e R s d0 m args below meth c C hD H locs cells slots ls hR hS hc hs hl
  subst hst
  obtain ⟨hx, hb, hml, hown, hts, hret, hlk, hK, hE, hini, hhh, ⟨hr1, hr2, hr3, hr4⟩, hfl⟩ := id C
  have hmL := hy.2.2
  have hRm : (ev_rm dY mcY msY).frames + 1 ≤ R.frames ∧ 8 + (Y.2.2.1 + 11) + (ev_rm dY mcY msY).locals ≤ R.locals := ⟨by show dY + 1 ≤ _; omega, by show 8 + (Y.2.2.1 + 11) + 36 * dY ≤ _; omega⟩
  exact ev_back (s := s.setDrawn d0) (va_runS ⟨hx, hb, hml, hown, hts⟩ hM.met ⟨callB_of np hts (ev_gms hy.1.2.2) rfl rfl rfl (hts _ hy.1.2.1) (hts _ hw) hy.2.1 hRm, hts _ hy.1.1⟩ ⟨ev_pre_blind, ev_pre hK hE hR hS⟩ rfl hn hl.1 rfl (lv_room hcat) hd ⟨by omega, by omega⟩) hS (fun v b H1 locs1 hp hR1 hS1 => kk v b hp p e R s d0 m args below meth c C hD H1 locs1 _ _ ls hR1 hS1 (by omega) (by omega) hl)
theorem e_invSX (hM : ev_Ct G l Y dY mcY msY as a PY XY) (hy : ev_wS Y np) (hw : Cond.methodLink M.1.cls idx Y.1 ∈ ev_ws) (hd : decode M.2.1 pc = .ok (.invokestatic idx, 3)) (hst : st = as.reverse ++ rest) (hn : as.length = np) (hcat : (rest.map fun v => v.category).sum ≤ 8) (hdp : dY + 1 ≤ J.2.2.1) (hkd : J.1 = false) (hhh0 : J.2.1 = []) (hX : ∀ E b, XY E b → J.2.2.2.2.2.2 E b) (kk : ∀ v b, PY v b → ev_V G l M J (pc + 3) L (v.toList ++ rest) b k n) : ev_V G l M J pc L st a (k + mcY) (n + msY) := by
  intro p e R s d0 m args below meth c C hD H locs cells slots ls hR hS hc hs hl
  subst hst
  obtain ⟨hx, hb, hml, hown, hts, hret, hlk, hK, hE, hini, hhh, ⟨hr1, hr2, hr3, hr4⟩, hfl⟩ := id C
  have hmL := hy.2.2
  have hRm : (ev_rm dY mcY msY).frames + 1 ≤ R.frames ∧ 8 + (Y.2.2.1 + 11) + (ev_rm dY mcY msY).locals ≤ R.locals := ⟨by show dY + 1 ≤ _; omega, by show 8 + (Y.2.2.1 + 11) + 36 * dY ≤ _; omega⟩
  refine ev_backX (s := s.setDrawn d0) (vx_runS ⟨hx, hb, hml, hown, hts⟩ hM ⟨callB_of np hts (ev_gms hy.1.2.2) rfl rfl rfl (hts _ hy.1.2.1) (hts _ hw) hy.2.1 hRm, hts _ hy.1.1⟩ ⟨ev_pre_blind, ev_pre hK hE hR hS⟩ rfl hn hl.1 rfl (lv_room hcat) hd ⟨by omega, by omega⟩) hS (fun E ce q9 b H1 locs1 hp hR1 hS1 hce hcv hcf => ?_) (fun v b H1 locs1 hp hR1 hS1 => kk v b hp p e R s d0 m args below meth c C hD H1 locs1 _ _ ls hR1 hS1 (by omega) (by omega) hl)
  obtain ⟨kd, hh, d1, mc1, ms1, P1, X1⟩ := J
  dsimp only at hkd hhh0 hX
  subst hkd
  subst hhh0
  have h2 := hD.2 rfl
  subst h2
  exact vx_out (XC := ev_XC G X1) (E := E) (by rw [hhh]; exact fun x hx9 => nomatch hx9) hlk hce hcv hcf (fun t ht _ => ⟨⟨b, hX E b hp, by rw [ht]; exact hR1⟩, va_S.F (s := s) hS1 ht⟩) hS1.2.2 (by dsimp only at hc ⊢; omega) (by dsimp only at hs ⊢; omega)
theorem e_invI (hM : ev_Ct G l Y dY mcY msY (.ref q :: as) a PY (fun _ _ => False)) (hy : ev_wI Y np) (hw : Cond.methodLink M.1.cls idx Y.1 ∈ ev_ws) (hd : decode M.2.1 pc = .ok (.invokespecial idx, 3)) (hst : st = as.reverse ++ .ref q :: rest) (hn : as.length = np) (hcat : (rest.map fun v => v.category).sum ≤ 8) (hdp : dY + 1 ≤ J.2.2.1) (kk : ∀ v b, PY v b → ev_V G l M J (pc + 3) L (v.toList ++ rest) b k n) : ev_V G l M J pc L st a (k + mcY) (n + msY) := by
  intro p e R s d0 m args below meth c C hD H locs cells slots ls hR hS hc hs hl
  subst hst
  obtain ⟨hx, hb, hml, hown, hts, hret, hlk, hK, hE, hini, hhh, ⟨hr1, hr2, hr3, hr4⟩, hfl⟩ := id C
  have hmL := hy.2.2.1
  have hRm : (ev_rm dY mcY msY).frames + 1 ≤ R.frames ∧ 8 + (Y.2.2.1 + 11) + (ev_rm dY mcY msY).locals ≤ R.locals := ⟨by show dY + 1 ≤ _; omega, by show 8 + (Y.2.2.1 + 11) + 36 * dY ≤ _; omega⟩
  obtain ⟨⟨y1, bc, mL, rt⟩, hYe⟩ : ∃ z, z = Y := ⟨Y, rfl⟩
  subst hYe
  have hr0 : rt = none := hy.2.2.2.2
  subst hr0
  exact ev_back (s := s.setDrawn d0) (va_runI ⟨hx, hb, hml, hown, hts⟩ hM.met (cwI np hts (ev_gms hy.1.2.2) rfl rfl rfl (hts _ hy.1.2.1) (hts _ hw) (hts _ hy.1.1) hy.2.2.2.1 hy.2.1 hRm) ⟨ev_pre_blind, ev_pre hK hE hR hS⟩ rfl hn hl.1 rfl (lv_room hcat) hd ⟨by omega, by omega⟩) hS (fun v b H1 locs1 hp hR1 hS1 => kk v b hp p e R s d0 m args below meth c C hD H1 locs1 _ _ ls hR1 hS1 (by omega) (by omega) hl)
theorem e_invN (hM : ev_Ct G l Y dY mcY msY as a PY (fun _ _ => False)) (hy : ev_wS Y np) {host : String} (hw : Cond.methodLinkNest M.1.cls idx Y.1 host ∈ ev_nw) (hd : decode M.2.1 pc = .ok (.invokestatic idx, 3)) (hst : st = as.reverse ++ rest) (hn : as.length = np) (hcat : (rest.map fun v => v.category).sum ≤ 8) (hdp : dY + 1 ≤ J.2.2.1) (kk : ∀ v b, PY v b → ev_V G l M J (pc + 3) L (v.toList ++ rest) b k n) : ev_V G l M J pc L st a (k + mcY) (n + msY) := by
  intro p e R s d0 m args below meth c C hD H locs cells slots ls hR hS hc hs hl
  subst hst
  obtain ⟨hx, hb, hml, hown, hts, hret, hlk, hK, hE, hini, hhh, ⟨hr1, hr2, hr3, hr4⟩, hfl⟩ := id C
  have hmL := hy.2.2
  have hRm : (ev_rm dY mcY msY).frames + 1 ≤ R.frames ∧ 8 + (Y.2.2.1 + 11) + (ev_rm dY mcY msY).locals ≤ R.locals := ⟨by show dY + 1 ≤ _; omega, by show 8 + (Y.2.2.1 + 11) + 36 * dY ≤ _; omega⟩
  exact ev_back (s := s.setDrawn d0) (va_runSN ⟨hx, hb, hml, hown, hts⟩ hM.met ⟨va_cnB np hts (ev_gms hy.1.2.2) rfl rfl rfl (hE.2.1.1 _ hw) (hts _ hy.1.2.1) hy.2.1 hRm, hts _ hy.1.1, trivial⟩ ⟨ev_pre_blind, ev_pre hK hE hR hS⟩ rfl hn hl.1 rfl (lv_room hcat) hd ⟨by omega, by omega⟩) hS (fun v b H1 locs1 hp hR1 hS1 => kk v b hp p e R s d0 m args below meth c C hD H1 locs1 _ _ ls hR1 hS1 (by omega) (by omega) hl)
theorem e_invO (hM : ev_Ct G l Y dY mcY msY (.ref q :: as) a PY (fun _ _ => False)) (hy : ev_wI Y np) {host : String} (hw : Cond.methodLinkNest M.1.cls idx Y.1 host ∈ ev_nw) (hd : decode M.2.1 pc = .ok (.invokespecial idx, 3)) (hst : st = as.reverse ++ .ref q :: rest) (hn : as.length = np) (hcat : (rest.map fun v => v.category).sum ≤ 8) (hdp : dY + 1 ≤ J.2.2.1) (kk : ∀ v b, PY v b → ev_V G l M J (pc + 3) L (v.toList ++ rest) b k n) : ev_V G l M J pc L st a (k + mcY) (n + msY) := by
  intro p e R s d0 m args below meth c C hD H locs cells slots ls hR hS hc hs hl
  subst hst
  obtain ⟨hx, hb, hml, hown, hts, hret, hlk, hK, hE, hini, hhh, ⟨hr1, hr2, hr3, hr4⟩, hfl⟩ := id C
  have hmL := hy.2.2.1
  have hRm : (ev_rm dY mcY msY).frames + 1 ≤ R.frames ∧ 8 + (Y.2.2.1 + 11) + (ev_rm dY mcY msY).locals ≤ R.locals := ⟨by show dY + 1 ≤ _; omega, by show 8 + (Y.2.2.1 + 11) + 36 * dY ≤ _; omega⟩
  obtain ⟨⟨y1, bc, mL, rt⟩, hYe⟩ : ∃ z, z = Y := ⟨Y, rfl⟩
  subst hYe
  have hr0 : rt = none := hy.2.2.2.2
  subst hr0
  exact ev_back (s := s.setDrawn d0) (va_runIN ⟨hx, hb, hml, hown, hts⟩ hM.met ⟨va_cnB np hts (ev_gms hy.1.2.2) rfl rfl rfl (hE.2.1.1 _ hw) (hts _ hy.1.2.1) hy.2.1 hRm, hy.2.2.2.1, hts _ hy.1.1⟩ ⟨ev_pre_blind, ev_pre hK hE hR hS⟩ rfl hn hl.1 rfl (lv_room hcat) hd ⟨by omega, by omega⟩) hS (fun v b H1 locs1 hp hR1 hS1 => kk v b hp p e R s d0 m args below meth c C hD H1 locs1 _ _ ls hR1 hS1 (by omega) (by omega) hl)
theorem e_mmax {x y : Int32} (hw : Cond.methodLink M.1.cls idx Lib.Math.max.name ∈ ev_ws) (hst : (st.map fun v => v.category).sum ≤ 8) (hdp : 1 ≤ J.2.2.1) (hd : decode M.2.1 pc = .ok (.invokestatic idx, 3)) (h : ev_V G l M J (pc + 3) L (.int (if x < y then y else x) :: st) a k n) : ev_V G l M J pc L (.int y :: .int x :: st) a k n := by
  intro p e R s d0 m args below meth c C hD H locs cells slots ls hR hS hc hs hl
  obtain ⟨hx, hb, hml, hown, hts, hret, hlk, hK, hE, hini, hhh, ⟨hr1, hr2, hr3, hr4⟩, hfl⟩ := id C
  exact va_mmax hx hb (hml.trans hl.1.symm) hown (hts _ hw) (hts _ wT_Math_max) (hts _ wN_J9) (hts _ wC_Math_max) (by omega) (by omega) (by omega) (by omega) hd (h p e R s d0 m args below meth c C hD H locs cells slots ls hR hS hc hs hl)
theorem e_mmin {x y : Int32} (hw : Cond.methodLink M.1.cls idx Lib.Math.min.name ∈ ev_ws) (hst : (st.map fun v => v.category).sum ≤ 8) (hdp : 1 ≤ J.2.2.1) (hd : decode M.2.1 pc = .ok (.invokestatic idx, 3)) (h : ev_V G l M J (pc + 3) L (.int (if y < x then y else x) :: st) a k n) : ev_V G l M J pc L (.int y :: .int x :: st) a k n := by
  intro p e R s d0 m args below meth c C hD H locs cells slots ls hR hS hc hs hl
  obtain ⟨hx, hb, hml, hown, hts, hret, hlk, hK, hE, hini, hhh, ⟨hr1, hr2, hr3, hr4⟩, hfl⟩ := id C
  exact va_mmin hx hb (hml.trans hl.1.symm) hown (hts _ hw) (hts _ wT_Math_min) (hts _ wN_J9) (hts _ wC_Math_min) (by omega) (by omega) (by omega) (by omega) hd (h p e R s d0 m args below meth c C hD H locs cells slots ls hR hS hc hs hl)
theorem e_mabs {x : Int32} (hw : Cond.methodLink M.1.cls idx Lib.Math.abs.name ∈ ev_ws) (hst : (st.map fun v => v.category).sum ≤ 8) (hdp : 1 ≤ J.2.2.1) (hd : decode M.2.1 pc = .ok (.invokestatic idx, 3)) (h : ev_V G l M J (pc + 3) L (.int (if 0 ≤ x then x else 0 - x) :: st) a k n) : ev_V G l M J pc L (.int x :: st) a k n := by
  intro p e R s d0 m args below meth c C hD H locs cells slots ls hR hS hc hs hl
  obtain ⟨hx, hb, hml, hown, hts, hret, hlk, hK, hE, hini, hhh, ⟨hr1, hr2, hr3, hr4⟩, hfl⟩ := id C
  exact va_mabs hx hb (hml.trans hl.1.symm) hown (hts _ hw) (hts _ wT_Math_abs) (hts _ wN_J9) (hts _ wC_Math_abs) (by omega) (by omega) (by omega) (by omega) hd (h p e R s d0 m args below meth c C hD H locs cells slots ls hR hS hc hs hl)
theorem e_mmaxL {x y : Int64} (hw : Cond.methodLink M.1.cls idx Lib.MathLoose.max_long.x ∈ ev_ws) (hst : (st.map fun v => v.category).sum ≤ 8) (hdp : 1 ≤ J.2.2.1) (hd : decode M.2.1 pc = .ok (.invokestatic idx, 3)) (h : ev_V G l M J (pc + 3) L (.long (if y < x then x else y) :: st) a k n) : ev_V G l M J pc L (.long y :: .long x :: st) a k n := by
  intro p e R s d0 m args below meth c C hD H locs cells slots ls hR hS hc hs hl
  obtain ⟨hx, hb, hml, hown, hts, hret, hlk, hK, hE, hini, hhh, ⟨hr1, hr2, hr3, hr4⟩, hfl⟩ := id C
  exact va_mmax_long hx hb (hml.trans hl.1.symm) hown (hts _ hw) (hts _ wT_Math_maxL) (hts _ wN_J9) (hts _ wC_Math_maxL) (by omega) (by omega) (by omega) (by omega) hd (h p e R s d0 m args below meth c C hD H locs cells slots ls hR hS hc hs hl)
theorem e_mminL {x y : Int64} (hw : Cond.methodLink M.1.cls idx Lib.MathLoose.min_long.x ∈ ev_ws) (hst : (st.map fun v => v.category).sum ≤ 8) (hdp : 1 ≤ J.2.2.1) (hd : decode M.2.1 pc = .ok (.invokestatic idx, 3)) (h : ev_V G l M J (pc + 3) L (.long (if y < x then y else x) :: st) a k n) : ev_V G l M J pc L (.long y :: .long x :: st) a k n := by
  intro p e R s d0 m args below meth c C hD H locs cells slots ls hR hS hc hs hl
  obtain ⟨hx, hb, hml, hown, hts, hret, hlk, hK, hE, hini, hhh, ⟨hr1, hr2, hr3, hr4⟩, hfl⟩ := id C
  exact va_mmin_long hx hb (hml.trans hl.1.symm) hown (hts _ hw) (hts _ wT_Math_minL) (hts _ wN_J9) (hts _ wC_Math_minL) (by omega) (by omega) (by omega) (by omega) hd (h p e R s d0 m args below meth c C hD H locs cells slots ls hR hS hc hs hl)
theorem e_mabsL {x : Int64} (hw : Cond.methodLink M.1.cls idx Lib.MathLoose.abs_long.x ∈ ev_ws) (hst : (st.map fun v => v.category).sum ≤ 8) (hdp : 1 ≤ J.2.2.1) (hd : decode M.2.1 pc = .ok (.invokestatic idx, 3)) (h : ev_V G l M J (pc + 3) L (.long (if 0 < x then x else -x) :: st) a k n) : ev_V G l M J pc L (.long x :: st) a k n := by
  intro p e R s d0 m args below meth c C hD H locs cells slots ls hR hS hc hs hl
  obtain ⟨hx, hb, hml, hown, hts, hret, hlk, hK, hE, hini, hhh, ⟨hr1, hr2, hr3, hr4⟩, hfl⟩ := id C
  exact va_mabs_long hx hb (hml.trans hl.1.symm) hown (hts _ hw) (hts _ wT_Math_absL) (hts _ wN_J9) (hts _ wC_Math_absL) (by omega) (by omega) (by omega) (by omega) hd (h p e R s d0 m args below meth c C hD H locs cells slots ls hR hS hc hs hl)
end EVI
