/-! rows for the law: calls caught here, calls of methods with handlers; the heap that the law works on -/
section LW0
variable {G : ev_G} {l : Launch} {M : ev_M} {J : ev_K} {pc k n : Nat} {L : List (Option Value)} {st rest : List Value} {a : ev_H} {Y : ev_M} {dY mcY msY idx np q ci N : Nat} {T : u_T} {as fs : List Value} {PY : Option Value → ev_H → Prop} {XY : String → ev_H → Prop}
/-- what is thrown is caught by the entry x, past the entries before it -/
def ev_Hd (G : ev_G) (l : Launch) (M : ev_M) (J : ev_K) (pc : Nat) (L : List (Option Value)) (k n : Nat) (E : String) (b : ev_H) : Prop :=
  ∃ (pre suf : List ExceptionTableEntry) (x : ExceptionTableEntry) (nm : String), J.2.1 = pre ++ x :: suf ∧ covers x pc = true ∧ x.catchType ≠ 0 ∧ Cond.classLink M.1.cls x.catchType nm ∈ ev_ws ∧ Cond.castable E nm ∈ ev_nw ∧
    (∀ z ∈ pre, z.catchType ≠ 0 ∧ ∃ nm9 : String, Cond.classLink M.1.cls z.catchType nm9 ∈ ev_ws ∧ (E, nm9) ∈ ev_nc) ∧ ∀ t : Nat, ev_V G l M J x.handlerPc L [.ref t] b k n
theorem e_invVC (hM : ev_Ct G l Y dY mcY msY (.ref q :: as) a PY XY) (hy : ev_wV Y np) (hw : Cond.methodLink M.1.cls idx Y.1 ∈ ev_ws) (ha : a.1 q = some (.inr (ci, fs))) (hcl : vwCl[ci]? = some (Y.1.cls, T, N)) (hd : decode M.2.1 pc = .ok (.invokevirtual idx, 3)) (hst : st = as.reverse ++ .ref q :: rest) (hn : as.length = np) (hcat : (rest.map fun v => v.category).sum ≤ 8) (hdp : dY + 1 ≤ J.2.2.1) (hX : ∀ E b, XY E b → ev_Hd G l M J pc L k n E b) (kk : ∀ v b, PY v b → ev_V G l M J (pc + 3) L (v.toList ++ rest) b k n) : ev_V G l M J pc L st a (k + mcY) (n + msY) := by
  intro p e R s d0 m args below meth c C hD H locs cells slots ls hR hS hc hs hl
  subst hst
  obtain ⟨hx, hb, hml, hown, hts, hret, hlk, hK, hE, hini, hhh, ⟨hr1, hr2, hr3, hr4⟩, hfl⟩ := id C
  have hmL := hy.2.2
  have hRm : (ev_rm dY mcY msY).frames + 1 ≤ R.frames ∧ 8 + (Y.2.2.1 + 11) + (ev_rm dY mcY msY).locals ≤ R.locals := ⟨by show dY + 1 ≤ _; omega, by show 8 + (Y.2.2.1 + 11) + 36 * dY ≤ _; omega⟩
  refine ev_backX (s := s.setDrawn d0) (vx_runV ⟨hx, hb, hml, hown, hts⟩ hM (cwV np hts (ev_gV hy hw) rfl rfl rfl ⟨rfl, hy.2.1⟩ hRm) ⟨ev_pre_blind, ev_recv hK hR ha hcl, ev_pre hK hE hR hS⟩ rfl hn hl.1 rfl (lv_room hcat) hd ⟨by omega, by omega⟩) hS (fun E ce q9 b H1 locs1 hp hR1 hS1 hce hcv hcf => ?_) (fun v b H1 locs1 hp hR1 hS1 => kk v b hp p e R s d0 m args below meth c C hD H1 locs1 _ _ ls hR1 hS1 (by omega) (by omega) hl)
  obtain ⟨pre, suf, x, nm, hJ, hcov, h0, hlk9, hca, hpre, hk⟩ := hX E b hp
  refine vx_catch hown pre x suf (hhh.trans hJ) (fun z hz => ?_) hcov h0 (hts _ hlk9) (ev_nw_use hca (hE.2.1.1 _ hca)) hce hcv hcf (hk q9 p e R s d0 m args below meth c C hD H1 locs1 _ _ ls hR1 hS1 (by omega) (by omega) hl)
  obtain ⟨z0, nm9, z1, z2⟩ := hpre z hz
  exact Or.inr ⟨z0, nm9, hts _ z1, hE.2.1.2.2.2 _ z2⟩
/-- a method with handlers that throws nothing -/
def ev_Ht (G : ev_G) (l : Launch) (M : ev_M) (hh : List (Nat × Nat × Nat × Nat)) (d mc ms : Nat) (as : List Value) (a : ev_H) (P : Option Value → ev_H → Prop) : Prop :=
  Met l M.1 (Cond.codeWith M.1 M.2.1 M.2.2.1 M.2.2.2 hh :: ev_ws) (ev_rm d mc ms) (ev_Pre G as a) (ev_Qc G P) mc ms (ev_A G)
theorem ev_Ht.of {hh : List (Nat × Nat × Nat × Nat)} {d mc ms : Nat} {P : Option Value → ev_H → Prop} (hy : plainName M.1.cls = true) (hni : M.1.name ≠ "<init>") (hn : (lg_sl as).length ≤ M.2.2.1) (h : ev_V G l M (false, tableOf hh, d, mc, ms, P, fun _ _ => False) 0 (ev_ar as) [] a mc ms) : ev_Ht G l M hh d mc ms as a P := by
  have h1 : vx_Met l M.1 (Cond.codeWith M.1 M.2.1 M.2.2.1 M.2.2.2 hh :: ev_ws) (ev_rm d mc ms) (ev_Pre G as a) (ev_Qc G P) (ev_XC G (fun _ _ => False)) mc ms (ev_A G) := by
    refine vx_ofWH (cc := M.2.1) (maxL := M.2.2.1) (ret := M.2.2.2) (hh := hh) hy rfl ?_
    intro p e s m args below meth c s₁ B hml hv
    obtain ⟨rfl, h1, h2, h3⟩ := hv
    have hts := atoms_spec (ws := Cond.codeWith M.1 M.2.1 M.2.2.1 M.2.2.2 hh :: ev_ws) B.pre
    have C : ev_C G M (tableOf hh) d mc ms p (headSpec (Cond.codeWith M.1 M.2.1 M.2.2.1 M.2.2.2 hh :: ev_ws) (ev_rm d mc ms)).room (s.setDrawn s.drawn) m as.toArray meth c := ⟨B.exec, B.bytes, hml, findClass_of_methodNamed B.named, fun w hw => hts w (List.mem_cons_of_mem _ hw), B.returns, B.notSynchronized, h2, h3, fun hi => absurd hi hni, vx_table (x := M.1) B (hts _ List.mem_cons_self), ⟨Nat.le_refl _, Nat.le_refl _, Nat.le_refl _, Nat.le_refl _⟩, h1.2.2⟩
    rw [lg_entry_eq]
    exact h p e _ s s.drawn m as.toArray below meth c C ⟨(fun h => nomatch h), fun _ => rfl⟩ s.heap [] 0 0 _ h1 va_S.rf (by show 0 + mc ≤ mc; omega) (by show 0 + ms ≤ ms; omega) (ev_has.entry as hn)
  intro p e ha hc hk s m args below hf happ hP hK
  obtain ⟨n, o, h3, h4, h5, h6⟩ := h1 p e ha hc hk s m args below hf happ hP hK
  refine ⟨n, o, h3, h4, h5, ?_⟩
  rcases h6 with h6 | ⟨q, -, E, ce, L, ⟨⟨a', hx, -⟩, -⟩, -⟩
  · exact h6
  · exact hx.elim
def ev_wSH (Y : ev_M) (hh : List (Nat × Nat × Nat × Nat)) (np : Nat) : Prop := (Cond.static Y.1 ∈ ev_ws ∧ Cond.initialized Y.1.cls ∈ ev_ws ∧ Cond.codeWith Y.1 Y.2.1 Y.2.2.1 Y.2.2.2 hh ∈ ev_ws) ∧ (Y.1.cls ≠ "java/lang/invoke/MethodHandle" ∧ Y.1.cls ≠ "java/lang/invoke/VarHandle" ∧ (parseMethodDescriptor Y.1.desc).map (fun d => d.parameters.length) = some np) ∧ Y.2.2.1 ≤ 17
theorem e_invSH {hh : List (Nat × Nat × Nat × Nat)} (hM : ev_Ht G l Y hh dY mcY msY as a PY) (hy : ev_wSH Y hh np) (hw : Cond.methodLink M.1.cls idx Y.1 ∈ ev_ws) (hd : decode M.2.1 pc = .ok (.invokestatic idx, 3)) (hst : st = as.reverse ++ rest) (hn : as.length = np) (hcat : (rest.map fun v => v.category).sum ≤ 8) (hdp : dY + 1 ≤ J.2.2.1) (kk : ∀ v b, PY v b → ev_V G l M J (pc + 3) L (v.toList ++ rest) b k n) : ev_V G l M J pc L st a (k + mcY) (n + msY) := by
  intro p e R s d0 m args below meth c C hD H locs cells slots ls hR hS hc hs hl
  subst hst
  obtain ⟨hx, hb, hml, hown, hts, hret, hlk, hK, hE, hini, hhh, ⟨hr1, hr2, hr3, hr4⟩, hfl⟩ := id C
  have hmL := hy.2.2
  have hRm : (ev_rm dY mcY msY).frames + 1 ≤ R.frames ∧ 8 + (Y.2.2.1 + 11) + (ev_rm dY mcY msY).locals ≤ R.locals := ⟨by show dY + 1 ≤ _; omega, by show 8 + (Y.2.2.1 + 11) + 36 * dY ≤ _; omega⟩
  have hg : GoodIn ev_ws (va_wsS M.1.cls idx Y.1 (Cond.codeWith Y.1 Y.2.1 Y.2.2.1 Y.2.2.2 hh :: ev_ws)) := by
    intro w hm
    rcases List.mem_append.mp hm with hm | hm
    · simp only [List.mem_cons, List.not_mem_nil, or_false] at hm
      rcases hm with rfl | rfl | rfl
      · exact ⟨hw, ev_gw hw⟩
      · exact ⟨hy.1.1, ev_gw hy.1.1⟩
      · exact ⟨hy.1.2.1, ev_gw hy.1.2.1⟩
    · rcases List.mem_cons.mp hm with rfl | hm
      · exact ⟨hy.1.2.2, ev_gw hy.1.2.2⟩
      · exact ⟨hm, ev_gw hm⟩
  exact ev_back (s := s.setDrawn d0) (vx_runSW ⟨hx, hb, hml, hown, hts⟩ hM (vx_cwSW np hts hg rfl rfl rfl hy.2.1 hRm) ⟨ev_pre_blind, ev_pre hK hE hR hS⟩ rfl hn hl.1 rfl (lv_room hcat) hd ⟨by omega, by omega⟩) hS (fun v b H1 locs1 hp hR1 hS1 => kk v b hp p e R s d0 m args below meth c C hD H1 locs1 _ _ ls hR1 hS1 (by omega) (by omega) hl)
end LW0
/-! the law's heap: the class's cells, the model's, the array of one long -/
def lwO (G : ev_G) (q : Nat) (o : Nat → Int64) : ev_H := (fun x => if x = q then some (.inl (G.2.1 1, 1, .inr (.inl o))) else none, none)
def lwH (G : ev_G) (b : Nat) (S : SS) (μ : MS) (o : Nat → Int64) : ev_H := sy G b S (mo G (b + 157) μ (lwO G (b + 172) o))
theorem lwH_mo (G : ev_G) (b : Nat) (S : SS) (μ : MS) (o : Nat → Int64) : lwH G b S μ o = mo G (b + 157) μ (sy G b S (lwO G (b + 172) o)) := by
  refine Prod.ext (funext fun q => ?_) rfl
  show (if b ≤ q ∧ q < b + 157 then some (sy_cell G b S (q - b)) else (if b + 157 ≤ q ∧ q < b + 157 + 15 then some (mo_cell G (b + 157) μ (q - (b + 157))) else (lwO G (b + 172) o).1 q)) = (if b + 157 ≤ q ∧ q < b + 157 + 15 then some (mo_cell G (b + 157) μ (q - (b + 157))) else (if b ≤ q ∧ q < b + 157 then some (sy_cell G b S (q - b)) else (lwO G (b + 172) o).1 q))
  by_cases c1 : b ≤ q ∧ q < b + 157
  · rw [if_pos c1, if_neg (by omega), if_pos c1]
  · rw [if_neg c1, if_neg c1]
theorem lwH_out (G : ev_G) (b : Nat) (S : SS) (μ : MS) (o : Nat → Int64) : (lwH G b S μ o).1 (b + 172) = some (.inl (G.2.1 1, 1, .inr (.inl o))) := by
  show (if b ≤ b + 172 ∧ b + 172 < b + 157 then _ else (if b + 157 ≤ b + 172 ∧ b + 172 < b + 157 + 15 then _ else (if b + 172 = b + 172 then _ else none))) = _
  rw [if_neg (by omega), if_neg (by omega), if_pos rfl]
theorem lwH_put (G : ev_G) (b : Nat) (S : SS) (μ : MS) (o o' : Nat → Int64) : ev_put (lwH G b S μ o) (b + 172) (.inl (G.2.1 1, 1, .inr (.inl o'))) = lwH G b S μ o' := by
  refine Prod.ext (funext fun q => ?_) rfl
  show (if q = b + 172 then _ else (if b ≤ q ∧ q < b + 157 then some (sy_cell G b S (q - b)) else (if b + 157 ≤ q ∧ q < b + 157 + 15 then some (mo_cell G (b + 157) μ (q - (b + 157))) else (if q = b + 172 then _ else none)))) = (if b ≤ q ∧ q < b + 157 then some (sy_cell G b S (q - b)) else (if b + 157 ≤ q ∧ q < b + 157 + 15 then some (mo_cell G (b + 157) μ (q - (b + 157))) else (if q = b + 172 then some (.inl (G.2.1 1, 1, .inr (.inl o'))) else none)))
  by_cases c1 : q = b + 172
  · rw [if_pos c1, if_neg (by omega), if_neg (by omega), if_pos c1]
  · rw [if_neg c1, if_neg c1, if_neg c1]
theorem lwH_x (G : ev_G) (b : Nat) (S : SS) (μ : MS) (o : Nat → Int64) : ∃ fs, (lwH G b S μ o).1 b = some (.inr (6, fs)) := ⟨_, sy_at G b S _ 0 (by decide)⟩
theorem lwH_m (G : ev_G) (b : Nat) (S : SS) (μ : MS) (o : Nat → Int64) : ∃ fs, (lwH G b S μ o).1 (b + 157) = some (.inr (7, fs)) := by
  rw [lwH_mo]
  exact ⟨_, mo_at G (b + 157) μ _ 0 (by decide)⟩
