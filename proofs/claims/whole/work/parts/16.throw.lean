/-! exceptions of the class's own; its guards; its history -/
theorem ev_nw_use {w : Cond} (hw : w ∈ ev_nw) {s : State} (h : va_Nw w s) {args : Array Value} : w.before args s = true := by
  have g := (List.mem_filter.mp hw).2
  refine va_Nw.use ?_ h
  cases w <;> first | rfl | exact absurd g (by simp [ev_nwk])
def thr_names : List String := ["java/lang/RuntimeException", "java/lang/Exception"]
theorem thr_n : ∀ n ∈ thr_names, Bundle.fit n = true := by decide +kernel
theorem thr_of {ws : List Cond} (h : ws.all (fun w => decide (w ∈ lw_tbl) && (goodWord w || ev_nwk w)) = true) : ∀ w ∈ ws, w ∈ ev_ws ∨ w ∈ ev_nw := by
  intro w hw
  have h1 := List.all_eq_true.mp h w hw
  simp only [Bool.and_eq_true, decide_eq_true_eq, Bool.or_eq_true] at h1
  rcases h1.2 with g | g
  · exact Or.inl (List.mem_filter.mpr ⟨h1.1, g⟩)
  · exact Or.inr (List.mem_filter.mpr ⟨h1.1, g⟩)
section EVT
variable {G : ev_G} {l : Launch} {M : ev_M} {J : ev_K} {pc k n : Nat} {L : List (Option Value)} {st : List Value} {a : ev_H}
theorem e_throwS {E tx : String} {ik is ic j : Nat} (hl0 : l.stackTraces = false) (hcls : Bundle.fit E = true) (hnames : ∀ n ∈ thr_names, Bundle.fit n = true) (hk0 : Cond.classLink M.1.cls ik E ∈ ev_ws) (hini0 : Cond.initialized E ∈ ev_ws) (hstr : (M.1.cls, is, tx, j) ∈ ev_strs) (hat : ∀ w ∈ vx_atS M.1.cls ic E thr_names, w ∈ ev_ws ∨ w ∈ ev_nw) (hgood : ∀ w ∈ Cond.classLink M.1.cls ik E :: Cond.initialized E :: vx_atS M.1.cls ic E thr_names, vx_ot w = true)
    (d0' : decode M.2.1 pc = .ok (.new ik, 3)) (d3 : decode M.2.1 (pc + 3) = .ok (.dup, 1)) (d4 : decode M.2.1 (pc + 4) = .ok (.ldc is, 2)) (d6 : decode M.2.1 (pc + 6) = .ok (.invokespecial ic, 3)) (d9 : decode M.2.1 (pc + 9) = .ok (.athrow, 1)) (hkd : J.1 = false) (hhh0 : J.2.1 = []) (hdp : 6 ≤ J.2.2.1) (hcat : (st.map fun v => v.category).sum ≤ 8) (hX : J.2.2.2.2.2.2 E (a.1, none)) : ev_V G l M J pc L st a (k + 1) (n + 6) := by
  intro p e R s d0 m args below meth c C hD H locs cells slots ls hR hS hc hs hl
  obtain ⟨hx, hb, hml, hown, hts, hret, hlk, hK, hE, hini, hhh, ⟨hr1, hr2, hr3, hr4⟩, hfl⟩ := id C
  obtain ⟨kd, hh, d1, mc1, ms1, P1, X1⟩ := J
  dsimp only at hkd hhh0 hX hdp hc hs hr1 hr2 hr3 hr4 hhh
  subst hkd
  subst hhh0
  have h2 := hD.2 rfl
  subst h2
  have hlen : thr_names.length = 2 := rfl
  exact vx_throwS hx hb hl0 hown hcls hnames (hts _ hk0) (hts _ hini0) (hE.2.2.1.2.1 _ hstr) (fun w hw => (hat w hw).elim (fun q => hts w q) (fun q => ev_nw_use q (hE.2.1.1 w q))) hgood hE.1.1 hE.1.2 hS (hl.1.trans hml.symm) d0' d3 d4 d6 d9 (by rw [hhh]; exact fun x hx9 => nomatch hx9) (by rw [hlen]; omega) (by rw [hlen]; omega) (by omega) (by omega) hlk
    (fun t hA hz ho => ⟨⟨(a.1, none), hX, ev_R.top (f := a.1) (z := a.2) hR hz ho⟩, Nat.le_trans hS.1 hz, fun q h1 h2 => (ho q (Nat.lt_of_lt_of_le h1 hS.1)).trans (hS.2.1 q h1 h2)⟩) hS.2.2 (by show cells + 1 ≤ mc1; omega) (by show slots + 6 ≤ ms1; omega)
end EVT
theorem e_throwN {G : ev_G} {l : Launch} {M : ev_M} {J : ev_K} {pc k n : Nat} {L : List (Option Value)} {st : List Value} {a : ev_H} {tx : String} {ik is ic j : Nat} (hl0 : l.stackTraces = false) (hk0 : Cond.classLink M.1.cls ik "java/util/NoSuchElementException" ∈ ev_ws) (hini0 : Cond.initialized "java/util/NoSuchElementException" ∈ ev_ws) (hstr : (M.1.cls, is, tx, j) ∈ ev_strs)
    (d0' : decode M.2.1 pc = .ok (.new ik, 3)) (d3 : decode M.2.1 (pc + 3) = .ok (.dup, 1)) (d4 : decode M.2.1 (pc + 4) = .ok (.ldc is, 2)) (d6 : decode M.2.1 (pc + 6) = .ok (.invokespecial ic, 3)) (d9 : decode M.2.1 (pc + 9) = .ok (.athrow, 1)) (hkd : J.1 = false) (hhh0 : J.2.1 = []) (hdp : 6 ≤ J.2.2.1) (hcat : (st.map fun v => v.category).sum ≤ 8) (hX : J.2.2.2.2.2.2 "java/util/NoSuchElementException" (a.1, none)) : ev_V G l M J pc L st a (k + 1) (n + 6) := sorry
set_option maxRecDepth 100000 in
theorem thr_161 : ∀ w ∈ vx_atS RX6 161 "java/lang/IllegalArgumentException" thr_names, w ∈ ev_ws ∨ w ∈ ev_nw := thr_of (by decide +kernel)
set_option maxRecDepth 100000 in
theorem thr_g161 : ∀ w ∈ Cond.classLink RX6 157 "java/lang/IllegalArgumentException" :: Cond.initialized "java/lang/IllegalArgumentException" :: vx_atS RX6 161 "java/lang/IllegalArgumentException" thr_names, vx_ot w = true := by decide +kernel
set_option maxRecDepth 100000 in
theorem thr_207 : ∀ w ∈ vx_atS RX6 207 "java/lang/IndexOutOfBoundsException" thr_names, w ∈ ev_ws ∨ w ∈ ev_nw := thr_of (by decide +kernel)
set_option maxRecDepth 100000 in
theorem thr_g207 : ∀ w ∈ Cond.classLink RX6 203 "java/lang/IndexOutOfBoundsException" :: Cond.initialized "java/lang/IndexOutOfBoundsException" :: vx_atS RX6 207 "java/lang/IndexOutOfBoundsException" thr_names, vx_ot w = true := by decide +kernel
set_option maxRecDepth 100000 in
theorem thr_168 : ∀ w ∈ vx_atS RX6 168 "java/lang/IllegalStateException" thr_names, w ∈ ev_ws ∨ w ∈ ev_nw := thr_of (by decide +kernel)
set_option maxRecDepth 100000 in
theorem thr_g168 : ∀ w ∈ Cond.classLink RX6 164 "java/lang/IllegalStateException" :: Cond.initialized "java/lang/IllegalStateException" :: vx_atS RX6 168 "java/lang/IllegalStateException" thr_names, vx_ot w = true := by decide +kernel
