/-! exceptions of the class's own; its guards; its history -/
theorem ev_nw_use {w : Cond} (hw : w ∈ ev_nw) {s : State} (h : va_Nw w s) {args : Array Value} : w.before args s = true := by
  have g := (List.mem_filter.mp hw).2
  refine va_Nw.use ?_ h
  cases w <;> first | rfl | exact absurd g (by simp [ev_nwk])
def thr_names : List String := ["java/lang/RuntimeException", "java/lang/Exception"]
theorem thr_n : ∀ n ∈ thr_names, Bundle.fit n = true := by decide +kernel
theorem thr_of {ws : List Cond} (h : ws.all (fun w => decide (w ∈ lw_tbl) && (goodWord w || ev_nwk w)) = true) : ∀ w ∈ ws, w ∈ ev_ws ∨ w ∈ ev_nw := by
  intro w hw
  have h1 := List.all_eq_true.mp h w hw
  simp only [Bool.and_eq_true, decide_eq_true_eq, Bool.or_eq_true] at h1
  rcases h1.2 with g | g
  · exact Or.inl (List.mem_filter.mpr ⟨h1.1, g⟩)
  · exact Or.inr (List.mem_filter.mpr ⟨h1.1, g⟩)
section EVT
variable {G : ev_G} {l : Launch} {M : ev_M} {J : ev_K} {pc k n : Nat} {L : List (Option Value)} {st : List Value} {a : ev_H}
theorem e_throwS {E tx : String} {ik is ic j : Nat} (hl0 : l.stackTraces = false) (hcls : Bundle.fit E = true) (hnames : ∀ n ∈ thr_names, Bundle.fit n = true) (hk0 : Cond.classLink M.1.cls ik E ∈ ev_ws) (hini0 : Cond.initialized E ∈ ev_ws) (hstr : (M.1.cls, is, tx, j) ∈ ev_strs) (hat : ∀ w ∈ vx_atS M.1.cls ic E thr_names, w ∈ ev_ws ∨ w ∈ ev_nw) (hgood : ∀ w ∈ Cond.classLink M.1.cls ik E :: Cond.initialized E :: vx_atS M.1.cls ic E thr_names, vx_ot w = true)
    (d0' : decode M.2.1 pc = .ok (.new ik, 3)) (d3 : decode M.2.1 (pc + 3) = .ok (.dup, 1)) (d4 : decode M.2.1 (pc + 4) = .ok (.ldc is, 2)) (d6 : decode M.2.1 (pc + 6) = .ok (.invokespecial ic, 3)) (d9 : decode M.2.1 (pc + 9) = .ok (.athrow, 1)) (hkd : J.1 = false) (hhh0 : J.2.1 = []) (hdp : 6 ≤ J.2.2.1) (hcat : (st.map fun v => v.category).sum ≤ 8) (hX : J.2.2.2.2.2.2 E (a.1, none)) : ev_V G l M J pc L st a (k + 1) (n + 6) := by
  intro p e R s d0 m args below meth c C hD H locs cells slots ls hR hS hc hs hl
  obtain ⟨hx, hb, hml, hown, hts, hret, hlk, hK, hE, hini, hhh, ⟨hr1, hr2, hr3, hr4⟩, hfl⟩ := id C
  obtain ⟨kd, hh, d1, mc1, ms1, P1, X1⟩ := J
  dsimp only at hkd hhh0 hX hdp hc hs hr1 hr2 hr3 hr4 hhh
  subst hkd
  subst hhh0
  have h2 := hD.2 rfl
  subst h2
  have hlen : thr_names.length = 2 := rfl
  exact vx_throwS hx hb hl0 hown hcls hnames (hts _ hk0) (hts _ hini0) (hE.2.2.1.2.1 _ hstr) (fun w hw => (hat w hw).elim (fun q => hts w q) (fun q => ev_nw_use q (hE.2.1.1 w q))) hgood hE.1.1 hE.1.2 hS (hl.1.trans hml.symm) d0' d3 d4 d6 d9 (by rw [hhh]; exact fun x hx9 => nomatch hx9) (by rw [hlen]; omega) (by rw [hlen]; omega) (by omega) (by omega) hlk
    (fun t hA hz ho => ⟨⟨(a.1, none), hX, ev_R.top (f := a.1) (z := a.2) hR hz ho⟩, Nat.le_trans hS.1 hz, fun q h1 h2 => (ho q (Nat.lt_of_lt_of_le h1 hS.1)).trans (hS.2.1 q h1 h2)⟩) hS.2.2 (by show cells + 1 ≤ mc1; omega) (by show slots + 6 ≤ ms1; omega)
end EVT
/-! a throw whose class's constructor links its super's by another index: after the library's law for the usual index, with less promised of the cell -/
/-- the words of such a throw: the first link's by index ix and bytes rx, the others as usual -/
def tn_own (own : String) (ic : Nat) (X : String) (ix : Nat) (rx : ByteArray) (Y : String) (r : List String) : List Cond :=
  Bundle.throwableAtoms ++ (Bundle.throwableSAtoms ++ (Bundle.passSAtoms X Y ix rx ++ (Bundle.chainSAtoms Y r ++ [Cond.methodLink own ic (Bundle.initS X), .instantiable X 6, .selects X Bundle.tFill0 Bundle.tFill0, .selects X Bundle.tFill Bundle.tFill, .lays X Bundle.tN "cause" "Ljava/lang/Throwable;", .lays X Bundle.tN "stackTrace" Bundle.steD, .lays X Bundle.tN "suppressedExceptions" Bundle.listD, .lays X Bundle.tN "detailMessage" "Ljava/lang/String;", .lays X Bundle.tN "backtrace" "Ljava/lang/Object;", .lays Bundle.tN Bundle.tN "backtrace" "Ljava/lang/Object;", .fieldLink Bundle.tN 198 Bundle.tN "backtrace" "Ljava/lang/Object;", .isRef (.static Bundle.tN "UNASSIGNED_STACK" Bundle.steD), .isRef (.static Bundle.tN "SUPPRESSED_SENTINEL" Bundle.listD)])))
set_option maxHeartbeats 2000000 in
theorem tn_ctor {p : Program} {l : Launch} {e : Env} {R : Room} {s : State} {m₀ : MethodId} {args : Array Value} {below : List Frame} {meth : Method} {c : Code} {W : State} {locs : List Loc} {cells slots : Nat} (X : Stand p l e R s m₀ args below meth c W locs cells slots) (hexec : p.tables.exec = Jvm.exec) (htr : e.platform.stackTraces = false) {own cls Y9 : String} {r9 : List String} {ic : Nat}
    {ix : Nat} {rx : ByteArray} (x0 : decode rx 0 = .ok (.aload_n 0, 1)) (x1 : decode rx 1 = .ok (.aload_n 1, 1)) (x2 : decode rx 2 = .ok (.invokespecial ix, 3)) (x5 : decode rx 5 = .ok (.return_, 1))
    (hown : s.vm.findClass own = some m₀.cls) (hcls : Bundle.fit cls = true) (hY9 : Bundle.fit Y9 = true) (hnames : ∀ n ∈ r9, Bundle.fit n = true) (h : ∀ a ∈ tn_own own ic cls ix rx Y9 r9, a.before args s = true)
    (hlocs : ∀ x ∈ locs, ∀ cell, s.heap[x.base]? = some cell → cell.vm.isStatics = false)
    {a : Addr} {cX : ClassId} {kX : Class} (hfoundX : s.vm.findClass cls = some cX) (hkX : s.vm.classes[cX]? = some kX) (hcell : W.heap[a]? = some (freshCell cX kX)) (hnew : s.heap.size ≤ a) {msg : Value} (hmsg : msg.isRef = true)
    {g : JFrame} (hg : g.method = m₀) (hsize : g.locals.size = c.maxLocals) (hlocked : g.locked = none) (hentered : g.entered = []) {rest : List Value} (hstack : g.stack = msg :: .ref a :: .ref a :: rest)
    (hd6 : decode c.code g.pc = .ok (.invokespecial ic, 3)) (hd9 : decode c.code (g.pc + 3) = .ok (.athrow, 1)) (hout : ∀ x ∈ c.exceptionTable.toList, covers x (g.pc + 3) = false)
    (hRframes : r9.length + 1 + 3 < R.frames) (hRlocals : 2 * g.monitorRoom + ((Value.ref a :: rest).map fun v => v.category).sum + (13 * (r9.length + 1 + 1) + 42) ≤ R.locals) (hlocks : meth.locks = false) :
    ∃ U : State, Steps p.tables e below (W.setTop g) U ∧ U.status = .running ∧ Ended U below (.threw a) ∧ s.WarmedH U.vm ∧ s.sameButNew ({ U with vm := s.vm } : State) locs cells slots ∧ ∃ ce, U.heap[a]? = some ce ∧ s.vm.findClass cls = some ce.cls ∧ ce.vm = .none := by
  have howns : e.platform.frameOwnsMonitors = true := by rw [X.admits.platform]
  have hfin : e.platform.finalization = false := by rw [X.admits.platform]
  have hpl : e.platform.magicAccessors = ({} : Platform).magicAccessors := by rw [X.admits.platform]
  have h9 : ∀ x, x ∈ tn_own own ic cls ix rx Y9 r9 → x.holds args s none s [] = true := fun x hx => h x hx
  obtain ⟨T, Z0, L, -, Y⟩ := ThrowableC.of_atoms (args := args) howns hfin hpl (fun x hx => h x (by simp [tn_own, hx]))
  obtain ⟨Z, M, LZ, LM, hnZ⟩ := Init0T.ofS_atoms (args := args) hpl L Y (fun x hx => h x (by simp [tn_own, hx]))
  obtain ⟨P1, L1, hP1m, hs1⟩ := PassC.ofS_atoms (args := args) (s := s) hpl (X := cls) (Y := Y9) (Bundle.fit_spec hcls).1 (Bundle.fit_spec hY9).2 x0 x1 x2 x5 (fun c hc => h c (by simp [tn_own, hc]))
  obtain ⟨P2, Ps2, hlen2, L2, hL2, hm2, hsup2, hpass2⟩ := Bundle.chainS (args := args) hpl hnZ r9 Y9 hY9 hnames (fun c hc => h c (by simp [tn_own, hc]))
  have hlink1 := Option.some.inj (hs1.symm.trans hm2)
  have hfound : s.vm.findClass cls = some P1.m.cls := findClass_of_methodNamed hP1m
  cases Option.some.inj (hfoundX.symm.trans hfound)
  obtain ⟨c1, kX1, hc1, hk, hord, -, -, hn6⟩ := Cond.instantiable_spec (h9 (.instantiable cls 6) (by simp [tn_own]))
  cases Option.some.inj (hc1.symm.trans hfound)
  cases Option.some.inj (hkX.symm.trans hk)
  have hsel0 : selectMethod e.platform s.vm P1.m.cls T.fill0 = .method T.fill0 := by
    obtain ⟨c2, r2, m2, q1, q2, q3, q4, -⟩ := Cond.selects_spec (h9 (.selects cls Bundle.tFill0 Bundle.tFill0) (by simp [tn_own]))
    cases Option.some.inj (q1.symm.trans hfound)
    cases Option.some.inj (q2.symm.trans (State.methodFound?_of_named Y.fill0 (by decide)))
    cases Option.some.inj (q3.symm.trans Y.fill0)
    rw [Launch.admits_selectMethod X.admits]; exact q4
  have hselF : selectMethod e.platform s.vm P1.m.cls T.fill = .method T.fill := by
    obtain ⟨c2, r2, m2, q1, q2, q3, q4, -⟩ := Cond.selects_spec (h9 (.selects cls Bundle.tFill Bundle.tFill) (by simp [tn_own]))
    cases Option.some.inj (q1.symm.trans hfound)
    cases Option.some.inj (q2.symm.trans (State.methodFound?_of_named Y.fill (by decide)))
    cases Option.some.inj (q3.symm.trans Y.fill)
    rw [Launch.admits_selectMethod X.admits]; exact q4
  obtain ⟨cellS0, hcS0, hiss⟩ := Y.statics
  obtain ⟨u0, hu0⟩ := Cond.staticRefV Y.unassigned L.unassignedStatic L.statics hcS0 hiss (h9 (.isRef (.static Bundle.tN "UNASSIGNED_STACK" Bundle.steD)) (by simp [tn_own]))
  obtain ⟨sen, hsen⟩ := Cond.staticRefV Y.sentinel L.sentinelStatic L.statics hcS0 hiss (h9 (.isRef (.static Bundle.tN "SUPPRESSED_SENTINEL" Bundle.listD)) (by simp [tn_own]))
  obtain ⟨ci198, i198, fB, hk198, hg198, ha198, hsB, -, hnB, htB, hffB⟩ := Cond.ownField (t := .object "java/lang/Object") Y.found L.cls (by decide +kernel) (h9 (.fieldLink Bundle.tN 198 Bundle.tN "backtrace" "Ljava/lang/Object;") (by simp [tn_own])) (h9 (.lays Bundle.tN Bundle.tN "backtrace" "Ljava/lang/Object;") (by simp [tn_own])) e.platform hpl
  obtain ⟨cellS, hcS1, heS, -, hkeep⟩ := X.same.2.2.2.2.2 T.aS cellS0 hcS0
  have hcellS : W.heap[T.aS]? = some cellS := hcS1
  have hout1 : ∀ i, (⟨T.aS, i⟩ : Loc) ∉ locs := fun i hmem => by
    have := hlocs _ hmem cellS0 hcS0
    rw [hiss] at this; cases this
  have hknownS : cellS.vm ≠ .unknown := by
    rw [heS]; intro hu
    rw [show cellS0.vm = .unknown from hu] at hiss
    cases hiss
  have hneS : T.aS ≠ a := Nat.ne_of_lt (Nat.lt_of_lt_of_le (Array.getElem?_eq_some_iff.mp hcS0).1 hnew)
  obtain ⟨iM, hffM⟩ := Y.msg
  obtain ⟨tyC, dC, hdC, hdnC⟩ := Cond.laysAt hfound hk Y.cause (h9 (.lays cls Bundle.tN "cause" "Ljava/lang/Throwable;") (by simp [tn_own]))
  obtain ⟨tyS, dS, hdS, hdnS⟩ := Cond.laysAt hfound hk Y.stack (h9 (.lays cls Bundle.tN "stackTrace" Bundle.steD) (by simp [tn_own]))
  obtain ⟨tyP, dP, hdP, hdnP⟩ := Cond.laysAt hfound hk Y.supp (h9 (.lays cls Bundle.tN "suppressedExceptions" Bundle.listD) (by simp [tn_own]))
  obtain ⟨tyM, dM, hdM, hdnM⟩ := Cond.laysAt hfound hk hffM (h9 (.lays cls Bundle.tN "detailMessage" "Ljava/lang/String;") (by simp [tn_own]))
  obtain ⟨tyB, dB, hdB, hdnB⟩ := Cond.laysAt hfound hk hffB (h9 (.lays cls Bundle.tN "backtrace" "Ljava/lang/Object;") (by simp [tn_own]))
  have bC := Cond.laysApart hdB hdC hdnB hdnC (by rw [hnB, Y.causeName]; decide)
  have bS := Cond.laysApart hdB hdS hdnB hdnS (by rw [hnB, Y.stackName]; decide)
  have bP := Cond.laysApart hdB hdP hdnB hdnP (by rw [hnB, Y.suppName]; decide)
  have hskip : SkipFacts T e.platform s (fun u => u) u0 ((preparedCellV T.toThrowableT (freshCell P1.m.cls kX) a u0 sen).withEntry W.cur) :=
    ⟨{ ci198 := ci198, i198 := i198, fBack := fB }, ⟨hk198, hg198, ha198, hsB⟩, by
      have := fresh_default (c := P1.m.cls) tyB
      rw [htB] at this
      simpa [preparedCellV, Cell.setSlot, Cell.withEntry, Array.getElem?_setIfInBounds, bC, bS, bP, bC.symm, bS.symm, bP.symm, defaultValue] using this, fun _ _ => rfl⟩
  obtain ⟨tm, methC, cdC, kC, vm₁, hnC, -, -, -, -, -, -, -, hW₁, st1⟩ := Steps.initColdS (tb := p.tables) (e := e) (below := below) (s := s) (U := W) X.here hexec X.warmed hpl hown (t := Bundle.initS cls) rfl rfl (Bundle.fit_spec hcls).2
    (h9 (.methodLink own ic (Bundle.initS cls)) (by simp [tn_own])) (h (.instanceMethod (Bundle.initS cls)) (by simp [tn_own, Bundle.passSAtoms])) (bytes := rx) (maxL := 2) (h (.code (Bundle.initS cls) rx 2 none) (by simp [tn_own, Bundle.passSAtoms]))
    (f := g) hg (a := a) (msg := msg) (rest := .ref a :: rest) hstack hd6
  cases Option.some.inj (hnC.symm.trans hP1m)
  have X₁ := X.noted hW₁
  obtain ⟨vm₂, X₂, st2⟩ := X₁.ctorMessageOffV hexec (g := { g with stack := .ref a :: rest }) hg hsize T L Z LZ M LM (P1 :: P2 :: Ps2)
    (fun P hP => by rcases List.mem_cons.mp hP with rfl | hP; exact L1; rcases List.mem_cons.mp hP with rfl | hP; exact L2; exact hL2 P hP) ⟨hlink1, hsup2, hpass2⟩ (u0 := u0) (sen := sen) (self := a) hmsg (cell := freshCell P1.m.cls kX) (cellS := cellS)
    hcell (fun _ => by simp) (by simp) rfl rfl hsel0 hselF hcellS hneS hknownS (by rw [hkeep _ (hout1 _)]; exact hu0) (by rw [hkeep _ (hout1 _)]; exact hsen)
    (Takes.of_laid hk hord tyC (by rw [Y.causeType]; rfl)) (Takes.of_laid hk hord tyS (by rw [Y.stackType]; exact fits_refV_array _ u0)) (Takes.of_laid hk hord tyP (by rw [Y.suppType]; exact fits_refV_object _ sen))
    (Takes.of_laid hk hord tyM (by rw [Y.msgType]; exact fits_refV_object _ ⟨msg, hmsg⟩)) Y.objLocals hskip htr [] hd6
    (by simp only [List.length_cons, hlen2]; omega) (by simp only [List.length_cons, hlen2]; exact hRlocals)
  obtain ⟨hwalk, hrun, hended, hWU, hsame⟩ := X₂.athrowLeaves hexec (g := { g with stack := .ref a :: rest, pc := g.pc + 3 }) hg hlocked hentered hout (a := a) (rest := rest) rfl hd9
  have hlt : a < ((W.setVm vm₁).setVm vm₂).heap.size := (Array.getElem?_eq_some_iff.mp hcell).1
  have hU := heapAt_setCell_self (s := (W.setVm vm₁).setVm vm₂) (plainBareV T.toThrowableT (freshCell P1.m.cls kX) a u0 sen msg) hlt
  refine ⟨_, st1 _ (fun acts => ?_), hrun, hended, hWU, hsame.weaken (fun y hy hlt1 => ?_) (Nat.le_refl _) (Nat.le_refl _), _, hU, hfound, rfl⟩
  · rw [doInvoke_state]
    exact st2 _ hwalk
  · rcases List.mem_append.mp hy with h1 | h1
    · exact h1
    · exfalso
      have hb : y.base = a := by
        simp only [List.mem_cons, List.not_mem_nil, or_false] at h1
        rcases h1 with rfl | rfl | rfl | rfl | rfl <;> rfl
      rw [hb] at hlt1
      exact Nat.not_lt.mpr hnew hlt1
def tn_at (own : String) (ic : Nat) (X : String) (ix : Nat) (rx : ByteArray) : List Cond := (tn_own own ic X ix rx "java/lang/RuntimeException" ["java/lang/Exception"]).filter vx_no
abbrev tn_E : String := "java/util/NoSuchElementException"
theorem tn_x0 : decode prog_30_method_4_code 0 = .ok (.aload_n 0, 1) := by decide +kernel
theorem tn_x1 : decode prog_30_method_4_code 1 = .ok (.aload_n 1, 1) := by decide +kernel
theorem tn_x2 : decode prog_30_method_4_code 2 = .ok (.invokespecial 13, 3) := by decide +kernel
theorem tn_x5 : decode prog_30_method_4_code 5 = .ok (.return_, 1) := by decide +kernel
theorem tn_fit : Bundle.fit tn_E = true := by decide +kernel
set_option maxRecDepth 100000 in
theorem tn_w : ∀ w ∈ tn_at RX6 215 tn_E 13 prog_30_method_4_code, w ∈ ev_ws ∨ w ∈ ev_nw := thr_of (by decide +kernel)
set_option maxRecDepth 100000 in
theorem tn_g : ∀ w ∈ tn_at RX6 215 tn_E 13 prog_30_method_4_code, vx_ot w = true := by decide +kernel
theorem e_throwN {G : ev_G} {l : Launch} {M : ev_M} {J : ev_K} {pc k n : Nat} {L : List (Option Value)} {st : List Value} {a : ev_H} {tx : String} {ik is ic j : Nat} (hl0 : l.stackTraces = false) (hk0 : Cond.classLink M.1.cls ik "java/util/NoSuchElementException" ∈ ev_ws) (hini0 : Cond.initialized "java/util/NoSuchElementException" ∈ ev_ws) (hstr : (M.1.cls, is, tx, j) ∈ ev_strs)
    (d0' : decode M.2.1 pc = .ok (.new ik, 3)) (d3 : decode M.2.1 (pc + 3) = .ok (.dup, 1)) (d4 : decode M.2.1 (pc + 4) = .ok (.ldc is, 2)) (d6 : decode M.2.1 (pc + 6) = .ok (.invokespecial ic, 3)) (d9 : decode M.2.1 (pc + 9) = .ok (.athrow, 1)) (hkd : J.1 = false) (hhh0 : J.2.1 = []) (hdp : 6 ≤ J.2.2.1) (hcat : (st.map fun v => v.category).sum ≤ 8) (hX : J.2.2.2.2.2.2 "java/util/NoSuchElementException" (a.1, none)) (hM : M.1.cls = RX6 ∧ ic = 215 := by exact ⟨rfl, rfl⟩) : ev_V G l M J pc L st a (k + 1) (n + 6) := by
  intro p e R s d0 m args below meth c C hD H locs cells slots ls hR hS hc hs hl
  obtain ⟨hx, hb, hml, hown, hts, hret, hlk, hK, hE, hini, hhh, ⟨hr1, hr2, hr3, hr4⟩, hfl⟩ := id C
  obtain ⟨kd, hh, d1, mc1, ms1, P1, X1⟩ := J
  dsimp only at hkd hhh0 hX hdp hc hs hr1 hr2 hr3 hr4 hhh
  subst hkd
  subst hhh0
  have h2 := hD.2 rfl
  subst h2
  have hlen : thr_names.length = 2 := rfl
  obtain ⟨hM1, hM2⟩ := hM
  subst hM2
  rw [hM1] at hown hk0 hstr
  have hs0 : s.setDrawn s.drawn = s := rfl
  intro T hT X
  have htr : e.platform.stackTraces = false := (show e.platform.stackTraces = l.stackTraces by rw [X.admits.platform]).trans hl0
  have Y := vx_rebase X (R' := { frames := R.frames, locals := R.locals, cells := 1, slots := 6 }) (Nat.le_refl _) (Nat.le_refl _) (by show cells + 1 ≤ R.cells; omega) (by show slots + 6 ≤ R.slots; omega)
  obtain ⟨s', hA⟩ : ∃ z, z = (T.setVm s.vm).setFrames (.invoking m args :: below) := ⟨_, rfl⟩
  change Stand p l e _ ((T.setVm s.vm).setFrames (.invoking m args :: below)) m args below meth c T [] 0 0 at Y
  rw [← hA] at Y
  have hvm : s'.vm = s.vm := by rw [hA]; rfl
  have hhp : s'.heap = H := by rw [hA]; exact hT
  have hW0 : s.WarmedH s'.vm := by rw [hvm]; exact State.WarmedH.refl s
  have hts9 : ∀ w ∈ tn_at RX6 215 tn_E 13 prog_30_method_4_code, w.before args s' = true := fun w hw => vx_ot_at (s := s) (args := args) hW0 hvm.symm (tn_g w hw) ((tn_w w hw).elim (fun q => hts w q) (fun q => ev_nw_use q (hE.2.1.1 w q)))
  have hk9 : (Cond.classLink RX6 ik tn_E).before args s' = true := word_at hW0 (ev_gw hk0) (hts _ hk0)
  have hi9 : (Cond.initialized tn_E).before args s' = true := word_at hW0 (ev_gw hini0) (hts _ hini0)
  have hU9 : vx_Zq Bundle.tN "UNASSIGNED_STACK" Bundle.steD (ev_A G) s' s'.heap := by rw [hhp]; exact vx_Zq.moved hW0.alike (hE.1.1.kept hS.2.1)
  have hN9 : vx_Zq Bundle.tN "SUPPRESSED_SENTINEL" Bundle.listD (ev_A G) s' s'.heap := by rw [hhp]; exact vx_Zq.moved hW0.alike (hE.1.2.kept hS.2.1)
  have h : ∀ w ∈ tn_own RX6 215 tn_E 13 prog_30_method_4_code "java/lang/RuntimeException" ["java/lang/Exception"], w.before args s' = true := vx_own hts9 (vx_isRefq hU9.1) (vx_isRefq hN9.1) hU9.2.word hN9.2.word
  have hown9 : s'.vm.findClass RX6 = some m.cls := by rw [hvm]; exact hown
  have hins : (Cond.instantiable tn_E 6).before args s' = true := h _ (by simp [tn_own])
  obtain ⟨vm₁, cX, kX, hfX, hkX, -, -, X₁, st1⟩ := Y.newCold hx (own := RX6) (C := tn_E) (index := ik) (n := 6) hown9 hk9 hins hi9
    (g := F0 m pc ls st) rfl (by rw [hb]; exact d0') (Nat.le_refl _) (Nat.le_refl _)
  generalize hT1 : (T.setVm vm₁).pushCell { cls := cX, slots := kX.instanceTypes.map defaultValue, vm := .none } = T1 at X₁ st1
  have hcat9 : (Value.ref T.heap.size).category = 1 := rfl
  have hcellA : T1.heap[T.heap.size]? = some (freshCell cX kX) := by rw [← hT1]; exact State.heap_pushCell_size _ _
  have d3' : decode c.code (pc + 3) = .ok (.dup, 1) := by rw [hb]; exact d3
  have d4' : decode c.code (pc + 4) = .ok (.ldc is, 2) := by rw [hb]; exact d4
  have hstr9 : vk_R RX6 is tx (ev_Ks G j) s' := vk_R.warm hW0 (hE.2.2.1.2.1 _ hstr)
  obtain ⟨U, hsteps, hrun, hend, hW, hsame, ce, hce, hcec, hcev⟩ := tn_ctor X₁ hx htr (own := RX6) (cls := tn_E) (Y9 := "java/lang/RuntimeException") (r9 := ["java/lang/Exception"]) (ic := 215) tn_x0 tn_x1 tn_x2 tn_x5 hown9 tn_fit (thr_n _ (by simp [thr_names])) (fun n9 hn9 => thr_n n9 (by simp [thr_names] at hn9 ⊢; exact Or.inr hn9)) h (fun x hx => nomatch hx) hfX hkX hcellA (by rw [hhp, hT]; exact Nat.le_refl _) (msg := .ref (ev_Ks G j)) rfl
    (g := { method := m, pc := pc + 6, locals := ls, stack := .ref (ev_Ks G j) :: .ref T.heap.size :: .ref T.heap.size :: st, locked := none }) rfl (hl.1.trans hml.symm) rfl rfl (rest := st) rfl
    (by rw [hb]; exact d6) (by rw [hb]; exact d9) (by rw [hhh]; exact fun x hx9 => nomatch hx9) (by show 1 + 1 + 3 < R.frames; omega) (by simp only [List.map_cons, List.sum_cons, hcat9, List.length_cons, List.length_nil]; show _ ≤ R.locals; omega) hlk
  obtain ⟨f1, f2⟩ := vx_frame hsame
  rw [hhp] at f1 f2
  have hWs : s.WarmedH U.vm := State.WarmedH.trans hW0 hW
  have hcl : s.vm.findClass tn_E = some ce.cls := by rw [hvm] at hcec; exact hcec
  have hall : s.sameButNew ({ U with vm := s.vm } : State) locs mc1 ms1 := by
    subst hA
    obtain ⟨e1, e2⟩ := hsame
    rw [State.setFrames_setFrames] at e1
    have h2 : (T.setVm s.vm).sameButNew ({ U with vm := s.vm } : State) [] (0 + 1) (0 + 6) := ⟨e1, e2⟩
    have h3 := State.sameButNew.trans (show s.sameButNew ({ T with vm := s.vm } : State) locs cells slots from X.same) h2
    rw [List.append_nil] at h3
    exact h3.mono (by omega) (by omega)
  have hxc : ev_XC G X1 tn_E s U := ⟨⟨(a.1, none), hX, ev_R.top (f := a.1) (z := a.2) hR f1 (fun q hq => f2 q hq (fun z hz => nomatch hz))⟩, Nat.le_trans hS.1 f1, fun q h1 h2 => (f2 q (Nat.lt_of_lt_of_le h1 hS.1) (fun z hz => nomatch hz)).trans (hS.2.1 q h1 h2)⟩
  refine ⟨U, ?_, .threw T.heap.size, hrun, hend, Or.inr ⟨T.heap.size, rfl, tn_E, ce, locs, hxc, hce, hcev, hcl, hWs, hall, hS.2.2⟩⟩
  refine st1 _ ?_
  show Steps p.tables e below (T1.setTop { method := m, pc := pc + 3, locals := ls, stack := .ref T.heap.size :: st, locked := none }) _
  jvm_step X₁.here [X₁.here.top, hx, d3', Value.category]
  exact X₁.ldcString hx (own := RX6) (text := tx) (index := is) (a := ev_Ks G j) hown9 hstr9.1 hstr9.2
    (g := { method := m, pc := pc + 4, locals := ls, stack := .ref T.heap.size :: .ref T.heap.size :: st, locked := none }) rfl d4' _ hsteps
set_option maxRecDepth 100000 in
theorem thr_161 : ∀ w ∈ vx_atS RX6 161 "java/lang/IllegalArgumentException" thr_names, w ∈ ev_ws ∨ w ∈ ev_nw := thr_of (by decide +kernel)
set_option maxRecDepth 100000 in
theorem thr_g161 : ∀ w ∈ Cond.classLink RX6 157 "java/lang/IllegalArgumentException" :: Cond.initialized "java/lang/IllegalArgumentException" :: vx_atS RX6 161 "java/lang/IllegalArgumentException" thr_names, vx_ot w = true := by decide +kernel
set_option maxRecDepth 100000 in
theorem thr_208 : ∀ w ∈ vx_atS RX6 208 "java/lang/IndexOutOfBoundsException" thr_names, w ∈ ev_ws ∨ w ∈ ev_nw := thr_of (by decide +kernel)
set_option maxRecDepth 100000 in
theorem thr_g208 : ∀ w ∈ Cond.classLink RX6 204 "java/lang/IndexOutOfBoundsException" :: Cond.initialized "java/lang/IndexOutOfBoundsException" :: vx_atS RX6 208 "java/lang/IndexOutOfBoundsException" thr_names, vx_ot w = true := by decide +kernel
set_option maxRecDepth 100000 in
theorem thr_168 : ∀ w ∈ vx_atS RX6 168 "java/lang/IllegalStateException" thr_names, w ∈ ev_ws ∨ w ∈ ev_nw := thr_of (by decide +kernel)
set_option maxRecDepth 100000 in
theorem thr_g168 : ∀ w ∈ Cond.classLink RX6 164 "java/lang/IllegalStateException" :: Cond.initialized "java/lang/IllegalStateException" :: vx_atS RX6 168 "java/lang/IllegalStateException" thr_names, vx_ot w = true := by decide +kernel
