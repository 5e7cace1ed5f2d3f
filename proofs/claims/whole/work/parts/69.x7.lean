/-! the constructor of SpringChainModel -/

/-! an array of eight arrays of 199 longs, made by one instruction: the machine's states on the way -/
def mu_o (cA : ClassId) (z i : Nat) : Cell := arrV cA 8 (fun j => if j < i then .ref (z + 1 + j) else .null)
def mu_i (cI : ClassId) : Cell := arrV cI 199 (fun _ => .long 0)
theorem mu_set (cA : ClassId) (z i : Nat) : (mu_o cA z i).setSlot i (.ref (z + 1 + i)) = mu_o cA z (i + 1) := by
  unfold mu_o
  rw [arrV_store]
  congr 1
  funext j
  show (if j = i then Value.ref (z + 1 + i) else if j < i then Value.ref (z + 1 + j) else Value.null) = (if j < i + 1 then Value.ref (z + 1 + j) else Value.null)
  by_cases c1 : j = i
  · rw [if_pos c1, if_pos (by omega), c1]
  · rw [if_neg c1]
    by_cases c2 : j < i
    · rw [if_pos c2, if_pos (by omega)]
    · rw [if_neg c2, if_neg (by omega)]
def mu_st (T : State) (cA cI : ClassId) : Nat → State
  | 0 => T.pushCell (mu_o cA T.heap.size 0)
  | i + 1 => ((mu_st T cA cI i).pushCell (mu_i cI)).setCell T.heap.size (mu_o cA T.heap.size (i + 1))
theorem mu_facts (T : State) (cA cI : ClassId) : ∀ i, (mu_st T cA cI i).heap.size = T.heap.size + 1 + i ∧ (mu_st T cA cI i).heap[T.heap.size]? = some (mu_o cA T.heap.size i) ∧ (mu_st T cA cI i).vm = T.vm ∧ (mu_st T cA cI i).slotsUsed = T.slotsUsed + 8 + i * 199
  | 0 => ⟨by simp [mu_st], by simp [mu_st], rfl, by simp [mu_st, mu_o, arrV_size]⟩
  | i + 1 => by
    obtain ⟨f1, f2, f3, f4⟩ := mu_facts T cA cI i
    have hlt : T.heap.size < (mu_st T cA cI i).heap.size := by omega
    have hb : ((mu_st T cA cI i).pushCell (mu_i cI)).heap[T.heap.size]? = some (mu_o cA T.heap.size i) := by rw [State.heap_pushCell_of_lt (h := hlt)]; exact f2
    refine ⟨?_, State.heap_setCell_self hb, by simp [mu_st, f3], ?_⟩
    · simp [mu_st, State.setCell, f1]; omega
    · simp [mu_st, f4, mu_i, arrV_size, Nat.succ_mul]; omega
theorem mu_top (T : State) (f : JFrame) (cA cI : ClassId) : ∀ i, mu_st (T.setTop f) cA cI i = (mu_st T cA cI i).setTop f
  | 0 => rfl
  | i + 1 => by simp only [mu_st, mu_top T f cA cI i, State.heap_setTop, State.pushCell_setTop, State.setCell_setTop]
theorem mu_old (T : State) (cA cI : ClassId) {a : Addr} (ha : a < T.heap.size) : ∀ i, (mu_st T cA cI i).heap[a]? = T.heap[a]?
  | 0 => State.heap_pushCell_of_lt _ _ ha
  | i + 1 => by
    have hlt : a < (mu_st T cA cI i).heap.size := Nat.lt_of_lt_of_le ha (by rw [(mu_facts T cA cI i).1]; omega)
    show (((mu_st T cA cI i).pushCell (mu_i cI)).setCell T.heap.size _).heap[a]? = _
    rw [State.heap_setCell_other (Nat.ne_of_gt ha), State.heap_pushCell_of_lt (h := hlt)]
    exact mu_old T cA cI ha i
theorem mu_inner (T : State) (cA cI : ClassId) : ∀ i j, j < i → (mu_st T cA cI i).heap[T.heap.size + 1 + j]? = some (mu_i cI)
  | 0, _, h => absurd h (Nat.not_lt_zero _)
  | i + 1, j, h => by
    have f1 := (mu_facts T cA cI i).1
    show (((mu_st T cA cI i).pushCell (mu_i cI)).setCell T.heap.size _).heap[T.heap.size + 1 + j]? = _
    rw [State.heap_setCell_other (show T.heap.size ≠ T.heap.size + 1 + j by omega)]
    rcases Nat.lt_or_ge j i with hj | hj
    · have hlt : T.heap.size + 1 + j < (mu_st T cA cI i).heap.size := by rw [f1]; omega
      rw [State.heap_pushCell_of_lt (h := hlt)]
      exact mu_inner T cA cI i j hj
    · have e : T.heap.size + 1 + j = (mu_st T cA cI i).heap.size := by rw [f1]; omega
      rw [e]
      exact State.heap_pushCell_size _ _
section MU1
variable {E : CtlPost} {e : Env} {d : Bool} {acts : List Action} {s : State}
theorem mu_new {c comp : ClassId} {k : Class} {type : FieldType} {len : Nat} {init : Value} (hk : s.vm.classes[c]? = some k) (hkind : k.kind = .array comp type) (hlimit : ¬ len > e.platform.arrayLengthLimit) (hheap : ¬ len * componentBytes type > e.platform.maxHeapBytes) (hfit : fits type init = true) (hdef : init.isDefault = true) {Q : Addr → Pre}
    (h1 : s.heap.size < e.platform.maxCells) (h2 : s.slotsUsed + len ≤ e.platform.maxSlots) (hq : Q s.heap.size d acts (s.pushCell (arrV c len (fun _ => init)))) : wp (Jvm.newArray c len init) Q E e d acts s := by
  rw [← arrV_new] at hq
  have hfits : ∀ i v, (Array.replicate len init)[i]? = some v → s.fitsSlot c .none i v = true := by
    intro i v hv
    simp only [Array.getElem?_replicate] at hv
    split at hv
    · cases hv; simp [State.fitsSlot, State.slotType?, hk, hkind, hfit]
    · cases hv
  have hda : allocActs (Array.replicate len init) s.heap.size acts = acts := by
    have hall : ((Array.replicate len init).all (·.isDefault)) = true := by
      rw [Array.all_replicate]; split <;> simp [hdef]
    unfold allocActs; rw [if_pos hall]
  simp only [Jvm.newArray, Jvm.arrayFits, wp_bind', W.ask, W.ite, hlimit, if_false, wp_pure', W.theClass, hk, hkind, hheap, W.alloc, W.stop, Option.some.injEq, exists_eq_left', Array.size_replicate, hda]
  rw [if_neg (by omega)]
  exact ⟨h1, h2, hfits, hq⟩
theorem mu_make {cA cI cc : ClassId} {k kc : Class} (hk : s.vm.classes[cA]? = some k) (hkind : k.kind = .array cI (.array .long)) (hkc : s.vm.classes[cI]? = some kc) (hkindc : kc.kind = .array cc .long)
    (hl : e.platform.arrayLengthLimit = 536870912 ∨ 199 ≤ e.platform.arrayLengthLimit) (hl9 : 199 ≤ e.platform.arrayLengthLimit) (hh9 : 1592 ≤ e.platform.maxHeapBytes) (hc : s.heap.size + 9 ≤ e.platform.maxCells) (hs : s.slotsUsed + 1600 ≤ e.platform.maxSlots)
    {Q : Addr → Pre} (hq : ∀ d' acts', Q s.heap.size d' acts' (mu_st s cA cI 8)) : wp (multianewarray.make cA [8, 199]) Q E e d acts s := by
  have n8 : ¬ (8 : Int32) < 0 := by decide +kernel
  have n199 : ¬ (199 : Int32) < 0 := by decide +kernel
  have t8 : (8 : Int32).toNatClampNeg = 8 := by decide +kernel
  have t199 : (199 : Int32).toNatClampNeg = 199 := by decide +kernel
  have b1 : componentBytes (.array .long) = 4 := rfl
  have b2 : componentBytes .long = 8 := by decide +kernel
  have hfind : ([(199 : Int32)].find? (· < 0)) = none := by simp [n199]
  rw [multianewarray.make]
  simp only [wp_bind', W.ite, n8, if_false, wp_pure', W.theClass, hk, hkind, Option.some.injEq, exists_eq_left', t8]
  refine mu_new hk hkind (by omega) (by rw [b1]; omega) rfl rfl (by omega) (by omega) ?_
  simp only [hfind]
  rw [ite_self, wp_bind', Std.Legacy.Range.forIn_eq_forIn_range']
  have hsz : ([:8] : Std.Legacy.Range).size = 8 := by simp [Std.Legacy.Range.size]
  rw [hsz]
  show wp (forIn (List.range' 0 8 1) PUnit.unit _) _ E e d acts _
  refine wp_forIn_inv (fun rest s' => ∃ i, i ≤ 8 ∧ rest = List.range' i (8 - i) ∧ s' = mu_st s cA cI i) _ _ ⟨0, Nat.zero_le _, rfl, rfl⟩ ?_ ?_
  · rintro x rest s' d' acts' Q' ⟨i, hi, hl1, rfl⟩ hnext
    have hlt : i < 8 := by
      rcases Nat.lt_or_ge i 8 with h | h
      · exact h
      · rw [show 8 - i = 0 by omega] at hl1; simp at hl1
    obtain ⟨rfl, hrest⟩ : x = i ∧ rest = List.range' (i + 1) (8 - (i + 1)) := by
      rw [show 8 - i = (8 - (i + 1)) + 1 by omega, List.range'_succ] at hl1
      exact ⟨(List.cons.inj hl1).1, (List.cons.inj hl1).2⟩
    obtain ⟨f1, f2, f3, f4⟩ := mu_facts s cA cI x
    simp only [wp_bind']
    rw [multianewarray.make]
    simp only [wp_bind', W.ite, n199, if_false, wp_pure', W.theClass, f3, hkc, hkindc, Option.some.injEq, exists_eq_left', t199]
    refine mu_new (by rw [f3]; exact hkc) hkindc (by omega) (by rw [b2]; omega) (by decide +kernel) (by decide +kernel) (by rw [f1]; omega) (by rw [f4]; omega) ?_
    have hlt0 : s.heap.size < (mu_st s cA cI x).heap.size := by rw [f1]; omega
    simp only [wp_bind', W.writeLoc, wp_pure']
    refine ⟨mu_o cA s.heap.size x, by rw [State.heap_pushCell_of_lt (h := hlt0)]; exact f2, (fun h => nomatch h), by unfold mu_o; rw [arrV_size]; exact hlt, ?_, hnext _ _ _ ⟨x + 1, hlt, hrest, ?_⟩⟩
    · show State.fitsSlot _ cA .none x _ = true
      simp [State.fitsSlot, State.slotType?, f3, hk, hkind]
      rfl
    · rw [f1, mu_set]; rfl
  · rintro s' d' acts' ⟨i, hi, hl1, rfl⟩
    have hi8 : i = 8 := by
      rcases Nat.lt_or_ge i 8 with h | h
      · rw [show 8 - i = (8 - (i + 1)) + 1 by omega, List.range'_succ] at hl1; cases hl1
      · omega
    subst hi8
    simp only [wp_pure']
    exact hq _ _
end MU1
section MU2
variable {p : Program} {l : Launch} {e : Env} {R : Room} {s : State} {m : MethodId} {args : Array Value} {below : List Frame} {meth : Method} {c : Code} {T : State} {locs : List Loc} {cells slots : Nat}
theorem mu_stand (X : Stand p l e R s m args below meth c T locs cells slots) (cA cI : ClassId) : ∀ i, Stand p l e R s m args below meth c (mu_st T cA cI i) (locs ++ (List.range i).map fun j => ⟨T.heap.size, j⟩) (cells + 1 + i) (slots + 8 + i * 199)
  | 0 => by
    have h := X.pushed (mu_o cA T.heap.size 0)
    rw [show (mu_o cA T.heap.size 0).slots.size = 8 from arrV_size _ _ _] at h
    simpa [mu_st] using h
  | i + 1 => by
    have Xi := mu_stand X cA cI i
    obtain ⟨f1, f2, f3, f4⟩ := mu_facts T cA cI i
    have hlt0 : T.heap.size < (mu_st T cA cI i).heap.size := by rw [f1]; omega
    have hcell : ((mu_st T cA cI i).pushCell (mu_i cI)).heap[T.heap.size]? = some (mu_o cA T.heap.size i) := by rw [State.heap_pushCell_of_lt (h := hlt0)]; exact f2
    have h := (Xi.pushed (mu_i cI)).stored hcell i (.ref (T.heap.size + 1 + i))
    rw [mu_set, show (mu_i cI).slots.size = 199 from arrV_size _ _ _] at h
    have e2 : (locs ++ (List.range (i + 1)).map fun j => (⟨T.heap.size, j⟩ : Loc)) = (locs ++ (List.range i).map fun j => (⟨T.heap.size, j⟩ : Loc)) ++ [⟨T.heap.size, i⟩] := by simp [List.range_succ, List.append_assoc]
    have e3 : slots + 8 + (i + 1) * 199 = slots + 8 + i * 199 + 199 := by rw [Nat.succ_mul]; omega
    rw [e2, e3]
    exact h
theorem mu_step (X : Stand p l e R s m args below meth c T locs cells slots) (hexec : p.tables.exec = Jvm.exec) {own : String} {index : Nat} {cA cI cc : ClassId} {kA kC : Class} (hown : s.vm.findClass own = some m.cls) (hclink : (Cond.classLink own index "[[J").before args s = true)
    (hnm : s.vm.findClass "[[J" = some cA) (hkA : s.vm.classes[cA]? = some kA) (hkindA : kA.kind = .array cI (.array .long)) (hkC : s.vm.classes[cI]? = some kC) (hkindC : kC.kind = .array cc .long)
    {g : JFrame} (hg : g.method = m) (hdg : decode c.code g.pc = .ok (.multianewarray index 2, 4)) {rest : List Value} (hstack : g.stack = .int 199 :: .int 8 :: rest) (hcells : cells + 9 ≤ R.cells) (hslots : slots + 1600 ≤ R.slots) :
    ∃ vm₁ : Vm, Stand p l e R s m args below meth c (mu_st (T.setVm vm₁) cA cI 8) locs (cells + 9) (slots + 1600) ∧ ∀ target, Steps p.tables e below ((mu_st (T.setVm vm₁) cA cI 8).setTop { g with pc := g.pc + 4, stack := .ref T.heap.size :: rest }) target → Steps p.tables e below (T.setTop g) target := by
  subst hg
  have hpl : e.platform.magicAccessors = ({} : Platform).magicAccessors := by rw [X.admits.platform]
  obtain ⟨c0, hfc0, hcl⟩ := Cond.classLink_spec hown hclink e.platform hpl
  cases hnm.symm.trans hfc0
  obtain ⟨hg₁, hwarm₁, hready₁⟩ := State.classEntry (e := e) X.warmed hcl
  generalize T.vm.noted g.method.cls index (.cls cA) = vm₁ at hg₁ hwarm₁ hready₁
  have hal : s.vm.Alike vm₁ := hwarm₁.alike
  obtain ⟨kA₁, hkA₁, heA⟩ := hal.2.2 _ _ hkA
  obtain ⟨kC₁, hkC₁, heC⟩ := hal.2.2 _ _ hkC
  have hkindA₁ : kA₁.kind = .array cI (.array .long) := by rw [heA]; exact hkindA
  have hkindC₁ : kC₁.kind = .array cc .long := by rw [heC]; exact hkindC
  have X₁ := X.noted hwarm₁
  obtain ⟨hr1, hr2⟩ := X.roomAbove hcells hslots
  have XF := mu_stand X₁ cA cI 8
  have XD : Stand p l e R s _ args below meth c (mu_st (T.setVm vm₁) cA cI 8) locs (cells + 9) (slots + 1600) := XF.dropFresh (fun x hx => by
    obtain ⟨j, -, rfl⟩ := List.mem_map.mp hx
    exact X.heapGrown)
  refine ⟨vm₁, XD, fun target hrest => ?_⟩
  have hl9 : 199 ≤ e.platform.arrayLengthLimit := by rw [Launch.admits_arrayLengthLimit X.admits]; omega
  have hh9 : 1592 ≤ e.platform.maxHeapBytes := by rw [Launch.admits_maxHeapBytes X.admits]; omega
  jvm_step X.here [hexec, hdg]
  simp only [multianewarray.sem, wp_bind', W.resolveClassAt_links (State.method?_setTop g X.here.top) hg₁]
  rw [W.popN, if_neg (by decide)]
  refine ⟨g, State.topJava?_setTop' (s := T.setVm vm₁) g X.here.top, [.int 8, .int 199], rest, rfl, hstack, ?_⟩
  simp only [List.mapM_cons, List.mapM_nil, wp_bind', wp_pure']
  refine mu_make (k := kA₁) (kc := kC₁) (cI := cI) (cc := cc) hkA₁ hkindA₁ hkC₁ hkindC₁ (Or.inr hl9) hl9 hh9 (by show T.heap.size + 9 ≤ _; omega) (by show T.slotsUsed + 1600 ≤ _; omega) (fun d' acts' => ?_)
  have eS : ((T.setTop g).setVm vm₁).setTop { g with stack := rest } = (T.setVm vm₁).setTop { g with stack := rest } := by
    show ((T.setVm vm₁).setTop g).setTop _ = _
    rw [State.setTop_setTop]
  rw [eS, mu_top]
  simp only [wp_bind', W.mark, W.pushRef, State.topJava?_setTop' _ XF.here.top, Option.some.injEq, exists_eq_left', State.setTop_setTop, State.heap_setTop]
  intro acts
  simp [jvm, XF.here.top]
  exact hrest
end MU2
theorem mu_row (cA : ClassId) (z : Nat) : mu_o cA z 8 = vp_cell cA (8, .inr (.inr (.inr (.inr (fun k => some (z + 1 + k)))))) := by
  rw [vp_cell_q]
  have : (fun j : Fin 8 => if j.val < 8 then Value.ref (z + 1 + j.val) else Value.null) = (fun j : Fin 8 => va_rf (some (z + 1 + j.val))) := funext fun j => by rw [if_pos j.isLt]; rfl
  show ({ cls := cA, slots := Array.ofFn (n := 8) fun j => if j.val < 8 then Value.ref (z + 1 + j.val) else Value.null, vm := .none } : Cell) = ({ cls := cA, slots := Array.ofFn (n := 8) fun j => va_rf (some (z + 1 + j.val)), vm := .none } : Cell)
  rw [this]
def muO (G : ev_G) (z : Nat) : va_E := .inl (G.2.1 5, 8, .inr (.inr (.inr (.inr (fun k => some (z + 1 + k))))))
def muI (G : ev_G) : va_E := .inl (G.2.1 1, 199, .inr (.inl (fun _ => 0)))
def mulH (G : ev_G) (a : ev_H) (z : Nat) : ev_H := (fun q => if q = z then some (muO G z) else if z < q ∧ q < z + 9 then some (muI G) else a.1 q, some (z + 9))
section MUL
variable {G : ev_G} {l : Launch} {M : ev_M} {J : ev_K} {pc k n : Nat} {L : List (Option Value)} {st : List Value} {a : ev_H}
theorem e_multi {idx z : Nat} (hw : Cond.classLink M.1.cls idx "[[J" ∈ ev_ws) (hz : a.2 = some z) (hd : decode M.2.1 pc = .ok (.multianewarray idx 2, 4)) (h : ev_V G l M J (pc + 4) L (.ref z :: st) (mulH G a z) k n) : ev_V G l M J pc L (.int 199 :: .int 8 :: st) a (k + 9) (n + 1600) := by
  intro p e R s d0 m args below meth c C9 hD H locs cells slots ls hR hS hc hs hl
  obtain ⟨hx, hb, hml, hown, hts, hret, hlk, hK, hE, hini, hhh, ⟨hr1, hr2, hr3, hr4⟩, hfl⟩ := id C9
  have hsz := hR.2.1 z hz
  subst hsz
  intro T hT X
  have q4 : cells + 9 ≤ R.cells := Nat.le_trans (Nat.add_le_add_left (Nat.le_add_left 9 k) cells) (Nat.le_trans hc hr3)
  have q5 : slots + 1600 ≤ R.slots := Nat.le_trans (Nat.add_le_add_left (Nat.le_add_left 1600 n) slots) (Nat.le_trans hs hr4)
  obtain ⟨comp, cA, kA, u1, -, u2, u3, u4⟩ := hE.2.1.2.2.1.spec
  obtain ⟨cI, kI, cc, v1, v2, v3⟩ := Cond.arrayClass_spec (hts _ wA_long)
  have ecI : cI = comp := Option.some.inj (v1.symm.trans u1)
  subst ecI
  have c5 : cA = G.2.1 5 := by
    have h1 : s.vm.findClass ("[" ++ (FieldType.array .long).toString) = some (G.2.1 5) := (hK.2 5 _ rfl).2
    exact Option.some.inj (u4.symm.trans h1)
  have c1 : cI = G.2.1 1 := by
    have h1 : s.vm.findClass ("[" ++ (FieldType.long).toString) = some (G.2.1 1) := (hK.2 1 _ rfl).2
    exact Option.some.inj (v1.symm.trans h1)
  subst c5 c1
  obtain ⟨vm₁, X1, step⟩ := mu_step X hx (own := M.1.cls) (index := idx) hown (hts _ hw) u4 u2 u3 v2 v3 (g := F0 m pc ls (.int 199 :: .int 8 :: st)) rfl (by rw [hb]; exact hd) rfl q4 q5
  obtain ⟨f1, f2, f3, f4⟩ := mu_facts (T.setVm vm₁) (G.2.1 5) (G.2.1 1) 8
  have f5 := mu_inner (T.setVm vm₁) (G.2.1 5) (G.2.1 1) 8
  have f6 := fun (q : Addr) (hq : q < H.size) => mu_old (T.setVm vm₁) (G.2.1 5) (G.2.1 1) (a := q) (by show q < T.heap.size; rw [hT]; exact hq) 8
  have hTv : (T.setVm vm₁).heap = H := hT
  rw [hTv] at f1 f2 f5 f6
  generalize hT2 : mu_st (T.setVm vm₁) (G.2.1 5) (G.2.1 1) 8 = T2 at X1 step f1 f2 f3 f4 f5 f6
  have z1 : T2.heap.size = H.size + 9 := by rw [f1]
  have r1 : ev_R G (mulH G a H.size) T2.heap := by
    refine ⟨fun q x hq => ?_, fun n9 hn => ?_, by have := hR.2.2; omega⟩
    · have hq1 : (if q = H.size then some (muO G H.size) else if H.size < q ∧ q < H.size + 9 then some (muI G) else a.1 q) = some x := hq
      have hfl1 := hR.2.2
      by_cases c1 : q = H.size
      · rw [if_pos c1] at hq1
        subst c1
        refine ⟨hR.2.2, ?_⟩
        rw [← Option.some.inj hq1]
        show T2.heap[H.size]? = some (vp_cell _ _)
        rw [f2, mu_row]
      · rw [if_neg c1] at hq1
        by_cases c2 : H.size < q ∧ q < H.size + 9
        · rw [if_pos c2] at hq1
          refine ⟨by omega, ?_⟩
          rw [← Option.some.inj hq1]
          show T2.heap[q]? = some (vp_cell _ _)
          have h5 := f5 (q - (H.size + 1)) (by omega)
          rw [show H.size + 1 + (q - (H.size + 1)) = q by omega] at h5
          rw [h5]
          rfl
        · rw [if_neg c2] at hq1
          exact ⟨(hR.1 q x hq1).1, (hR.1 q x hq1).2.kept (f6 q (hR.lt hq1))⟩
    · rw [← Option.some.inj (show some (H.size + 9) = some n9 from hn), z1]
  have r2 : va_S (ev_A G) s.heap T2.heap locs := ⟨by have := hS.1; omega, fun q h1 h2 => (f6 q (Nat.lt_of_lt_of_le h1 hS.1)).trans (hS.2.1 q h1 h2), hS.2.2⟩
  obtain ⟨t, a1, b1⟩ := h p e R s d0 m args below meth c C9 hD T2.heap locs (cells + 9) (slots + 1600) ls r1 r2 (by omega) (by omega) hl T2 rfl X1
  refine ⟨t, step t ?_, b1⟩
  rw [hT]
  exact a1
end MUL
theorem mul_pk (G : ev_G) (c : Nat) (es : List va_E) (h : ev_H) (he : es.length = 5) : mulH G (pk c es h) (c + 5) = pk c (es ++ (muO G (c + 5) :: List.replicate 8 (muI G))) h := by
  have e14 : (es ++ (muO G (c + 5) :: List.replicate 8 (muI G))).length = 14 := by rw [List.length_append, he]; rfl
  refine Prod.ext (funext fun q => ?_) (by show some (c + 5 + 9) = some (c + (es ++ (muO G (c + 5) :: List.replicate 8 (muI G))).length); rw [e14])
  show (if q = c + 5 then some (muO G (c + 5)) else if c + 5 < q ∧ q < c + 5 + 9 then some (muI G) else if c ≤ q ∧ q < c + es.length then es[q - c]? else h.1 q) = (if c ≤ q ∧ q < c + (es ++ (muO G (c + 5) :: List.replicate 8 (muI G))).length then (es ++ (muO G (c + 5) :: List.replicate 8 (muI G)))[q - c]? else h.1 q)
  rw [e14, he]
  by_cases c0 : c ≤ q ∧ q < c + 14
  · rw [if_pos c0]
    by_cases c1 : q < c + 5
    · rw [if_neg (by omega), if_neg (by omega), if_pos (by omega), List.getElem?_append_left (by omega)]
    · rw [List.getElem?_append_right (by omega), he]
      by_cases c2 : q = c + 5
      · rw [if_pos c2, show q - c - 5 = 0 by omega]; rfl
      · rw [if_neg c2, if_pos (by omega)]
        obtain ⟨w, hw⟩ : ∃ w, q - c - 5 = w + 1 := ⟨q - c - 6, by omega⟩
        rw [hw, List.getElem?_cons_succ, List.getElem?_replicate, if_pos (by omega)]
  · rw [if_neg c0, if_neg (by omega), if_neg (by omega), if_neg (by omega)]
def m_0 : MS := (fun i => if i = 6 then -1 else 0, fun _ _ => 0, fun _ => 0)
def x7e (G : ev_G) (c : Nat) : List va_E := (List.range 15).map (fun j => mo_cell G c m_0 j)
theorem pk_mo (G : ev_G) (c : Nat) (μ : MS) (h : ev_H) : pk c ((List.range 15).map (fun j => mo_cell G c μ j)) h = mo G c μ (h.1, some (c + 15)) := by
  refine Prod.ext (funext fun q => ?_) rfl
  show (if c ≤ q ∧ q < c + ((List.range 15).map (fun j => mo_cell G c μ j)).length then ((List.range 15).map (fun j => mo_cell G c μ j))[q - c]? else h.1 q) = (if c ≤ q ∧ q < c + 15 then some (mo_cell G c μ (q - c)) else h.1 q)
  rw [List.length_map, List.length_range]
  by_cases c1 : c ≤ q ∧ q < c + 15
  · rw [if_pos c1, if_pos c1, List.getElem?_map, List.getElem?_range (by omega)]
    rfl
  · rw [if_neg c1, if_neg c1]
section X7C
variable {G : ev_G} {l : Launch} {c : Nat} {h : ev_H}
set_option maxRecDepth 20000 in
theorem ct_X7_init : ev_Ct G l mX7_init 2 14 2710 [.ref c] (pk c [.inr (7, dv7)] h) (fun v a => v = none ∧ ∃ δ : Nat → Int64, (∀ p, p < 199 → δ p = layF (1 : Int32).toInt64 1 2 p) ∧ a = mo G c (ms_L m_0 0 δ) (h.1, some (c + 15))) (fun _ _ => False) := by
  refine ev_Ct.of (by decide +kernel) (Nat.le_of_ble_eq_true rfl) ?_
  refine e_aload_n dX7_init_0 rfl rfl ?_
  refine e_objInit wM_X7_3 wI_Object_init wC_Object_init (by decide) (Nat.le_of_ble_eq_true rfl) dX7_init_1 ?_
  refine e_aload_n dX7_init_4 rfl rfl ?_
  refine e_sipush (v := 500) dX7_init_5 (by decide) ?_
  refine pk_nI (N := 500) (by decide +kernel) (by decide) dX7_init_8 ?_
  refine pk_p7_1 (j := 0) (by exact ⟨rfl, rfl⟩) rfl rfl wF_X7_9 dX7_init_10 ?_
  refine e_aload_n dX7_init_13 rfl rfl ?_
  refine e_iconst (v := (-1)) dX7_init_14 (by decide) ?_
  refine pk_p7_7 (j := 0) rfl rfl wF_X7_13 dX7_init_15 ?_
  refine e_aload_n dX7_init_18 rfl rfl ?_
  refine e_sipush (v := 199) dX7_init_19 (by decide) ?_
  refine pk_nL (N := 199) (by decide +kernel) (by decide) dX7_init_22 ?_
  refine pk_p7_8 (j := 0) (by exact ⟨rfl, rfl⟩) rfl rfl wF_X7_17 dX7_init_24 ?_
  refine e_aload_n dX7_init_27 rfl rfl ?_
  refine e_sipush (v := 199) dX7_init_28 (by decide) ?_
  refine pk_nL (N := 199) (by decide +kernel) (by decide) dX7_init_31 ?_
  refine pk_p7_9 (j := 0) (by exact ⟨rfl, rfl⟩) rfl rfl wF_X7_21 dX7_init_33 ?_
  refine e_aload_n dX7_init_36 rfl rfl ?_
  refine e_sipush (v := 199) dX7_init_37 (by decide) ?_
  refine pk_nL (N := 199) (by decide +kernel) (by decide) dX7_init_40 ?_
  refine pk_p7_10 (j := 0) (by exact ⟨rfl, rfl⟩) rfl rfl wF_X7_24 dX7_init_42 ?_
  refine e_aload_n dX7_init_45 rfl rfl ?_
  refine e_bipush (v := 8) dX7_init_46 (by decide) ?_
  refine e_sipush (v := 199) dX7_init_48 (by decide) ?_
  refine e_multi (z := c + 5) wL_X7_27 rfl dX7_init_51 ?_
  refine ev_as (mul_pk G c _ h rfl) ?_
  refine pk_p7_11 (j := 0) (by exact ⟨rfl, rfl⟩) rfl rfl wF_X7_29 dX7_init_55 ?_
  refine e_aload_n dX7_init_58 rfl rfl ?_
  refine e_bipush (v := 13) dX7_init_59 (by decide) ?_
  refine pk_nL (N := 13) (by decide +kernel) (by decide) dX7_init_61 ?_
  refine pk_p7_17 (j := 0) (by exact ⟨rfl, rfl⟩) rfl rfl wF_X7_32 dX7_init_63 ?_
  refine ev_as (show _ = mo G c m_0 (h.1, some (c + 15)) from pk_mo G c m_0 h) ?_
  refine e_aload_n dX7_init_66 rfl rfl ?_
  refine mo_g8 wF_X7_17 dX7_init_67 ?_
  refine e_iconst (v := 1) dX7_init_70 (by decide) ?_
  refine e_invS (mcY := 0) (msY := 0) (ct_X7_layChain (q := 0) (by decide) (N := 1) (by decide +kernel) (by decide)) vX7_layChain wM_X7_35 dX7_init_71 rfl rfl (Nat.le_of_ble_eq_true rfl) (Nat.le_of_ble_eq_true rfl) ?_
  rintro _ _ ⟨rfl, δ, hδ, rfl⟩
  exact e_vret rfl dX7_init_74 (⟨rfl, δ, hδ, rfl⟩)
end X7C
theorem RS_0 {δ : Nat → Int64} (hδ : ∀ p, p < 199 → δ p = layF (1 : Int32).toInt64 1 2 p) : RS 0 S_0 (ms_L m_0 0 δ) := by
  refine ⟨KR.beg (Int.le_refl 0) cs_0 (by decide +kernel) (by decide) (by decide) hδ, ?_, ?_, rfl⟩
  · have z0 := ar_0
    refine ⟨⟨⟨?_, ?_⟩, ?_, ?_⟩, rfl, fun t ht => ?_⟩
    · show 0 ≤ (0 : Int32).toInt; omega
    · show (0 : Int32).toInt ≤ 8; omega
    · show 0 ≤ (0 : Int32).toInt; omega
    · show (0 : Int32).toInt < 8; omega
    · have h1 : t < (0 : Int32).toInt.toNat := ht
      omega
  · have z0 := ar_0
    refine ⟨rfl, ⟨?_, ?_⟩, fun k hk => ?_⟩
    · show 0 ≤ (0 : Int32).toInt; omega
    · show (0 : Int32).toInt ≤ 500; omega
    · have h1 : k < (0 : Int32).toInt.toNat := hk
      omega
