/-! rows that only the law's own methods need -/
/-- a clone of an array lies on top of the heap -/
theorem va_cloneE {p : Program} {l : Launch} {e : Env} {R : Room} {s : State} {m : MethodId} {args : Array Value} {below : List Frame} {meth : Method} {c : Code} {H : Heap} {locs : List Loc} {cells slots : Nat} {Q : State → Prop} {cc : ByteArray} {pc : Nat} {ls : Array Slot} {rest : List Value} {D : va_G} {cl : List vw_C} {a : Nat} {tys : List (ClassId × FieldType)} {ws : va_W} (hexec : p.tables.exec = Jvm.exec) (hb : c.code = cc) (hml : c.maxLocals = ls.size) {own ad : String} {index : Nat} (hown : s.vm.findClass own = some m.cls)
    (hlink : (Cond.methodLink own index ⟨ad, "clone", "()Ljava/lang/Object;"⟩).before args s = true) (hsame : (Cond.sameMethod ad "java/lang/Object" "clone" "()Ljava/lang/Object;").before args s = true)
    (hnat : (Cond.native ⟨"java/lang/Object", "clone", "()Ljava/lang/Object;"⟩).before args s = true) (hinst : (Cond.instanceMethod ⟨"java/lang/Object", "clone", "()Ljava/lang/Object;"⟩).before args s = true)
    (hsel : (Cond.selects ad ⟨ad, "clone", "()Ljava/lang/Object;"⟩ ⟨"java/lang/Object", "clone", "()Ljava/lang/Object;"⟩).before args s = true) (hcl : va_Nw (.castable ad "java/lang/Cloneable") s)
    (hK : va_K D cl tys s) (hP : va_P D cl ws H) (q0 t0 : Nat) {cA : ClassId} {x : vp_A} {ty : FieldType} (ha : ws[q0]? = some (a, .inl (cA, x))) (ht : tys[t0]? = some (cA, ty))
    (hnm : s.vm.findClass ad = some cA) (hfit : ∀ (i : Nat) (v : Value), (vp_cell cA x).slots[i]? = some v → fits ty v = true)
    (hframes : 1 ≤ R.frames) (hlocals : (rest.map fun v => v.category).sum + 14 ≤ R.locals) (hcells : cells + 1 ≤ R.cells) (hslots : slots + x.1 ≤ R.slots) (hdg : decode cc pc = .ok (.invokevirtual index, 3))
    (kk : ∀ (H1 : Heap), H1.size = H.size + 1 → H1[H.size]? = some (vp_cell cA x) → (∀ q : Nat, q < H.size → H1[q]? = H[q]?) →
      W p l e R s m args below meth c H1 locs (cells + 1) (slots + x.1) Q (F0 m (pc + 3) ls (.ref H.size :: rest))) : W p l e R s m args below meth c H locs cells slots Q (F0 m pc ls (.ref a :: rest)) := by
  have hsz : (vp_cell cA x).slots.size = x.1 := by
    obtain ⟨n, f | f | f | f | f⟩ := x <;> exact arrV_size _ _ _
  have hvm0 : (vp_cell cA x).vm = .none := by
    obtain ⟨n, f | f | f | f | f⟩ := x <;> rfl
  have hcl0 : (vp_cell cA x).cls = cA := by
    obtain ⟨n, f | f | f | f | f⟩ := x <;> rfl
  have hcellE : ({ cls := (vp_cell cA x).cls, slots := (vp_cell cA x).slots } : Cell) = vp_cell cA x := by
    obtain ⟨n, f | f | f | f | f⟩ := x <;> rfl
  obtain ⟨c0, t0', f1, f2, f3⟩ := Cond.castable_spec (va_Nw.use (A := args) rfl hcl)
  cases hnm.symm.trans f1
  intro T hT X
  have hcellT : T.heap[a]? = some (vp_cell cA x) := by rw [hT]; exact hP q0 _ ha
  obtain ⟨-, kA, hkA, comp, hkind⟩ := State.isArrayOf_alike X.warmed.alike ((hK.2 t0 _ ht).1 0 (fun _ => .null))
  obtain ⟨-, kS, hkS, compS, hkindS⟩ := (hK.2 t0 _ ht).1 0 (fun _ => .null)
  obtain ⟨vm', X', st⟩ := X.cloneArray hexec hown hlink hsame hnat hinst hsel (a := a) (cell := vp_cell cA x) hcellT (fun k h => by rw [hvm0] at h; cases h) (by rw [hvm0]; exact fun h => by cases h) (by rw [hcl0]; exact hnm) f2 (by rw [hcl0]; exact f3)
    (fun i v hv => by
      rw [hcl0]
      have hk' : T.vm.classes[cA]? = some kA := hkA
      simpa [State.fitsSlot, State.slotType?, hk', hkind] using hfit i v hv)
    (g := F0 m pc ls (.ref a :: rest)) rfl (by rw [hml]) rfl (by rw [hb]; exact hdg) hframes (by show 2 * 0 + _ + 14 ≤ _; omega) hcells (by rw [hsz]; exact hslots) (hloader := by rw [hcl0]; exact Vm.clonesLoader_of_array hkS hkindS)
  rw [hcellE, hsz] at X'
  generalize hH1 : H.push (vp_cell cA x) = H1
  have z1 : H1.size = H.size + 1 := by rw [← hH1, Array.size_push]
  have e1 : H1[H.size]? = some (vp_cell cA x) := by rw [← hH1, Array.getElem?_push_size]
  have o1 : ∀ q : Nat, q < H.size → H1[q]? = H[q]? := fun q hq => by rw [← hH1, Array.getElem?_push, if_neg (Nat.ne_of_lt hq)]
  obtain ⟨t, b1, b2⟩ := kk H1 z1 e1 o1 ((T.setVm vm').pushCell (vp_cell cA x)) (by rw [← hH1, ← hT]; rfl) X'
  refine ⟨t, st t ?_, b2⟩
  rw [hcellE, hT]
  exact b1
section LR
variable {G : ev_G} {l : Launch} {M : ev_M} {J : ev_K} {pc k n : Nat} {L : List (Option Value)} {st : List Value} {a : ev_H}
/-- every cell lies below the top -/
theorem e_top {z : Nat} (hz : a.2 = some z) (h : (∀ (q : Nat) (e : va_E), a.1 q = some e → q < z) → ev_V G l M J pc L st a k n) : ev_V G l M J pc L st a k n := by
  intro p e R s d0 m args below meth c C hD H locs cells slots ls hR hS hc hs hl
  refine h (fun q e9 hq => ?_) p e R s d0 m args below meth c C hD H locs cells slots ls hR hS hc hs hl
  have := hR.lt hq
  rwa [hR.2.1 z hz] at this
/-- the heap has some size -/
theorem e_size {f : Nat → Option va_E} (h : ∀ z : Nat, (∀ (q : Nat) (e : va_E), f q = some e → q < z) → ev_V G l M J pc L st (f, some z) k n) : ev_V G l M J pc L st (f, none) k n := by
  intro p e R s d0 m args below meth c C hD H locs cells slots ls hR hS hc hs hl
  exact h H.size (fun q e9 hq => hR.lt hq) p e R s d0 m args below meth c C hD H locs cells slots ls ⟨hR.1, fun n hn => by cases hn; rfl, hR.2.2⟩ hS hc hs hl
theorem e_forget {f : Nat → Option va_E} {z : Option Nat} (h : ev_V G l M J pc L st (f, none) k n) : ev_V G l M J pc L st (f, z) k n :=
  fun p e R s d0 m args below meth c C hD H locs cells slots ls hR hS hc hs hl => h p e R s d0 m args below meth c C hD H locs cells slots ls hR.forget hS hc hs hl
theorem e_iushr {x y : Int32} (hd : decode M.2.1 pc = .ok (.iushr, 1)) (h : ev_V G l M J (pc + 1) L (.int (x.toUInt32 >>> (y.toUInt32 &&& Int32.toUInt32 31)).toInt32 :: st) a k n) : ev_V G l M J pc L (.int y :: .int x :: st) a k n :=
  fun p e R s d0 m args below meth c C hD H locs cells slots ls hR hS hc hs hl => lv_iushr C.1 C.2.1 hd rfl (h p e R s d0 m args below meth c C hD H locs cells slots ls hR hS hc hs hl)
theorem e_astore_nN {z : Fin 4} {i : Nat} (hd : decode M.2.1 pc = .ok (.astore_n z, 1)) (hi : (z : Nat) = i) (hn : i < M.2.2.1) (h : ev_V G l M J (pc + 1) (ev_st1 i .null L) st a k n) : ev_V G l M J pc L (.null :: st) a k n :=
  fun p e R s d0 m args below meth c C hD H locs cells slots ls hR hS hc hs hl => lv_astore_nN C.1 C.2.1 hd hi hl.lv hn rfl (fun ls1 hl1 => h p e R s d0 m args below meth c C hD H locs cells slots ls1 hR hS hc hs (ev_has.st1 hl1))
theorem e_ifnullN {off : Int} {tgt : Nat} (hd : decode M.2.1 pc = .ok (.ifnull off, 3)) (ht : (pc : Int) + off = (tgt : Int)) (h : ev_V G l M J tgt L st a k n) : ev_V G l M J pc L (.null :: st) a k n :=
  fun p e R s d0 m args below meth c C hD H locs cells slots ls hR hS hc hs hl => lv_ifnullN C.1 C.2.1 hd ht (h p e R s d0 m args below meth c C hD H locs cells slots ls hR hS hc hs hl)
theorem e_aastO {q v N t0 ci N2 : Nat} {E : String} {T : u_T} {cA : ClassId} {f : Nat → Option Nat} {vs : List Value} {i : Int32} (ha : a.1 q = some (.inl (cA, N, .inr (.inr (.inr (.inr f)))))) (ht : (ev_tys G)[t0]? = some (cA, .object E)) (hcl : vwCl[ci]? = some (E, T, N2)) (hv : a.1 v = some (.inr (ci, vs))) (h0 : 0 ≤ i.toInt) (h1 : i.toInt < (N : Int)) (hd : decode M.2.1 pc = .ok (.aastore, 1)) (h : ev_V G l M J (pc + 1) L st (ev_put a q (.inl (cA, N, .inr (.inr (.inr (.inr (ev_u f i.toInt.toNat (some v)))))))) k n) : ev_V G l M J pc L (.ref v :: .int i :: .ref q :: st) a k n := by
  intro p e R s d0 m args below meth c C9 hD H locs cells slots ls hR hS hc hs hl
  obtain ⟨hx, hb, hml, hown, hts, hret, hlk, hK, hE, hini, hhh, ⟨hr1, hr2, hr3, hr4⟩, hfl⟩ := id C9
  have hin := ev_in h0 h1
  have hlt : i.toNatClampNeg < N := Nat.not_le.mp fun q => hin (Or.inr q)
  obtain ⟨r', hr', cellV, g1, g2, g3, -⟩ := ev_one hR hv 0 _ rfl
  have hcls := (hK.1 ci _ hcl).2
  obtain ⟨kA, comp, k1, k2, k3, -⟩ := (hK.2 t0 _ ht).2
  have hcomp : comp = G.1.1 ci := Option.some.inj (k3.symm.trans hcls.1)
  subst hcomp
  obtain ⟨kC, hkC, -⟩ := hcls.2
  refine W.aast hx hb (ev_one hR ha 0 _ rfl) (fun q h => by cases h) (fun h => by cases h) k1 k2 rfl hkC ⟨fun q => hin (Or.inl q), by show _ < (arrV _ _ _).slots.size; rw [arrV_size]; exact hlt⟩ g1 (fun q h => by rw [g3] at h; cases h) (by rw [g2]; exact hkC) (by rw [g2]; exact va_assign hcls) rfl rfl hd fun H1 e1 z oq => ?_
  refine h p e R s d0 m args below meth c C9 hD H1 _ cells slots ls (hR.put ha ?_ z oq) (ev_S_put hS hR ha z oq) hc hs hl
  show H1[q]? = some (vp_cell _ _)
  rw [e1]
  rw [vp_cell_q, vp_cell_q, arrV_store]
  congr 2
  funext x
  by_cases hq : x = i.toNatClampNeg
  · subst hq
    have hq3 : i.toNatClampNeg = i.toInt.toNat := rfl
    simp [updV, ev_u, va_rf]
  · have hq2 : ¬ x = i.toInt.toNat := hq
    simp [updV, ev_u, hq, hq2]
theorem e_aastN {q N t0 : Nat} {E : String} {cA : ClassId} {f : Nat → Option Nat} {i : Int32} (ha : a.1 q = some (.inl (cA, N, .inr (.inr (.inr (.inr f)))))) (ht : (ev_tys G)[t0]? = some (cA, .object E)) (h0 : 0 ≤ i.toInt) (h1 : i.toInt < (N : Int)) (hd : decode M.2.1 pc = .ok (.aastore, 1)) (h : ev_V G l M J (pc + 1) L st (ev_put a q (.inl (cA, N, .inr (.inr (.inr (.inr (ev_u f i.toInt.toNat none))))))) k n) : ev_V G l M J pc L (.null :: .int i :: .ref q :: st) a k n := by
  intro p e R s d0 m args below meth c C9 hD H locs cells slots ls hR hS hc hs hl
  obtain ⟨hx, hb, hml, hown, hts, hret, hlk, hK, hE, hini, hhh, ⟨hr1, hr2, hr3, hr4⟩, hfl⟩ := id C9
  have hin := ev_in h0 h1
  refine va_WaastN (C := E) hx hb (ev_one hR ha 0 _ rfl) ((hK.2 t0 _ ht).1 N (fun j => va_rf (f j))) (fun h => by cases h) (by show ¬ (i < 0 ∨ (arrV _ _ _).slots.size ≤ _); rw [arrV_size]; exact hin) rfl rfl hd fun H1 e1 z oq => ?_
  refine h p e R s d0 m args below meth c C9 hD H1 _ cells slots ls (hR.put ha ?_ z oq) (ev_S_put hS hR ha z oq) hc hs hl
  show H1[q]? = some (vp_cell _ _)
  rw [e1]
  rw [vp_cell_q, vp_cell_q, arrV_store]
  congr 2
  funext x
  by_cases hq : x = i.toNatClampNeg
  · subst hq
    have hq3 : i.toNatClampNeg = i.toInt.toNat := rfl
    simp [updV, ev_u, va_rf]
  · have hq2 : ¬ x = i.toInt.toNat := hq
    simp [updV, ev_u, hq, hq2]
/-- the class over int arrays has the class of int arrays below it -/
theorem ev_AI {s : State} (hK : va_K G.1 vwCl (ev_tys G) s) (h : ev_AL s) : ∃ k : Class, s.vm.classes[G.2.1 5]? = some k ∧ k.kind = .array (G.2.1 0) (.array .int) := by
  obtain ⟨comp, c, k, h1, h2, h3, h4, h5⟩ := h.spec
  have e1 : s.vm.findClass ("[" ++ (FieldType.array .int).toString) = some (G.2.1 5) := (hK.2 5 _ rfl).2
  have e2 : s.vm.findClass ("[" ++ FieldType.int.toString) = some (G.2.1 0) := (hK.2 0 _ rfl).2
  have e3 : "[" ++ FieldType.int.toString = (FieldType.array .int).toString := by decide +kernel
  have c1 : c = G.2.1 5 := Option.some.inj (h5.symm.trans e1)
  have c2 : comp = G.2.1 0 := by rw [e3] at e2; exact Option.some.inj (h1.symm.trans e2)
  subst c1
  subst c2
  exact ⟨k, h3, h4⟩
theorem e_aastA {q v N : Nat} {f : Nat → Option Nat} {x : vp_A} {i : Int32} (ha : a.1 q = some (.inl (G.2.1 5, N, .inr (.inr (.inr (.inr f)))))) (hv : a.1 v = some (.inl (G.2.1 0, x))) (h0 : 0 ≤ i.toInt) (h1 : i.toInt < (N : Int)) (hd : decode M.2.1 pc = .ok (.aastore, 1)) (h : ev_V G l M J (pc + 1) L st (ev_put a q (.inl (G.2.1 5, N, .inr (.inr (.inr (.inr (ev_u f i.toInt.toNat (some v)))))))) k n) : ev_V G l M J pc L (.ref v :: .int i :: .ref q :: st) a k n := by
  intro p e R s d0 m args below meth c C9 hD H locs cells slots ls hR hS hc hs hl
  obtain ⟨hx, hb, hml, hown, hts, hret, hlk, hK, hE, hini, hhh, ⟨hr1, hr2, hr3, hr4⟩, hfl⟩ := id C9
  have hin := ev_in h0 h1
  have hlt : i.toNatClampNeg < N := Nat.not_le.mp fun q => hin (Or.inr q)
  have g1 : H[v]? = some (vp_cell (G.2.1 0) x) := ev_one hR hv 0 _ rfl
  have hvm0 : (vp_cell (G.2.1 0) x).vm = .none := by
    obtain ⟨n, f | f | f | f | f⟩ := x <;> rfl
  have hcl0 : (vp_cell (G.2.1 0) x).cls = G.2.1 0 := by
    obtain ⟨n, f | f | f | f | f⟩ := x <;> rfl
  obtain ⟨kA, k1, k2⟩ := ev_AI hK hE.2.1.2.2.1.1
  obtain ⟨-, kC, hkC, -⟩ := (hK.2 0 _ rfl).1 0 (fun _ => .null)
  have hkC : (s.setDrawn d0).vm.classes[G.2.1 0]? = some kC := hkC
  refine W.aast hx hb (ev_one hR ha 0 _ rfl) (fun q h => by cases h) (fun h => by cases h) k1 k2 rfl hkC ⟨fun q => hin (Or.inl q), by show _ < (arrV _ _ _).slots.size; rw [arrV_size]; exact hlt⟩ g1 (fun q h => by rw [hvm0] at h; cases h) (by rw [hcl0]; exact hkC) (by rw [hcl0]; exact va_asg _ _) rfl rfl hd fun H1 e1 z oq => ?_
  refine h p e R s d0 m args below meth c C9 hD H1 _ cells slots ls (hR.put ha ?_ z oq) (ev_S_put hS hR ha z oq) hc hs hl
  show H1[q]? = some (vp_cell _ _)
  rw [e1]
  rw [vp_cell_q, vp_cell_q, arrV_store]
  congr 2
  funext x
  by_cases hq : x = i.toNatClampNeg
  · subst hq
    have hq3 : i.toNatClampNeg = i.toInt.toNat := rfl
    simp [updV, ev_u, va_rf]
  · have hq2 : ¬ x = i.toInt.toNat := hq
    simp [updV, ev_u, hq, hq2]
theorem e_anewO7 {idx z N : Nat} {i : Int32} (hw : Cond.classLink M.1.cls idx RX7 ∈ ev_ws) (hi : i.toInt = (N : Int)) (hN : N ≤ 1000) (hz : a.2 = some z) (hd : decode M.2.1 pc = .ok (.anewarray idx, 3)) (h : ev_V G l M J (pc + 3) L (.ref z :: st) (ev_new a z (.inl (G.2.1 6, N, .inr (.inr (.inr (.inr (fun _ => none))))))) k n) : ev_V G l M J pc L (.int i :: st) a (k + 1) (n + N) := by
  intro p e R s d0 m args below meth c C9 hD H locs cells slots ls hR hS hc hs hl
  obtain ⟨hx, hb, hml, hown, hts, hret, hlk, hK, hE, hini, hhh, ⟨hr1, hr2, hr3, hr4⟩, hfl⟩ := id C9
  have hsz := hR.2.1 z hz
  subst hsz
  have hNat : i.toNatClampNeg = N := show i.toInt.toNat = N by omega
  subst hNat
  refine W.anew hx hb hown (hts _ hw) (va_AO.use hE.2.1.2.2.1.2.1) rfl hd rfl (fun q => by have := ev_lt32.mp q; have h2 : (0 : Int32).toInt = 0 := rfl; omega) (by omega) (by omega) (by omega) fun cA kA comp f1 f2 f3 f4 => ?_
  have hcc : cA = G.2.1 6 := by
    have h1 := (hK.2 6 _ rfl).2
    obtain ⟨_, _, _, _, _, h4⟩ := h1
    exact Option.some.inj (f1.symm.trans h4)
  subst hcc
  generalize hH1 : H.push ({ cls := G.2.1 6, slots := Array.replicate i.toNatClampNeg .null, vm := .none } : Cell) = H1
  have z1 : H1.size = H.size + 1 := by rw [← hH1, Array.size_push]
  have e1 : H1[H.size]? = some (arrV (G.2.1 6) i.toNatClampNeg (fun _ => .null)) := by rw [← hH1, Array.getElem?_push_size, ← arrV_new]
  have o1 : ∀ q : Nat, q < H.size → H1[q]? = H[q]? := fun q hq => by rw [← hH1, Array.getElem?_push, if_neg (Nat.ne_of_lt hq)]
  refine h p e R s d0 m args below meth c C9 hD H1 locs (cells + 1) (slots + i.toNatClampNeg) ls (hR.new ?_ z1 o1) (ev_S_new hS z1 o1) (by omega) (by omega) hl
  show H1[H.size]? = some (vp_cell _ _)
  rw [vp_cell_q]
  exact e1
theorem e_anewO8 {idx z N : Nat} {i : Int32} (hw : Cond.classLink M.1.cls idx RX8 ∈ ev_ws) (hi : i.toInt = (N : Int)) (hN : N ≤ 1000) (hz : a.2 = some z) (hd : decode M.2.1 pc = .ok (.anewarray idx, 3)) (h : ev_V G l M J (pc + 3) L (.ref z :: st) (ev_new a z (.inl (G.2.1 7, N, .inr (.inr (.inr (.inr (fun _ => none))))))) k n) : ev_V G l M J pc L (.int i :: st) a (k + 1) (n + N) := by
  intro p e R s d0 m args below meth c C9 hD H locs cells slots ls hR hS hc hs hl
  obtain ⟨hx, hb, hml, hown, hts, hret, hlk, hK, hE, hini, hhh, ⟨hr1, hr2, hr3, hr4⟩, hfl⟩ := id C9
  have hsz := hR.2.1 z hz
  subst hsz
  have hNat : i.toNatClampNeg = N := show i.toInt.toNat = N by omega
  subst hNat
  refine W.anew hx hb hown (hts _ hw) (va_AO.use hE.2.1.2.2.1.2.2.1) rfl hd rfl (fun q => by have := ev_lt32.mp q; have h2 : (0 : Int32).toInt = 0 := rfl; omega) (by omega) (by omega) (by omega) fun cA kA comp f1 f2 f3 f4 => ?_
  have hcc : cA = G.2.1 7 := by
    have h1 := (hK.2 7 _ rfl).2
    obtain ⟨_, _, _, _, _, h4⟩ := h1
    exact Option.some.inj (f1.symm.trans h4)
  subst hcc
  generalize hH1 : H.push ({ cls := G.2.1 7, slots := Array.replicate i.toNatClampNeg .null, vm := .none } : Cell) = H1
  have z1 : H1.size = H.size + 1 := by rw [← hH1, Array.size_push]
  have e1 : H1[H.size]? = some (arrV (G.2.1 7) i.toNatClampNeg (fun _ => .null)) := by rw [← hH1, Array.getElem?_push_size, ← arrV_new]
  have o1 : ∀ q : Nat, q < H.size → H1[q]? = H[q]? := fun q hq => by rw [← hH1, Array.getElem?_push, if_neg (Nat.ne_of_lt hq)]
  refine h p e R s d0 m args below meth c C9 hD H1 locs (cells + 1) (slots + i.toNatClampNeg) ls (hR.new ?_ z1 o1) (ev_S_new hS z1 o1) (by omega) (by omega) hl
  show H1[H.size]? = some (vp_cell _ _)
  rw [vp_cell_q]
  exact e1
theorem e_anewO10 {idx z N : Nat} {i : Int32} (hw : Cond.classLink M.1.cls idx RX10 ∈ ev_ws) (hi : i.toInt = (N : Int)) (hN : N ≤ 1000) (hz : a.2 = some z) (hd : decode M.2.1 pc = .ok (.anewarray idx, 3)) (h : ev_V G l M J (pc + 3) L (.ref z :: st) (ev_new a z (.inl (G.2.1 8, N, .inr (.inr (.inr (.inr (fun _ => none))))))) k n) : ev_V G l M J pc L (.int i :: st) a (k + 1) (n + N) := by
  intro p e R s d0 m args below meth c C9 hD H locs cells slots ls hR hS hc hs hl
  obtain ⟨hx, hb, hml, hown, hts, hret, hlk, hK, hE, hini, hhh, ⟨hr1, hr2, hr3, hr4⟩, hfl⟩ := id C9
  have hsz := hR.2.1 z hz
  subst hsz
  have hNat : i.toNatClampNeg = N := show i.toInt.toNat = N by omega
  subst hNat
  refine W.anew hx hb hown (hts _ hw) (va_AO.use hE.2.1.2.2.1.2.2.2) rfl hd rfl (fun q => by have := ev_lt32.mp q; have h2 : (0 : Int32).toInt = 0 := rfl; omega) (by omega) (by omega) (by omega) fun cA kA comp f1 f2 f3 f4 => ?_
  have hcc : cA = G.2.1 8 := by
    have h1 := (hK.2 8 _ rfl).2
    obtain ⟨_, _, _, _, _, h4⟩ := h1
    exact Option.some.inj (f1.symm.trans h4)
  subst hcc
  generalize hH1 : H.push ({ cls := G.2.1 8, slots := Array.replicate i.toNatClampNeg .null, vm := .none } : Cell) = H1
  have z1 : H1.size = H.size + 1 := by rw [← hH1, Array.size_push]
  have e1 : H1[H.size]? = some (arrV (G.2.1 8) i.toNatClampNeg (fun _ => .null)) := by rw [← hH1, Array.getElem?_push_size, ← arrV_new]
  have o1 : ∀ q : Nat, q < H.size → H1[q]? = H[q]? := fun q hq => by rw [← hH1, Array.getElem?_push, if_neg (Nat.ne_of_lt hq)]
  refine h p e R s d0 m args below meth c C9 hD H1 locs (cells + 1) (slots + i.toNatClampNeg) ls (hR.new ?_ z1 o1) (ev_S_new hS z1 o1) (by omega) (by omega) hl
  show H1[H.size]? = some (vp_cell _ _)
  rw [vp_cell_q]
  exact e1
theorem e_anewA {idx z N : Nat} {i : Int32} (hw : Cond.classLink M.1.cls idx "[I" ∈ ev_ws) (hi : i.toInt = (N : Int)) (hN : N ≤ 1000) (hz : a.2 = some z) (hd : decode M.2.1 pc = .ok (.anewarray idx, 3)) (h : ev_V G l M J (pc + 3) L (.ref z :: st) (ev_new a z (.inl (G.2.1 5, N, .inr (.inr (.inr (.inr (fun _ => none))))))) k n) : ev_V G l M J pc L (.int i :: st) a (k + 1) (n + N) := by
  intro p e R s d0 m args below meth c C9 hD H locs cells slots ls hR hS hc hs hl
  obtain ⟨hx, hb, hml, hown, hts, hret, hlk, hK, hE, hini, hhh, ⟨hr1, hr2, hr3, hr4⟩, hfl⟩ := id C9
  have hsz := hR.2.1 z hz
  subst hsz
  have hNat : i.toNatClampNeg = N := show i.toInt.toNat = N by omega
  subst hNat
  have hw2 := hts _ hw
  rw [show ("[I" : String) = (FieldType.array .int).toString by decide +kernel] at hw2
  refine W.anewA (t := .int) hx hb hown hw2 hE.2.1.2.2.1.1 rfl hd rfl (fun q => by have := ev_lt32.mp q; have h2 : (0 : Int32).toInt = 0 := rfl; omega) (by omega) (by omega) (by omega) fun cA kA comp f1 f2 f3 f4 => ?_
  have hcc : cA = G.2.1 5 := Option.some.inj (f1.symm.trans (hK.2 5 _ rfl).2)
  subst hcc
  generalize hH1 : H.push ({ cls := G.2.1 5, slots := Array.replicate i.toNatClampNeg .null, vm := .none } : Cell) = H1
  have z1 : H1.size = H.size + 1 := by rw [← hH1, Array.size_push]
  have e1 : H1[H.size]? = some (arrV (G.2.1 5) i.toNatClampNeg (fun _ => .null)) := by rw [← hH1, Array.getElem?_push_size, ← arrV_new]
  have o1 : ∀ q : Nat, q < H.size → H1[q]? = H[q]? := fun q hq => by rw [← hH1, Array.getElem?_push, if_neg (Nat.ne_of_lt hq)]
  refine h p e R s d0 m args below meth c C9 hD H1 locs (cells + 1) (slots + i.toNatClampNeg) ls (hR.new ?_ z1 o1) (ev_S_new hS z1 o1) (by omega) (by omega) hl
  show H1[H.size]? = some (vp_cell _ _)
  rw [vp_cell_q]
  exact e1
theorem e_cloneI {q z N idx : Nat} {f : Nat → Int32} (ha : a.1 q = some (.inl (G.2.1 0, N, .inl f))) (hz : a.2 = some z) (hlink : Cond.methodLink M.1.cls idx ⟨"[I", "clone", "()Ljava/lang/Object;"⟩ ∈ ev_ws) (hsame : Cond.sameMethod "[I" "java/lang/Object" "clone" "()Ljava/lang/Object;" ∈ ev_ws) (hnat : Cond.native ⟨"java/lang/Object", "clone", "()Ljava/lang/Object;"⟩ ∈ ev_ws) (hinst : Cond.instanceMethod ⟨"java/lang/Object", "clone", "()Ljava/lang/Object;"⟩ ∈ ev_ws) (hsel : Cond.selects "[I" ⟨"[I", "clone", "()Ljava/lang/Object;"⟩ ⟨"java/lang/Object", "clone", "()Ljava/lang/Object;"⟩ ∈ ev_ws) (hcl : Cond.castable "[I" "java/lang/Cloneable" ∈ ev_nw) (hcat : (st.map fun v => v.category).sum ≤ 8) (hdp : 1 ≤ J.2.2.1) (hd : decode M.2.1 pc = .ok (.invokevirtual idx, 3)) (h : ev_V G l M J (pc + 3) L (.ref z :: st) (ev_new a z (.inl (G.2.1 0, N, .inl f))) k n) : ev_V G l M J pc L (.ref q :: st) a (k + 1) (n + N) := by
  intro p e R s d0 m args below meth c C9 hD H locs cells slots ls hR hS hc hs hl
  obtain ⟨hx, hb, hml, hown, hts, hret, hlk, hK, hE, hini, hhh, ⟨hr1, hr2, hr3, hr4⟩, hfl⟩ := id C9
  have hsz := hR.2.1 z hz
  subst hsz
  have hnm : (s.setDrawn d0).vm.findClass "[I" = some (G.2.1 0) := va_nm_int (hK.2 0 _ rfl).2
  have hP := ev_one hR ha
  refine va_cloneE hx hb (hml.trans hl.1.symm) hown (hts _ hlink) (hts _ hsame) (hts _ hnat) (hts _ hinst) (hts _ hsel) (hE.2.1.1 _ hcl) hK hP 0 0 rfl rfl hnm (va_fit (fun _ _ => rfl)) (by omega) (by omega) (by omega) (by show slots + N ≤ R.slots; omega) hd fun H1 z1 e1 o1 => ?_
  exact h p e R s d0 m args below meth c C9 hD H1 locs (cells + 1) (slots + N) ls (hR.new e1 z1 o1) (ev_S_new hS z1 o1) (by omega) (by omega) hl
theorem e_castI {q idx : Nat} {x : vp_A} (ha : a.1 q = some (.inl (G.2.1 0, x))) (hw : Cond.classLink M.1.cls idx "[I" ∈ ev_ws) (hd : decode M.2.1 pc = .ok (.checkcast idx, 3)) (h : ev_V G l M J (pc + 3) L (.ref q :: st) a k n) : ev_V G l M J pc L (.ref q :: st) a k n := by
  intro p e R s d0 m args below meth c C9 hD H locs cells slots ls hR hS hc hs hl
  obtain ⟨hx, hb, hml, hown, hts, hret, hlk, hK, hE, hini, hhh, ⟨hr1, hr2, hr3, hr4⟩, hfl⟩ := id C9
  exact va_castA hx hb hown (hts _ hw) (ev_one hR ha) 0 rfl (va_nm_int (hK.2 0 _ rfl).2) hd (h p e R s d0 m args below meth c C9 hD H locs cells slots ls hR hS hc hs hl)
theorem e_cloneJ {q z N idx : Nat} {f : Nat → Int64} (ha : a.1 q = some (.inl (G.2.1 1, N, .inr (.inl f)))) (hz : a.2 = some z) (hlink : Cond.methodLink M.1.cls idx ⟨"[J", "clone", "()Ljava/lang/Object;"⟩ ∈ ev_ws) (hsame : Cond.sameMethod "[J" "java/lang/Object" "clone" "()Ljava/lang/Object;" ∈ ev_ws) (hnat : Cond.native ⟨"java/lang/Object", "clone", "()Ljava/lang/Object;"⟩ ∈ ev_ws) (hinst : Cond.instanceMethod ⟨"java/lang/Object", "clone", "()Ljava/lang/Object;"⟩ ∈ ev_ws) (hsel : Cond.selects "[J" ⟨"[J", "clone", "()Ljava/lang/Object;"⟩ ⟨"java/lang/Object", "clone", "()Ljava/lang/Object;"⟩ ∈ ev_ws) (hcl : Cond.castable "[J" "java/lang/Cloneable" ∈ ev_nw) (hcat : (st.map fun v => v.category).sum ≤ 8) (hdp : 1 ≤ J.2.2.1) (hd : decode M.2.1 pc = .ok (.invokevirtual idx, 3)) (h : ev_V G l M J (pc + 3) L (.ref z :: st) (ev_new a z (.inl (G.2.1 1, N, .inr (.inl f)))) k n) : ev_V G l M J pc L (.ref q :: st) a (k + 1) (n + N) := by
  intro p e R s d0 m args below meth c C9 hD H locs cells slots ls hR hS hc hs hl
  obtain ⟨hx, hb, hml, hown, hts, hret, hlk, hK, hE, hini, hhh, ⟨hr1, hr2, hr3, hr4⟩, hfl⟩ := id C9
  have hsz := hR.2.1 z hz
  subst hsz
  have hnm : (s.setDrawn d0).vm.findClass "[J" = some (G.2.1 1) := va_nm_long (hK.2 1 _ rfl).2
  have hP := ev_one hR ha
  refine va_cloneE hx hb (hml.trans hl.1.symm) hown (hts _ hlink) (hts _ hsame) (hts _ hnat) (hts _ hinst) (hts _ hsel) (hE.2.1.1 _ hcl) hK hP 0 1 rfl rfl hnm (va_fit (fun _ _ => rfl)) (by omega) (by omega) (by omega) (by show slots + N ≤ R.slots; omega) hd fun H1 z1 e1 o1 => ?_
  exact h p e R s d0 m args below meth c C9 hD H1 locs (cells + 1) (slots + N) ls (hR.new e1 z1 o1) (ev_S_new hS z1 o1) (by omega) (by omega) hl
theorem e_castJ {q idx : Nat} {x : vp_A} (ha : a.1 q = some (.inl (G.2.1 1, x))) (hw : Cond.classLink M.1.cls idx "[J" ∈ ev_ws) (hd : decode M.2.1 pc = .ok (.checkcast idx, 3)) (h : ev_V G l M J (pc + 3) L (.ref q :: st) a k n) : ev_V G l M J pc L (.ref q :: st) a k n := by
  intro p e R s d0 m args below meth c C9 hD H locs cells slots ls hR hS hc hs hl
  obtain ⟨hx, hb, hml, hown, hts, hret, hlk, hK, hE, hini, hhh, ⟨hr1, hr2, hr3, hr4⟩, hfl⟩ := id C9
  exact va_castA hx hb hown (hts _ hw) (ev_one hR ha) 0 rfl (va_nm_long (hK.2 1 _ rfl).2) hd (h p e R s d0 m args below meth c C9 hD H locs cells slots ls hR hS hc hs hl)
end LR
theorem wq_L_X7_23 : Cond.classLink "SpringChainLaw$Chain" 23 "[I" ∈ ev_ws := ev_ok 389 (by decide +kernel) (by decide +kernel)
theorem wq_link_61 : Cond.methodLink "SpringChainLaw$Chain" 61 ⟨"[I", "clone", "()Ljava/lang/Object;"⟩ ∈ ev_ws := ev_ok 446 (by decide +kernel) (by decide +kernel)
theorem wq_same_I : Cond.sameMethod "[I" "java/lang/Object" "clone" "()Ljava/lang/Object;" ∈ ev_ws := ev_ok 447 (by decide +kernel) (by decide +kernel)
theorem wq_nat : Cond.native ⟨"java/lang/Object", "clone", "()Ljava/lang/Object;"⟩ ∈ ev_ws := ev_ok 448 (by decide +kernel) (by decide +kernel)
theorem wq_inst : Cond.instanceMethod ⟨"java/lang/Object", "clone", "()Ljava/lang/Object;"⟩ ∈ ev_ws := ev_ok 449 (by decide +kernel) (by decide +kernel)
theorem wq_sel_I : Cond.selects "[I" ⟨"[I", "clone", "()Ljava/lang/Object;"⟩ ⟨"java/lang/Object", "clone", "()Ljava/lang/Object;"⟩ ∈ ev_ws := ev_ok 450 (by decide +kernel) (by decide +kernel)
theorem wq_cast_I : Cond.castable "[I" "java/lang/Cloneable" ∈ ev_nw := ev_nw_ok 451 (by decide +kernel) rfl
theorem wq_link_65 : Cond.methodLink "SpringChainLaw$Chain" 65 ⟨"[J", "clone", "()Ljava/lang/Object;"⟩ ∈ ev_ws := ev_ok 452 (by decide +kernel) (by decide +kernel)
theorem wq_same_J : Cond.sameMethod "[J" "java/lang/Object" "clone" "()Ljava/lang/Object;" ∈ ev_ws := ev_ok 453 (by decide +kernel) (by decide +kernel)
theorem wq_sel_J : Cond.selects "[J" ⟨"[J", "clone", "()Ljava/lang/Object;"⟩ ⟨"java/lang/Object", "clone", "()Ljava/lang/Object;"⟩ ∈ ev_ws := ev_ok 454 (by decide +kernel) (by decide +kernel)
theorem wq_cast_J : Cond.castable "[J" "java/lang/Cloneable" ∈ ev_nw := ev_nw_ok 455 (by decide +kernel) rfl
theorem wq_L_X7_66 : Cond.classLink "SpringChainLaw$Chain" 66 "[J" ∈ ev_ws := ev_ok 456 (by decide +kernel) (by decide +kernel)
theorem wq_L_L_106 : Cond.classLink "SpringChainLaw" 106 "[I" ∈ ev_ws := ev_ok 473 (by decide +kernel) (by decide +kernel)
