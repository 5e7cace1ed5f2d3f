/-! rows on the heap, calls, ends -/
def ev_u {α : Type} (f : Nat → α) (k : Nat) (x : α) : Nat → α := fun j => if j = k then x else f j
theorem ev_in {i : Int32} {N : Nat} (h0 : 0 ≤ i.toInt) (h1 : i.toInt < (N : Int)) : vp_in i N := by
  rintro (h | h)
  · have := ev_lt32.mp h
    have h2 : (0 : Int32).toInt = 0 := rfl
    omega
  · have h2 : i.toNatClampNeg = i.toInt.toNat := rfl
    omega
theorem ev_one {G : ev_G} {a : ev_H} {H : Heap} {q : Nat} {e : va_E} (h : ev_R G a H) (hq : a.1 q = some e) : va_P G.1 vwCl [(q, e)] H := by
  intro k x hx
  have hk : k < 1 := (List.getElem?_eq_some_iff.mp hx).1
  rw [show k = 0 by omega] at hx
  cases hx
  exact (h.1 q e hq).2
theorem ev_S_put {G : ev_G} {a : ev_H} {H0 H H1 : Heap} {locs : List Loc} {q i : Nat} {e : va_E} (hS : va_S (ev_A G) H0 H locs) (hR : ev_R G a H) (hq : a.1 q = some e) (z : H1.size = H.size) (oq : ∀ b : Nat, b ≠ q → H1[b]? = H[b]?) : va_S (ev_A G) H0 H1 (locs ++ [⟨q, i⟩]) := hS.put z oq (hR.1 q e hq).1
theorem ev_S_new {G : ev_G} {H0 H H1 : Heap} {locs : List Loc} (hS : va_S (ev_A G) H0 H locs) (z : H1.size = H.size + 1) (oq : ∀ b : Nat, b < H.size → H1[b]? = H[b]?) : va_S (ev_A G) H0 H1 locs :=
  ⟨Nat.le_trans hS.1 (by omega), fun x h1 h2 => (oq x (Nat.lt_of_lt_of_le h1 hS.1)).trans (hS.2.1 x h1 h2), hS.2.2⟩
theorem ev_end {G : ev_G} {kd : Bool} {P : Option Value → ev_H → Prop} {X : String → ev_H → Prop} {mc ms : Nat} {p : Program} {l : Launch} {e : Env} {R : Room} {s : State} {d0 : Drawn} {m : MethodId} {args : Array Value} {below : List Frame} {meth : Method} {c : Code} {H : Heap} {locs : List Loc} {g : JFrame} (hD : ev_D kd s d0) (h : W p l e R (s.setDrawn d0) m args below meth c H locs mc ms (MQ below (ev_Qc G P) args (s.setDrawn d0) mc ms (ev_A G)) g) : W p l e R (s.setDrawn d0) m args below meth c H locs mc ms (ev_Z G kd P X mc ms below args s) g := by
  cases kd with
  | true => exact (hD.1 rfl).elim
  | false =>
    have h2 := hD.2 rfl
    subst h2
    exact vx_ret h
section EVH
variable {G : ev_G} {l : Launch} {M : ev_M} {J : ev_K} {pc k n : Nat} {L : List (Option Value)} {st : List Value} {a : ev_H}
theorem e_getf {C : String} {T : u_T} {N ci idx q : Nat} {fs : List Value} {v : Value} (kf : Nat) (hin : ∀ w ∈ u_ws C T N, w ∈ ev_ws) (hcl : vwCl[ci]? = some (C, T, N)) (ha : a.1 q = some (.inr (ci, fs))) (hk : kf < N) (hw : Cond.fieldLink M.1.cls idx (T kf).1 (T kf).2.1 (T kf).2.2.1 ∈ ev_ws) (hv : fs[kf]? = some v) (hd : decode M.2.1 pc = .ok (.getfield idx, 3)) (h : ev_V G l M J (pc + 3) L (v :: st) a k n) : ev_V G l M J pc L (.ref q :: st) a k n :=
  fun p e R s d0 m args below meth c C hD H locs cells slots ls hR hS hc hs hl => va_get C.1 C.2.1 C.2.2.2.2.1 hin C.2.2.2.1 C.2.2.2.2.2.2.2.1 (ev_one hR ha) 0 rfl hcl kf hk (C.2.2.2.2.1 _ hw) (fun _ x => x) hv hd (h p e R s d0 m args below meth c C hD H locs cells slots ls hR hS hc hs hl)
theorem e_putf {Cn : String} {T : u_T} {N ci idx q : Nat} {fs : List Value} {v : Value} (kf : Nat) (tyf : Nat → FieldType) (hty : ∀ j, j < N → parseFieldDescriptor (T j).2.2.1 = some (tyf j)) (hnm : ∀ x, x < N → ∀ y, y < N → x ≠ y → (T x).2.1 ≠ (T y).2.1) (hin : ∀ w ∈ u_ws Cn T N, w ∈ ev_ws) (hcl : vwCl[ci]? = some (Cn, T, N)) (ha : a.1 q = some (.inr (ci, fs))) (hk : kf < N) (hw : Cond.fieldLink M.1.cls idx (T kf).1 (T kf).2.1 (T kf).2.2.1 ∈ ev_ws)
    (hfin : (T kf).2.2.2 = false ∨ ((T kf).2.2.2 = true ∧ M.1.name = "<init>" ∧ (T kf).1 = M.1.cls)) {ty : FieldType} (hdt : parseFieldDescriptor (T kf).2.2.1 = some ty) (hn : narrow ty v = v) (hfit : fits ty v = true) (hl0 : kf < fs.length) (hd : decode M.2.1 pc = .ok (.putfield idx, 3))
    (h : ev_V G l M J (pc + 3) L st (ev_put a q (.inr (ci, fs.set kf v))) k n) : ev_V G l M J pc L (v :: .ref q :: st) a k n := by
  intro p e R s d0 m args below meth c C hD H locs cells slots ls hR hS hc hs hl
  obtain ⟨hx, hb, hml, hown, hts, hret, hlk, hK, hE, hini, -⟩ := id C
  have hP := ev_one hR ha
  have hap := va_apart (own := M.1.cls) hts hin tyf hty hnm hK hcl
  obtain ⟨r, h1, cell, q1, q2, q3, q4⟩ := hP 0 _ rfl
  have hr : r = (Cn, T, N) := Option.some.inj (h1.symm.trans hcl)
  subst hr
  obtain ⟨hSl, hfc, kC, hkC, hkind⟩ := hK.1 ci _ hcl
  obtain ⟨cf, kff, fi, f, hi, hsl⟩ := hSl kf hk
  have hlay := hts _ (hin _ (u_in_lay hk))
  unfold u_lay at hlay
  have hst := (u_facts hfc hkC (u_lays hts hin hk) hi).1
  have fin : ∀ H' : Heap, H'[q]? = some (cell.setSlot f.slot v) → H'.size = H.size → (∀ b, b ≠ q → H'[b]? = H[b]?) → W p l e R (s.setDrawn d0) m args below meth c H' (locs ++ [⟨q, f.slot⟩]) cells slots (ev_Z G J.1 J.2.2.2.2.2.1 J.2.2.2.2.2.2 J.2.2.2.1 J.2.2.2.2.1 below args s) (F0 m (pc + 3) ls st) := fun H' e1 e2 e3 => by
    rw [hsl] at e1
    exact h p e R s d0 m args below meth c C hD H' _ cells slots ls (hR.put ha ⟨_, hcl, t_OB.to (V := updV (vp_V fs) kf v) ⟨_, e1, q2, q3, t_set q4 hap hk v⟩ (fun j _ => vp_updV_set hl0 v j)⟩ e2 e3) (ev_S_put hS hR ha e2 e3) hc hs hl
  rcases hfin with hfin | ⟨hfin, hi1, hi2⟩
  · rw [if_neg (by rw [hfin]; decide)] at hlay
    have h6 := u_store hfc hkC hkind hlay hi hdt hn hfit
    exact W.putK hx hb (f := f) ⟨hown, hts _ hw, ⟨_, _, _, hi⟩, hst⟩ (by rw [q2]; exact h6) q1 q3 (by rw [hsl]; exact k2_hasslot (q4 kf hk)) rfl rfl hd fin
  · rw [if_pos hfin] at hlay
    have hcf : m.cls = cf := by
      obtain ⟨_, _, c', _, _, _, -, -, hf', -, -, -, hown2, -⟩ := Cond.laysFinal_spec hlay
      have e1 : c' = cf := by have := hi.symm.trans hf'; simp at this; exact this.1.symm
      rw [hi2] at hown2
      rw [← e1]; exact Option.some.inj (hown.symm.trans hown2)
    have h6 := u_fits hfc hkC hkind (Or.inr hlay) hi hdt hn hfit
    exact W.putFinK hx hb hown (hts _ hw) hi hst hcf (hini hi1) (by rw [q2]; exact h6) q1 q3 (by rw [hsl]; exact k2_hasslot (q4 kf hk)) rfl rfl hd fin

theorem e_iald {q N : Nat} {f : Nat → Int32} {i : Int32} (ha : a.1 q = some (.inl (G.2.1 0, N, .inl f))) (h0 : 0 ≤ i.toInt) (h1 : i.toInt < (N : Int)) (hd : decode M.2.1 pc = .ok (.iaload, 1)) (h : ev_V G l M J (pc + 1) L (.int (f i.toInt.toNat) :: st) a k n) : ev_V G l M J pc L (.int i :: .ref q :: st) a k n :=
  fun p e R s d0 m args below meth c C hD H locs cells slots ls hR hS hc hs hl => va_iald C.1 C.2.1 C.2.2.2.2.2.2.2.1 (ev_one hR ha) 0 0 rfl rfl (ev_in h0 h1) hd (h p e R s d0 m args below meth c C hD H locs cells slots ls hR hS hc hs hl)
theorem e_bald {q N : Nat} {f : Nat → Int32} {i : Int32} (ha : a.1 q = some (.inl (G.2.1 2, N, .inl f))) (h0 : 0 ≤ i.toInt) (h1 : i.toInt < (N : Int)) (hd : decode M.2.1 pc = .ok (.baload, 1)) (h : ev_V G l M J (pc + 1) L (.int (f i.toInt.toNat) :: st) a k n) : ev_V G l M J pc L (.int i :: .ref q :: st) a k n :=
  fun p e R s d0 m args below meth c C hD H locs cells slots ls hR hS hc hs hl => va_bald C.1 C.2.1 C.2.2.2.2.2.2.2.1 (ev_one hR ha) 0 2 rfl rfl (ev_in h0 h1) hd (h p e R s d0 m args below meth c C hD H locs cells slots ls hR hS hc hs hl)
theorem e_zald {q N : Nat} {f : Nat → Int32} {i : Int32} (ha : a.1 q = some (.inl (G.2.1 3, N, .inl f))) (h0 : 0 ≤ i.toInt) (h1 : i.toInt < (N : Int)) (hd : decode M.2.1 pc = .ok (.baload, 1)) (h : ev_V G l M J (pc + 1) L (.int (f i.toInt.toNat) :: st) a k n) : ev_V G l M J pc L (.int i :: .ref q :: st) a k n :=
  fun p e R s d0 m args below meth c C hD H locs cells slots ls hR hS hc hs hl => va_zald C.1 C.2.1 C.2.2.2.2.2.2.2.1 (ev_one hR ha) 0 3 rfl rfl (ev_in h0 h1) hd (h p e R s d0 m args below meth c C hD H locs cells slots ls hR hS hc hs hl)
theorem e_lald {q N : Nat} {f : Nat → Int64} {i : Int32} (ha : a.1 q = some (.inl (G.2.1 1, N, .inr (.inl f)))) (h0 : 0 ≤ i.toInt) (h1 : i.toInt < (N : Int)) (hd : decode M.2.1 pc = .ok (.laload, 1)) (h : ev_V G l M J (pc + 1) L (.long (f i.toInt.toNat) :: st) a k n) : ev_V G l M J pc L (.int i :: .ref q :: st) a k n :=
  fun p e R s d0 m args below meth c C hD H locs cells slots ls hR hS hc hs hl => va_lald C.1 C.2.1 C.2.2.2.2.2.2.2.1 (ev_one hR ha) 0 1 rfl rfl (ev_in h0 h1) hd (h p e R s d0 m args below meth c C hD H locs cells slots ls hR hS hc hs hl)
theorem e_iast {q N : Nat} {f : Nat → Int32} {i : Int32} {x : Int32} (ha : a.1 q = some (.inl (G.2.1 0, N, .inl (f)))) (h0 : 0 ≤ i.toInt) (h1 : i.toInt < (N : Int)) (hd : decode M.2.1 pc = .ok (.iastore, 1)) (h : ev_V G l M J (pc + 1) L st (ev_put a q (.inl (G.2.1 0, N, .inl (ev_u f i.toInt.toNat x)))) k n) : ev_V G l M J pc L (.int x :: .int i :: .ref q :: st) a k n := by
  intro p e R s d0 m args below meth c C hD H locs cells slots ls hR hS hc hs hl
  refine W.iast C.1 C.2.1 (ev_one hR ha 0 _ rfl) ((C.2.2.2.2.2.2.2.1.2 0 _ rfl).1 N (fun j => .int (f j))) (fun q => by cases q) (by show ¬ (i < 0 ∨ (arrV _ _ _).slots.size ≤ _); rw [arrV_size]; exact ev_in h0 h1) rfl rfl hd fun H1 e1 z oq => ?_
  refine h p e R s d0 m args below meth c C hD H1 _ cells slots ls (hR.put ha ?_ z oq) (ev_S_put hS hR ha z oq) hc hs hl
  show H1[q]? = some (vp_cell _ _)
  rw [e1]
  rw [vp_cell_i, vp_cell_i, arrV_store]
  congr 2
  funext j
  have hi : i.toNatClampNeg = i.toInt.toNat := rfl
  by_cases hj : j = i.toNatClampNeg
  · subst hj
    simp [updV, ev_u, vp_nar]
    try rfl
  · have hj2 : ¬ j = i.toInt.toNat := by rw [← hi]; exact hj
    simp [updV, ev_u, hj, hj2]
theorem e_last {q N : Nat} {f : Nat → Int64} {i : Int32} {x : Int64} (ha : a.1 q = some (.inl (G.2.1 1, N, .inr (.inl (f))))) (h0 : 0 ≤ i.toInt) (h1 : i.toInt < (N : Int)) (hd : decode M.2.1 pc = .ok (.lastore, 1)) (h : ev_V G l M J (pc + 1) L st (ev_put a q (.inl (G.2.1 1, N, .inr (.inl (ev_u f i.toInt.toNat x))))) k n) : ev_V G l M J pc L (.long x :: .int i :: .ref q :: st) a k n := by
  intro p e R s d0 m args below meth c C hD H locs cells slots ls hR hS hc hs hl
  refine W.last C.1 C.2.1 (ev_one hR ha 0 _ rfl) ((C.2.2.2.2.2.2.2.1.2 1 _ rfl).1 N (fun j => .long (f j))) (fun q => by cases q) (by show ¬ (i < 0 ∨ (arrV _ _ _).slots.size ≤ _); rw [arrV_size]; exact ev_in h0 h1) rfl rfl hd fun H1 e1 z oq => ?_
  refine h p e R s d0 m args below meth c C hD H1 _ cells slots ls (hR.put ha ?_ z oq) (ev_S_put hS hR ha z oq) hc hs hl
  show H1[q]? = some (vp_cell _ _)
  rw [e1]
  rw [vp_cell_l, vp_cell_l, arrV_store]
  congr 2
  funext j
  have hi : i.toNatClampNeg = i.toInt.toNat := rfl
  by_cases hj : j = i.toNatClampNeg
  · subst hj
    simp [updV, ev_u, vp_nar]
    try rfl
  · have hj2 : ¬ j = i.toInt.toNat := by rw [← hi]; exact hj
    simp [updV, ev_u, hj, hj2]
theorem e_bast {q N : Nat} {f : Nat → Int32} {i : Int32} {x : Int32} (ha : a.1 q = some (.inl (G.2.1 2, N, .inl (f)))) (h0 : 0 ≤ i.toInt) (h1 : i.toInt < (N : Int)) (hd : decode M.2.1 pc = .ok (.bastore, 1)) (h : ev_V G l M J (pc + 1) L st (ev_put a q (.inl (G.2.1 2, N, .inl (ev_u f i.toInt.toNat (vp_nar .byte x))))) k n) : ev_V G l M J pc L (.int x :: .int i :: .ref q :: st) a k n := by
  intro p e R s d0 m args below meth c C hD H locs cells slots ls hR hS hc hs hl
  refine W.bast C.1 C.2.1 (ev_one hR ha 0 _ rfl) ((C.2.2.2.2.2.2.2.1.2 2 _ rfl).1 N (fun j => .int (f j))) (fun q => by cases q) (by show ¬ (i < 0 ∨ (arrV _ _ _).slots.size ≤ _); rw [arrV_size]; exact ev_in h0 h1) rfl rfl hd fun H1 e1 z oq => ?_
  refine h p e R s d0 m args below meth c C hD H1 _ cells slots ls (hR.put ha ?_ z oq) (ev_S_put hS hR ha z oq) hc hs hl
  show H1[q]? = some (vp_cell _ _)
  rw [e1]
  rw [vp_cell_i, vp_cell_i, arrV_store]
  congr 2
  funext j
  have hi : i.toNatClampNeg = i.toInt.toNat := rfl
  by_cases hj : j = i.toNatClampNeg
  · subst hj
    simp [updV, ev_u, vp_nar]
    try rfl
  · have hj2 : ¬ j = i.toInt.toNat := by rw [← hi]; exact hj
    simp [updV, ev_u, hj, hj2]
theorem e_zast {q N : Nat} {f : Nat → Int32} {i : Int32} {x : Int32} (ha : a.1 q = some (.inl (G.2.1 3, N, .inl (f)))) (h0 : 0 ≤ i.toInt) (h1 : i.toInt < (N : Int)) (hd : decode M.2.1 pc = .ok (.bastore, 1)) (h : ev_V G l M J (pc + 1) L st (ev_put a q (.inl (G.2.1 3, N, .inl (ev_u f i.toInt.toNat (vp_nar .boolean x))))) k n) : ev_V G l M J pc L (.int x :: .int i :: .ref q :: st) a k n := by
  intro p e R s d0 m args below meth c C hD H locs cells slots ls hR hS hc hs hl
  refine W.zast C.1 C.2.1 (ev_one hR ha 0 _ rfl) ((C.2.2.2.2.2.2.2.1.2 3 _ rfl).1 N (fun j => .int (f j))) (fun q => by cases q) (by show ¬ (i < 0 ∨ (arrV _ _ _).slots.size ≤ _); rw [arrV_size]; exact ev_in h0 h1) rfl rfl hd fun H1 e1 z oq => ?_
  refine h p e R s d0 m args below meth c C hD H1 _ cells slots ls (hR.put ha ?_ z oq) (ev_S_put hS hR ha z oq) hc hs hl
  show H1[q]? = some (vp_cell _ _)
  rw [e1]
  rw [vp_cell_i, vp_cell_i, arrV_store]
  congr 2
  funext j
  have hi : i.toNatClampNeg = i.toInt.toNat := rfl
  by_cases hj : j = i.toNatClampNeg
  · subst hj
    simp [updV, ev_u, vp_nar]
    try rfl
  · have hj2 : ¬ j = i.toInt.toNat := by rw [← hi]; exact hj
    simp [updV, ev_u, hj, hj2]
theorem e_alen {q : Nat} {x : vp_A} {t0 : Nat} {cA : ClassId} {ty : FieldType} {v : Int32} (ha : a.1 q = some (.inl (cA, x))) (ht : (ev_tys G)[t0]? = some (cA, ty)) (hv : Int32.ofNat x.1 = v) (hd : decode M.2.1 pc = .ok (.arraylength, 1)) (h : ev_V G l M J (pc + 1) L (.int v :: st) a k n) : ev_V G l M J pc L (.ref q :: st) a k n :=
  fun p e R s d0 m args below meth c C hD H locs cells slots ls hR hS hc hs hl => va_alen C.1 C.2.1 C.2.2.2.2.2.2.2.1 (ev_one hR ha) 0 t0 rfl ht hv hd (h p e R s d0 m args below meth c C hD H locs cells slots ls hR hS hc hs hl)
theorem e_aald {q N t0 : Nat} {cA : ClassId} {ty : FieldType} {f : Nat → Option Nat} {i : Int32} (ha : a.1 q = some (.inl (cA, N, .inr (.inr (.inr (.inr f)))))) (ht : (ev_tys G)[t0]? = some (cA, ty)) (hr : ty.isReference = true) (h0 : 0 ≤ i.toInt) (h1 : i.toInt < (N : Int)) (hd : decode M.2.1 pc = .ok (.aaload, 1)) (h : ev_V G l M J (pc + 1) L (va_rf (f i.toInt.toNat) :: st) a k n) : ev_V G l M J pc L (.int i :: .ref q :: st) a k n := by
  intro p e R s d0 m args below meth c C hD H locs cells slots ls hR hS hc hs hl
  have hin := ev_in h0 h1
  have hlt : i.toNatClampNeg < N := Nat.not_le.mp fun q => hin (Or.inr q)
  exact W.aald (v := va_rf (f i.toNatClampNeg)) (ty := ty) C.1 C.2.1 (ev_one hR ha 0 _ rfl) ((C.2.2.2.2.2.2.2.1.2 t0 _ ht).1 N (fun j => va_rf (f j))) hr (fun q => by cases q) (by show ¬ (i < 0 ∨ (arrV _ _ _).slots.size ≤ _); rw [arrV_size]; exact hin) (by show (arrV _ _ _).slots[_]? = _; rw [arrV_read _ _ hlt]) rfl rfl hd (h p e R s d0 m args below meth c C hD H locs cells slots ls hR hS hc hs hl)
theorem e_slen (hd : decode M.2.1 pc = .ok (.arraylength, 1)) (h : ev_V G l M J (pc + 1) L (.int (Int32.ofNat G.2.2.2.1.2.1) :: st) a k n) : ev_V G l M J pc L (.ref G.2.2.2.1.1 :: st) a k n :=
  fun p e R s d0 m args below meth c C hD H locs cells slots ls hR hS hc hs hl => va_slen C.1 C.2.1 C.2.2.2.2.2.2.2.2.1.2.2.2.1 C.2.2.2.2.2.2.2.2.1.2.2.2.2.2 C.2.2.2.2.2.2.2.2.1.2.2.2.2.1 hS hd (h p e R s d0 m args below meth c C hD H locs cells slots ls hR hS hc hs hl)
theorem e_sald {i : Int32} (h0 : 0 ≤ i.toInt) (h1 : i.toInt < (G.2.2.2.1.2.1 : Int)) (hd : decode M.2.1 pc = .ok (.iaload, 1)) (h : ev_V G l M J (pc + 1) L (.int (G.2.2.2.1.2.2 i.toInt.toNat) :: st) a k n) : ev_V G l M J pc L (.int i :: .ref G.2.2.2.1.1 :: st) a k n :=
  fun p e R s d0 m args below meth c C hD H locs cells slots ls hR hS hc hs hl => va_sld C.1 C.2.1 C.2.2.2.2.2.2.2.2.1.2.2.2.1 C.2.2.2.2.2.2.2.2.1.2.2.2.2.2 C.2.2.2.2.2.2.2.2.1.2.2.2.2.1 hS (ev_in h0 h1) hd (h p e R s d0 m args below meth c C hD H locs cells slots ls hR hS hc hs hl)
theorem e_new {C : String} {T : u_T} {N ci idx z : Nat} {fs : List Value} (tyf : Nat → FieldType) (hty : ∀ j, j < N → parseFieldDescriptor (T j).2.2.1 = some (tyf j)) (hin : ∀ w ∈ u_ws C T N, w ∈ ev_ws) (hcl : vwCl[ci]? = some (C, T, N)) (hw1 : Cond.classLink M.1.cls idx C ∈ ev_ws) (hw2 : Cond.instantiable C N ∈ ev_ws) (hw3 : Cond.initialized C ∈ ev_ws) (hfs : ∀ j, j < N → defaultValue (tyf j) = vp_V fs j) (hz : a.2 = some z) (hd : decode M.2.1 pc = .ok (.new idx, 3))
    (h : ev_V G l M J (pc + 3) L (.ref z :: st) (ev_new a z (.inr (ci, fs))) k n) : ev_V G l M J pc L st a (k + 1) (n + N) := by
  intro p e R s d0 m args below meth c C9 hD H locs cells slots ls hR hS hc hs hl
  obtain ⟨hx, hb, hml, hown, hts, hret, hlk, hK, hE, hini, hhh, ⟨hr1, hr2, hr3, hr4⟩, hfl⟩ := id C9
  have hKn := hK.1 ci _ hcl
  refine W.newcK hx hb hown (hts _ hw1) (hts _ hw2) (hts _ hw3) rfl hd (by omega) (by omega) hKn.2.1 rfl fun H1 kC hkC e1 z1 o1 => ?_
  have hsz := hR.2.1 z hz
  subst hsz
  exact h p e R s d0 m args below meth c C9 hD H1 locs (cells + 1) (slots + N) ls (hR.new ⟨_, hcl, (u_born tyf hts hin hKn hkC e1 hty).to hfs⟩ z1 o1) (ev_S_new hS z1 o1) (by omega) (by omega) hl
theorem e_newa {atype : ArrayType} {ty : FieldType} {t0 N z : Nat} {i : Int32} {cA : ClassId} {a0 : vp_A} (hty : newarray.typeOf atype = ty) (ht : (ev_tys G)[t0]? = some (cA, ty)) (hno : ∀ C, ty ≠ .object C) (hw : Cond.arrayClass ty ∈ ev_ws) (ha0 : ∀ c : ClassId, vp_cell c a0 = arrV c N (fun _ => defaultValue ty)) (hi : i.toInt = (N : Int)) (hbytes : N * componentBytes ty ≤ 536870912) (hz : a.2 = some z) (hd : decode M.2.1 pc = .ok (.newarray atype, 2))
    (h : ev_V G l M J (pc + 2) L (.ref z :: st) (ev_new a z (.inl (cA, a0))) k n) : ev_V G l M J pc L (.int i :: st) a (k + 1) (n + N) := by
  subst hty
  intro p e R s d0 m args below meth c C9 hD H locs cells slots ls hR hS hc hs hl
  obtain ⟨hx, hb, hml, hown, hts, hret, hlk, hK, hE, hini, hhh, ⟨hr1, hr2, hr3, hr4⟩, hfl⟩ := id C9
  have hsz := hR.2.1 z hz
  subst hsz
  refine va_newaK hx hb (hts _ hw) rfl hd rfl (fun q => by have := ev_lt32.mp q; have h2 : (0 : Int32).toInt = 0 := rfl; omega) (show i.toInt.toNat = N by omega) hbytes (by omega) (by omega) rfl fun H1 cA' e1 z1 o1 hAr hNm => ?_
  have hcc : cA' = cA := by
    have h1 := (hK.2 t0 _ ht).2
    have h2 : (s.setDrawn d0).vm.findClass ("[" ++ (newarray.typeOf atype).toString) = some cA := by
      unfold va_RA at h1
      split at h1
      · exact absurd (by assumption) (hno _)
      · exact h1
    exact Option.some.inj (hNm.symm.trans h2)
  subst hcc
  refine h p e R s d0 m args below meth c C9 hD H1 locs (cells + 1) (slots + N) ls (hR.new ?_ z1 o1) (ev_S_new hS z1 o1) (by omega) (by omega) hl
  show H1[H.size]? = some (vp_cell _ _)
  rw [ha0]
  exact e1
theorem e_objInit {idx q : Nat} (hw1 : Cond.methodLink M.1.cls idx Lib.objectInit ∈ ev_ws) (hw2 : Cond.instanceMethod Lib.objectInit ∈ ev_ws) (hw3 : Cond.code Lib.objectInit ⟨#[0xb1]⟩ 1 none ∈ ev_ws) (hst : (st.map fun v => v.category).sum ≤ 8) (hdp : 1 ≤ J.2.2.1) (hd : decode M.2.1 pc = .ok (.invokespecial idx, 3)) (h : ev_V G l M J (pc + 3) L st a k n) : ev_V G l M J pc L (.ref q :: st) a k n := by
  intro p e R s d0 m args below meth c C hD H locs cells slots ls hR hS hc hs hl
  obtain ⟨hx, hb, hml, hown, hts, hret, hlk, hK, hE, hini, hhh, ⟨hr1, hr2, hr3, hr4⟩, hfl⟩ := id C
  exact W.objInit hx hb hown (hts _ hw1) (hts _ hw2) (hts _ hw3) rfl (hl.1.trans hml.symm) rfl hd (by omega) (by have := lv_room (m := m) (pc := pc) (ls := ls) (rest := .ref q :: st) hst; omega) (h p e R s d0 m args below meth c C hD H locs cells slots ls hR hS hc hs hl)

theorem e_iret {v : Int32} (hrt : M.2.2.2 = some .int) (hd : decode M.2.1 pc = .ok (.ireturn, 1)) (hP : J.2.2.2.2.2.1 (some (.int v)) a) : ev_V G l M J pc L [.int v] a k n := by
  intro p e R s d0 m args below meth c C hD H locs cells slots ls hR hS hc hs hl
  obtain ⟨hx, hb, hml, hown, hts, hret, hlk, hK, hE, hini, hhh, ⟨hr1, hr2, hr3, hr4⟩, hfl⟩ := id C
  refine W.widen (k := J.2.2.2.1) (n := J.2.2.2.2.1) (by omega) (by omega) ?_
  have K : W p l e R (s.setDrawn d0) m args below meth c H locs J.2.2.2.1 J.2.2.2.2.1 (MQ below (ev_Qc G J.2.2.2.2.2.1) args (s.setDrawn d0) J.2.2.2.1 J.2.2.2.2.1 (ev_A G)) (F0 m pc ls [.int v]) :=
    W.iret hx hb (hret.trans (by assumption)) (fun t ht _ => ⟨⟨_, a, rfl, hP, by rw [ht]; exact hR⟩, va_S.F (s := s.setDrawn d0) hS ht⟩) hS.2.2 hd hlk
  exact ev_end hD K
theorem e_zret {v : Int32} {ty : FieldType} (hrt : M.2.2.2 = some ty) (hnr : narrow ty (.int v) = .int v) (hd : decode M.2.1 pc = .ok (.ireturn, 1)) (hP : J.2.2.2.2.2.1 (some (.int v)) a) : ev_V G l M J pc L [.int v] a k n := by
  intro p e R s d0 m args below meth c C hD H locs cells slots ls hR hS hc hs hl
  obtain ⟨hx, hb, hml, hown, hts, hret, hlk, hK, hE, hini, hhh, ⟨hr1, hr2, hr3, hr4⟩, hfl⟩ := id C
  refine W.widen (k := J.2.2.2.1) (n := J.2.2.2.2.1) (by omega) (by omega) ?_
  have K : W p l e R (s.setDrawn d0) m args below meth c H locs J.2.2.2.1 J.2.2.2.2.1 (MQ below (ev_Qc G J.2.2.2.2.2.1) args (s.setDrawn d0) J.2.2.2.1 J.2.2.2.2.1 (ev_A G)) (F0 m pc ls [.int v]) :=
    W.zret hx hb (hret.trans (by assumption)) hnr (fun t ht _ => ⟨⟨_, a, rfl, hP, by rw [ht]; exact hR⟩, va_S.F (s := s.setDrawn d0) hS ht⟩) hS.2.2 hd hlk
  exact ev_end hD K
theorem e_lret {v : Int64} (hrt : M.2.2.2 = some .long) (hd : decode M.2.1 pc = .ok (.lreturn, 1)) (hP : J.2.2.2.2.2.1 (some (.long v)) a) : ev_V G l M J pc L [.long v] a k n := by
  intro p e R s d0 m args below meth c C hD H locs cells slots ls hR hS hc hs hl
  obtain ⟨hx, hb, hml, hown, hts, hret, hlk, hK, hE, hini, hhh, ⟨hr1, hr2, hr3, hr4⟩, hfl⟩ := id C
  refine W.widen (k := J.2.2.2.1) (n := J.2.2.2.2.1) (by omega) (by omega) ?_
  have K : W p l e R (s.setDrawn d0) m args below meth c H locs J.2.2.2.1 J.2.2.2.2.1 (MQ below (ev_Qc G J.2.2.2.2.2.1) args (s.setDrawn d0) J.2.2.2.1 J.2.2.2.2.1 (ev_A G)) (F0 m pc ls [.long v]) :=
    W.lret hx hb (hret.trans (by assumption)) (fun t ht _ => ⟨⟨_, a, rfl, hP, by rw [ht]; exact hR⟩, va_S.F (s := s.setDrawn d0) hS ht⟩) hS.2.2 hd hlk
  exact ev_end hD K
theorem e_dret {v : UInt64} (hrt : M.2.2.2 = some .double) (hd : decode M.2.1 pc = .ok (.dreturn, 1)) (hP : J.2.2.2.2.2.1 (some (.double v)) a) : ev_V G l M J pc L [.double v] a k n := by
  intro p e R s d0 m args below meth c C hD H locs cells slots ls hR hS hc hs hl
  obtain ⟨hx, hb, hml, hown, hts, hret, hlk, hK, hE, hini, hhh, ⟨hr1, hr2, hr3, hr4⟩, hfl⟩ := id C
  refine W.widen (k := J.2.2.2.1) (n := J.2.2.2.2.1) (by omega) (by omega) ?_
  have K : W p l e R (s.setDrawn d0) m args below meth c H locs J.2.2.2.1 J.2.2.2.2.1 (MQ below (ev_Qc G J.2.2.2.2.2.1) args (s.setDrawn d0) J.2.2.2.1 J.2.2.2.2.1 (ev_A G)) (F0 m pc ls [.double v]) :=
    W.dret hx hb (hret.trans (by assumption)) (fun t ht _ => ⟨⟨_, a, rfl, hP, by rw [ht]; exact hR⟩, va_S.F (s := s.setDrawn d0) hS ht⟩) hS.2.2 hd hlk
  exact ev_end hD K
theorem e_aret {v : Value} {ty : FieldType} (hrt : M.2.2.2 = some ty) (hrt2 : (∃ n, ty = .object n) ∨ ∃ t, ty = .array t) (hv : v = .null ∨ ∃ a, v = .ref a) (hd : decode M.2.1 pc = .ok (.areturn, 1)) (hP : J.2.2.2.2.2.1 (some (v)) a) : ev_V G l M J pc L [v] a k n := by
  intro p e R s d0 m args below meth c C hD H locs cells slots ls hR hS hc hs hl
  obtain ⟨hx, hb, hml, hown, hts, hret, hlk, hK, hE, hini, hhh, ⟨hr1, hr2, hr3, hr4⟩, hfl⟩ := id C
  refine W.widen (k := J.2.2.2.1) (n := J.2.2.2.2.1) (by omega) (by omega) ?_
  have K : W p l e R (s.setDrawn d0) m args below meth c H locs J.2.2.2.1 J.2.2.2.2.1 (MQ below (ev_Qc G J.2.2.2.2.2.1) args (s.setDrawn d0) J.2.2.2.1 J.2.2.2.2.1 (ev_A G)) (F0 m pc ls [v]) :=
    W.aret hx hb (hret.trans (by assumption)) hrt2 hv (fun t ht _ => ⟨⟨_, a, rfl, hP, by rw [ht]; exact hR⟩, va_S.F (s := s.setDrawn d0) hS ht⟩) hS.2.2 hd hlk
  exact ev_end hD K
theorem e_vret (hrt : M.2.2.2 = none) (hd : decode M.2.1 pc = .ok (.return_, 1)) (hP : J.2.2.2.2.2.1 none a) : ev_V G l M J pc L [] a k n := by
  intro p e R s d0 m args below meth c C hD H locs cells slots ls hR hS hc hs hl
  obtain ⟨hx, hb, hml, hown, hts, hret, hlk, hK, hE, hini, hhh, ⟨hr1, hr2, hr3, hr4⟩, hfl⟩ := id C
  refine W.widen (k := J.2.2.2.1) (n := J.2.2.2.2.1) (by omega) (by omega) ?_
  have K : W p l e R (s.setDrawn d0) m args below meth c H locs J.2.2.2.1 J.2.2.2.2.1 (MQ below (ev_Qc G J.2.2.2.2.2.1) args (s.setDrawn d0) J.2.2.2.1 J.2.2.2.2.1 (ev_A G)) (F0 m pc ls []) :=
    W.vret hx hb (hret.trans (by assumption)) (fun t ht _ => ⟨⟨_, a, rfl, hP, by rw [ht]; exact hR⟩, va_S.F (s := s.setDrawn d0) hS ht⟩) hS.2.2 hd hlk
  exact ev_end hD K
end EVH
