/-! THE LAYER OF ABSTRACT HEAPS: the heap is a partial map from addresses to what lies there; a method's contract says which map it leaves. -/
/-- G: classes and slots; the array classes; the floor (own cells lie at or above it); the script (cell, length, contents); the cells of the texts, and of their bytes -/
abbrev ev_G : Type := va_G × (Nat → ClassId) × Nat × (Nat × Nat × (Nat → Int32)) × (Nat → Nat) × (Nat → Nat)
abbrev ev_tys (G : ev_G) : List (ClassId × FieldType) := [(G.2.1 0, .int), (G.2.1 1, .long), (G.2.1 2, .byte), (G.2.1 3, .boolean), (G.2.1 4, .object RX0), (G.2.1 5, .array .int), (G.2.1 6, .object RX7), (G.2.1 7, .object RX8), (G.2.1 8, .object RX10)]
abbrev ev_fl (G : ev_G) : Nat := G.2.2.1
def ev_A (G : ev_G) : Nat → Prop := fun q => ev_fl G ≤ q
abbrev ev_H : Type := (Nat → Option va_E) × Option Nat
def ev_R (G : ev_G) (a : ev_H) (H : Heap) : Prop := (∀ (q : Nat) (e : va_E), a.1 q = some e → ev_fl G ≤ q ∧ va_at G.1 vwCl (q, e) H) ∧ (∀ n, a.2 = some n → H.size = n) ∧ ev_fl G ≤ H.size
def ev_put (a : ev_H) (q : Nat) (e : va_E) : ev_H := (fun b => if b = q then some e else a.1 b, a.2)
theorem ev_R.size {G : ev_G} {a : ev_H} {H : Heap} (h : ev_R G a H) : ev_fl G ≤ H.size := h.2.2
theorem ev_R.put {G : ev_G} {a : ev_H} {H H1 : Heap} {q : Nat} {e0 e : va_E} (h : ev_R G a H) (hq : a.1 q = some e0) (he : va_at G.1 vwCl (q, e) H1) (hz : H1.size = H.size) (ho : ∀ b : Nat, b ≠ q → H1[b]? = H[b]?) : ev_R G (ev_put a q e) H1 := by
  refine ⟨fun b x hb => ?_, fun n hn => hz.trans (h.2.1 n hn), by rw [hz]; exact h.2.2⟩
  by_cases hbq : b = q
  · subst hbq
    simp only [ev_put, if_true] at hb
    cases hb
    exact ⟨(h.1 b e0 hq).1, he⟩
  · simp only [ev_put, if_neg hbq] at hb
    exact ⟨(h.1 b x hb).1, (h.1 b x hb).2.kept (ho b hbq)⟩
/-- a new cell at the top -/
def ev_new (a : ev_H) (q : Nat) (e : va_E) : ev_H := (fun b => if b = q then some e else a.1 b, a.2.map (· + 1))
theorem ev_R.lt {G : ev_G} {a : ev_H} {H : Heap} (h : ev_R G a H) {q : Nat} {e : va_E} (hq : a.1 q = some e) : q < H.size := (h.1 q e hq).2.lt
theorem ev_R.new {G : ev_G} {a : ev_H} {H H1 : Heap} {e : va_E} (h : ev_R G a H) (he : va_at G.1 vwCl (H.size, e) H1) (hz : H1.size = H.size + 1) (ho : ∀ b : Nat, b < H.size → H1[b]? = H[b]?) : ev_R G (ev_new a H.size e) H1 := by
  refine ⟨fun b x hb => ?_, fun n hn => ?_, by have := h.2.2; omega⟩
  · by_cases hbq : b = H.size
    · subst hbq
      simp only [ev_new, if_true] at hb
      cases hb
      exact ⟨h.2.2, he⟩
    · simp only [ev_new, if_neg hbq] at hb
      exact ⟨(h.1 b x hb).1, (h.1 b x hb).2.kept (ho b (h.lt hb))⟩
  · simp only [ev_new, Option.map_eq_some_iff] at hn
    obtain ⟨n0, h0, rfl⟩ := hn
    rw [hz, h.2.1 n0 h0]
/-- cells that no one looks at any more may come to lie on top -/
theorem ev_R.top {G : ev_G} {f : Nat → Option va_E} {z : Option Nat} {H H1 : Heap} (h : ev_R G (f, z) H) (hz : H.size ≤ H1.size) (ho : ∀ b : Nat, b < H.size → H1[b]? = H[b]?) : ev_R G (f, none) H1 :=
  ⟨fun b x hb => ⟨(h.1 b x hb).1, (h.1 b x hb).2.kept (ho b (h.lt hb))⟩, (fun n hn => nomatch hn), Nat.le_trans h.2.2 hz⟩
theorem ev_R.forget {G : ev_G} {f : Nat → Option va_E} {z : Option Nat} {H : Heap} (h : ev_R G (f, z) H) : ev_R G (f, none) H := ⟨h.1, (fun n hn => nomatch hn), h.2.2⟩
/-- what lies below the floor: the two statics of Throwable, two members by their nest, the texts, the script -/
def ev_strs : List (String × Nat × String × Nat) := [(RX6, 216, "a number out of range", 0), (RX5, 66, "chain", 1), (RX5, 88, "mass", 2), (RX5, 93, "masses", 3), (RX5, 98, "spring", 4), (RX5, 149, "limit", 5), (RX5, 103, "springs", 6), (RX5, 108, "damp", 7), (RX5, 114, "pluck", 8), (RX5, 119, "strike", 9), (RX5, 124, "end", 10), (RX5, 172, "right", 11), (RX5, 174, "left", 12), (RX5, 129, "impulse", 13), (RX6, 213, "there are not so many", 14), (RX6, 206, "no such mass", 15), (RX6, 159, "an impulse of strength 0", 16), (RX6, 166, "16 impulses wait", 17), (RX6, 209, "no such spring", 18), (RX6, 182, "the spring is whole", 19), (RL, 142, "chain", 1), (RL, 121, " -", 20), (RL, 123, " ", 21), (RL, 148, ";", 22), (RL, 169, "masses", 3), (RL, 170, ";springs", 23), (RL, 175, "spring", 4), (RL, 176, " limit", 24), (RL, 181, "damp", 7), (RL, 183, "mass", 2), (RL, 188, "pluck", 8), (RL, 196, "strike", 9), (RL, 200, "end left", 25), (RL, 210, "impulse", 13)]
def ev_len : List Nat := [21, 5, 4, 6, 6, 5, 7, 4, 5, 6, 3, 5, 4, 7, 21, 12, 24, 16, 14, 19, 2, 1, 1, 8, 6, 8]
def ev_byt : List (List Int32) := [[97, 32, 110, 117, 109, 98, 101, 114, 32, 111, 117, 116, 32, 111, 102, 32, 114, 97, 110, 103, 101], [99, 104, 97, 105, 110], [109, 97, 115, 115], [109, 97, 115, 115, 101, 115], [115, 112, 114, 105, 110, 103], [108, 105, 109, 105, 116], [115, 112, 114, 105, 110, 103, 115], [100, 97, 109, 112], [112, 108, 117, 99, 107], [115, 116, 114, 105, 107, 101], [101, 110, 100], [114, 105, 103, 104, 116], [108, 101, 102, 116], [105, 109, 112, 117, 108, 115, 101], [116, 104, 101, 114, 101, 32, 97, 114, 101, 32, 110, 111, 116, 32, 115, 111, 32, 109, 97, 110, 121], [110, 111, 32, 115, 117, 99, 104, 32, 109, 97, 115, 115], [97, 110, 32, 105, 109, 112, 117, 108, 115, 101, 32, 111, 102, 32, 115, 116, 114, 101, 110, 103, 116, 104, 32, 48], [49, 54, 32, 105, 109, 112, 117, 108, 115, 101, 115, 32, 119, 97, 105, 116], [110, 111, 32, 115, 117, 99, 104, 32, 115, 112, 114, 105, 110, 103], [116, 104, 101, 32, 115, 112, 114, 105, 110, 103, 32, 105, 115, 32, 119, 104, 111, 108, 101], [32, 45], [32], [59], [59, 115, 112, 114, 105, 110, 103, 115], [32, 108, 105, 109, 105, 116], [101, 110, 100, 32, 108, 101, 102, 116]]
def ev_Ks (G : ev_G) : Nat → Nat := G.2.2.2.2.1
def ev_Vs (G : ev_G) : Nat → Nat := G.2.2.2.2.2
def ev_S (G : ev_G) (s : State) (H : Heap) : Prop := ∀ i : Nat, i < 26 → va_O "java/lang/String" (ev_Ks G i) (ev_A G) s H ∧ va_OF "java/lang/String" "coder" "B" (.int 0) (ev_Ks G i) (ev_A G) s H ∧ va_OF "java/lang/String" "value" "[B" (.ref (ev_Vs G i)) (ev_Ks G i) (ev_A G) s H ∧ va_T .byte (ev_Vs G i) (ev_len.getD i 0) (fun j => .int ((ev_byt.getD i []).getD j 0)) (ev_A G) s H
/-- words of the tables that hold wherever a method is walked, though not by their form -/
def ev_nwk (w : Cond) : Bool := match w with
  | .castable .. => true
  | .declares .. => true
  | .methodLinkNest .. => true
  | _ => false
def ev_nw : List Cond := lw_tbl.filter ev_nwk
theorem ev_nw_ok {w : Cond} (i : Nat) (h : lw_tbl[i]? = some w) (g : ev_nwk w = true) : w ∈ ev_nw := List.mem_filter.mpr ⟨List.mem_of_getElem? h, g⟩
theorem ev_nw_warm {w : Cond} (g : ev_nwk w = true) {s U : State} (hW : s.WarmedH U.vm) (h : va_Nw w s) : va_Nw w U := by
  cases w <;> first
    | exact va_Nw.warmC hW h
    | exact va_Nw.warmD hW h
    | exact va_Nw.warmM hW h
    | exact absurd g (by simp [ev_nwk])
/-- an array class over arrays of ints -/
def ev_AL (U : State) : Prop := (Cond.arrayOver (.array .int)).before #[] U = true
theorem ev_AL.spec {u : State} (h : ev_AL u) : ∃ comp c k, u.vm.findClass (FieldType.array .int).toString = some comp ∧ (u.vm.classes.findIdx? fun (x : Class) => match x.kind with | .array component _ => component == comp | _ => false) = some c ∧ u.vm.classes[c]? = some k ∧ k.kind = .array comp (.array .int) ∧ u.vm.findClass ("[" ++ (FieldType.array .int).toString) = some c := by
  simp only [ev_AL, Cond.before, Cond.holds, Cond.value, beq_iff_eq] at h
  cases hc : u.vm.findClass (FieldType.array .int).toString with
  | none => simp [hc] at h
  | some comp =>
    simp only [hc, Option.bind_some, Option.bind_eq_some_iff, Option.map_eq_some_iff] at h
    obtain ⟨c, hi, k, hk, hb⟩ := h
    obtain ⟨hlt, hp, -⟩ := Array.findIdx?_eq_some_iff_getElem.mp hi
    have hkk : u.vm.classes[c] = k := (Array.getElem?_eq_some_iff.mp hk).2
    rw [hkk] at hp
    cases hkind : k.kind with
    | array component ty =>
      rw [hkind] at hb hp
      simp at hb hp
      exact ⟨comp, c, k, rfl, hi, hk, by rw [hkind, hp, hb.1], hb.2⟩
    | _ => rw [hkind] at hb; simp at hb
theorem ev_AL.moved {u U : State} (hvm : u.vm.Alike U.vm) (h : ev_AL u) : ev_AL U := by
  obtain ⟨comp, c, k, h1, h2, h3, h4, h5⟩ := h.spec
  obtain ⟨k', hk', he⟩ := hvm.2.2 _ _ h3
  have hi : (U.vm.classes.findIdx? fun (x : Class) => match x.kind with | .array component _ => component == comp | _ => false) = some c := by
    refine (va_idx_bare U.vm comp).symm.trans ?_
    have hb : U.vm.bare = u.vm.bare := by first | exact hvm.bare_eq | exact hvm.bare_eq.symm
    rw [hb]
    exact (va_idx_bare u.vm comp).trans h2
  have hkind : k'.kind = .array comp (.array .int) := by rw [he]; exact h4
  have f1 : U.vm.findClass (FieldType.array .int).toString = some comp := by rw [hvm.findClass]; exact h1
  have f2 : U.vm.findClass ("[" ++ (FieldType.array .int).toString) = some c := by rw [hvm.findClass]; exact h5
  unfold ev_AL Cond.before Cond.holds
  simp only [Cond.value]
  rw [f1, Option.bind_some]
  refine (congrArg (fun o : Option Nat => (o.bind (fun c => (U.vm.classes[c]?).map fun (k : Class) => match k.kind with | .array _ ty => decide (ty = FieldType.array .int) && decide (U.vm.findClass ("[" ++ (FieldType.array .int).toString) = some c) | _ => false) == some true)) hi).trans ?_
  simp [hk', hkind, f2]
def ev_A2 (U : State) : Prop := ev_AL U ∧ va_AO RX7 U ∧ va_AO RX8 U ∧ va_AO RX10 U
theorem ev_A2.moved {u U : State} (hvm : u.vm.Alike U.vm) (h : ev_A2 u) : ev_A2 U := ⟨h.1.moved hvm, h.2.1.moved hvm, h.2.2.1.moved hvm, h.2.2.2.moved hvm⟩
/-- what is no kind of what, among the exceptions -/
def ev_nc : List (String × String) := [("java/lang/IllegalArgumentException", "java/lang/IndexOutOfBoundsException"), ("java/lang/IllegalArgumentException", "java/util/NoSuchElementException"), ("java/lang/IllegalStateException", "java/lang/IndexOutOfBoundsException"), ("java/lang/IllegalStateException", "java/lang/IllegalArgumentException")]
def ev_NC (s : State) : Prop := ∀ q ∈ ev_nc, va_Nc q.1 q.2 s
def ev_E (G : ev_G) (s : State) (H : Heap) : Prop :=
  (vx_Zq Bundle.tN "UNASSIGNED_STACK" Bundle.steD (ev_A G) s H ∧ vx_Zq Bundle.tN "SUPPRESSED_SENTINEL" Bundle.listD (ev_A G) s H) ∧
  ((∀ w ∈ ev_nw, va_Nw w s) ∧ va_AO RX0 s ∧ ev_A2 s ∧ ev_NC s) ∧
  (ev_S G s H ∧ (∀ q ∈ ev_strs, vk_R q.1 q.2.1 q.2.2.1 (ev_Ks G q.2.2.2) s) ∧ va_Z "java/lang/String" "COMPACT_STRINGS" "Z" (.int 1) (ev_A G) s H ∧ va_Zq "jdk/internal/util/Preconditions" "SIOOBE_FORMATTER" "Ljava/util/function/BiFunction;" (ev_A G) s H) ∧
  (va_X G.2.2.2.1.1 G.2.2.2.1.2.1 G.2.2.2.1.2.2 s H ∧ ¬ ev_A G G.2.2.2.1.1 ∧ G.2.2.2.1.1 < H.size)
theorem ev_E.kept {G : ev_G} {s : State} {H H1 : Heap} (h : ev_E G s H) (hz : H.size ≤ H1.size) (hq : ∀ a : Nat, a < H.size → ¬ ev_A G a → H1[a]? = H[a]?) : ev_E G s H1 := by
  obtain ⟨⟨h1, h2⟩, h3, ⟨h4, h5, h6, h7⟩, h8, h9, h10⟩ := h
  exact ⟨⟨h1.kept hq, h2.kept hq⟩, h3, ⟨fun i hi => ⟨(h4 i hi).1.kept hq, (h4 i hi).2.1.kept hq, (h4 i hi).2.2.1.kept hq, (h4 i hi).2.2.2.kept hq⟩, h5, h6.kept hq, h7.kept hq⟩, h8.kept (hq _ h10 h9), h9, Nat.lt_of_lt_of_le h10 hz⟩
theorem ev_E.warm {G : ev_G} {s U : State} {H : Heap} (hW : s.WarmedH U.vm) (h : ev_E G s H) : ev_E G U H := by
  obtain ⟨⟨h1, h2⟩, ⟨h3, h3', h3''⟩, ⟨h4, h5, h6, h7⟩, h8, h9, h10⟩ := h
  have hvm := hW.alike
  exact ⟨⟨h1.moved hvm, h2.moved hvm⟩, ⟨fun w hw => ev_nw_warm (List.mem_filter.mp hw).2 hW (h3 w hw), h3'.moved hvm, h3''.1.moved hvm, fun q hq => (h3''.2 q hq).moved hvm⟩, ⟨fun i hi => ⟨(h4 i hi).1.moved hvm, (h4 i hi).2.1.moved hvm, (h4 i hi).2.2.1.moved hvm, (h4 i hi).2.2.2.moved hvm⟩, fun q hq => vk_R.warm hW (h5 q hq), h6.moved hvm, h7.moved hvm⟩, h8.moved hvm, h9, h10⟩
theorem ev_E.on {G : ev_G} {s : State} {H : Heap} {locs : List Loc} (h : ev_E G s s.heap) (hS : va_S (ev_A G) s.heap H locs) : ev_E G s H := h.kept hS.1 hS.2.1
/-! locals: by their places -/
def ev_is2 : Option Value → Bool
  | some (.long _) => true
  | some (.double _) => true
  | _ => false
def ev_st1 : Nat → Value → List (Option Value) → List (Option Value)
  | 0, v, [] => [some v]
  | 0, v, _ :: l => some v :: l
  | i + 1, v, [] => none :: ev_st1 i v []
  | 0 + 1, v, o :: l => (bif ev_is2 o then none else o) :: ev_st1 0 v l
  | i + 1 + 1, v, o :: l => o :: ev_st1 (i + 1) v l
def ev_no : Nat → List (Option Value) → List (Option Value)
  | _, [] => []
  | 0, _ :: l => none :: l
  | i + 1, o :: l => o :: ev_no i l
def ev_st2 (i : Nat) (v : Value) (L : List (Option Value)) : List (Option Value) := ev_no (i + 1) (ev_st1 i v L)
theorem ev_st1_at : ∀ (i : Nat) (v : Value) (L : List (Option Value)) (j : Nat) (w : Value), (ev_st1 i v L)[j]? = some (some w) → (j = i ∧ w = v) ∨ (j ≠ i ∧ L[j]? = some (some w) ∧ ¬ (j + 1 = i ∧ w.category = 2))
  | 0, v, [], j, w, h => by
    cases j with
    | zero => simp [ev_st1] at h; exact Or.inl ⟨rfl, h.symm⟩
    | succ j => simp [ev_st1] at h
  | 0, v, o :: l, j, w, h => by
    cases j with
    | zero => simp [ev_st1] at h; exact Or.inl ⟨rfl, h.symm⟩
    | succ j => simp [ev_st1] at h; exact Or.inr ⟨by omega, by simpa using h, by omega⟩
  | i + 1, v, [], j, w, h => by
    cases j with
    | zero => simp [ev_st1] at h
    | succ j =>
      simp only [ev_st1, List.getElem?_cons_succ] at h
      rcases ev_st1_at i v [] j w h with ⟨rfl, rfl⟩ | ⟨-, h2, -⟩
      · exact Or.inl ⟨rfl, rfl⟩
      · simp at h2
  | 0 + 1, v, o :: l, j, w, h => by
    cases j with
    | zero =>
      simp only [ev_st1, List.getElem?_cons_zero, Option.some.injEq] at h
      cases h2 : ev_is2 o with
      | true => rw [h2] at h; simp at h
      | false =>
        rw [h2] at h
        simp only [cond_false] at h
        refine Or.inr ⟨by omega, by simp [h], ?_⟩
        rintro ⟨-, hc⟩
        subst h
        cases w <;> simp [ev_is2, Value.category] at h2 hc
    | succ j =>
      simp only [ev_st1, List.getElem?_cons_succ] at h
      rcases ev_st1_at 0 v l j w h with ⟨rfl, rfl⟩ | ⟨h1, h2, h3⟩
      · exact Or.inl ⟨rfl, rfl⟩
      · exact Or.inr ⟨by omega, by simpa using h2, by omega⟩
  | i + 1 + 1, v, o :: l, j, w, h => by
    cases j with
    | zero =>
      simp only [ev_st1, List.getElem?_cons_zero] at h
      exact Or.inr ⟨by omega, by simpa using h, by omega⟩
    | succ j =>
      simp only [ev_st1, List.getElem?_cons_succ] at h
      rcases ev_st1_at (i + 1) v l j w h with ⟨rfl, rfl⟩ | ⟨h1, h2, h3⟩
      · exact Or.inl ⟨rfl, rfl⟩
      · exact Or.inr ⟨by omega, by simpa using h2, fun hc => h3 ⟨by omega, hc.2⟩⟩
theorem ev_no_at : ∀ (i : Nat) (L : List (Option Value)) (j : Nat) (w : Value), (ev_no i L)[j]? = some (some w) → j ≠ i ∧ L[j]? = some (some w)
  | _, [], j, w, h => by simp [ev_no] at h
  | 0, o :: l, j, w, h => by
    cases j with
    | zero => simp [ev_no] at h
    | succ j => simp only [ev_no, List.getElem?_cons_succ] at h; exact ⟨by omega, by simpa using h⟩
  | i + 1, o :: l, j, w, h => by
    cases j with
    | zero => simp only [ev_no, List.getElem?_cons_zero] at h; exact ⟨by omega, by simpa using h⟩
    | succ j =>
      simp only [ev_no, List.getElem?_cons_succ] at h
      have := ev_no_at i l j w h
      exact ⟨by omega, by simpa using this.2⟩
def ev_has (ls : Array Slot) (nL : Nat) (L : List (Option Value)) : Prop := ls.size = nL ∧ lv_wf ls ∧ ∀ (i : Nat) (v : Value), L[i]? = some (some v) → ls[i]? = some (.val v)
def ev_list (L : List (Option Value)) : List (Nat × Value) := L.zipIdx.filterMap (fun q => q.1.map (fun v => (q.2, v)))
theorem ev_list_mem {L : List (Option Value)} {i : Nat} {v : Value} : (i, v) ∈ ev_list L ↔ L[i]? = some (some v) := by
  unfold ev_list
  rw [List.mem_filterMap]
  constructor
  · rintro ⟨⟨o, k⟩, h1, h2⟩
    rw [List.mem_zipIdx_iff_getElem?] at h1
    cases o with
    | none => simp at h2
    | some w => simp at h2; obtain ⟨rfl, rfl⟩ := h2; exact h1
  · intro h
    exact ⟨(some v, i), by rw [List.mem_zipIdx_iff_getElem?]; exact h, rfl⟩
theorem ev_has.lv {ls : Array Slot} {nL : Nat} {L : List (Option Value)} (h : ev_has ls nL L) : lv_has ls nL (ev_list L) := ⟨h.1, h.2.1, fun q hq => h.2.2 q.1 q.2 (ev_list_mem.mp hq)⟩
theorem ev_has.st1 {ls : Array Slot} {nL i : Nat} {L : List (Option Value)} {v : Value} (h : lv_has ls nL ((i, v) :: (ev_list L).filter (fun q => !(q.1 == i) && !(q.1 + 1 == i && q.2.category == 2)))) : ev_has ls nL (ev_st1 i v L) := by
  refine ⟨h.1, h.2.1, fun j w hj => ?_⟩
  rcases ev_st1_at i v L j w hj with ⟨rfl, rfl⟩ | ⟨h1, h2, h3⟩
  · exact h.2.2 (j, w) List.mem_cons_self
  · refine h.2.2 (j, w) (List.mem_cons_of_mem _ (List.mem_filter.mpr ⟨ev_list_mem.mpr h2, ?_⟩))
    simp only [Bool.and_eq_true, Bool.not_eq_true', beq_eq_false_iff_ne, Bool.and_eq_false_iff]
    refine ⟨h1, ?_⟩
    by_cases e : j + 1 = i
    · exact Or.inr (fun hc => h3 ⟨e, hc⟩)
    · exact Or.inl e
theorem ev_has.st2 {ls : Array Slot} {nL i : Nat} {L : List (Option Value)} {v : Value} (h : lv_has ls nL ((i, v) :: (ev_list L).filter (fun q => !(q.1 == i) && (!(q.1 == i + 1) && !(q.1 + 1 == i && q.2.category == 2))))) : ev_has ls nL (ev_st2 i v L) := by
  refine ⟨h.1, h.2.1, fun j w hj => ?_⟩
  obtain ⟨h0, hj⟩ := ev_no_at _ _ _ _ hj
  rcases ev_st1_at i v L j w hj with ⟨rfl, rfl⟩ | ⟨h1, h2, h3⟩
  · exact h.2.2 (j, w) List.mem_cons_self
  · refine h.2.2 (j, w) (List.mem_cons_of_mem _ (List.mem_filter.mpr ⟨ev_list_mem.mpr h2, ?_⟩))
    simp only [Bool.and_eq_true, Bool.not_eq_true', beq_eq_false_iff_ne, Bool.and_eq_false_iff]
    refine ⟨h1, h0, ?_⟩
    by_cases e : j + 1 = i
    · exact Or.inr (fun hc => h3 ⟨e, hc⟩)
    · exact Or.inl e
/-- fewer locals -/
def ev_le : List (Option Value) → List (Option Value) → Prop
  | [], _ => True
  | none :: l, [] => ev_le l []
  | some _ :: _, [] => False
  | none :: l, _ :: l' => ev_le l l'
  | some v :: l, o :: l' => o = some v ∧ ev_le l l'
theorem ev_le_at : ∀ (L L' : List (Option Value)) (j : Nat) (w : Value), ev_le L L' → L[j]? = some (some w) → L'[j]? = some (some w)
  | [], _, j, w, _, h => by simp at h
  | none :: l, [], j, w, hl, h => by
    cases j with
    | zero => simp at h
    | succ j => have := ev_le_at l [] j w hl (by simpa using h); simp at this
  | some v :: l, [], j, w, hl, h => hl.elim
  | none :: l, o :: l', j, w, hl, h => by
    cases j with
    | zero => simp at h
    | succ j => simpa using ev_le_at l l' j w hl (by simpa using h)
  | some v :: l, o :: l', j, w, hl, h => by
    obtain ⟨h1, h2⟩ := hl
    cases j with
    | zero => simp at h; subst h; simp [h1]
    | succ j => simpa using ev_le_at l l' j w h2 (by simpa using h)
def ev_ar : List Value → List (Option Value)
  | [] => []
  | v :: vs => some v :: (bif ev_is2 (some v) then none :: ev_ar vs else ev_ar vs)
theorem ev_ar_at : ∀ (vs : List Value) (k j : Nat) (w : Value), (ev_ar vs)[j]? = some (some w) → (k + j, w) ∈ lv_args k vs
  | [], k, j, w, h => by simp [ev_ar] at h
  | v :: vs, k, j, w, h => by
    cases j with
    | zero => simp [ev_ar] at h; subst h; exact List.mem_cons_self
    | succ j =>
      simp only [ev_ar, List.getElem?_cons_succ] at h
      refine List.mem_cons_of_mem _ ?_
      by_cases hc : v.category = 2
      · rw [if_pos hc]
        have h2 : ev_is2 (some v) = true := by cases v <;> simp [ev_is2, Value.category] at hc ⊢
        rw [h2, cond_true] at h
        cases j with
        | zero => simp at h
        | succ j =>
          have := ev_ar_at vs (k + 2) j w (by simpa using h)
          rwa [show k + (j + 1 + 1) = k + 2 + j by omega]
      · rw [if_neg hc]
        have h2 : ev_is2 (some v) = false := by cases v <;> simp [ev_is2, Value.category] at hc ⊢
        rw [h2, cond_false] at h
        have := ev_ar_at vs (k + 1) j w h
        rwa [show k + (j + 1) = k + 1 + j by omega]
theorem ev_has.entry (vs : List Value) {n : Nat} (h : (lg_sl vs).length ≤ n) : ev_has ((lg_sl vs ++ List.replicate (n - (lg_sl vs).length) Slot.unset).toArray) n (ev_ar vs) := by
  have h1 := lv_entry vs h
  refine ⟨h1.1, h1.2.1, fun i v hi => ?_⟩
  have := ev_ar_at vs 0 i v hi
  rw [Nat.zero_add] at this
  exact h1.2.2 _ this
/-! methods, contracts, the judgement -/
abbrev ev_M : Type := MethodName × ByteArray × Nat × Option FieldType
abbrev ev_ms (M : ev_M) : List Cond := Cond.code M.1 M.2.1 M.2.2.1 M.2.2.2 :: ev_ws
abbrev ev_rm (d mc ms : Nat) : Room := { frames := d, cells := mc, slots := ms, locals := 36 * d }
def ev_Pre (G : ev_G) (as : List Value) (a : ev_H) : Array Value → State → Prop := fun v U => v = as.toArray ∧ ev_R G a U.heap ∧ va_K G.1 vwCl (ev_tys G) U ∧ ev_E G U U.heap
def ev_Qc (G : ev_G) (P : Option Value → ev_H → Prop) : Array Value → State → Outcome → State → Prop := fun _ st o t => (∃ (v : Option Value) (a : ev_H), o = .returned v ∧ P v a ∧ ev_R G a t.heap) ∧ va_F (ev_A G) st t
def ev_XC (G : ev_G) (X : String → ev_H → Prop) : String → State → State → Prop := fun E st t => (∃ a : ev_H, X E a ∧ ev_R G a t.heap) ∧ va_F (ev_A G) st t
/-- a method's contract at one abstract heap: it returns, and P holds of its answer and of the heap it leaves; or it throws, and X holds of the class thrown -/
def ev_Ct (G : ev_G) (l : Launch) (M : ev_M) (d mc ms : Nat) (as : List Value) (a : ev_H) (P : Option Value → ev_H → Prop) (X : String → ev_H → Prop) : Prop :=
  vx_Met l M.1 (ev_ms M) (ev_rm d mc ms) (ev_Pre G as a) (ev_Qc G P) (ev_XC G X) mc ms (ev_A G)
def ev_C (G : ev_G) (M : ev_M) (hh : List ExceptionTableEntry) (d mc ms : Nat) (p : Program) (R : Room) (s : State) (m : MethodId) (args : Array Value) (meth : Method) (c : Code) : Prop :=
  p.tables.exec = Jvm.exec ∧ c.code = M.2.1 ∧ c.maxLocals = M.2.2.1 ∧ s.vm.findClass M.1.cls = some m.cls ∧ (∀ w ∈ ev_ws, w.before args s = true) ∧ meth.sig.returnType = M.2.2.2 ∧ meth.locks = false ∧ va_K G.1 vwCl (ev_tys G) s ∧ ev_E G s s.heap ∧ (M.1.name = "<init>" → meth.name = "<init>") ∧ c.exceptionTable.toList = hh ∧ (d ≤ R.frames ∧ 36 * d ≤ R.locals ∧ mc ≤ R.cells ∧ ms ≤ R.slots) ∧ ev_fl G ≤ s.heap.size
/-- the end: plain (0), with draws (1) -/
def ev_Z (G : ev_G) (kd : Bool) (P : Option Value → ev_H → Prop) (X : String → ev_H → Prop) (mc ms : Nat) (below : List Frame) (args : Array Value) (s : State) : State → Prop :=
  bif kd then (fun _ => False) else vx_MQ below (ev_Qc G P) (ev_XC G X) args s mc ms (ev_A G)
def ev_D (kd : Bool) (s : State) (d0 : Drawn) : Prop := (kd = true → False) ∧ (kd = false → d0 = s.drawn)
abbrev ev_K : Type := Bool × List ExceptionTableEntry × Nat × Nat × Nat × (Option Value → ev_H → Prop) × (String → ev_H → Prop)
/-- THE JUDGEMENT: the frame of M at pc, with locals L, stack st, abstract heap a, k cells of n slots still to be made, comes to its end. J: draws, handlers, depth, cells, slots, what is promised of the end -/
def ev_V (G : ev_G) (l : Launch) (M : ev_M) (J : ev_K) (pc : Nat) (L : List (Option Value)) (st : List Value) (a : ev_H) (k n : Nat) : Prop :=
  ∀ (p : Program) (e : Env) (R : Room) (s : State) (d0 : Drawn) (m : MethodId) (args : Array Value) (below : List Frame) (meth : Method) (c : Code), ev_C G M J.2.1 J.2.2.1 J.2.2.2.1 J.2.2.2.2.1 p R (s.setDrawn d0) m args meth c → ev_D J.1 s d0 →
    ∀ (H : Heap) (locs : List Loc) (cells slots : Nat) (ls : Array Slot), ev_R G a H → va_S (ev_A G) s.heap H locs → cells + k ≤ J.2.2.2.1 → slots + n ≤ J.2.2.2.2.1 → ev_has ls M.2.2.1 L →
      W p l e R (s.setDrawn d0) m args below meth c H locs cells slots (ev_Z G J.1 J.2.2.2.2.2.1 J.2.2.2.2.2.2 J.2.2.2.1 J.2.2.2.2.1 below args s) (F0 m pc ls st)
theorem ev_drawn_self (s : State) : s.setDrawn s.drawn = s := rfl
theorem ev_pre_blind {G : ev_G} {as : List Value} {a : ev_H} : FrameBlind (ev_Pre G as a) := by
  rintro v U g mk ⟨h1, h2, h3, h4⟩
  exact ⟨h1, h2, va_K.moved (u := U) (U := U.calling g mk v) (Vm.Alike.refl U.vm) h3, ev_E.warm (s := U) (U := U.calling g mk v) (State.WarmedH.refl U) h4⟩
section EVE
variable {G : ev_G} {l : Launch} {M : ev_M} {d mc ms : Nat} {as : List Value} {a : ev_H} {P : Option Value → ev_H → Prop} {X : String → ev_H → Prop}
/-- a method's contract, by the walk of its body -/
theorem ev_Ct.of (hy : plainName M.1.cls = true) (hn : (lg_sl as).length ≤ M.2.2.1) (h : ev_V G l M (false, [], d, mc, ms, P, X) 0 (ev_ar as) [] a mc ms) : ev_Ct G l M d mc ms as a P X := by
  refine vx_ofW (cc := M.2.1) (maxL := M.2.2.1) (ret := M.2.2.2) hy rfl ?_
  intro p e s m args below meth c s₁ B hml ht hv
  obtain ⟨rfl, h1, h2, h3⟩ := hv
  have hts := atoms_spec (ws := ev_ms M) B.pre
  have C : ev_C G M [] d mc ms p (headSpec (ev_ms M) (ev_rm d mc ms)).room (s.setDrawn s.drawn) m as.toArray meth c := ⟨B.exec, B.bytes, hml, findClass_of_methodNamed B.named, fun w hw => hts w (List.mem_cons_of_mem _ hw), B.returns, B.notSynchronized, h2, h3, fun hi => by rw [← hi]; exact (name_of_methodNamed B.named B.method).1, List.eq_nil_iff_forall_not_mem.mpr ht, ⟨Nat.le_refl _, Nat.le_refl _, Nat.le_refl _, Nat.le_refl _⟩, h1.2.2⟩
  rw [lg_entry_eq]
  exact h p e _ s s.drawn m as.toArray below meth c C ⟨(fun h => nomatch h), fun _ => rfl⟩ s.heap [] 0 0 _ h1 va_S.rf (by show 0 + mc ≤ mc; omega) (by show 0 + ms ≤ ms; omega) (ev_has.entry as hn)
end EVE
theorem ev_lt32 {x y : Int32} : x < y ↔ x.toInt < y.toInt := Int32.lt_iff_toInt_lt
theorem ev_le32 {x y : Int32} : x ≤ y ↔ x.toInt ≤ y.toInt := Int32.le_iff_toInt_le
section EVR
variable {G : ev_G} {l : Launch} {M : ev_M} {J : ev_K} {pc k n : Nat} {L : List (Option Value)} {st : List Value} {a : ev_H}
theorem ev_loc {L' : List (Option Value)} (hL : ev_le L' L) (h : ev_V G l M J pc L' st a k n) : ev_V G l M J pc L st a k n :=
  fun p e R s d0 m args below meth c C hd H locs cells slots ls hR hS hc hs hl => h p e R s d0 m args below meth c C hd H locs cells slots ls hR hS hc hs ⟨hl.1, hl.2.1, fun i v hi => hl.2.2 i v (ev_le_at L' L i v hL hi)⟩

theorem e_iconst {z : Int} {v : Int32} (hd : decode M.2.1 pc = .ok (.iconst z, 1)) (hv : Int32.ofInt z = v) (h : ev_V G l M J (pc + 1) L (.int v :: st) a k n) : ev_V G l M J pc L (st) a k n :=
  fun p e R s d0 m args below meth c C hD H locs cells slots ls hR hS hc hs hl => lv_iconst C.1 C.2.1 hd hv (h p e R s d0 m args below meth c C hD H locs cells slots ls hR hS hc hs hl)
theorem e_bipush {z : Int} {v : Int32} (hd : decode M.2.1 pc = .ok (.bipush z, 2)) (hv : (Int8.ofInt z).toInt32 = v) (h : ev_V G l M J (pc + 2) L (.int v :: st) a k n) : ev_V G l M J pc L (st) a k n :=
  fun p e R s d0 m args below meth c C hD H locs cells slots ls hR hS hc hs hl => lv_bipush C.1 C.2.1 hd hv (h p e R s d0 m args below meth c C hD H locs cells slots ls hR hS hc hs hl)
theorem e_sipush {z : Int} {v : Int32} (hd : decode M.2.1 pc = .ok (.sipush z, 3)) (hv : (Int16.ofInt z).toInt32 = v) (h : ev_V G l M J (pc + 3) L (.int v :: st) a k n) : ev_V G l M J pc L (st) a k n :=
  fun p e R s d0 m args below meth c C hD H locs cells slots ls hR hS hc hs hl => lv_sipush C.1 C.2.1 hd hv (h p e R s d0 m args below meth c C hD H locs cells slots ls hR hS hc hs hl)
theorem e_lconst {z : Fin 2} {v : Int64} (hd : decode M.2.1 pc = .ok (.lconst z, 1)) (hv : Int64.ofNat (z : Nat) = v) (h : ev_V G l M J (pc + 1) L (.long v :: st) a k n) : ev_V G l M J pc L (st) a k n :=
  fun p e R s d0 m args below meth c C hD H locs cells slots ls hR hS hc hs hl => lv_lconst C.1 C.2.1 hd hv (h p e R s d0 m args below meth c C hD H locs cells slots ls hR hS hc hs hl)
theorem e_dconst0 (hd : decode M.2.1 pc = .ok (.dconst 0, 1)) (h : ev_V G l M J (pc + 1) L (.double FP.dconst0 :: st) a k n) : ev_V G l M J pc L (st) a k n :=
  fun p e R s d0 m args below meth c C hD H locs cells slots ls hR hS hc hs hl => lv_dconst0 C.1 C.2.1 hd (h p e R s d0 m args below meth c C hD H locs cells slots ls hR hS hc hs hl)
theorem e_null (hd : decode M.2.1 pc = .ok (.aconst_null, 1)) (h : ev_V G l M J (pc + 1) L (.null :: st) a k n) : ev_V G l M J pc L (st) a k n :=
  fun p e R s d0 m args below meth c C hD H locs cells slots ls hR hS hc hs hl => lv_null C.1 C.2.1 hd (h p e R s d0 m args below meth c C hD H locs cells slots ls hR hS hc hs hl)
theorem e_iload_n {z : Fin 4} {i : Nat} {x : Int32} (hd : decode M.2.1 pc = .ok (.iload_n z, 1)) (hi : (z : Nat) = i) (hx : L[i]? = some (some (.int x))) (h : ev_V G l M J (pc + 1) L (.int x :: st) a k n) : ev_V G l M J pc L (st) a k n :=
  fun p e R s d0 m args below meth c C hD H locs cells slots ls hR hS hc hs hl => lv_iload_n C.1 C.2.1 hd hi (hl.2.2 i _ hx) (h p e R s d0 m args below meth c C hD H locs cells slots ls hR hS hc hs hl)
theorem e_iload {i : Nat} {x : Int32} (hd : decode M.2.1 pc = .ok (.iload i, 2)) (hx : L[i]? = some (some (.int x))) (h : ev_V G l M J (pc + 2) L (.int x :: st) a k n) : ev_V G l M J pc L (st) a k n :=
  fun p e R s d0 m args below meth c C hD H locs cells slots ls hR hS hc hs hl => lv_iload C.1 C.2.1 hd (hl.2.2 i _ hx) (h p e R s d0 m args below meth c C hD H locs cells slots ls hR hS hc hs hl)
theorem e_istore_n {z : Fin 4} {i : Nat} {x : Int32} (hd : decode M.2.1 pc = .ok (.istore_n z, 1)) (hi : (z : Nat) = i) (hn : i < M.2.2.1) (h : ev_V G l M J (pc + 1) (ev_st1 i (.int x) L) st a k n) : ev_V G l M J pc L (.int x :: st) a k n :=
  fun p e R s d0 m args below meth c C hD H locs cells slots ls hR hS hc hs hl => lv_istore_n C.1 C.2.1 hd hi hl.lv hn rfl (fun ls1 hl1 => h p e R s d0 m args below meth c C hD H locs cells slots ls1 hR hS hc hs (ev_has.st1 hl1))
theorem e_istore {i : Nat} {x : Int32} (hd : decode M.2.1 pc = .ok (.istore i, 2)) (hn : i < M.2.2.1) (h : ev_V G l M J (pc + 2) (ev_st1 i (.int x) L) st a k n) : ev_V G l M J pc L (.int x :: st) a k n :=
  fun p e R s d0 m args below meth c C hD H locs cells slots ls hR hS hc hs hl => lv_istore C.1 C.2.1 hd hl.lv hn rfl (fun ls1 hl1 => h p e R s d0 m args below meth c C hD H locs cells slots ls1 hR hS hc hs (ev_has.st1 hl1))
theorem e_lload_n {z : Fin 4} {i : Nat} {x : Int64} (hd : decode M.2.1 pc = .ok (.lload_n z, 1)) (hi : (z : Nat) = i) (hx : L[i]? = some (some (.long x))) (h : ev_V G l M J (pc + 1) L (.long x :: st) a k n) : ev_V G l M J pc L (st) a k n :=
  fun p e R s d0 m args below meth c C hD H locs cells slots ls hR hS hc hs hl => lv_lload_n C.1 C.2.1 hd hi (hl.2.2 i _ hx) (h p e R s d0 m args below meth c C hD H locs cells slots ls hR hS hc hs hl)
theorem e_lload {i : Nat} {x : Int64} (hd : decode M.2.1 pc = .ok (.lload i, 2)) (hx : L[i]? = some (some (.long x))) (h : ev_V G l M J (pc + 2) L (.long x :: st) a k n) : ev_V G l M J pc L (st) a k n :=
  fun p e R s d0 m args below meth c C hD H locs cells slots ls hR hS hc hs hl => lv_lload C.1 C.2.1 hd (hl.2.2 i _ hx) (h p e R s d0 m args below meth c C hD H locs cells slots ls hR hS hc hs hl)
theorem e_lstore_n {z : Fin 4} {i : Nat} {x : Int64} (hd : decode M.2.1 pc = .ok (.lstore_n z, 1)) (hi : (z : Nat) = i) (hn : i + 1 < M.2.2.1) (h : ev_V G l M J (pc + 1) (ev_st2 i (.long x) L) st a k n) : ev_V G l M J pc L (.long x :: st) a k n :=
  fun p e R s d0 m args below meth c C hD H locs cells slots ls hR hS hc hs hl => lv_lstore_n C.1 C.2.1 hd hi hl.lv hn rfl (fun ls1 hl1 => h p e R s d0 m args below meth c C hD H locs cells slots ls1 hR hS hc hs (ev_has.st2 hl1))
theorem e_lstore {i : Nat} {x : Int64} (hd : decode M.2.1 pc = .ok (.lstore i, 2)) (hn : i + 1 < M.2.2.1) (h : ev_V G l M J (pc + 2) (ev_st2 i (.long x) L) st a k n) : ev_V G l M J pc L (.long x :: st) a k n :=
  fun p e R s d0 m args below meth c C hD H locs cells slots ls hR hS hc hs hl => lv_lstore C.1 C.2.1 hd hl.lv hn rfl (fun ls1 hl1 => h p e R s d0 m args below meth c C hD H locs cells slots ls1 hR hS hc hs (ev_has.st2 hl1))
theorem e_dload_n {z : Fin 4} {i : Nat} {x : UInt64} (hd : decode M.2.1 pc = .ok (.dload_n z, 1)) (hi : (z : Nat) = i) (hx : L[i]? = some (some (.double x))) (h : ev_V G l M J (pc + 1) L (.double x :: st) a k n) : ev_V G l M J pc L (st) a k n :=
  fun p e R s d0 m args below meth c C hD H locs cells slots ls hR hS hc hs hl => lv_dload_n C.1 C.2.1 hd hi (hl.2.2 i _ hx) (h p e R s d0 m args below meth c C hD H locs cells slots ls hR hS hc hs hl)
theorem e_dload {i : Nat} {x : UInt64} (hd : decode M.2.1 pc = .ok (.dload i, 2)) (hx : L[i]? = some (some (.double x))) (h : ev_V G l M J (pc + 2) L (.double x :: st) a k n) : ev_V G l M J pc L (st) a k n :=
  fun p e R s d0 m args below meth c C hD H locs cells slots ls hR hS hc hs hl => lv_dload C.1 C.2.1 hd (hl.2.2 i _ hx) (h p e R s d0 m args below meth c C hD H locs cells slots ls hR hS hc hs hl)
theorem e_dstore_n {z : Fin 4} {i : Nat} {x : UInt64} (hd : decode M.2.1 pc = .ok (.dstore_n z, 1)) (hi : (z : Nat) = i) (hn : i + 1 < M.2.2.1) (h : ev_V G l M J (pc + 1) (ev_st2 i (.double x) L) st a k n) : ev_V G l M J pc L (.double x :: st) a k n :=
  fun p e R s d0 m args below meth c C hD H locs cells slots ls hR hS hc hs hl => lv_dstore_n C.1 C.2.1 hd hi hl.lv hn rfl (fun ls1 hl1 => h p e R s d0 m args below meth c C hD H locs cells slots ls1 hR hS hc hs (ev_has.st2 hl1))
theorem e_dstore {i : Nat} {x : UInt64} (hd : decode M.2.1 pc = .ok (.dstore i, 2)) (hn : i + 1 < M.2.2.1) (h : ev_V G l M J (pc + 2) (ev_st2 i (.double x) L) st a k n) : ev_V G l M J pc L (.double x :: st) a k n :=
  fun p e R s d0 m args below meth c C hD H locs cells slots ls hR hS hc hs hl => lv_dstore C.1 C.2.1 hd hl.lv hn rfl (fun ls1 hl1 => h p e R s d0 m args below meth c C hD H locs cells slots ls1 hR hS hc hs (ev_has.st2 hl1))
theorem e_aload_n {z : Fin 4} {i : Nat} {x : Nat} (hd : decode M.2.1 pc = .ok (.aload_n z, 1)) (hi : (z : Nat) = i) (hx : L[i]? = some (some (.ref x))) (h : ev_V G l M J (pc + 1) L (.ref x :: st) a k n) : ev_V G l M J pc L (st) a k n :=
  fun p e R s d0 m args below meth c C hD H locs cells slots ls hR hS hc hs hl => lv_aload_n C.1 C.2.1 hd hi (hl.2.2 i _ hx) (h p e R s d0 m args below meth c C hD H locs cells slots ls hR hS hc hs hl)
theorem e_aload {i : Nat} {x : Nat} (hd : decode M.2.1 pc = .ok (.aload i, 2)) (hx : L[i]? = some (some (.ref x))) (h : ev_V G l M J (pc + 2) L (.ref x :: st) a k n) : ev_V G l M J pc L (st) a k n :=
  fun p e R s d0 m args below meth c C hD H locs cells slots ls hR hS hc hs hl => lv_aload C.1 C.2.1 hd (hl.2.2 i _ hx) (h p e R s d0 m args below meth c C hD H locs cells slots ls hR hS hc hs hl)
theorem e_astore_n {z : Fin 4} {i : Nat} {x : Nat} (hd : decode M.2.1 pc = .ok (.astore_n z, 1)) (hi : (z : Nat) = i) (hn : i < M.2.2.1) (h : ev_V G l M J (pc + 1) (ev_st1 i (.ref x) L) st a k n) : ev_V G l M J pc L (.ref x :: st) a k n :=
  fun p e R s d0 m args below meth c C hD H locs cells slots ls hR hS hc hs hl => lv_astore_n C.1 C.2.1 hd hi hl.lv hn rfl (fun ls1 hl1 => h p e R s d0 m args below meth c C hD H locs cells slots ls1 hR hS hc hs (ev_has.st1 hl1))
theorem e_astore {i : Nat} {x : Nat} (hd : decode M.2.1 pc = .ok (.astore i, 2)) (hn : i < M.2.2.1) (h : ev_V G l M J (pc + 2) (ev_st1 i (.ref x) L) st a k n) : ev_V G l M J pc L (.ref x :: st) a k n :=
  fun p e R s d0 m args below meth c C hD H locs cells slots ls hR hS hc hs hl => lv_astore C.1 C.2.1 hd hl.lv hn rfl (fun ls1 hl1 => h p e R s d0 m args below meth c C hD H locs cells slots ls1 hR hS hc hs (ev_has.st1 hl1))
theorem e_aload_nN {z : Fin 4} {i : Nat} (hd : decode M.2.1 pc = .ok (.aload_n z, 1)) (hi : (z : Nat) = i) (hx : L[i]? = some (some .null)) (h : ev_V G l M J (pc + 1) L (.null :: st) a k n) : ev_V G l M J pc L st a k n :=
  fun p e R s d0 m args below meth c C hD H locs cells slots ls hR hS hc hs hl => lv_aload_nN C.1 C.2.1 hd hi (hl.2.2 i _ hx) (h p e R s d0 m args below meth c C hD H locs cells slots ls hR hS hc hs hl)
theorem e_iinc {i : Nat} {z : Int} {x v : Int32} (hd : decode M.2.1 pc = .ok (.iinc i z, 3)) (hx : L[i]? = some (some (.int x))) (hv : x + Int32.ofInt z = v) (hn : i < M.2.2.1) (h : ev_V G l M J (pc + 3) (ev_st1 i (.int v) L) st a k n) : ev_V G l M J pc L st a k n := by
  intro p e R s d0 m args below meth c C hD H locs cells slots ls hR hS hc hs hl
  obtain ⟨j, hj⟩ := List.getElem?_of_mem (ev_list_mem.mpr hx)
  exact lv_iinc C.1 C.2.1 hd hl.lv hj hv hn rfl (fun ls1 hl1 => h p e R s d0 m args below meth c C hD H locs cells slots ls1 hR hS hc hs (ev_has.st1 hl1))
theorem e_iadd {x y : Int32} (hd : decode M.2.1 pc = .ok (.iadd, 1)) (h : ev_V G l M J (pc + 1) L (.int (x + y) :: st) a k n) : ev_V G l M J pc L (.int y :: .int x :: st) a k n :=
  fun p e R s d0 m args below meth c C hD H locs cells slots ls hR hS hc hs hl => lv_iadd C.1 C.2.1 hd (h p e R s d0 m args below meth c C hD H locs cells slots ls hR hS hc hs hl)
theorem e_isub {x y : Int32} (hd : decode M.2.1 pc = .ok (.isub, 1)) (h : ev_V G l M J (pc + 1) L (.int (x - y) :: st) a k n) : ev_V G l M J pc L (.int y :: .int x :: st) a k n :=
  fun p e R s d0 m args below meth c C hD H locs cells slots ls hR hS hc hs hl => lv_isub C.1 C.2.1 hd (h p e R s d0 m args below meth c C hD H locs cells slots ls hR hS hc hs hl)
theorem e_imul {x y : Int32} (hd : decode M.2.1 pc = .ok (.imul, 1)) (h : ev_V G l M J (pc + 1) L (.int (x * y) :: st) a k n) : ev_V G l M J pc L (.int y :: .int x :: st) a k n :=
  fun p e R s d0 m args below meth c C hD H locs cells slots ls hR hS hc hs hl => lv_imul C.1 C.2.1 hd (h p e R s d0 m args below meth c C hD H locs cells slots ls hR hS hc hs hl)
theorem e_iand {x y : Int32} (hd : decode M.2.1 pc = .ok (.iand, 1)) (h : ev_V G l M J (pc + 1) L (.int (x &&& y) :: st) a k n) : ev_V G l M J pc L (.int y :: .int x :: st) a k n :=
  fun p e R s d0 m args below meth c C hD H locs cells slots ls hR hS hc hs hl => lv_iand C.1 C.2.1 hd (h p e R s d0 m args below meth c C hD H locs cells slots ls hR hS hc hs hl)
theorem e_ior {x y : Int32} (hd : decode M.2.1 pc = .ok (.ior, 1)) (h : ev_V G l M J (pc + 1) L (.int (x ||| y) :: st) a k n) : ev_V G l M J pc L (.int y :: .int x :: st) a k n :=
  fun p e R s d0 m args below meth c C hD H locs cells slots ls hR hS hc hs hl => lv_ior C.1 C.2.1 hd (h p e R s d0 m args below meth c C hD H locs cells slots ls hR hS hc hs hl)
theorem e_ladd {x y : Int64} (hd : decode M.2.1 pc = .ok (.ladd, 1)) (h : ev_V G l M J (pc + 1) L (.long (x + y) :: st) a k n) : ev_V G l M J pc L (.long y :: .long x :: st) a k n :=
  fun p e R s d0 m args below meth c C hD H locs cells slots ls hR hS hc hs hl => lv_ladd C.1 C.2.1 hd (h p e R s d0 m args below meth c C hD H locs cells slots ls hR hS hc hs hl)
theorem e_lsub {x y : Int64} (hd : decode M.2.1 pc = .ok (.lsub, 1)) (h : ev_V G l M J (pc + 1) L (.long (x - y) :: st) a k n) : ev_V G l M J pc L (.long y :: .long x :: st) a k n :=
  fun p e R s d0 m args below meth c C hD H locs cells slots ls hR hS hc hs hl => lv_lsub C.1 C.2.1 hd (h p e R s d0 m args below meth c C hD H locs cells slots ls hR hS hc hs hl)
theorem e_lmul {x y : Int64} (hd : decode M.2.1 pc = .ok (.lmul, 1)) (h : ev_V G l M J (pc + 1) L (.long (x * y) :: st) a k n) : ev_V G l M J pc L (.long y :: .long x :: st) a k n :=
  fun p e R s d0 m args below meth c C hD H locs cells slots ls hR hS hc hs hl => lv_lmul C.1 C.2.1 hd (h p e R s d0 m args below meth c C hD H locs cells slots ls hR hS hc hs hl)
theorem e_idiv {x y : Int32} (hd : decode M.2.1 pc = .ok (.idiv, 1)) (hy : ¬ y = 0) (h : ev_V G l M J (pc + 1) L (.int (x / y) :: st) a k n) : ev_V G l M J pc L (.int y :: .int x :: st) a k n :=
  fun p e R s d0 m args below meth c C hD H locs cells slots ls hR hS hc hs hl => lv_idiv C.1 C.2.1 hd hy (h p e R s d0 m args below meth c C hD H locs cells slots ls hR hS hc hs hl)
theorem e_irem {x y : Int32} (hd : decode M.2.1 pc = .ok (.irem, 1)) (hy : ¬ y = 0) (h : ev_V G l M J (pc + 1) L (.int (x - x / y * y) :: st) a k n) : ev_V G l M J pc L (.int y :: .int x :: st) a k n :=
  fun p e R s d0 m args below meth c C hD H locs cells slots ls hR hS hc hs hl => lv_irem C.1 C.2.1 hd hy (h p e R s d0 m args below meth c C hD H locs cells slots ls hR hS hc hs hl)
theorem e_ldiv {x y : Int64} (hd : decode M.2.1 pc = .ok (.ldiv, 1)) (hy : ¬ y = 0) (h : ev_V G l M J (pc + 1) L (.long (x / y) :: st) a k n) : ev_V G l M J pc L (.long y :: .long x :: st) a k n :=
  fun p e R s d0 m args below meth c C hD H locs cells slots ls hR hS hc hs hl => lv_ldiv C.1 C.2.1 hd hy (h p e R s d0 m args below meth c C hD H locs cells slots ls hR hS hc hs hl)
theorem e_ineg {x : Int32} (hd : decode M.2.1 pc = .ok (.ineg, 1)) (h : ev_V G l M J (pc + 1) L (.int (-x) :: st) a k n) : ev_V G l M J pc L (.int x :: st) a k n :=
  fun p e R s d0 m args below meth c C hD H locs cells slots ls hR hS hc hs hl => lv_ineg C.1 C.2.1 hd (h p e R s d0 m args below meth c C hD H locs cells slots ls hR hS hc hs hl)
theorem e_lneg {x : Int64} (hd : decode M.2.1 pc = .ok (.lneg, 1)) (h : ev_V G l M J (pc + 1) L (.long (-x) :: st) a k n) : ev_V G l M J pc L (.long x :: st) a k n :=
  fun p e R s d0 m args below meth c C hD H locs cells slots ls hR hS hc hs hl => lv_lneg C.1 C.2.1 hd (h p e R s d0 m args below meth c C hD H locs cells slots ls hR hS hc hs hl)
theorem e_ishl {x y : Int32} (hd : decode M.2.1 pc = .ok (.ishl, 1)) (h : ev_V G l M J (pc + 1) L (.int (x <<< (y &&& 31)) :: st) a k n) : ev_V G l M J pc L (.int y :: .int x :: st) a k n :=
  fun p e R s d0 m args below meth c C hD H locs cells slots ls hR hS hc hs hl => lv_ishl C.1 C.2.1 hd (h p e R s d0 m args below meth c C hD H locs cells slots ls hR hS hc hs hl)
theorem e_ishr {x y : Int32} (hd : decode M.2.1 pc = .ok (.ishr, 1)) (h : ev_V G l M J (pc + 1) L (.int (x >>> (y &&& 31)) :: st) a k n) : ev_V G l M J pc L (.int y :: .int x :: st) a k n :=
  fun p e R s d0 m args below meth c C hD H locs cells slots ls hR hS hc hs hl => lv_ishr C.1 C.2.1 hd (h p e R s d0 m args below meth c C hD H locs cells slots ls hR hS hc hs hl)
theorem e_i2l {x : Int32} (hd : decode M.2.1 pc = .ok (.i2l, 1)) (h : ev_V G l M J (pc + 1) L (.long x.toInt64 :: st) a k n) : ev_V G l M J pc L (.int x :: st) a k n :=
  fun p e R s d0 m args below meth c C hD H locs cells slots ls hR hS hc hs hl => lv_i2l C.1 C.2.1 hd rfl (h p e R s d0 m args below meth c C hD H locs cells slots ls hR hS hc hs hl)
theorem e_l2i {x : Int64} (hd : decode M.2.1 pc = .ok (.l2i, 1)) (h : ev_V G l M J (pc + 1) L (.int x.toInt32 :: st) a k n) : ev_V G l M J pc L (.long x :: st) a k n :=
  fun p e R s d0 m args below meth c C hD H locs cells slots ls hR hS hc hs hl => lv_l2i C.1 C.2.1 hd rfl (h p e R s d0 m args below meth c C hD H locs cells slots ls hR hS hc hs hl)
theorem e_i2b {x : Int32} (hd : decode M.2.1 pc = .ok (.i2b, 1)) (h : ev_V G l M J (pc + 1) L (.int x.toInt8.toInt32 :: st) a k n) : ev_V G l M J pc L (.int x :: st) a k n :=
  fun p e R s d0 m args below meth c C hD H locs cells slots ls hR hS hc hs hl => lv_i2b C.1 C.2.1 hd rfl (h p e R s d0 m args below meth c C hD H locs cells slots ls hR hS hc hs hl)
theorem e_l2d {x : Int64} (hd : decode M.2.1 pc = .ok (.l2d, 1)) (h : ev_V G l M J (pc + 1) L (.double (FP.l2d x) :: st) a k n) : ev_V G l M J pc L (.long x :: st) a k n :=
  fun p e R s d0 m args below meth c C hD H locs cells slots ls hR hS hc hs hl => lv_l2d C.1 C.2.1 hd (h p e R s d0 m args below meth c C hD H locs cells slots ls hR hS hc hs hl)
theorem e_lcmp {x y : Int64} (hd : decode M.2.1 pc = .ok (.lcmp, 1)) (h : ev_V G l M J (pc + 1) L (.int (lg_cmp x y) :: st) a k n) : ev_V G l M J pc L (.long y :: .long x :: st) a k n :=
  fun p e R s d0 m args below meth c C hD H locs cells slots ls hR hS hc hs hl => W.lcmp C.1 C.2.1 hd (h p e R s d0 m args below meth c C hD H locs cells slots ls hR hS hc hs hl)
theorem e_dcmp {x y : UInt64} {op : CmpOp} (hd : decode M.2.1 pc = .ok (.dcmp op, 1)) (h : ev_V G l M J (pc + 1) L (.int (Op.cmpValue (FP.dcmp x y) op) :: st) a k n) : ev_V G l M J pc L (.double y :: .double x :: st) a k n :=
  fun p e R s d0 m args below meth c C hD H locs cells slots ls hR hS hc hs hl => lv_dcmp C.1 C.2.1 hd (h p e R s d0 m args below meth c C hD H locs cells slots ls hR hS hc hs hl)
theorem e_dup {va : Value} (hd : decode M.2.1 pc = .ok (.dup, 1)) (hva : va.category = 1) (h : ev_V G l M J (pc + 1) L (va :: va :: st) a k n) : ev_V G l M J pc L (va :: st) a k n :=
  fun p e R s d0 m args below meth c C hD H locs cells slots ls hR hS hc hs hl => lv_dup C.1 C.2.1 hd hva (h p e R s d0 m args below meth c C hD H locs cells slots ls hR hS hc hs hl)
theorem e_pop {va : Value} (hd : decode M.2.1 pc = .ok (.pop, 1)) (hva : va.category = 1) (h : ev_V G l M J (pc + 1) L (st) a k n) : ev_V G l M J pc L (va :: st) a k n :=
  fun p e R s d0 m args below meth c C hD H locs cells slots ls hR hS hc hs hl => lv_pop C.1 C.2.1 hd hva (h p e R s d0 m args below meth c C hD H locs cells slots ls hR hS hc hs hl)
theorem e_dup2 {va vb : Value} (hd : decode M.2.1 pc = .ok (.dup2, 1)) (hva : va.category = 1) (hvb : vb.category = 1) (h : ev_V G l M J (pc + 1) L (va :: vb :: va :: vb :: st) a k n) : ev_V G l M J pc L (va :: vb :: st) a k n :=
  fun p e R s d0 m args below meth c C hD H locs cells slots ls hR hS hc hs hl => lv_dup2_11 C.1 C.2.1 hd hva hvb (h p e R s d0 m args below meth c C hD H locs cells slots ls hR hS hc hs hl)
theorem e_ldc {i : Nat} {v : Int32} (hd : decode M.2.1 pc = .ok (.ldc i, 2)) (hw : Cond.constant M.1.cls i v ∈ ev_ws) (h : ev_V G l M J (pc + 2) L (.int v :: st) a k n) : ev_V G l M J pc L (st) a k n :=
  fun p e R s d0 m args below meth c C hD H locs cells slots ls hR hS hc hs hl => lv_ldc C.1 C.2.1 C.2.2.2.1 (C.2.2.2.2.1 _ hw) hd (h p e R s d0 m args below meth c C hD H locs cells slots ls hR hS hc hs hl)
theorem e_ldc2 {i : Nat} {v : Int64} (hd : decode M.2.1 pc = .ok (.ldc2_w i, 3)) (hw : Cond.constantLong M.1.cls i v ∈ ev_ws) (h : ev_V G l M J (pc + 3) L (.long v :: st) a k n) : ev_V G l M J pc L (st) a k n :=
  fun p e R s d0 m args below meth c C hD H locs cells slots ls hR hS hc hs hl => lv_ldc2 C.1 C.2.1 C.2.2.2.1 (C.2.2.2.2.1 _ hw) hd (h p e R s d0 m args below meth c C hD H locs cells slots ls hR hS hc hs hl)
theorem e_ldcS {i j : Nat} {tx : String} (hd : decode M.2.1 pc = .ok (.ldc i, 2)) (hw : (M.1.cls, i, tx, j) ∈ ev_strs) (h : ev_V G l M J (pc + 2) L (.ref (ev_Ks G j) :: st) a k n) : ev_V G l M J pc L (st) a k n :=
  fun p e R s d0 m args below meth c C hD H locs cells slots ls hR hS hc hs hl => va_ldcS C.1 C.2.1 C.2.2.2.1 (C.2.2.2.2.2.2.2.2.1.2.2.1.2.1 _ hw) hd (h p e R s d0 m args below meth c C hD H locs cells slots ls hR hS hc hs hl)
theorem e_icmp_eq {x y : Int32} {off : Int} {tgt : Nat} (hd : decode M.2.1 pc = .ok (.if_icmp .eq off, 3)) (ht : (pc : Int) + off = (tgt : Int)) (h1 : x = y → ev_V G l M J tgt L st a k n) (h2 : ¬ x = y → ev_V G l M J (pc + 3) L st a k n) : ev_V G l M J pc L (.int y :: .int x :: st) a k n :=
  fun p e R s d0 m args below meth c C hD H locs cells slots ls hR hS hc hs hl => lv_icmp_eq C.1 C.2.1 hd ht (fun q => h1 q p e R s d0 m args below meth c C hD H locs cells slots ls hR hS hc hs hl) (fun q => h2 q p e R s d0 m args below meth c C hD H locs cells slots ls hR hS hc hs hl)
theorem e_if_eq {x : Int32} {off : Int} {tgt : Nat} (hd : decode M.2.1 pc = .ok (.ifCond .eq off, 3)) (ht : (pc : Int) + off = (tgt : Int)) (h1 : x = 0 → ev_V G l M J tgt L st a k n) (h2 : ¬ x = 0 → ev_V G l M J (pc + 3) L st a k n) : ev_V G l M J pc L (.int x :: st) a k n :=
  fun p e R s d0 m args below meth c C hD H locs cells slots ls hR hS hc hs hl => lv_if_eq C.1 C.2.1 hd ht (fun q => h1 q p e R s d0 m args below meth c C hD H locs cells slots ls hR hS hc hs hl) (fun q => h2 q p e R s d0 m args below meth c C hD H locs cells slots ls hR hS hc hs hl)
theorem e_icmp_ne {x y : Int32} {off : Int} {tgt : Nat} (hd : decode M.2.1 pc = .ok (.if_icmp .ne off, 3)) (ht : (pc : Int) + off = (tgt : Int)) (h1 : ¬ x = y → ev_V G l M J tgt L st a k n) (h2 : x = y → ev_V G l M J (pc + 3) L st a k n) : ev_V G l M J pc L (.int y :: .int x :: st) a k n :=
  fun p e R s d0 m args below meth c C hD H locs cells slots ls hR hS hc hs hl => lv_icmp_ne C.1 C.2.1 hd ht (fun q => h1 q p e R s d0 m args below meth c C hD H locs cells slots ls hR hS hc hs hl) (fun q => h2 q p e R s d0 m args below meth c C hD H locs cells slots ls hR hS hc hs hl)
theorem e_if_ne {x : Int32} {off : Int} {tgt : Nat} (hd : decode M.2.1 pc = .ok (.ifCond .ne off, 3)) (ht : (pc : Int) + off = (tgt : Int)) (h1 : ¬ x = 0 → ev_V G l M J tgt L st a k n) (h2 : x = 0 → ev_V G l M J (pc + 3) L st a k n) : ev_V G l M J pc L (.int x :: st) a k n :=
  fun p e R s d0 m args below meth c C hD H locs cells slots ls hR hS hc hs hl => lv_if_ne C.1 C.2.1 hd ht (fun q => h1 q p e R s d0 m args below meth c C hD H locs cells slots ls hR hS hc hs hl) (fun q => h2 q p e R s d0 m args below meth c C hD H locs cells slots ls hR hS hc hs hl)
theorem e_icmp_lt {x y : Int32} {off : Int} {tgt : Nat} (hd : decode M.2.1 pc = .ok (.if_icmp .lt off, 3)) (ht : (pc : Int) + off = (tgt : Int)) (h1 : x.toInt < y.toInt → ev_V G l M J tgt L st a k n) (h2 : y.toInt ≤ x.toInt → ev_V G l M J (pc + 3) L st a k n) : ev_V G l M J pc L (.int y :: .int x :: st) a k n :=
  fun p e R s d0 m args below meth c C hD H locs cells slots ls hR hS hc hs hl => lv_icmp_lt C.1 C.2.1 hd ht (fun q => h1 (ev_lt32.mp q) p e R s d0 m args below meth c C hD H locs cells slots ls hR hS hc hs hl) (fun q => h2 (Int.not_lt.mp (fun z => q (ev_lt32.mpr z))) p e R s d0 m args below meth c C hD H locs cells slots ls hR hS hc hs hl)
theorem e_if_lt {x : Int32} {off : Int} {tgt : Nat} (hd : decode M.2.1 pc = .ok (.ifCond .lt off, 3)) (ht : (pc : Int) + off = (tgt : Int)) (h1 : x.toInt < 0 → ev_V G l M J tgt L st a k n) (h2 : 0 ≤ x.toInt → ev_V G l M J (pc + 3) L st a k n) : ev_V G l M J pc L (.int x :: st) a k n :=
  fun p e R s d0 m args below meth c C hD H locs cells slots ls hR hS hc hs hl => lv_if_lt C.1 C.2.1 hd ht (fun q => h1 (ev_lt32.mp q) p e R s d0 m args below meth c C hD H locs cells slots ls hR hS hc hs hl) (fun q => h2 (Int.not_lt.mp (fun z => q (ev_lt32.mpr z))) p e R s d0 m args below meth c C hD H locs cells slots ls hR hS hc hs hl)
theorem e_icmp_ge {x y : Int32} {off : Int} {tgt : Nat} (hd : decode M.2.1 pc = .ok (.if_icmp .ge off, 3)) (ht : (pc : Int) + off = (tgt : Int)) (h1 : y.toInt ≤ x.toInt → ev_V G l M J tgt L st a k n) (h2 : x.toInt < y.toInt → ev_V G l M J (pc + 3) L st a k n) : ev_V G l M J pc L (.int y :: .int x :: st) a k n :=
  fun p e R s d0 m args below meth c C hD H locs cells slots ls hR hS hc hs hl => lv_icmp_ge C.1 C.2.1 hd ht (fun q => h1 (ev_le32.mp q) p e R s d0 m args below meth c C hD H locs cells slots ls hR hS hc hs hl) (fun q => h2 (Int.not_le.mp (fun z => q (ev_le32.mpr z))) p e R s d0 m args below meth c C hD H locs cells slots ls hR hS hc hs hl)
theorem e_if_ge {x : Int32} {off : Int} {tgt : Nat} (hd : decode M.2.1 pc = .ok (.ifCond .ge off, 3)) (ht : (pc : Int) + off = (tgt : Int)) (h1 : 0 ≤ x.toInt → ev_V G l M J tgt L st a k n) (h2 : x.toInt < 0 → ev_V G l M J (pc + 3) L st a k n) : ev_V G l M J pc L (.int x :: st) a k n :=
  fun p e R s d0 m args below meth c C hD H locs cells slots ls hR hS hc hs hl => lv_if_ge C.1 C.2.1 hd ht (fun q => h1 (ev_le32.mp q) p e R s d0 m args below meth c C hD H locs cells slots ls hR hS hc hs hl) (fun q => h2 (Int.not_le.mp (fun z => q (ev_le32.mpr z))) p e R s d0 m args below meth c C hD H locs cells slots ls hR hS hc hs hl)
theorem e_icmp_gt {x y : Int32} {off : Int} {tgt : Nat} (hd : decode M.2.1 pc = .ok (.if_icmp .gt off, 3)) (ht : (pc : Int) + off = (tgt : Int)) (h1 : y.toInt < x.toInt → ev_V G l M J tgt L st a k n) (h2 : x.toInt ≤ y.toInt → ev_V G l M J (pc + 3) L st a k n) : ev_V G l M J pc L (.int y :: .int x :: st) a k n :=
  fun p e R s d0 m args below meth c C hD H locs cells slots ls hR hS hc hs hl => lv_icmp_gt C.1 C.2.1 hd ht (fun q => h1 (ev_lt32.mp q) p e R s d0 m args below meth c C hD H locs cells slots ls hR hS hc hs hl) (fun q => h2 (Int.not_lt.mp (fun z => q (ev_lt32.mpr z))) p e R s d0 m args below meth c C hD H locs cells slots ls hR hS hc hs hl)
theorem e_if_gt {x : Int32} {off : Int} {tgt : Nat} (hd : decode M.2.1 pc = .ok (.ifCond .gt off, 3)) (ht : (pc : Int) + off = (tgt : Int)) (h1 : 0 < x.toInt → ev_V G l M J tgt L st a k n) (h2 : x.toInt ≤ 0 → ev_V G l M J (pc + 3) L st a k n) : ev_V G l M J pc L (.int x :: st) a k n :=
  fun p e R s d0 m args below meth c C hD H locs cells slots ls hR hS hc hs hl => lv_if_gt C.1 C.2.1 hd ht (fun q => h1 (ev_lt32.mp q) p e R s d0 m args below meth c C hD H locs cells slots ls hR hS hc hs hl) (fun q => h2 (Int.not_lt.mp (fun z => q (ev_lt32.mpr z))) p e R s d0 m args below meth c C hD H locs cells slots ls hR hS hc hs hl)
theorem e_icmp_le {x y : Int32} {off : Int} {tgt : Nat} (hd : decode M.2.1 pc = .ok (.if_icmp .le off, 3)) (ht : (pc : Int) + off = (tgt : Int)) (h1 : x.toInt ≤ y.toInt → ev_V G l M J tgt L st a k n) (h2 : y.toInt < x.toInt → ev_V G l M J (pc + 3) L st a k n) : ev_V G l M J pc L (.int y :: .int x :: st) a k n :=
  fun p e R s d0 m args below meth c C hD H locs cells slots ls hR hS hc hs hl => lv_icmp_le C.1 C.2.1 hd ht (fun q => h1 (ev_le32.mp q) p e R s d0 m args below meth c C hD H locs cells slots ls hR hS hc hs hl) (fun q => h2 (Int.not_le.mp (fun z => q (ev_le32.mpr z))) p e R s d0 m args below meth c C hD H locs cells slots ls hR hS hc hs hl)
theorem e_if_le {x : Int32} {off : Int} {tgt : Nat} (hd : decode M.2.1 pc = .ok (.ifCond .le off, 3)) (ht : (pc : Int) + off = (tgt : Int)) (h1 : x.toInt ≤ 0 → ev_V G l M J tgt L st a k n) (h2 : 0 < x.toInt → ev_V G l M J (pc + 3) L st a k n) : ev_V G l M J pc L (.int x :: st) a k n :=
  fun p e R s d0 m args below meth c C hD H locs cells slots ls hR hS hc hs hl => lv_if_le C.1 C.2.1 hd ht (fun q => h1 (ev_le32.mp q) p e R s d0 m args below meth c C hD H locs cells slots ls hR hS hc hs hl) (fun q => h2 (Int.not_le.mp (fun z => q (ev_le32.mpr z))) p e R s d0 m args below meth c C hD H locs cells slots ls hR hS hc hs hl)
theorem e_goto {off : Int} {tgt : Nat} (hd : decode M.2.1 pc = .ok (.goto off, 3)) (ht : (pc : Int) + off = (tgt : Int)) (h : ev_V G l M J tgt L st a k n) : ev_V G l M J pc L st a k n :=
  fun p e R s d0 m args below meth c C hD H locs cells slots ls hR hS hc hs hl => lv_goto C.1 C.2.1 hd ht (h p e R s d0 m args below meth c C hD H locs cells slots ls hR hS hc hs hl)
theorem e_ifnull {q : Nat} {off : Int} (hd : decode M.2.1 pc = .ok (.ifnull off, 3)) (h : ev_V G l M J (pc + 3) L st a k n) : ev_V G l M J pc L (.ref q :: st) a k n :=
  fun p e R s d0 m args below meth c C hD H locs cells slots ls hR hS hc hs hl => lv_ifnull C.1 C.2.1 hd (h p e R s d0 m args below meth c C hD H locs cells slots ls hR hS hc hs hl)
theorem e_ifnonnull {q : Nat} {off : Int} {tgt : Nat} (hd : decode M.2.1 pc = .ok (.ifnonnull off, 3)) (ht : (pc : Int) + off = (tgt : Int)) (h : ev_V G l M J tgt L st a k n) : ev_V G l M J pc L (.ref q :: st) a k n :=
  fun p e R s d0 m args below meth c C hD H locs cells slots ls hR hS hc hs hl => lv_ifnonnull C.1 C.2.1 hd ht (h p e R s d0 m args below meth c C hD H locs cells slots ls hR hS hc hs hl)
theorem e_tableIn {dflt lo hi : Int} {offs : Array Int} {len : Nat} {x : Int32} {off : Int} {tgt : Nat} (hd : decode M.2.1 pc = .ok (.tableswitch dflt lo hi offs, len)) (h1 : ¬ x.toInt < lo) (h2 : ¬ hi < x.toInt) (ho : offs[(x.toInt - lo).toNat]? = some off) (ht : (pc : Int) + off = (tgt : Int)) (h : ev_V G l M J tgt L st a k n) : ev_V G l M J pc L (.int x :: st) a k n :=
  fun p e R s d0 m args below meth c C hD H locs cells slots ls hR hS hc hs hl => lv_tableIn C.1 C.2.1 hd h1 h2 ho ht (h p e R s d0 m args below meth c C hD H locs cells slots ls hR hS hc hs hl)
theorem e_tableOut {dflt lo hi : Int} {offs : Array Int} {len : Nat} {x : Int32} {tgt : Nat} (hd : decode M.2.1 pc = .ok (.tableswitch dflt lo hi offs, len)) (h1 : x.toInt < lo ∨ hi < x.toInt) (ht : (pc : Int) + dflt = (tgt : Int)) (h : ev_V G l M J tgt L st a k n) : ev_V G l M J pc L (.int x :: st) a k n :=
  fun p e R s d0 m args below meth c C hD H locs cells slots ls hR hS hc hs hl => lv_tableOut C.1 C.2.1 hd h1 ht (h p e R s d0 m args below meth c C hD H locs cells slots ls hR hS hc hs hl)
theorem e_lookup {dflt : Int} {ps : Array (Int × Int)} {len : Nat} {x : Int32} {off : Int} {tgt : Nat} (hd : decode M.2.1 pc = .ok (.lookupswitch dflt ps, len)) (hp : (ps.toList.zip (ps.toList.drop 1)).all (fun (a, next) => a.1 < next.1) = true) (ho : Op.lookupswitch.offset ps.toList dflt x.toInt = off) (ht : (pc : Int) + off = (tgt : Int)) (h : ev_V G l M J tgt L st a k n) : ev_V G l M J pc L (.int x :: st) a k n :=
  fun p e R s d0 m args below meth c C hD H locs cells slots ls hR hS hc hs hl => lv_lookup C.1 C.2.1 hd hp ho ht (h p e R s d0 m args below meth c C hD H locs cells slots ls hR hS hc hs hl)
end EVR
