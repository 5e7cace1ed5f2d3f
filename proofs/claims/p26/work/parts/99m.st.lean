/-! the start: what the tables and the premise say of the machine that the law is called on -/
def st_q (i : Nat) : String × Nat × String × Nat := ev_strs.getD i ("", 0, "", 0)
def st_tm (i : Nat) : Term := .string (st_q i).1 (st_q i).2.1
def st_fi : List Nat := [0, 1, 2, 3, 4, 5, 6, 7, 8, 9, 10, 11, 12, 13, 14, 15, 16, 17, 18, 19, 21, 22, 23, 25, 27, 32]
def st_tt (i : Nat) : Term := st_tm (st_fi.getD i 0)
def st_w (i : Nat) : List Cond := [.exactly (st_tt i) "java/lang/String", .eq (.field (st_tt i) "java/lang/String" "coder" "B") (.int 0), .arrayOf (.field (st_tt i) "java/lang/String" "value" "[B") .byte, .eq (.length (.field (st_tt i) "java/lang/String" "value" "[B")) (.int (Int32.ofNat (ev_len.getD i 0)))] ++ (List.range (ev_len.getD i 0)).map (fun j => .eq (.elem (.field (st_tt i) "java/lang/String" "value" "[B") (.int (Int32.ofNat j))) (.int ((ev_byt.getD i []).getD j 0)))
def st_flat : List Cond := flatC (Jvm.Cond.and given_1 narrow_1)
def st_off : List Nat := [67, 92, 101, 109, 119, 129, 138, 149, 157, 166, 176, 183, 192, 200, 211, 236, 252, 280, 300, 318, 351, 357, 362, 378, 401, 450]
def st_ix : List Nat := [565, 600, 697, 710, 719, 736, 738, 747, 752, 769, 793, 798, 799, 804, 856, 900, 1064, 1074, 1094, 1105, 1120, 1143, 1144, 1149, 1150, 1151, 1152, 1153, 1154, 1155, 1156, 1157, 1158, 1159]
def st_ex : List Nat := [0, 0, 0, 0, 0, 0, 0, 0, 0, 0, 0, 0, 0, 0, 0, 0, 0, 0, 0, 0, 350, 0, 0, 0, 377, 0, 400, 0, 419, 428, 438, 449, 0, 473]
set_option maxRecDepth 100000 in
theorem st_ok : (List.range 26).all (fun i => decide (st_w i = (st_flat.drop (st_off.getD i 0)).take (4 + ev_len.getD i 0))) = true := by decide +kernel
theorem st_of {i : Nat} (hi : i < 26) {w : Cond} (hw : w ∈ st_w i) : w ∈ st_flat := by
  rw [of_decide_eq_true (List.all_eq_true.mp st_ok i (List.mem_range.mpr hi))] at hw
  exact List.mem_of_mem_drop (List.mem_of_mem_take hw)
set_option maxRecDepth 100000 in
theorem st_len : (List.range 26).all (fun i => decide (ev_len.getD i 0 < 2 ^ 31)) = true := by decide +kernel
set_option maxRecDepth 100000 in
theorem st_tab : (List.range 34).all (fun i => decide (lw_tbl[st_ix.getD i 0]? = some (Cond.stringRef (st_q i).1 (st_q i).2.1 (st_q i).2.2.1))) = true := by decide +kernel
set_option maxRecDepth 100000 in
theorem st_eq : (List.range 34).all (fun i => decide ((st_q i).2.2.2 < 26) && (decide (st_fi.getD (st_q i).2.2.2 0 = i) || decide (st_flat[st_ex.getD i 0]? = some (Cond.eq (st_tt (st_q i).2.2.2) (st_tm i))))) = true := by decide +kernel
theorem st_str {args : Array Value} {s : State} {A : Nat → Prop} (hf : ∀ w ∈ st_flat, w.before args s = true) (hA : ∀ a : Nat, a < s.heap.size → ¬ A a) : ∃ Ks Vs : Nat → Nat, (∀ i : Nat, i < 26 → va_O "java/lang/String" (Ks i) A s s.heap ∧ va_OF "java/lang/String" "coder" "B" (.int 0) (Ks i) A s s.heap ∧ va_OF "java/lang/String" "value" "[B" (.ref (Vs i)) (Ks i) A s s.heap ∧ va_T .byte (Vs i) (ev_len.getD i 0) (fun j => .int ((ev_byt.getD i []).getD j 0)) A s s.heap) ∧ ∀ i : Nat, i < 26 → (st_tt i).eval args s none [] s = some (.ref (Ks i)) := by
  have h0 : ∀ i : Nat, ∃ q : Nat × Nat, i < 26 → (st_tt i).eval args s none [] s = some (.ref q.1) ∧ va_O "java/lang/String" q.1 A s s.heap ∧ va_OF "java/lang/String" "coder" "B" (.int 0) q.1 A s s.heap ∧ va_OF "java/lang/String" "value" "[B" (.ref q.2) q.1 A s s.heap ∧ va_T .byte q.2 (ev_len.getD i 0) (fun j => .int ((ev_byt.getD i []).getD j 0)) A s s.heap := by
    intro i
    by_cases hi : i < 26
    · have hw : ∀ w ∈ st_w i, w.before args s = true := fun w h => hf w (st_of hi h)
      have hN : ev_len.getD i 0 < 2 ^ 31 := of_decide_eq_true (List.all_eq_true.mp st_len i (List.mem_range.mpr hi))
      have hex : (Cond.exactly (st_tt i) "java/lang/String").before args s = true := hw _ (by simp [st_w])
      have hco : (Cond.eq (.field (st_tt i) "java/lang/String" "coder" "B") (.int 0)).before args s = true := hw _ (by simp [st_w])
      have har : (Cond.arrayOf (.field (st_tt i) "java/lang/String" "value" "[B") .byte).before args s = true := hw _ (by simp [st_w])
      have hle : (Cond.eq (.length (.field (st_tt i) "java/lang/String" "value" "[B")) (.int (Int32.ofNat (ev_len.getD i 0)))).before args s = true := hw _ (by simp [st_w])
      have hel : ∀ j : Nat, j < ev_len.getD i 0 → (Cond.eq (.elem (.field (st_tt i) "java/lang/String" "value" "[B") (.int (Int32.ofNat j))) (.int ((ev_byt.getD i []).getD j 0))).before args s = true := fun j hj => hw _ (List.mem_append_right _ (List.mem_map.mpr ⟨j, List.mem_range.mpr hj, rfl⟩))
      obtain ⟨a, c, cA, kA, q1, q2, q3, q4, q5, q6, -⟩ := Cond.exactly_spec (args := args) (first := s) (o := none) (s := s) (idx := []) (t := st_tt i) (cls := "java/lang/String") hex
      obtain ⟨t, ht, hT⟩ := va_Tof (f := fun j => .int ((ev_byt.getD i []).getD j 0)) (A := A) hN har (va_eqt hle) (fun j hj => va_eqt (hel j hj)) hA
      exact ⟨(a, t), fun _ => ⟨q1, ⟨cA, q3, q5, by rw [q6]; exact q2, hA a (Array.getElem?_eq_some_iff.mp q3).1⟩, vk_OFof q1 (va_eqt hco) hA, vk_OFof q1 ht hA, hT⟩⟩
    · exact ⟨(0, 0), fun h => absurd h hi⟩
  obtain ⟨ad, had⟩ := Classical.axiomOfChoice h0
  exact ⟨fun i => (ad i).1, fun i => (ad i).2, fun i hi => (had i hi).2, fun i hi => (had i hi).1⟩
theorem st_arr {args : Array Value} {s : State} {ty : FieldType} (h : (Cond.arrayClass ty).before args s = true) (hno : ∀ C, ty ≠ .object C) : ∃ cA : ClassId, ArrOfT s cA ty ∧ va_RA s cA ty := by
  obtain ⟨cA, kA, comp, h1, h2, h3⟩ := Cond.arrayClass_spec h
  refine ⟨cA, fun n z => ⟨(fun k h => nomatch h), kA, h2, comp, h3⟩, ?_⟩
  cases ty <;> first | exact h1 | exact absurd rfl (hno _)
def st_fw : List (Nat × Cond) := [(4, .isRef (.static "java/lang/Throwable" "UNASSIGNED_STACK" "[Ljava/lang/StackTraceElement;")), (5, .isRef (.static "java/lang/Throwable" "SUPPRESSED_SENTINEL" "Ljava/util/List;")), (6, .eq (.static "java/lang/String" "COMPACT_STRINGS" "Z") (.int 1)), (7, .isRef (.static "jdk/internal/util/Preconditions" "SIOOBE_FORMATTER" "Ljava/util/function/BiFunction;")), (50, .not (.castable "java/lang/IllegalArgumentException" "java/lang/IndexOutOfBoundsException")), (36, .not (.castable "java/lang/IllegalArgumentException" "java/util/NoSuchElementException")), (52, .not (.castable "java/lang/IllegalStateException" "java/lang/IndexOutOfBoundsException")), (24, .not (.castable "java/lang/IllegalStateException" "java/lang/IllegalArgumentException"))]
set_option maxRecDepth 100000 in
theorem st_flatw : st_fw.all (fun w => decide (st_flat[w.1]? = some w.2)) = true := by decide +kernel
def st_tw : List (Nat × Cond) := [(550, .laysStatic "java/lang/Throwable" "UNASSIGNED_STACK" "[Ljava/lang/StackTraceElement;"), (552, .laysStatic "java/lang/Throwable" "SUPPRESSED_SENTINEL" "Ljava/util/List;"), (622, .laysStatic "java/lang/String" "COMPACT_STRINGS" "Z"), (638, .laysStatic "jdk/internal/util/Preconditions" "SIOOBE_FORMATTER" "Ljava/util/function/BiFunction;"), (263, .arrayOver (.object RX0)), (390, .arrayOver (.array .int)), (1275, .arrayOver (.object RX7)), (344, .arrayOver (.object RX8)), (367, .arrayOver (.object RX10))]
set_option maxRecDepth 100000 in
theorem st_tabw : st_tw.all (fun w => decide (lw_tbl[w.1]? = some w.2)) = true := by decide +kernel
set_option maxRecDepth 100000 in
theorem st_i1 : Cond.initialized "java/lang/Throwable" ∈ lw_tbl := by decide +kernel
set_option maxRecDepth 100000 in
theorem st_i2 : Cond.initialized "java/lang/String" ∈ lw_tbl := by decide +kernel
set_option maxRecDepth 100000 in
theorem st_i3 : Cond.initialized "jdk/internal/util/Preconditions" ∈ lw_tbl := by decide +kernel
theorem ev_world {args : Array Value} {s : State} {b L : Nat} {xs : Nat → Int32} (hts : ∀ w ∈ lw_tbl, w.before args s = true) (hX : va_X b L xs s s.heap) (hbl : b < s.heap.size) (hgv : (Jvm.Cond.and given_1 narrow_1).before args s = true) :
    ∃ G : ev_G, ev_fl G = s.heap.size ∧ G.2.2.2.1 = (b, L, xs) ∧ va_K G.1 vwCl (ev_tys G) s ∧ ev_E G s s.heap := by
  have hf : ∀ w ∈ st_flat, w.before args s = true := flat_of_before _ hgv
  have hes := ev_tbl hts
  have hfw : ∀ w ∈ st_fw, w.2.before args s = true := fun w hw => hf w.2 (List.mem_of_getElem? (of_decide_eq_true (List.all_eq_true.mp st_flatw w hw)))
  have htw : ∀ w ∈ st_tw, w.2.before args s = true := fun w hw => hts w.2 (List.mem_of_getElem? (of_decide_eq_true (List.all_eq_true.mp st_tabw w hw)))
  have hA : ∀ a : Nat, a < s.heap.size → ¬ (fun q : Nat => s.heap.size ≤ q) a := fun a ha h => Nat.not_le.mpr ha h
  obtain ⟨c0, iS0, hKn0⟩ := u_known (C := RX0) (T := TX0) (N := 14) (n := 14) hes inX0 (hes _ wX_X0)
  obtain ⟨c1, iS1, hKn1⟩ := u_known (C := RX1) (T := TX1) (N := 3) (n := 3) hes inX1 (hes _ wX_X1)
  obtain ⟨c2, iS2, hKn2⟩ := u_known (C := RX2) (T := TX2) (N := 4) (n := 4) hes inX2 (hes _ wX_X2)
  obtain ⟨c3, iS3, hKn3⟩ := u_known (C := RX3) (T := TX3) (N := 5) (n := 5) hes inX3 (hes _ wX_X3)
  obtain ⟨c4, iS4, hKn4⟩ := u_known (C := RX4) (T := TX4) (N := 3) (n := 3) hes inX4 (hes _ wX_X4)
  obtain ⟨c5, iS5, hKn5⟩ := u_known (C := RX5) (T := TX5) (N := 10) (n := 10) hes inX5 (hes _ wX_X5)
  obtain ⟨c6, iS6, hKn6⟩ := u_known (C := RX6) (T := TX6) (N := 7) (n := 7) hes inX6 (hes _ wX_X6)
  obtain ⟨c7, iS7, hKn7⟩ := u_known (C := RX7) (T := TX7) (N := 9) (n := 9) hes inX7 (hes _ wX_X7)
  obtain ⟨c8, iS8, hKn8⟩ := u_known (C := RX8) (T := TX8) (N := 3) (n := 3) hes inX8 (hes _ wX_X8)
  obtain ⟨c9, iS9, hKn9⟩ := u_known (C := RX9) (T := TX9) (N := 1) (n := 1) hes inX9 (hes _ wX_X9)
  obtain ⟨c10, iS10, hKn10⟩ := u_known (C := RX10) (T := TX10) (N := 3) (n := 3) hes inX10 (hes _ wX_X10)
  obtain ⟨t0, hT0⟩ := st_arr (ty := .int) (hes _ wA_int) (fun C h => nomatch h)
  obtain ⟨t1, hT1⟩ := st_arr (ty := .long) (hes _ wA_long) (fun C h => nomatch h)
  obtain ⟨t2, hT2⟩ := st_arr (ty := .byte) (hes _ wA_byte) (fun C h => nomatch h)
  obtain ⟨t3, hT3⟩ := st_arr (ty := .boolean) (hes _ wA_boolean) (fun C h => nomatch h)
  have hAO : va_AO RX0 s := va_AO.of (htw (263, .arrayOver (.object RX0)) (by simp [st_tw]))
  have hAL : ev_AL s := (htw (390, .arrayOver (.array .int)) (by simp [st_tw]))
  have hA6 : va_AO RX7 s := va_AO.of (htw (1275, .arrayOver (.object RX7)) (by simp [st_tw]))
  have hA7 : va_AO RX8 s := va_AO.of (htw (344, .arrayOver (.object RX8)) (by simp [st_tw]))
  have hA8 : va_AO RX10 s := va_AO.of (htw (367, .arrayOver (.object RX10)) (by simp [st_tw]))
  obtain ⟨comp4, t4, k4, g1, -, g2, g3, g4⟩ := Cond.arrayOver_spec (args := #[]) (first := s) (o := none) (idx := []) hAO
  obtain ⟨comp5, t5, k5, h1, -, h2, h3, h4⟩ := hAL.spec
  obtain ⟨comp6, t6, k6, i1, -, i2, i3, i4⟩ := Cond.arrayOver_spec (args := #[]) (first := s) (o := none) (idx := []) hA6
  obtain ⟨comp7, t7, k7, j1, -, j2, j3, j4⟩ := Cond.arrayOver_spec (args := #[]) (first := s) (o := none) (idx := []) hA7
  obtain ⟨comp8, t8, k8, l1, -, l2, l3, l4⟩ := Cond.arrayOver_spec (args := #[]) (first := s) (o := none) (idx := []) hA8
  obtain ⟨Ks, Vs, hS, hev⟩ := st_str (A := fun q : Nat => s.heap.size ≤ q) hf hA
  refine ⟨((fun k => match k with | 0 => c0 | 1 => c1 | 2 => c2 | 3 => c3 | 4 => c4 | 5 => c5 | 6 => c6 | 7 => c7 | 8 => c8 | 9 => c9 | _ => c10, fun k => match k with | 0 => iS0 | 1 => iS1 | 2 => iS2 | 3 => iS3 | 4 => iS4 | 5 => iS5 | 6 => iS6 | 7 => iS7 | 8 => iS8 | 9 => iS9 | _ => iS10), (fun k => match k with | 0 => t0 | 1 => t1 | 2 => t2 | 3 => t3 | 4 => t4 | 5 => t5 | 6 => t6 | 7 => t7 | _ => t8), s.heap.size, (b, L, xs), Ks, Vs), rfl, rfl, ⟨?_, ?_⟩, ⟨?_, ?_⟩, ⟨?_, ?_, ?_⟩, ⟨?_, ?_, ?_, ?_⟩, hX, Nat.not_le.mpr hbl, hbl⟩
  · intro k q hq
    match k, hq with
    | 0, hq => cases hq; exact hKn0
    | 1, hq => cases hq; exact hKn1
    | 2, hq => cases hq; exact hKn2
    | 3, hq => cases hq; exact hKn3
    | 4, hq => cases hq; exact hKn4
    | 5, hq => cases hq; exact hKn5
    | 6, hq => cases hq; exact hKn6
    | 7, hq => cases hq; exact hKn7
    | 8, hq => cases hq; exact hKn8
    | 9, hq => cases hq; exact hKn9
    | 10, hq => cases hq; exact hKn10
    | k + 11, hq => simp [vwCl] at hq
  · intro k q hq
    match k, hq with
    | 0, hq => cases hq; exact hT0
    | 1, hq => cases hq; exact hT1
    | 2, hq => cases hq; exact hT2
    | 3, hq => cases hq; exact hT3
    | 4, hq => cases hq; exact ⟨fun n z => ⟨(fun k h => nomatch h), k4, g2, comp4, g3⟩, k4, comp4, g2, g3, g1, g4⟩
    | 5, hq => cases hq; exact ⟨fun n z => ⟨(fun k h => nomatch h), k5, h2, comp5, h3⟩, h4⟩
    | 6, hq => cases hq; exact ⟨fun n z => ⟨(fun k h => nomatch h), k6, i2, comp6, i3⟩, k6, comp6, i2, i3, i1, i4⟩
    | 7, hq => cases hq; exact ⟨fun n z => ⟨(fun k h => nomatch h), k7, j2, comp7, j3⟩, k7, comp7, j2, j3, j1, j4⟩
    | 8, hq => cases hq; exact ⟨fun n z => ⟨(fun k h => nomatch h), k8, l2, comp8, l3⟩, k8, comp8, l2, l3, l1, l4⟩
    | k + 9, hq => simp [ev_tys] at hq
  · exact vx_Zqof (htw (550, .laysStatic "java/lang/Throwable" "UNASSIGNED_STACK" "[Ljava/lang/StackTraceElement;") (by simp [st_tw])) (hts _ st_i1) (hfw (4, .isRef (.static "java/lang/Throwable" "UNASSIGNED_STACK" "[Ljava/lang/StackTraceElement;")) (by simp [st_fw])) hA
  · exact vx_Zqof (htw (552, .laysStatic "java/lang/Throwable" "SUPPRESSED_SENTINEL" "Ljava/util/List;") (by simp [st_tw])) (hts _ st_i1) (hfw (5, .isRef (.static "java/lang/Throwable" "SUPPRESSED_SENTINEL" "Ljava/util/List;")) (by simp [st_fw])) hA
  · intro w hw
    have hm := List.mem_filter.mp hw
    refine va_Nw.of ?_ (hts w hm.1)
    have g := hm.2
    cases w <;> first | rfl | exact absurd g (by simp [ev_nwk])
  · exact hAO
  · refine ⟨⟨hAL, hA6, hA7, hA8⟩, fun q hq => ?_⟩
    simp only [ev_nc, List.mem_cons, List.not_mem_nil, or_false] at hq
    rcases hq with rfl | rfl | rfl | rfl
    · exact va_Nc.of (hfw (50, .not (.castable "java/lang/IllegalArgumentException" "java/lang/IndexOutOfBoundsException")) (by simp [st_fw]))
    · exact va_Nc.of (hfw (36, .not (.castable "java/lang/IllegalArgumentException" "java/util/NoSuchElementException")) (by simp [st_fw]))
    · exact va_Nc.of (hfw (52, .not (.castable "java/lang/IllegalStateException" "java/lang/IndexOutOfBoundsException")) (by simp [st_fw]))
    · exact va_Nc.of (hfw (24, .not (.castable "java/lang/IllegalStateException" "java/lang/IllegalArgumentException")) (by simp [st_fw]))
  · exact hS
  · intro q hq
    obtain ⟨i, hi⟩ := List.mem_iff_getElem?.mp hq
    have hq9 : st_q i = q := by unfold st_q; rw [List.getD_eq_getElem?_getD, hi]; rfl
    have hi33 : i < 34 := (List.getElem?_eq_some_iff.mp hi).1
    have e1 := List.all_eq_true.mp st_eq i (List.mem_range.mpr hi33)
    simp only [Bool.and_eq_true, Bool.or_eq_true, decide_eq_true_eq] at e1
    have e0 := of_decide_eq_true (List.all_eq_true.mp st_tab i (List.mem_range.mpr hi33))
    have e2 := hev _ e1.1
    have e4 : (st_tm i).eval args s none [] s = some (.ref (Ks (st_q i).2.2.2)) := by
      rcases e1.2 with e3 | e3
      · unfold st_tt at e2; rw [e3] at e2; exact e2
      · exact va_eqR (hf _ (List.mem_of_getElem? e3)) e2
    rw [← hq9]
    exact vk_R.of (A := args) (hts _ (List.mem_of_getElem? e0)) e4
  · exact va_Zof (htw (622, .laysStatic "java/lang/String" "COMPACT_STRINGS" "Z") (by simp [st_tw])) (hts _ st_i2) (va_eqi (hfw (6, .eq (.static "java/lang/String" "COMPACT_STRINGS" "Z") (.int 1)) (by simp [st_fw]))) hA
  · exact va_Zqof (htw (638, .laysStatic "jdk/internal/util/Preconditions" "SIOOBE_FORMATTER" "Ljava/util/function/BiFunction;") (by simp [st_tw])) (hts _ st_i3) (hfw (7, .isRef (.static "jdk/internal/util/Preconditions" "SIOOBE_FORMATTER" "Ljava/util/function/BiFunction;")) (by simp [st_fw])) hA
