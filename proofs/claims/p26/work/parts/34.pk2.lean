/-! growing heaps: new arrays, new objects, fields -/
section PKR
variable {G : ev_G} {l : Launch} {M : ev_M} {J : ev_K} {pc k n idx : Nat} {L : List (Option Value)} {st : List Value} {c N j : Nat} {es : List va_E} {h : ev_H} {i : Int32}
theorem pk_nI (hi : i.toInt = (N : Int)) (hN : N ≤ 10000) (hd : decode M.2.1 pc = .ok (.newarray .int, 2)) (h0 : ev_V G l M J (pc + 2) L (.ref (c + es.length) :: st) (pk c (es ++ [.inl (G.2.1 0, N, .inl (fun _ => 0))]) h) k n) : ev_V G l M J pc L (.int i :: st) (pk c es h) (k + 1) (n + N) :=
  e_newa (atype := .int) (ty := .int) (t0 := 0) (N := N) (a0 := (N, .inl (fun _ => 0))) rfl rfl (fun C q => by cases q) wA_int (fun _ => rfl) hi (by show N * _ ≤ _; exact Nat.le_trans (Nat.mul_le_mul hN (show componentBytes .int ≤ 8 by decide)) (by decide)) rfl hd (by rw [pk_new c es h _ rfl]; exact h0)
theorem pk_nL (hi : i.toInt = (N : Int)) (hN : N ≤ 10000) (hd : decode M.2.1 pc = .ok (.newarray .long, 2)) (h0 : ev_V G l M J (pc + 2) L (.ref (c + es.length) :: st) (pk c (es ++ [.inl (G.2.1 1, N, .inr (.inl (fun _ => 0)))]) h) k n) : ev_V G l M J pc L (.int i :: st) (pk c es h) (k + 1) (n + N) :=
  e_newa (atype := .long) (ty := .long) (t0 := 1) (N := N) (a0 := (N, .inr (.inl (fun _ => 0)))) rfl rfl (fun C q => by cases q) wA_long (fun _ => rfl) hi (by show N * _ ≤ _; exact Nat.le_trans (Nat.mul_le_mul hN (show componentBytes .long ≤ 8 by decide)) (by decide)) rfl hd (by rw [pk_new c es h _ rfl]; exact h0)
theorem pk_nB (hi : i.toInt = (N : Int)) (hN : N ≤ 10000) (hd : decode M.2.1 pc = .ok (.newarray .byte, 2)) (h0 : ev_V G l M J (pc + 2) L (.ref (c + es.length) :: st) (pk c (es ++ [.inl (G.2.1 2, N, .inl (fun _ => 0))]) h) k n) : ev_V G l M J pc L (.int i :: st) (pk c es h) (k + 1) (n + N) :=
  e_newa (atype := .byte) (ty := .byte) (t0 := 2) (N := N) (a0 := (N, .inl (fun _ => 0))) rfl rfl (fun C q => by cases q) wA_byte (fun _ => rfl) hi (by show N * _ ≤ _; exact Nat.le_trans (Nat.mul_le_mul hN (show componentBytes .byte ≤ 8 by decide)) (by decide)) rfl hd (by rw [pk_new c es h _ rfl]; exact h0)
theorem pk_nZ (hi : i.toInt = (N : Int)) (hN : N ≤ 10000) (hd : decode M.2.1 pc = .ok (.newarray .boolean, 2)) (h0 : ev_V G l M J (pc + 2) L (.ref (c + es.length) :: st) (pk c (es ++ [.inl (G.2.1 3, N, .inl (fun _ => 0))]) h) k n) : ev_V G l M J pc L (.int i :: st) (pk c es h) (k + 1) (n + N) :=
  e_newa (atype := .boolean) (ty := .boolean) (t0 := 3) (N := N) (a0 := (N, .inl (fun _ => 0))) rfl rfl (fun C q => by cases q) wA_boolean (fun _ => rfl) hi (by show N * _ ≤ _; exact Nat.le_trans (Nat.mul_le_mul hN (show componentBytes .boolean ≤ 8 by decide)) (by decide)) rfl hd (by rw [pk_new c es h _ rfl]; exact h0)
def dv0 : List Value := [.int 0, .int 0, .int 0, .int 0, .int 0, .null, .null, .null, .null, .null, .null, .null, .null, .null]
theorem dv0_ok : ∀ j, j < 14 → defaultValue (tyX0 j) = vp_V dv0 j := by
  intro j hj
  rcases (show j = 0 ∨ j = 1 ∨ j = 2 ∨ j = 3 ∨ j = 4 ∨ j = 5 ∨ j = 6 ∨ j = 7 ∨ j = 8 ∨ j = 9 ∨ j = 10 ∨ j = 11 ∨ j = 12 ∨ j = 13 by omega) with rfl | rfl | rfl | rfl | rfl | rfl | rfl | rfl | rfl | rfl | rfl | rfl | rfl | rfl <;> rfl
theorem pk_o0 (hw : Cond.classLink M.1.cls idx RX0 ∈ ev_ws) (hd : decode M.2.1 pc = .ok (.new idx, 3)) (h0 : ev_V G l M J (pc + 3) L (.ref (c + es.length) :: st) (pk c (es ++ [.inr (0, dv0)]) h) k n) : ev_V G l M J pc L st (pk c es h) (k + 1) (n + 14) :=
  e_new (C := RX0) (T := TX0) (N := 14) (ci := 0) tyX0 tyX0_ok inX0 rfl hw wX_X0 wN_X0 dv0_ok rfl hd (by rw [pk_new c es h _ rfl]; exact h0)
def dv1 : List Value := [.int 0, .int 0, .null]
theorem dv1_ok : ∀ j, j < 3 → defaultValue (tyX1 j) = vp_V dv1 j := by
  intro j hj
  rcases (show j = 0 ∨ j = 1 ∨ j = 2 by omega) with rfl | rfl | rfl <;> rfl
theorem pk_o1 (hw : Cond.classLink M.1.cls idx RX1 ∈ ev_ws) (hd : decode M.2.1 pc = .ok (.new idx, 3)) (h0 : ev_V G l M J (pc + 3) L (.ref (c + es.length) :: st) (pk c (es ++ [.inr (1, dv1)]) h) k n) : ev_V G l M J pc L st (pk c es h) (k + 1) (n + 3) :=
  e_new (C := RX1) (T := TX1) (N := 3) (ci := 1) tyX1 tyX1_ok inX1 rfl hw wX_X1 wN_X1 dv1_ok rfl hd (by rw [pk_new c es h _ rfl]; exact h0)
def dv2 : List Value := [.int 0, .null, .null, .null]
theorem dv2_ok : ∀ j, j < 4 → defaultValue (tyX2 j) = vp_V dv2 j := by
  intro j hj
  rcases (show j = 0 ∨ j = 1 ∨ j = 2 ∨ j = 3 by omega) with rfl | rfl | rfl | rfl <;> rfl
theorem pk_o2 (hw : Cond.classLink M.1.cls idx RX2 ∈ ev_ws) (hd : decode M.2.1 pc = .ok (.new idx, 3)) (h0 : ev_V G l M J (pc + 3) L (.ref (c + es.length) :: st) (pk c (es ++ [.inr (2, dv2)]) h) k n) : ev_V G l M J pc L st (pk c es h) (k + 1) (n + 4) :=
  e_new (C := RX2) (T := TX2) (N := 4) (ci := 2) tyX2 tyX2_ok inX2 rfl hw wX_X2 wN_X2 dv2_ok rfl hd (by rw [pk_new c es h _ rfl]; exact h0)
def dv3 : List Value := [.long 0, .long 0, .long 0, .long 0, .long 0]
theorem dv3_ok : ∀ j, j < 5 → defaultValue (tyX3 j) = vp_V dv3 j := by
  intro j hj
  rcases (show j = 0 ∨ j = 1 ∨ j = 2 ∨ j = 3 ∨ j = 4 by omega) with rfl | rfl | rfl | rfl | rfl <;> rfl
theorem pk_o3 (hw : Cond.classLink M.1.cls idx RX3 ∈ ev_ws) (hd : decode M.2.1 pc = .ok (.new idx, 3)) (h0 : ev_V G l M J (pc + 3) L (.ref (c + es.length) :: st) (pk c (es ++ [.inr (3, dv3)]) h) k n) : ev_V G l M J pc L st (pk c es h) (k + 1) (n + 5) :=
  e_new (C := RX3) (T := TX3) (N := 5) (ci := 3) tyX3 tyX3_ok inX3 rfl hw wX_X3 wN_X3 dv3_ok rfl hd (by rw [pk_new c es h _ rfl]; exact h0)
def dv4 : List Value := [.int 0, .null, .null]
theorem dv4_ok : ∀ j, j < 3 → defaultValue (tyX4 j) = vp_V dv4 j := by
  intro j hj
  rcases (show j = 0 ∨ j = 1 ∨ j = 2 by omega) with rfl | rfl | rfl <;> rfl
theorem pk_o4 (hw : Cond.classLink M.1.cls idx RX4 ∈ ev_ws) (hd : decode M.2.1 pc = .ok (.new idx, 3)) (h0 : ev_V G l M J (pc + 3) L (.ref (c + es.length) :: st) (pk c (es ++ [.inr (4, dv4)]) h) k n) : ev_V G l M J pc L st (pk c es h) (k + 1) (n + 3) :=
  e_new (C := RX4) (T := TX4) (N := 3) (ci := 4) tyX4 tyX4_ok inX4 rfl hw wX_X4 wN_X4 dv4_ok rfl hd (by rw [pk_new c es h _ rfl]; exact h0)
def dv5 : List Value := [.int 0, .int 0, .null, .int 0, .int 0, .int 0, .null, .int 0, .null, .null]
theorem dv5_ok : ∀ j, j < 10 → defaultValue (tyX5 j) = vp_V dv5 j := by
  intro j hj
  rcases (show j = 0 ∨ j = 1 ∨ j = 2 ∨ j = 3 ∨ j = 4 ∨ j = 5 ∨ j = 6 ∨ j = 7 ∨ j = 8 ∨ j = 9 by omega) with rfl | rfl | rfl | rfl | rfl | rfl | rfl | rfl | rfl | rfl <;> rfl
theorem pk_o5 (hw : Cond.classLink M.1.cls idx RX5 ∈ ev_ws) (hd : decode M.2.1 pc = .ok (.new idx, 3)) (h0 : ev_V G l M J (pc + 3) L (.ref (c + es.length) :: st) (pk c (es ++ [.inr (5, dv5)]) h) k n) : ev_V G l M J pc L st (pk c es h) (k + 1) (n + 10) :=
  e_new (C := RX5) (T := TX5) (N := 10) (ci := 5) tyX5 tyX5_ok inX5 rfl hw wX_X5 wN_X5 dv5_ok rfl hd (by rw [pk_new c es h _ rfl]; exact h0)
def dv6 : List Value := [.null, .null, .null, .null, .null, .int 0, .int 0]
theorem dv6_ok : ∀ j, j < 7 → defaultValue (tyX6 j) = vp_V dv6 j := by
  intro j hj
  rcases (show j = 0 ∨ j = 1 ∨ j = 2 ∨ j = 3 ∨ j = 4 ∨ j = 5 ∨ j = 6 by omega) with rfl | rfl | rfl | rfl | rfl | rfl | rfl <;> rfl
theorem pk_o6 (hw : Cond.classLink M.1.cls idx RX6 ∈ ev_ws) (hd : decode M.2.1 pc = .ok (.new idx, 3)) (h0 : ev_V G l M J (pc + 3) L (.ref (c + es.length) :: st) (pk c (es ++ [.inr (6, dv6)]) h) k n) : ev_V G l M J pc L st (pk c es h) (k + 1) (n + 7) :=
  e_new (C := RX6) (T := TX6) (N := 7) (ci := 6) tyX6 tyX6_ok inX6 rfl hw wX_X6 wN_X6 dv6_ok rfl hd (by rw [pk_new c es h _ rfl]; exact h0)
def dv7 : List Value := [.int 0, .int 0, .int 0, .int 0, .null, .null, .null, .null, .null]
theorem dv7_ok : ∀ j, j < 9 → defaultValue (tyX7 j) = vp_V dv7 j := by
  intro j hj
  rcases (show j = 0 ∨ j = 1 ∨ j = 2 ∨ j = 3 ∨ j = 4 ∨ j = 5 ∨ j = 6 ∨ j = 7 ∨ j = 8 by omega) with rfl | rfl | rfl | rfl | rfl | rfl | rfl | rfl | rfl <;> rfl
theorem pk_o7 (hw : Cond.classLink M.1.cls idx RX7 ∈ ev_ws) (hd : decode M.2.1 pc = .ok (.new idx, 3)) (h0 : ev_V G l M J (pc + 3) L (.ref (c + es.length) :: st) (pk c (es ++ [.inr (7, dv7)]) h) k n) : ev_V G l M J pc L st (pk c es h) (k + 1) (n + 9) :=
  e_new (C := RX7) (T := TX7) (N := 9) (ci := 7) tyX7 tyX7_ok inX7 rfl hw wX_X7 wN_X7 dv7_ok rfl hd (by rw [pk_new c es h _ rfl]; exact h0)
def dv8 : List Value := [.int 0, .long 0, .long 0]
theorem dv8_ok : ∀ j, j < 3 → defaultValue (tyX8 j) = vp_V dv8 j := by
  intro j hj
  rcases (show j = 0 ∨ j = 1 ∨ j = 2 by omega) with rfl | rfl | rfl <;> rfl
theorem pk_o8 (hw : Cond.classLink M.1.cls idx RX8 ∈ ev_ws) (hd : decode M.2.1 pc = .ok (.new idx, 3)) (h0 : ev_V G l M J (pc + 3) L (.ref (c + es.length) :: st) (pk c (es ++ [.inr (8, dv8)]) h) k n) : ev_V G l M J pc L st (pk c es h) (k + 1) (n + 3) :=
  e_new (C := RX8) (T := TX8) (N := 3) (ci := 8) tyX8 tyX8_ok inX8 rfl hw wX_X8 wN_X8 dv8_ok rfl hd (by rw [pk_new c es h _ rfl]; exact h0)
def dv9 : List Value := [.int 0]
theorem dv9_ok : ∀ j, j < 1 → defaultValue (tyX9 j) = vp_V dv9 j := by
  intro j hj
  rcases (show j = 0 by omega) with rfl <;> rfl
theorem pk_o9 (hw : Cond.classLink M.1.cls idx RX9 ∈ ev_ws) (hd : decode M.2.1 pc = .ok (.new idx, 3)) (h0 : ev_V G l M J (pc + 3) L (.ref (c + es.length) :: st) (pk c (es ++ [.inr (9, dv9)]) h) k n) : ev_V G l M J pc L st (pk c es h) (k + 1) (n + 1) :=
  e_new (C := RX9) (T := TX9) (N := 1) (ci := 9) tyX9 tyX9_ok inX9 rfl hw wX_X9 wN_X9 dv9_ok rfl hd (by rw [pk_new c es h _ rfl]; exact h0)
def dv10 : List Value := [.int 0, .int 0, .int 0]
theorem dv10_ok : ∀ j, j < 3 → defaultValue (tyX10 j) = vp_V dv10 j := by
  intro j hj
  rcases (show j = 0 ∨ j = 1 ∨ j = 2 by omega) with rfl | rfl | rfl <;> rfl
theorem pk_o10 (hw : Cond.classLink M.1.cls idx RX10 ∈ ev_ws) (hd : decode M.2.1 pc = .ok (.new idx, 3)) (h0 : ev_V G l M J (pc + 3) L (.ref (c + es.length) :: st) (pk c (es ++ [.inr (10, dv10)]) h) k n) : ev_V G l M J pc L st (pk c es h) (k + 1) (n + 3) :=
  e_new (C := RX10) (T := TX10) (N := 3) (ci := 10) tyX10 tyX10_ok inX10 rfl hw wX_X10 wN_X10 dv10_ok rfl hd (by rw [pk_new c es h _ rfl]; exact h0)
end PKR
