/-! a chain's fifteen cells: its own, six rows, its ledger, its impulses (with three rows), its patterns (with two) -/
/-- masses 0, time 1, damping 2, ends 3 4, impulses 5, patterns 6; the ledger's five; the rows: weights 0, displacements 1, momenta 2, stiffnesses 3, limits 4, broken 5, pulls 6, ticks 7, receivers 8, strengths 9, numbers 10, times 11 -/
abbrev CS : Type := (Nat → Int32) × (Nat → Int64) × (Nat → Nat → Int32)
def cs_I (σ : CS) (k : Nat) (v : Int32) : CS := (ev_u σ.1 k v, σ.2)
def cs_J (σ : CS) (k : Nat) (v : Int64) : CS := (σ.1, ev_u σ.2.1 k v, σ.2.2)
def cs_A (σ : CS) (k : Nat) (f : Nat → Int32) : CS := (σ.1, σ.2.1, ev_u σ.2.2 k f)
theorem ev_u_self {α : Type} (f : Nat → α) (k : Nat) (x : α) : ev_u f k x k = x := by simp [ev_u]
theorem ev_u_ne {α : Type} (f : Nat → α) {k j : Nat} (x : α) (h : j ≠ k) : ev_u f k x j = f j := by simp [ev_u, h]
def ch_cell (G : ev_G) (c : Nat) (σ : CS) (j : Nat) : va_E := match j with
  | 0 => .inr (0, [.int (σ.1 0), .int (σ.1 1), .int (σ.1 2), .int (σ.1 3), .int (σ.1 4), .ref (c + 7), .ref (c + 8), .ref (c + 12), .ref (c + 1), .ref (c + 2), .ref (c + 3), .ref (c + 4), .ref (c + 5), .ref (c + 6)])
  | 1 => .inl (G.2.1 0, 12, .inl (σ.2.2 0))
  | 2 => .inl (G.2.1 0, 12, .inl (σ.2.2 1))
  | 3 => .inl (G.2.1 0, 12, .inl (σ.2.2 2))
  | 4 => .inl (G.2.1 0, 13, .inl (σ.2.2 3))
  | 5 => .inl (G.2.1 0, 13, .inl (σ.2.2 4))
  | 6 => .inl (G.2.1 3, 13, .inl (σ.2.2 5))
  | 7 => .inr (3, [.long (σ.2.1 0), .long (σ.2.1 1), .long (σ.2.1 2), .long (σ.2.1 3), .long (σ.2.1 4)])
  | 8 => .inr (2, [.int (σ.1 5), .ref (c + 9), .ref (c + 10), .ref (c + 11)])
  | 9 => .inl (G.2.1 0, 16, .inl (σ.2.2 7))
  | 10 => .inl (G.2.1 0, 16, .inl (σ.2.2 8))
  | 11 => .inl (G.2.1 0, 16, .inl (σ.2.2 9))
  | 12 => .inr (4, [.int (σ.1 6), .ref (c + 13), .ref (c + 14)])
  | 13 => .inl (G.2.1 0, 32, .inl (σ.2.2 10))
  | _ => .inl (G.2.1 0, 32, .inl (σ.2.2 11))
def ch (G : ev_G) (c : Nat) (σ : CS) (h : ev_H) : ev_H := (fun b => if c ≤ b ∧ b < c + 15 then some (ch_cell G c σ (b - c)) else h.1 b, h.2)
theorem ch_at (G : ev_G) (c : Nat) (σ : CS) (h : ev_H) (j : Nat) (hj : j < 15) : (ch G c σ h).1 (c + j) = some (ch_cell G c σ j) := by
  show (if c ≤ c + j ∧ c + j < c + 15 then some (ch_cell G c σ (c + j - c)) else h.1 (c + j)) = _
  rw [if_pos ⟨by omega, by omega⟩, show c + j - c = j by omega]
theorem ch_out (G : ev_G) (c : Nat) (σ : CS) (h : ev_H) (b : Nat) (hb : ¬ (c ≤ b ∧ b < c + 15)) : (ch G c σ h).1 b = h.1 b := by
  show (if c ≤ b ∧ b < c + 15 then some (ch_cell G c σ (b - c)) else h.1 b) = _
  rw [if_neg hb]
theorem ch_put (G : ev_G) (c : Nat) (σ σ' : CS) (h : ev_H) (j : Nat) (hj : j < 15) (e : va_E) (he : ch_cell G c σ' j = e) (ho : ∀ i, i < 15 → i ≠ j → ch_cell G c σ' i = ch_cell G c σ i) : ev_put (ch G c σ h) (c + j) e = ch G c σ' h := by
  refine Prod.ext (funext fun b => ?_) rfl
  show (if b = c + j then some e else if c ≤ b ∧ b < c + 15 then some (ch_cell G c σ (b - c)) else h.1 b) = (if c ≤ b ∧ b < c + 15 then some (ch_cell G c σ' (b - c)) else h.1 b)
  by_cases hb : b = c + j
  · subst hb
    rw [if_pos rfl, if_pos ⟨by omega, by omega⟩, show c + j - c = j by omega, he]
  · rw [if_neg hb]
    by_cases hi : c ≤ b ∧ b < c + 15
    · rw [if_pos hi, if_pos hi, ho (b - c) (by omega) (by omega)]
    · rw [if_neg hi, if_neg hi]
theorem ch_self (G : ev_G) (c : Nat) (σ : CS) (h : ev_H) : ch G c σ (ch G c σ h) = ch G c σ h := by
  refine Prod.ext (funext fun b => ?_) rfl
  show (if c ≤ b ∧ b < c + 15 then _ else (if c ≤ b ∧ b < c + 15 then _ else _)) = (if c ≤ b ∧ b < c + 15 then _ else _)
  by_cases hi : c ≤ b ∧ b < c + 15 <;> simp [hi]
theorem ch_over (G : ev_G) (c : Nat) (σ τ : CS) (h : ev_H) : ch G c σ (ch G c τ h) = ch G c σ h := by
  refine Prod.ext (funext fun b => ?_) rfl
  show (if c ≤ b ∧ b < c + 15 then _ else (if c ≤ b ∧ b < c + 15 then _ else _)) = (if c ≤ b ∧ b < c + 15 then _ else _)
  by_cases hi : c ≤ b ∧ b < c + 15 <;> simp [hi]
theorem ch_swap (G : ev_G) (c d : Nat) (σ τ : CS) (h : ev_H) (hd : c + 15 ≤ d ∨ d + 15 ≤ c) : ch G c σ (ch G d τ h) = ch G d τ (ch G c σ h) := by
  refine Prod.ext (funext fun b => ?_) rfl
  show (if c ≤ b ∧ b < c + 15 then _ else (if d ≤ b ∧ b < d + 15 then _ else _)) = (if d ≤ b ∧ b < d + 15 then _ else (if c ≤ b ∧ b < c + 15 then _ else _))
  by_cases hi : c ≤ b ∧ b < c + 15
  · rw [if_pos hi, if_neg (by omega), if_pos hi]
  · rw [if_neg hi, if_neg hi]
theorem ev_as {G : ev_G} {l : Launch} {M : ev_M} {J : ev_K} {pc k n : Nat} {L : List (Option Value)} {st : List Value} {a a' : ev_H} (e : a = a') (h : ev_V G l M J pc L st a' k n) : ev_V G l M J pc L st a k n := e ▸ h
section CHR
variable {G : ev_G} {l : Launch} {M : ev_M} {J : ev_K} {pc k n c idx : Nat} {L : List (Option Value)} {st : List Value} {h : ev_H} {σ : CS}
theorem ch_g0_0 (hw : Cond.fieldLink M.1.cls idx "SpringChain$Chain" "masses" "I" ∈ ev_ws) (hd : decode M.2.1 pc = .ok (.getfield idx, 3)) (k0 : ev_V G l M J (pc + 3) L (.int (σ.1 0) :: st) (ch G c σ h) k n) : ev_V G l M J pc L (.ref (c) :: st) (ch G c σ h) k n := e_getf (C := RX0) (T := TX0) (N := 14) (ci := 0) 0 inX0 rfl (ch_at G c σ h 0 (by decide)) (by decide) hw rfl hd k0
theorem ch_p0_0 {v : Int32} (hw : Cond.fieldLink M.1.cls idx "SpringChain$Chain" "masses" "I" ∈ ev_ws) (hd : decode M.2.1 pc = .ok (.putfield idx, 3)) (k0 : ev_V G l M J (pc + 3) L st (ch G c (cs_I σ 0 v) h) k n) : ev_V G l M J pc L (.int v :: .ref (c) :: st) (ch G c σ h) k n := by
  refine e_putf (Cn := RX0) (T := TX0) (N := 14) (ci := 0) 0 tyX0 tyX0_ok nmX0 inX0 rfl (ch_at G c σ h 0 (by decide)) (by decide) hw (Or.inl rfl) (tyX0_ok 0 (by decide)) rfl rfl (Nat.le_of_ble_eq_true rfl) hd (ev_as (ch_put G c σ (cs_I σ 0 v) h 0 (by decide) _ rfl ?_) k0)
  intro i hi hne
  rcases (show i = 0 ∨ i = 1 ∨ i = 2 ∨ i = 3 ∨ i = 4 ∨ i = 5 ∨ i = 6 ∨ i = 7 ∨ i = 8 ∨ i = 9 ∨ i = 10 ∨ i = 11 ∨ i = 12 ∨ i = 13 ∨ i = 14 by omega) with rfl | rfl | rfl | rfl | rfl | rfl | rfl | rfl | rfl | rfl | rfl | rfl | rfl | rfl | rfl <;> first | rfl | exact absurd rfl hne
theorem ch_g0_1 (hw : Cond.fieldLink M.1.cls idx "SpringChain$Chain" "time" "I" ∈ ev_ws) (hd : decode M.2.1 pc = .ok (.getfield idx, 3)) (k0 : ev_V G l M J (pc + 3) L (.int (σ.1 1) :: st) (ch G c σ h) k n) : ev_V G l M J pc L (.ref (c) :: st) (ch G c σ h) k n := e_getf (C := RX0) (T := TX0) (N := 14) (ci := 0) 1 inX0 rfl (ch_at G c σ h 0 (by decide)) (by decide) hw rfl hd k0
theorem ch_p0_1 {v : Int32} (hw : Cond.fieldLink M.1.cls idx "SpringChain$Chain" "time" "I" ∈ ev_ws) (hd : decode M.2.1 pc = .ok (.putfield idx, 3)) (k0 : ev_V G l M J (pc + 3) L st (ch G c (cs_I σ 1 v) h) k n) : ev_V G l M J pc L (.int v :: .ref (c) :: st) (ch G c σ h) k n := by
  refine e_putf (Cn := RX0) (T := TX0) (N := 14) (ci := 0) 1 tyX0 tyX0_ok nmX0 inX0 rfl (ch_at G c σ h 0 (by decide)) (by decide) hw (Or.inl rfl) (tyX0_ok 1 (by decide)) rfl rfl (Nat.le_of_ble_eq_true rfl) hd (ev_as (ch_put G c σ (cs_I σ 1 v) h 0 (by decide) _ rfl ?_) k0)
  intro i hi hne
  rcases (show i = 0 ∨ i = 1 ∨ i = 2 ∨ i = 3 ∨ i = 4 ∨ i = 5 ∨ i = 6 ∨ i = 7 ∨ i = 8 ∨ i = 9 ∨ i = 10 ∨ i = 11 ∨ i = 12 ∨ i = 13 ∨ i = 14 by omega) with rfl | rfl | rfl | rfl | rfl | rfl | rfl | rfl | rfl | rfl | rfl | rfl | rfl | rfl | rfl <;> first | rfl | exact absurd rfl hne
theorem ch_g0_2 (hw : Cond.fieldLink M.1.cls idx "SpringChain$Chain" "damping" "I" ∈ ev_ws) (hd : decode M.2.1 pc = .ok (.getfield idx, 3)) (k0 : ev_V G l M J (pc + 3) L (.int (σ.1 2) :: st) (ch G c σ h) k n) : ev_V G l M J pc L (.ref (c) :: st) (ch G c σ h) k n := e_getf (C := RX0) (T := TX0) (N := 14) (ci := 0) 2 inX0 rfl (ch_at G c σ h 0 (by decide)) (by decide) hw rfl hd k0
theorem ch_p0_2 {v : Int32} (hw : Cond.fieldLink M.1.cls idx "SpringChain$Chain" "damping" "I" ∈ ev_ws) (hd : decode M.2.1 pc = .ok (.putfield idx, 3)) (k0 : ev_V G l M J (pc + 3) L st (ch G c (cs_I σ 2 v) h) k n) : ev_V G l M J pc L (.int v :: .ref (c) :: st) (ch G c σ h) k n := by
  refine e_putf (Cn := RX0) (T := TX0) (N := 14) (ci := 0) 2 tyX0 tyX0_ok nmX0 inX0 rfl (ch_at G c σ h 0 (by decide)) (by decide) hw (Or.inl rfl) (tyX0_ok 2 (by decide)) rfl rfl (Nat.le_of_ble_eq_true rfl) hd (ev_as (ch_put G c σ (cs_I σ 2 v) h 0 (by decide) _ rfl ?_) k0)
  intro i hi hne
  rcases (show i = 0 ∨ i = 1 ∨ i = 2 ∨ i = 3 ∨ i = 4 ∨ i = 5 ∨ i = 6 ∨ i = 7 ∨ i = 8 ∨ i = 9 ∨ i = 10 ∨ i = 11 ∨ i = 12 ∨ i = 13 ∨ i = 14 by omega) with rfl | rfl | rfl | rfl | rfl | rfl | rfl | rfl | rfl | rfl | rfl | rfl | rfl | rfl | rfl <;> first | rfl | exact absurd rfl hne
theorem ch_g0_3 (hw : Cond.fieldLink M.1.cls idx "SpringChain$Chain" "leftEnd" "I" ∈ ev_ws) (hd : decode M.2.1 pc = .ok (.getfield idx, 3)) (k0 : ev_V G l M J (pc + 3) L (.int (σ.1 3) :: st) (ch G c σ h) k n) : ev_V G l M J pc L (.ref (c) :: st) (ch G c σ h) k n := e_getf (C := RX0) (T := TX0) (N := 14) (ci := 0) 3 inX0 rfl (ch_at G c σ h 0 (by decide)) (by decide) hw rfl hd k0
theorem ch_p0_3 {v : Int32} (hw : Cond.fieldLink M.1.cls idx "SpringChain$Chain" "leftEnd" "I" ∈ ev_ws) (hd : decode M.2.1 pc = .ok (.putfield idx, 3)) (k0 : ev_V G l M J (pc + 3) L st (ch G c (cs_I σ 3 v) h) k n) : ev_V G l M J pc L (.int v :: .ref (c) :: st) (ch G c σ h) k n := by
  refine e_putf (Cn := RX0) (T := TX0) (N := 14) (ci := 0) 3 tyX0 tyX0_ok nmX0 inX0 rfl (ch_at G c σ h 0 (by decide)) (by decide) hw (Or.inl rfl) (tyX0_ok 3 (by decide)) rfl rfl (Nat.le_of_ble_eq_true rfl) hd (ev_as (ch_put G c σ (cs_I σ 3 v) h 0 (by decide) _ rfl ?_) k0)
  intro i hi hne
  rcases (show i = 0 ∨ i = 1 ∨ i = 2 ∨ i = 3 ∨ i = 4 ∨ i = 5 ∨ i = 6 ∨ i = 7 ∨ i = 8 ∨ i = 9 ∨ i = 10 ∨ i = 11 ∨ i = 12 ∨ i = 13 ∨ i = 14 by omega) with rfl | rfl | rfl | rfl | rfl | rfl | rfl | rfl | rfl | rfl | rfl | rfl | rfl | rfl | rfl <;> first | rfl | exact absurd rfl hne
theorem ch_g0_4 (hw : Cond.fieldLink M.1.cls idx "SpringChain$Chain" "rightEnd" "I" ∈ ev_ws) (hd : decode M.2.1 pc = .ok (.getfield idx, 3)) (k0 : ev_V G l M J (pc + 3) L (.int (σ.1 4) :: st) (ch G c σ h) k n) : ev_V G l M J pc L (.ref (c) :: st) (ch G c σ h) k n := e_getf (C := RX0) (T := TX0) (N := 14) (ci := 0) 4 inX0 rfl (ch_at G c σ h 0 (by decide)) (by decide) hw rfl hd k0
theorem ch_p0_4 {v : Int32} (hw : Cond.fieldLink M.1.cls idx "SpringChain$Chain" "rightEnd" "I" ∈ ev_ws) (hd : decode M.2.1 pc = .ok (.putfield idx, 3)) (k0 : ev_V G l M J (pc + 3) L st (ch G c (cs_I σ 4 v) h) k n) : ev_V G l M J pc L (.int v :: .ref (c) :: st) (ch G c σ h) k n := by
  refine e_putf (Cn := RX0) (T := TX0) (N := 14) (ci := 0) 4 tyX0 tyX0_ok nmX0 inX0 rfl (ch_at G c σ h 0 (by decide)) (by decide) hw (Or.inl rfl) (tyX0_ok 4 (by decide)) rfl rfl (Nat.le_of_ble_eq_true rfl) hd (ev_as (ch_put G c σ (cs_I σ 4 v) h 0 (by decide) _ rfl ?_) k0)
  intro i hi hne
  rcases (show i = 0 ∨ i = 1 ∨ i = 2 ∨ i = 3 ∨ i = 4 ∨ i = 5 ∨ i = 6 ∨ i = 7 ∨ i = 8 ∨ i = 9 ∨ i = 10 ∨ i = 11 ∨ i = 12 ∨ i = 13 ∨ i = 14 by omega) with rfl | rfl | rfl | rfl | rfl | rfl | rfl | rfl | rfl | rfl | rfl | rfl | rfl | rfl | rfl <;> first | rfl | exact absurd rfl hne
theorem ch_g0_5 (hw : Cond.fieldLink M.1.cls idx "SpringChain$Chain" "ledger" "LSpringChain$Ledger;" ∈ ev_ws) (hd : decode M.2.1 pc = .ok (.getfield idx, 3)) (k0 : ev_V G l M J (pc + 3) L (.ref (c + 7) :: st) (ch G c σ h) k n) : ev_V G l M J pc L (.ref (c) :: st) (ch G c σ h) k n := e_getf (C := RX0) (T := TX0) (N := 14) (ci := 0) 5 inX0 rfl (ch_at G c σ h 0 (by decide)) (by decide) hw rfl hd k0
theorem ch_g0_6 (hw : Cond.fieldLink M.1.cls idx "SpringChain$Chain" "impulses" "LSpringChain$Impulses;" ∈ ev_ws) (hd : decode M.2.1 pc = .ok (.getfield idx, 3)) (k0 : ev_V G l M J (pc + 3) L (.ref (c + 8) :: st) (ch G c σ h) k n) : ev_V G l M J pc L (.ref (c) :: st) (ch G c σ h) k n := e_getf (C := RX0) (T := TX0) (N := 14) (ci := 0) 6 inX0 rfl (ch_at G c σ h 0 (by decide)) (by decide) hw rfl hd k0
theorem ch_g0_7 (hw : Cond.fieldLink M.1.cls idx "SpringChain$Chain" "patterns" "LSpringChain$Patterns;" ∈ ev_ws) (hd : decode M.2.1 pc = .ok (.getfield idx, 3)) (k0 : ev_V G l M J (pc + 3) L (.ref (c + 12) :: st) (ch G c σ h) k n) : ev_V G l M J pc L (.ref (c) :: st) (ch G c σ h) k n := e_getf (C := RX0) (T := TX0) (N := 14) (ci := 0) 7 inX0 rfl (ch_at G c σ h 0 (by decide)) (by decide) hw rfl hd k0
theorem ch_g0_8 (hw : Cond.fieldLink M.1.cls idx "SpringChain$Chain" "weights" "[I" ∈ ev_ws) (hd : decode M.2.1 pc = .ok (.getfield idx, 3)) (k0 : ev_V G l M J (pc + 3) L (.ref (c + 1) :: st) (ch G c σ h) k n) : ev_V G l M J pc L (.ref (c) :: st) (ch G c σ h) k n := e_getf (C := RX0) (T := TX0) (N := 14) (ci := 0) 8 inX0 rfl (ch_at G c σ h 0 (by decide)) (by decide) hw rfl hd k0
theorem ch_g0_9 (hw : Cond.fieldLink M.1.cls idx "SpringChain$Chain" "displacements" "[I" ∈ ev_ws) (hd : decode M.2.1 pc = .ok (.getfield idx, 3)) (k0 : ev_V G l M J (pc + 3) L (.ref (c + 2) :: st) (ch G c σ h) k n) : ev_V G l M J pc L (.ref (c) :: st) (ch G c σ h) k n := e_getf (C := RX0) (T := TX0) (N := 14) (ci := 0) 9 inX0 rfl (ch_at G c σ h 0 (by decide)) (by decide) hw rfl hd k0
theorem ch_g0_10 (hw : Cond.fieldLink M.1.cls idx "SpringChain$Chain" "momenta" "[I" ∈ ev_ws) (hd : decode M.2.1 pc = .ok (.getfield idx, 3)) (k0 : ev_V G l M J (pc + 3) L (.ref (c + 3) :: st) (ch G c σ h) k n) : ev_V G l M J pc L (.ref (c) :: st) (ch G c σ h) k n := e_getf (C := RX0) (T := TX0) (N := 14) (ci := 0) 10 inX0 rfl (ch_at G c σ h 0 (by decide)) (by decide) hw rfl hd k0
theorem ch_g0_11 (hw : Cond.fieldLink M.1.cls idx "SpringChain$Chain" "stiffnesses" "[I" ∈ ev_ws) (hd : decode M.2.1 pc = .ok (.getfield idx, 3)) (k0 : ev_V G l M J (pc + 3) L (.ref (c + 4) :: st) (ch G c σ h) k n) : ev_V G l M J pc L (.ref (c) :: st) (ch G c σ h) k n := e_getf (C := RX0) (T := TX0) (N := 14) (ci := 0) 11 inX0 rfl (ch_at G c σ h 0 (by decide)) (by decide) hw rfl hd k0
theorem ch_g0_12 (hw : Cond.fieldLink M.1.cls idx "SpringChain$Chain" "limits" "[I" ∈ ev_ws) (hd : decode M.2.1 pc = .ok (.getfield idx, 3)) (k0 : ev_V G l M J (pc + 3) L (.ref (c + 5) :: st) (ch G c σ h) k n) : ev_V G l M J pc L (.ref (c) :: st) (ch G c σ h) k n := e_getf (C := RX0) (T := TX0) (N := 14) (ci := 0) 12 inX0 rfl (ch_at G c σ h 0 (by decide)) (by decide) hw rfl hd k0
theorem ch_g0_13 (hw : Cond.fieldLink M.1.cls idx "SpringChain$Chain" "broken" "[Z" ∈ ev_ws) (hd : decode M.2.1 pc = .ok (.getfield idx, 3)) (k0 : ev_V G l M J (pc + 3) L (.ref (c + 6) :: st) (ch G c σ h) k n) : ev_V G l M J pc L (.ref (c) :: st) (ch G c σ h) k n := e_getf (C := RX0) (T := TX0) (N := 14) (ci := 0) 13 inX0 rfl (ch_at G c σ h 0 (by decide)) (by decide) hw rfl hd k0
theorem ch_l1 {i : Int32} (h0 : 0 ≤ i.toInt) (h1 : i.toInt < 12) (hd : decode M.2.1 pc = .ok (.iaload, 1)) (k0 : ev_V G l M J (pc + 1) L (.int (σ.2.2 0 i.toInt.toNat) :: st) (ch G c σ h) k n) : ev_V G l M J pc L (.int i :: .ref (c + 1) :: st) (ch G c σ h) k n := e_iald (N := 12) (ch_at G c σ h 1 (by decide)) h0 h1 hd k0
theorem ch_s1 {i x : Int32} (h0 : 0 ≤ i.toInt) (h1 : i.toInt < 12) (hd : decode M.2.1 pc = .ok (.iastore, 1)) (k0 : ev_V G l M J (pc + 1) L st (ch G c (cs_A σ 0 (ev_u (σ.2.2 0) i.toInt.toNat x)) h) k n) : ev_V G l M J pc L (.int x :: .int i :: .ref (c + 1) :: st) (ch G c σ h) k n := by
  refine e_iast (N := 12) (ch_at G c σ h 1 (by decide)) h0 h1 hd (ev_as (ch_put G c σ (cs_A σ 0 (ev_u (σ.2.2 0) i.toInt.toNat x)) h 1 (by decide) _ rfl ?_) k0)
  intro i hi hne
  rcases (show i = 0 ∨ i = 1 ∨ i = 2 ∨ i = 3 ∨ i = 4 ∨ i = 5 ∨ i = 6 ∨ i = 7 ∨ i = 8 ∨ i = 9 ∨ i = 10 ∨ i = 11 ∨ i = 12 ∨ i = 13 ∨ i = 14 by omega) with rfl | rfl | rfl | rfl | rfl | rfl | rfl | rfl | rfl | rfl | rfl | rfl | rfl | rfl | rfl <;> first | rfl | exact absurd rfl hne
theorem ch_l2 {i : Int32} (h0 : 0 ≤ i.toInt) (h1 : i.toInt < 12) (hd : decode M.2.1 pc = .ok (.iaload, 1)) (k0 : ev_V G l M J (pc + 1) L (.int (σ.2.2 1 i.toInt.toNat) :: st) (ch G c σ h) k n) : ev_V G l M J pc L (.int i :: .ref (c + 2) :: st) (ch G c σ h) k n := e_iald (N := 12) (ch_at G c σ h 2 (by decide)) h0 h1 hd k0
theorem ch_s2 {i x : Int32} (h0 : 0 ≤ i.toInt) (h1 : i.toInt < 12) (hd : decode M.2.1 pc = .ok (.iastore, 1)) (k0 : ev_V G l M J (pc + 1) L st (ch G c (cs_A σ 1 (ev_u (σ.2.2 1) i.toInt.toNat x)) h) k n) : ev_V G l M J pc L (.int x :: .int i :: .ref (c + 2) :: st) (ch G c σ h) k n := by
  refine e_iast (N := 12) (ch_at G c σ h 2 (by decide)) h0 h1 hd (ev_as (ch_put G c σ (cs_A σ 1 (ev_u (σ.2.2 1) i.toInt.toNat x)) h 2 (by decide) _ rfl ?_) k0)
  intro i hi hne
  rcases (show i = 0 ∨ i = 1 ∨ i = 2 ∨ i = 3 ∨ i = 4 ∨ i = 5 ∨ i = 6 ∨ i = 7 ∨ i = 8 ∨ i = 9 ∨ i = 10 ∨ i = 11 ∨ i = 12 ∨ i = 13 ∨ i = 14 by omega) with rfl | rfl | rfl | rfl | rfl | rfl | rfl | rfl | rfl | rfl | rfl | rfl | rfl | rfl | rfl <;> first | rfl | exact absurd rfl hne
theorem ch_l3 {i : Int32} (h0 : 0 ≤ i.toInt) (h1 : i.toInt < 12) (hd : decode M.2.1 pc = .ok (.iaload, 1)) (k0 : ev_V G l M J (pc + 1) L (.int (σ.2.2 2 i.toInt.toNat) :: st) (ch G c σ h) k n) : ev_V G l M J pc L (.int i :: .ref (c + 3) :: st) (ch G c σ h) k n := e_iald (N := 12) (ch_at G c σ h 3 (by decide)) h0 h1 hd k0
theorem ch_s3 {i x : Int32} (h0 : 0 ≤ i.toInt) (h1 : i.toInt < 12) (hd : decode M.2.1 pc = .ok (.iastore, 1)) (k0 : ev_V G l M J (pc + 1) L st (ch G c (cs_A σ 2 (ev_u (σ.2.2 2) i.toInt.toNat x)) h) k n) : ev_V G l M J pc L (.int x :: .int i :: .ref (c + 3) :: st) (ch G c σ h) k n := by
  refine e_iast (N := 12) (ch_at G c σ h 3 (by decide)) h0 h1 hd (ev_as (ch_put G c σ (cs_A σ 2 (ev_u (σ.2.2 2) i.toInt.toNat x)) h 3 (by decide) _ rfl ?_) k0)
  intro i hi hne
  rcases (show i = 0 ∨ i = 1 ∨ i = 2 ∨ i = 3 ∨ i = 4 ∨ i = 5 ∨ i = 6 ∨ i = 7 ∨ i = 8 ∨ i = 9 ∨ i = 10 ∨ i = 11 ∨ i = 12 ∨ i = 13 ∨ i = 14 by omega) with rfl | rfl | rfl | rfl | rfl | rfl | rfl | rfl | rfl | rfl | rfl | rfl | rfl | rfl | rfl <;> first | rfl | exact absurd rfl hne
theorem ch_l4 {i : Int32} (h0 : 0 ≤ i.toInt) (h1 : i.toInt < 13) (hd : decode M.2.1 pc = .ok (.iaload, 1)) (k0 : ev_V G l M J (pc + 1) L (.int (σ.2.2 3 i.toInt.toNat) :: st) (ch G c σ h) k n) : ev_V G l M J pc L (.int i :: .ref (c + 4) :: st) (ch G c σ h) k n := e_iald (N := 13) (ch_at G c σ h 4 (by decide)) h0 h1 hd k0
theorem ch_s4 {i x : Int32} (h0 : 0 ≤ i.toInt) (h1 : i.toInt < 13) (hd : decode M.2.1 pc = .ok (.iastore, 1)) (k0 : ev_V G l M J (pc + 1) L st (ch G c (cs_A σ 3 (ev_u (σ.2.2 3) i.toInt.toNat x)) h) k n) : ev_V G l M J pc L (.int x :: .int i :: .ref (c + 4) :: st) (ch G c σ h) k n := by
  refine e_iast (N := 13) (ch_at G c σ h 4 (by decide)) h0 h1 hd (ev_as (ch_put G c σ (cs_A σ 3 (ev_u (σ.2.2 3) i.toInt.toNat x)) h 4 (by decide) _ rfl ?_) k0)
  intro i hi hne
  rcases (show i = 0 ∨ i = 1 ∨ i = 2 ∨ i = 3 ∨ i = 4 ∨ i = 5 ∨ i = 6 ∨ i = 7 ∨ i = 8 ∨ i = 9 ∨ i = 10 ∨ i = 11 ∨ i = 12 ∨ i = 13 ∨ i = 14 by omega) with rfl | rfl | rfl | rfl | rfl | rfl | rfl | rfl | rfl | rfl | rfl | rfl | rfl | rfl | rfl <;> first | rfl | exact absurd rfl hne
theorem ch_l5 {i : Int32} (h0 : 0 ≤ i.toInt) (h1 : i.toInt < 13) (hd : decode M.2.1 pc = .ok (.iaload, 1)) (k0 : ev_V G l M J (pc + 1) L (.int (σ.2.2 4 i.toInt.toNat) :: st) (ch G c σ h) k n) : ev_V G l M J pc L (.int i :: .ref (c + 5) :: st) (ch G c σ h) k n := e_iald (N := 13) (ch_at G c σ h 5 (by decide)) h0 h1 hd k0
theorem ch_s5 {i x : Int32} (h0 : 0 ≤ i.toInt) (h1 : i.toInt < 13) (hd : decode M.2.1 pc = .ok (.iastore, 1)) (k0 : ev_V G l M J (pc + 1) L st (ch G c (cs_A σ 4 (ev_u (σ.2.2 4) i.toInt.toNat x)) h) k n) : ev_V G l M J pc L (.int x :: .int i :: .ref (c + 5) :: st) (ch G c σ h) k n := by
  refine e_iast (N := 13) (ch_at G c σ h 5 (by decide)) h0 h1 hd (ev_as (ch_put G c σ (cs_A σ 4 (ev_u (σ.2.2 4) i.toInt.toNat x)) h 5 (by decide) _ rfl ?_) k0)
  intro i hi hne
  rcases (show i = 0 ∨ i = 1 ∨ i = 2 ∨ i = 3 ∨ i = 4 ∨ i = 5 ∨ i = 6 ∨ i = 7 ∨ i = 8 ∨ i = 9 ∨ i = 10 ∨ i = 11 ∨ i = 12 ∨ i = 13 ∨ i = 14 by omega) with rfl | rfl | rfl | rfl | rfl | rfl | rfl | rfl | rfl | rfl | rfl | rfl | rfl | rfl | rfl <;> first | rfl | exact absurd rfl hne
theorem ch_l6 {i : Int32} (h0 : 0 ≤ i.toInt) (h1 : i.toInt < 13) (hd : decode M.2.1 pc = .ok (.baload, 1)) (k0 : ev_V G l M J (pc + 1) L (.int (σ.2.2 5 i.toInt.toNat) :: st) (ch G c σ h) k n) : ev_V G l M J pc L (.int i :: .ref (c + 6) :: st) (ch G c σ h) k n := e_zald (N := 13) (ch_at G c σ h 6 (by decide)) h0 h1 hd k0
theorem ch_s6 {i x : Int32} (h0 : 0 ≤ i.toInt) (h1 : i.toInt < 13) (hd : decode M.2.1 pc = .ok (.bastore, 1)) (k0 : ev_V G l M J (pc + 1) L st (ch G c (cs_A σ 5 (ev_u (σ.2.2 5) i.toInt.toNat (vp_nar .boolean x))) h) k n) : ev_V G l M J pc L (.int x :: .int i :: .ref (c + 6) :: st) (ch G c σ h) k n := by
  refine e_zast (N := 13) (ch_at G c σ h 6 (by decide)) h0 h1 hd (ev_as (ch_put G c σ (cs_A σ 5 (ev_u (σ.2.2 5) i.toInt.toNat (vp_nar .boolean x))) h 6 (by decide) _ rfl ?_) k0)
  intro i hi hne
  rcases (show i = 0 ∨ i = 1 ∨ i = 2 ∨ i = 3 ∨ i = 4 ∨ i = 5 ∨ i = 6 ∨ i = 7 ∨ i = 8 ∨ i = 9 ∨ i = 10 ∨ i = 11 ∨ i = 12 ∨ i = 13 ∨ i = 14 by omega) with rfl | rfl | rfl | rfl | rfl | rfl | rfl | rfl | rfl | rfl | rfl | rfl | rfl | rfl | rfl <;> first | rfl | exact absurd rfl hne
theorem ch_g3_0 (hw : Cond.fieldLink M.1.cls idx "SpringChain$Ledger" "byLeftEnd" "J" ∈ ev_ws) (hd : decode M.2.1 pc = .ok (.getfield idx, 3)) (k0 : ev_V G l M J (pc + 3) L (.long (σ.2.1 0) :: st) (ch G c σ h) k n) : ev_V G l M J pc L (.ref (c + 7) :: st) (ch G c σ h) k n := e_getf (C := RX3) (T := TX3) (N := 5) (ci := 3) 0 inX3 rfl (ch_at G c σ h 7 (by decide)) (by decide) hw rfl hd k0
theorem ch_p3_0 {v : Int64} (hw : Cond.fieldLink M.1.cls idx "SpringChain$Ledger" "byLeftEnd" "J" ∈ ev_ws) (hd : decode M.2.1 pc = .ok (.putfield idx, 3)) (k0 : ev_V G l M J (pc + 3) L st (ch G c (cs_J σ 0 v) h) k n) : ev_V G l M J pc L (.long v :: .ref (c + 7) :: st) (ch G c σ h) k n := by
  refine e_putf (Cn := RX3) (T := TX3) (N := 5) (ci := 3) 0 tyX3 tyX3_ok nmX3 inX3 rfl (ch_at G c σ h 7 (by decide)) (by decide) hw (Or.inl rfl) (tyX3_ok 0 (by decide)) rfl rfl (Nat.le_of_ble_eq_true rfl) hd (ev_as (ch_put G c σ (cs_J σ 0 v) h 7 (by decide) _ rfl ?_) k0)
  intro i hi hne
  rcases (show i = 0 ∨ i = 1 ∨ i = 2 ∨ i = 3 ∨ i = 4 ∨ i = 5 ∨ i = 6 ∨ i = 7 ∨ i = 8 ∨ i = 9 ∨ i = 10 ∨ i = 11 ∨ i = 12 ∨ i = 13 ∨ i = 14 by omega) with rfl | rfl | rfl | rfl | rfl | rfl | rfl | rfl | rfl | rfl | rfl | rfl | rfl | rfl | rfl <;> first | rfl | exact absurd rfl hne
theorem ch_g3_1 (hw : Cond.fieldLink M.1.cls idx "SpringChain$Ledger" "byRightEnd" "J" ∈ ev_ws) (hd : decode M.2.1 pc = .ok (.getfield idx, 3)) (k0 : ev_V G l M J (pc + 3) L (.long (σ.2.1 1) :: st) (ch G c σ h) k n) : ev_V G l M J pc L (.ref (c + 7) :: st) (ch G c σ h) k n := e_getf (C := RX3) (T := TX3) (N := 5) (ci := 3) 1 inX3 rfl (ch_at G c σ h 7 (by decide)) (by decide) hw rfl hd k0
theorem ch_p3_1 {v : Int64} (hw : Cond.fieldLink M.1.cls idx "SpringChain$Ledger" "byRightEnd" "J" ∈ ev_ws) (hd : decode M.2.1 pc = .ok (.putfield idx, 3)) (k0 : ev_V G l M J (pc + 3) L st (ch G c (cs_J σ 1 v) h) k n) : ev_V G l M J pc L (.long v :: .ref (c + 7) :: st) (ch G c σ h) k n := by
  refine e_putf (Cn := RX3) (T := TX3) (N := 5) (ci := 3) 1 tyX3 tyX3_ok nmX3 inX3 rfl (ch_at G c σ h 7 (by decide)) (by decide) hw (Or.inl rfl) (tyX3_ok 1 (by decide)) rfl rfl (Nat.le_of_ble_eq_true rfl) hd (ev_as (ch_put G c σ (cs_J σ 1 v) h 7 (by decide) _ rfl ?_) k0)
  intro i hi hne
  rcases (show i = 0 ∨ i = 1 ∨ i = 2 ∨ i = 3 ∨ i = 4 ∨ i = 5 ∨ i = 6 ∨ i = 7 ∨ i = 8 ∨ i = 9 ∨ i = 10 ∨ i = 11 ∨ i = 12 ∨ i = 13 ∨ i = 14 by omega) with rfl | rfl | rfl | rfl | rfl | rfl | rfl | rfl | rfl | rfl | rfl | rfl | rfl | rfl | rfl <;> first | rfl | exact absurd rfl hne
theorem ch_g3_2 (hw : Cond.fieldLink M.1.cls idx "SpringChain$Ledger" "given" "J" ∈ ev_ws) (hd : decode M.2.1 pc = .ok (.getfield idx, 3)) (k0 : ev_V G l M J (pc + 3) L (.long (σ.2.1 2) :: st) (ch G c σ h) k n) : ev_V G l M J pc L (.ref (c + 7) :: st) (ch G c σ h) k n := e_getf (C := RX3) (T := TX3) (N := 5) (ci := 3) 2 inX3 rfl (ch_at G c σ h 7 (by decide)) (by decide) hw rfl hd k0
theorem ch_p3_2 {v : Int64} (hw : Cond.fieldLink M.1.cls idx "SpringChain$Ledger" "given" "J" ∈ ev_ws) (hd : decode M.2.1 pc = .ok (.putfield idx, 3)) (k0 : ev_V G l M J (pc + 3) L st (ch G c (cs_J σ 2 v) h) k n) : ev_V G l M J pc L (.long v :: .ref (c + 7) :: st) (ch G c σ h) k n := by
  refine e_putf (Cn := RX3) (T := TX3) (N := 5) (ci := 3) 2 tyX3 tyX3_ok nmX3 inX3 rfl (ch_at G c σ h 7 (by decide)) (by decide) hw (Or.inl rfl) (tyX3_ok 2 (by decide)) rfl rfl (Nat.le_of_ble_eq_true rfl) hd (ev_as (ch_put G c σ (cs_J σ 2 v) h 7 (by decide) _ rfl ?_) k0)
  intro i hi hne
  rcases (show i = 0 ∨ i = 1 ∨ i = 2 ∨ i = 3 ∨ i = 4 ∨ i = 5 ∨ i = 6 ∨ i = 7 ∨ i = 8 ∨ i = 9 ∨ i = 10 ∨ i = 11 ∨ i = 12 ∨ i = 13 ∨ i = 14 by omega) with rfl | rfl | rfl | rfl | rfl | rfl | rfl | rfl | rfl | rfl | rfl | rfl | rfl | rfl | rfl <;> first | rfl | exact absurd rfl hne
theorem ch_g3_3 (hw : Cond.fieldLink M.1.cls idx "SpringChain$Ledger" "damped" "J" ∈ ev_ws) (hd : decode M.2.1 pc = .ok (.getfield idx, 3)) (k0 : ev_V G l M J (pc + 3) L (.long (σ.2.1 3) :: st) (ch G c σ h) k n) : ev_V G l M J pc L (.ref (c + 7) :: st) (ch G c σ h) k n := e_getf (C := RX3) (T := TX3) (N := 5) (ci := 3) 3 inX3 rfl (ch_at G c σ h 7 (by decide)) (by decide) hw rfl hd k0
theorem ch_p3_3 {v : Int64} (hw : Cond.fieldLink M.1.cls idx "SpringChain$Ledger" "damped" "J" ∈ ev_ws) (hd : decode M.2.1 pc = .ok (.putfield idx, 3)) (k0 : ev_V G l M J (pc + 3) L st (ch G c (cs_J σ 3 v) h) k n) : ev_V G l M J pc L (.long v :: .ref (c + 7) :: st) (ch G c σ h) k n := by
  refine e_putf (Cn := RX3) (T := TX3) (N := 5) (ci := 3) 3 tyX3 tyX3_ok nmX3 inX3 rfl (ch_at G c σ h 7 (by decide)) (by decide) hw (Or.inl rfl) (tyX3_ok 3 (by decide)) rfl rfl (Nat.le_of_ble_eq_true rfl) hd (ev_as (ch_put G c σ (cs_J σ 3 v) h 7 (by decide) _ rfl ?_) k0)
  intro i hi hne
  rcases (show i = 0 ∨ i = 1 ∨ i = 2 ∨ i = 3 ∨ i = 4 ∨ i = 5 ∨ i = 6 ∨ i = 7 ∨ i = 8 ∨ i = 9 ∨ i = 10 ∨ i = 11 ∨ i = 12 ∨ i = 13 ∨ i = 14 by omega) with rfl | rfl | rfl | rfl | rfl | rfl | rfl | rfl | rfl | rfl | rfl | rfl | rfl | rfl | rfl <;> first | rfl | exact absurd rfl hne
theorem ch_g3_4 (hw : Cond.fieldLink M.1.cls idx "SpringChain$Ledger" "lost" "J" ∈ ev_ws) (hd : decode M.2.1 pc = .ok (.getfield idx, 3)) (k0 : ev_V G l M J (pc + 3) L (.long (σ.2.1 4) :: st) (ch G c σ h) k n) : ev_V G l M J pc L (.ref (c + 7) :: st) (ch G c σ h) k n := e_getf (C := RX3) (T := TX3) (N := 5) (ci := 3) 4 inX3 rfl (ch_at G c σ h 7 (by decide)) (by decide) hw rfl hd k0
theorem ch_p3_4 {v : Int64} (hw : Cond.fieldLink M.1.cls idx "SpringChain$Ledger" "lost" "J" ∈ ev_ws) (hd : decode M.2.1 pc = .ok (.putfield idx, 3)) (k0 : ev_V G l M J (pc + 3) L st (ch G c (cs_J σ 4 v) h) k n) : ev_V G l M J pc L (.long v :: .ref (c + 7) :: st) (ch G c σ h) k n := by
  refine e_putf (Cn := RX3) (T := TX3) (N := 5) (ci := 3) 4 tyX3 tyX3_ok nmX3 inX3 rfl (ch_at G c σ h 7 (by decide)) (by decide) hw (Or.inl rfl) (tyX3_ok 4 (by decide)) rfl rfl (Nat.le_of_ble_eq_true rfl) hd (ev_as (ch_put G c σ (cs_J σ 4 v) h 7 (by decide) _ rfl ?_) k0)
  intro i hi hne
  rcases (show i = 0 ∨ i = 1 ∨ i = 2 ∨ i = 3 ∨ i = 4 ∨ i = 5 ∨ i = 6 ∨ i = 7 ∨ i = 8 ∨ i = 9 ∨ i = 10 ∨ i = 11 ∨ i = 12 ∨ i = 13 ∨ i = 14 by omega) with rfl | rfl | rfl | rfl | rfl | rfl | rfl | rfl | rfl | rfl | rfl | rfl | rfl | rfl | rfl <;> first | rfl | exact absurd rfl hne
theorem ch_g2_0 (hw : Cond.fieldLink M.1.cls idx "SpringChain$Impulses" "count" "I" ∈ ev_ws) (hd : decode M.2.1 pc = .ok (.getfield idx, 3)) (k0 : ev_V G l M J (pc + 3) L (.int (σ.1 5) :: st) (ch G c σ h) k n) : ev_V G l M J pc L (.ref (c + 8) :: st) (ch G c σ h) k n := e_getf (C := RX2) (T := TX2) (N := 4) (ci := 2) 0 inX2 rfl (ch_at G c σ h 8 (by decide)) (by decide) hw rfl hd k0
theorem ch_p2_0 {v : Int32} (hw : Cond.fieldLink M.1.cls idx "SpringChain$Impulses" "count" "I" ∈ ev_ws) (hd : decode M.2.1 pc = .ok (.putfield idx, 3)) (k0 : ev_V G l M J (pc + 3) L st (ch G c (cs_I σ 5 v) h) k n) : ev_V G l M J pc L (.int v :: .ref (c + 8) :: st) (ch G c σ h) k n := by
  refine e_putf (Cn := RX2) (T := TX2) (N := 4) (ci := 2) 0 tyX2 tyX2_ok nmX2 inX2 rfl (ch_at G c σ h 8 (by decide)) (by decide) hw (Or.inl rfl) (tyX2_ok 0 (by decide)) rfl rfl (Nat.le_of_ble_eq_true rfl) hd (ev_as (ch_put G c σ (cs_I σ 5 v) h 8 (by decide) _ rfl ?_) k0)
  intro i hi hne
  rcases (show i = 0 ∨ i = 1 ∨ i = 2 ∨ i = 3 ∨ i = 4 ∨ i = 5 ∨ i = 6 ∨ i = 7 ∨ i = 8 ∨ i = 9 ∨ i = 10 ∨ i = 11 ∨ i = 12 ∨ i = 13 ∨ i = 14 by omega) with rfl | rfl | rfl | rfl | rfl | rfl | rfl | rfl | rfl | rfl | rfl | rfl | rfl | rfl | rfl <;> first | rfl | exact absurd rfl hne
theorem ch_g2_1 (hw : Cond.fieldLink M.1.cls idx "SpringChain$Impulses" "ticks" "[I" ∈ ev_ws) (hd : decode M.2.1 pc = .ok (.getfield idx, 3)) (k0 : ev_V G l M J (pc + 3) L (.ref (c + 9) :: st) (ch G c σ h) k n) : ev_V G l M J pc L (.ref (c + 8) :: st) (ch G c σ h) k n := e_getf (C := RX2) (T := TX2) (N := 4) (ci := 2) 1 inX2 rfl (ch_at G c σ h 8 (by decide)) (by decide) hw rfl hd k0
theorem ch_g2_2 (hw : Cond.fieldLink M.1.cls idx "SpringChain$Impulses" "receivers" "[I" ∈ ev_ws) (hd : decode M.2.1 pc = .ok (.getfield idx, 3)) (k0 : ev_V G l M J (pc + 3) L (.ref (c + 10) :: st) (ch G c σ h) k n) : ev_V G l M J pc L (.ref (c + 8) :: st) (ch G c σ h) k n := e_getf (C := RX2) (T := TX2) (N := 4) (ci := 2) 2 inX2 rfl (ch_at G c σ h 8 (by decide)) (by decide) hw rfl hd k0
theorem ch_g2_3 (hw : Cond.fieldLink M.1.cls idx "SpringChain$Impulses" "strengths" "[I" ∈ ev_ws) (hd : decode M.2.1 pc = .ok (.getfield idx, 3)) (k0 : ev_V G l M J (pc + 3) L (.ref (c + 11) :: st) (ch G c σ h) k n) : ev_V G l M J pc L (.ref (c + 8) :: st) (ch G c σ h) k n := e_getf (C := RX2) (T := TX2) (N := 4) (ci := 2) 3 inX2 rfl (ch_at G c σ h 8 (by decide)) (by decide) hw rfl hd k0
theorem ch_l9 {i : Int32} (h0 : 0 ≤ i.toInt) (h1 : i.toInt < 16) (hd : decode M.2.1 pc = .ok (.iaload, 1)) (k0 : ev_V G l M J (pc + 1) L (.int (σ.2.2 7 i.toInt.toNat) :: st) (ch G c σ h) k n) : ev_V G l M J pc L (.int i :: .ref (c + 9) :: st) (ch G c σ h) k n := e_iald (N := 16) (ch_at G c σ h 9 (by decide)) h0 h1 hd k0
theorem ch_s9 {i x : Int32} (h0 : 0 ≤ i.toInt) (h1 : i.toInt < 16) (hd : decode M.2.1 pc = .ok (.iastore, 1)) (k0 : ev_V G l M J (pc + 1) L st (ch G c (cs_A σ 7 (ev_u (σ.2.2 7) i.toInt.toNat x)) h) k n) : ev_V G l M J pc L (.int x :: .int i :: .ref (c + 9) :: st) (ch G c σ h) k n := by
  refine e_iast (N := 16) (ch_at G c σ h 9 (by decide)) h0 h1 hd (ev_as (ch_put G c σ (cs_A σ 7 (ev_u (σ.2.2 7) i.toInt.toNat x)) h 9 (by decide) _ rfl ?_) k0)
  intro i hi hne
  rcases (show i = 0 ∨ i = 1 ∨ i = 2 ∨ i = 3 ∨ i = 4 ∨ i = 5 ∨ i = 6 ∨ i = 7 ∨ i = 8 ∨ i = 9 ∨ i = 10 ∨ i = 11 ∨ i = 12 ∨ i = 13 ∨ i = 14 by omega) with rfl | rfl | rfl | rfl | rfl | rfl | rfl | rfl | rfl | rfl | rfl | rfl | rfl | rfl | rfl <;> first | rfl | exact absurd rfl hne
theorem ch_l10 {i : Int32} (h0 : 0 ≤ i.toInt) (h1 : i.toInt < 16) (hd : decode M.2.1 pc = .ok (.iaload, 1)) (k0 : ev_V G l M J (pc + 1) L (.int (σ.2.2 8 i.toInt.toNat) :: st) (ch G c σ h) k n) : ev_V G l M J pc L (.int i :: .ref (c + 10) :: st) (ch G c σ h) k n := e_iald (N := 16) (ch_at G c σ h 10 (by decide)) h0 h1 hd k0
theorem ch_s10 {i x : Int32} (h0 : 0 ≤ i.toInt) (h1 : i.toInt < 16) (hd : decode M.2.1 pc = .ok (.iastore, 1)) (k0 : ev_V G l M J (pc + 1) L st (ch G c (cs_A σ 8 (ev_u (σ.2.2 8) i.toInt.toNat x)) h) k n) : ev_V G l M J pc L (.int x :: .int i :: .ref (c + 10) :: st) (ch G c σ h) k n := by
  refine e_iast (N := 16) (ch_at G c σ h 10 (by decide)) h0 h1 hd (ev_as (ch_put G c σ (cs_A σ 8 (ev_u (σ.2.2 8) i.toInt.toNat x)) h 10 (by decide) _ rfl ?_) k0)
  intro i hi hne
  rcases (show i = 0 ∨ i = 1 ∨ i = 2 ∨ i = 3 ∨ i = 4 ∨ i = 5 ∨ i = 6 ∨ i = 7 ∨ i = 8 ∨ i = 9 ∨ i = 10 ∨ i = 11 ∨ i = 12 ∨ i = 13 ∨ i = 14 by omega) with rfl | rfl | rfl | rfl | rfl | rfl | rfl | rfl | rfl | rfl | rfl | rfl | rfl | rfl | rfl <;> first | rfl | exact absurd rfl hne
theorem ch_l11 {i : Int32} (h0 : 0 ≤ i.toInt) (h1 : i.toInt < 16) (hd : decode M.2.1 pc = .ok (.iaload, 1)) (k0 : ev_V G l M J (pc + 1) L (.int (σ.2.2 9 i.toInt.toNat) :: st) (ch G c σ h) k n) : ev_V G l M J pc L (.int i :: .ref (c + 11) :: st) (ch G c σ h) k n := e_iald (N := 16) (ch_at G c σ h 11 (by decide)) h0 h1 hd k0
theorem ch_s11 {i x : Int32} (h0 : 0 ≤ i.toInt) (h1 : i.toInt < 16) (hd : decode M.2.1 pc = .ok (.iastore, 1)) (k0 : ev_V G l M J (pc + 1) L st (ch G c (cs_A σ 9 (ev_u (σ.2.2 9) i.toInt.toNat x)) h) k n) : ev_V G l M J pc L (.int x :: .int i :: .ref (c + 11) :: st) (ch G c σ h) k n := by
  refine e_iast (N := 16) (ch_at G c σ h 11 (by decide)) h0 h1 hd (ev_as (ch_put G c σ (cs_A σ 9 (ev_u (σ.2.2 9) i.toInt.toNat x)) h 11 (by decide) _ rfl ?_) k0)
  intro i hi hne
  rcases (show i = 0 ∨ i = 1 ∨ i = 2 ∨ i = 3 ∨ i = 4 ∨ i = 5 ∨ i = 6 ∨ i = 7 ∨ i = 8 ∨ i = 9 ∨ i = 10 ∨ i = 11 ∨ i = 12 ∨ i = 13 ∨ i = 14 by omega) with rfl | rfl | rfl | rfl | rfl | rfl | rfl | rfl | rfl | rfl | rfl | rfl | rfl | rfl | rfl <;> first | rfl | exact absurd rfl hne
theorem ch_g4_0 (hw : Cond.fieldLink M.1.cls idx "SpringChain$Patterns" "count" "I" ∈ ev_ws) (hd : decode M.2.1 pc = .ok (.getfield idx, 3)) (k0 : ev_V G l M J (pc + 3) L (.int (σ.1 6) :: st) (ch G c σ h) k n) : ev_V G l M J pc L (.ref (c + 12) :: st) (ch G c σ h) k n := e_getf (C := RX4) (T := TX4) (N := 3) (ci := 4) 0 inX4 rfl (ch_at G c σ h 12 (by decide)) (by decide) hw rfl hd k0
theorem ch_p4_0 {v : Int32} (hw : Cond.fieldLink M.1.cls idx "SpringChain$Patterns" "count" "I" ∈ ev_ws) (hd : decode M.2.1 pc = .ok (.putfield idx, 3)) (k0 : ev_V G l M J (pc + 3) L st (ch G c (cs_I σ 6 v) h) k n) : ev_V G l M J pc L (.int v :: .ref (c + 12) :: st) (ch G c σ h) k n := by
  refine e_putf (Cn := RX4) (T := TX4) (N := 3) (ci := 4) 0 tyX4 tyX4_ok nmX4 inX4 rfl (ch_at G c σ h 12 (by decide)) (by decide) hw (Or.inl rfl) (tyX4_ok 0 (by decide)) rfl rfl (Nat.le_of_ble_eq_true rfl) hd (ev_as (ch_put G c σ (cs_I σ 6 v) h 12 (by decide) _ rfl ?_) k0)
  intro i hi hne
  rcases (show i = 0 ∨ i = 1 ∨ i = 2 ∨ i = 3 ∨ i = 4 ∨ i = 5 ∨ i = 6 ∨ i = 7 ∨ i = 8 ∨ i = 9 ∨ i = 10 ∨ i = 11 ∨ i = 12 ∨ i = 13 ∨ i = 14 by omega) with rfl | rfl | rfl | rfl | rfl | rfl | rfl | rfl | rfl | rfl | rfl | rfl | rfl | rfl | rfl <;> first | rfl | exact absurd rfl hne
theorem ch_g4_1 (hw : Cond.fieldLink M.1.cls idx "SpringChain$Patterns" "numbers" "[I" ∈ ev_ws) (hd : decode M.2.1 pc = .ok (.getfield idx, 3)) (k0 : ev_V G l M J (pc + 3) L (.ref (c + 13) :: st) (ch G c σ h) k n) : ev_V G l M J pc L (.ref (c + 12) :: st) (ch G c σ h) k n := e_getf (C := RX4) (T := TX4) (N := 3) (ci := 4) 1 inX4 rfl (ch_at G c σ h 12 (by decide)) (by decide) hw rfl hd k0
theorem ch_g4_2 (hw : Cond.fieldLink M.1.cls idx "SpringChain$Patterns" "times" "[I" ∈ ev_ws) (hd : decode M.2.1 pc = .ok (.getfield idx, 3)) (k0 : ev_V G l M J (pc + 3) L (.ref (c + 14) :: st) (ch G c σ h) k n) : ev_V G l M J pc L (.ref (c + 12) :: st) (ch G c σ h) k n := e_getf (C := RX4) (T := TX4) (N := 3) (ci := 4) 2 inX4 rfl (ch_at G c σ h 12 (by decide)) (by decide) hw rfl hd k0
theorem ch_l13 {i : Int32} (h0 : 0 ≤ i.toInt) (h1 : i.toInt < 32) (hd : decode M.2.1 pc = .ok (.iaload, 1)) (k0 : ev_V G l M J (pc + 1) L (.int (σ.2.2 10 i.toInt.toNat) :: st) (ch G c σ h) k n) : ev_V G l M J pc L (.int i :: .ref (c + 13) :: st) (ch G c σ h) k n := e_iald (N := 32) (ch_at G c σ h 13 (by decide)) h0 h1 hd k0
theorem ch_s13 {i x : Int32} (h0 : 0 ≤ i.toInt) (h1 : i.toInt < 32) (hd : decode M.2.1 pc = .ok (.iastore, 1)) (k0 : ev_V G l M J (pc + 1) L st (ch G c (cs_A σ 10 (ev_u (σ.2.2 10) i.toInt.toNat x)) h) k n) : ev_V G l M J pc L (.int x :: .int i :: .ref (c + 13) :: st) (ch G c σ h) k n := by
  refine e_iast (N := 32) (ch_at G c σ h 13 (by decide)) h0 h1 hd (ev_as (ch_put G c σ (cs_A σ 10 (ev_u (σ.2.2 10) i.toInt.toNat x)) h 13 (by decide) _ rfl ?_) k0)
  intro i hi hne
  rcases (show i = 0 ∨ i = 1 ∨ i = 2 ∨ i = 3 ∨ i = 4 ∨ i = 5 ∨ i = 6 ∨ i = 7 ∨ i = 8 ∨ i = 9 ∨ i = 10 ∨ i = 11 ∨ i = 12 ∨ i = 13 ∨ i = 14 by omega) with rfl | rfl | rfl | rfl | rfl | rfl | rfl | rfl | rfl | rfl | rfl | rfl | rfl | rfl | rfl <;> first | rfl | exact absurd rfl hne
theorem ch_l14 {i : Int32} (h0 : 0 ≤ i.toInt) (h1 : i.toInt < 32) (hd : decode M.2.1 pc = .ok (.iaload, 1)) (k0 : ev_V G l M J (pc + 1) L (.int (σ.2.2 11 i.toInt.toNat) :: st) (ch G c σ h) k n) : ev_V G l M J pc L (.int i :: .ref (c + 14) :: st) (ch G c σ h) k n := e_iald (N := 32) (ch_at G c σ h 14 (by decide)) h0 h1 hd k0
theorem ch_s14 {i x : Int32} (h0 : 0 ≤ i.toInt) (h1 : i.toInt < 32) (hd : decode M.2.1 pc = .ok (.iastore, 1)) (k0 : ev_V G l M J (pc + 1) L st (ch G c (cs_A σ 11 (ev_u (σ.2.2 11) i.toInt.toNat x)) h) k n) : ev_V G l M J pc L (.int x :: .int i :: .ref (c + 14) :: st) (ch G c σ h) k n := by
  refine e_iast (N := 32) (ch_at G c σ h 14 (by decide)) h0 h1 hd (ev_as (ch_put G c σ (cs_A σ 11 (ev_u (σ.2.2 11) i.toInt.toNat x)) h 14 (by decide) _ rfl ?_) k0)
  intro i hi hne
  rcases (show i = 0 ∨ i = 1 ∨ i = 2 ∨ i = 3 ∨ i = 4 ∨ i = 5 ∨ i = 6 ∨ i = 7 ∨ i = 8 ∨ i = 9 ∨ i = 10 ∨ i = 11 ∨ i = 12 ∨ i = 13 ∨ i = 14 by omega) with rfl | rfl | rfl | rfl | rfl | rfl | rfl | rfl | rfl | rfl | rfl | rfl | rfl | rfl | rfl <;> first | rfl | exact absurd rfl hne
end CHR
/-! the methods, each with its words -/
abbrev mX6_init : ev_M := (yX6_init, cX6_init, 1, none)
theorem vX6_init : ev_wI mX6_init 0 := ⟨⟨wI_X6_init, wN_X6, wC_X6_init⟩, ⟨by decide +kernel, by decide +kernel, by decide +kernel⟩, by decide, rfl, rfl⟩
abbrev mX5_init : ev_M := (yX5_init, cX5_init, 1, none)
theorem vX5_init : ev_wI mX5_init 0 := ⟨⟨wI_X5_init, wN_X5, wC_X5_init⟩, ⟨by decide +kernel, by decide +kernel, by decide +kernel⟩, by decide, rfl, rfl⟩
abbrev mX0_init : ev_M := (yX0_init, cX0_init, 1, none)
theorem vX0_init : ev_wI mX0_init 0 := ⟨⟨wI_X0_init, wN_X0, wC_X0_init⟩, ⟨by decide +kernel, by decide +kernel, by decide +kernel⟩, by decide, rfl, rfl⟩
abbrev mX3_init : ev_M := (yX3_init, cX3_init, 1, none)
theorem vX3_init : ev_wI mX3_init 0 := ⟨⟨wI_X3_init, wN_X3, wC_X3_init⟩, ⟨by decide +kernel, by decide +kernel, by decide +kernel⟩, by decide, rfl, rfl⟩
abbrev mX2_init : ev_M := (yX2_init, cX2_init, 1, none)
theorem vX2_init : ev_wI mX2_init 0 := ⟨⟨wI_X2_init, wN_X2, wC_X2_init⟩, ⟨by decide +kernel, by decide +kernel, by decide +kernel⟩, by decide, rfl, rfl⟩
abbrev mX4_init : ev_M := (yX4_init, cX4_init, 1, none)
theorem vX4_init : ev_wI mX4_init 0 := ⟨⟨wI_X4_init, wN_X4, wC_X4_init⟩, ⟨by decide +kernel, by decide +kernel, by decide +kernel⟩, by decide, rfl, rfl⟩
abbrev mX0_begin : ev_M := (yX0_begin, cX0_begin, 3, none)
theorem vX0_begin : ev_wV mX0_begin 1 := ⟨⟨wI_X0_begin, wS_X0_begin, wN_X0, wC_X0_begin⟩, ⟨by decide +kernel, by decide +kernel, by decide +kernel⟩, by decide⟩
abbrev mX3_clear : ev_M := (yX3_clear, cX3_clear, 1, none)
theorem vX3_clear : ev_wV mX3_clear 0 := ⟨⟨wI_X3_clear, wS_X3_clear, wN_X3, wC_X3_clear⟩, ⟨by decide +kernel, by decide +kernel, by decide +kernel⟩, by decide⟩
abbrev mX1_init : ev_M := (yX1_init, cX1_init, 2, none)
theorem vX1_init : ev_wI mX1_init 0 := ⟨⟨wI_X1_init, wN_X1, wC_X1_init⟩, ⟨by decide +kernel, by decide +kernel, by decide +kernel⟩, by decide, rfl, rfl⟩
abbrev mX6_errorOffset : ev_M := (yX6_errorOffset, cX6_errorOffset, 1, (some .int))
theorem vX6_errorOffset : ev_wV mX6_errorOffset 0 := ⟨⟨wI_X6_errorOffset, wS_X6_errorOffset, wN_X6, wC_X6_errorOffset⟩, ⟨by decide +kernel, by decide +kernel, by decide +kernel⟩, by decide⟩
abbrev mX6_undo : ev_M := (yX6_undo, cX6_undo, 1, (some .int))
theorem vX6_undo : ev_wV mX6_undo 0 := ⟨⟨wI_X6_undo, wS_X6_undo, wN_X6, wC_X6_undo⟩, ⟨by decide +kernel, by decide +kernel, by decide +kernel⟩, by decide⟩
abbrev mX1_takeBack : ev_M := (yX1_takeBack, cX1_takeBack, 4, none)
theorem vX1_takeBack : ev_wV mX1_takeBack 1 := ⟨⟨wI_X1_takeBack, wS_X1_takeBack, wN_X1, wC_X1_takeBack⟩, ⟨by decide +kernel, by decide +kernel, by decide +kernel⟩, by decide⟩
abbrev mX1_placeAt : ev_M := (yX1_placeAt, cX1_placeAt, 2, (some (.object "SpringChain$Chain")))
theorem vX1_placeAt : ev_wV mX1_placeAt 1 := ⟨⟨wI_X1_placeAt, wS_X1_placeAt, wN_X1, wC_X1_placeAt⟩, ⟨by decide +kernel, by decide +kernel, by decide +kernel⟩, by decide⟩
abbrev mX0_become : ev_M := (yX0_become, cX0_become, 3, none)
theorem vX0_become : ev_wV mX0_become 1 := ⟨⟨wI_X0_become, wS_X0_become, wN_X0, wC_X0_become⟩, ⟨by decide +kernel, by decide +kernel, by decide +kernel⟩, by decide⟩
abbrev mX3_become : ev_M := (yX3_become, cX3_become, 2, none)
theorem vX3_become : ev_wV mX3_become 1 := ⟨⟨wI_X3_become, wS_X3_become, wN_X3, wC_X3_become⟩, ⟨by decide +kernel, by decide +kernel, by decide +kernel⟩, by decide⟩
abbrev mX2_become : ev_M := (yX2_become, cX2_become, 3, none)
theorem vX2_become : ev_wV mX2_become 1 := ⟨⟨wI_X2_become, wS_X2_become, wN_X2, wC_X2_become⟩, ⟨by decide +kernel, by decide +kernel, by decide +kernel⟩, by decide⟩
abbrev mX2_put : ev_M := (yX2_put, cX2_put, 5, none)
theorem vX2_put : ev_wV mX2_put 4 := ⟨⟨wI_X2_put, wS_X2_put, wN_X2, wC_X2_put⟩, ⟨by decide +kernel, by decide +kernel, by decide +kernel⟩, by decide⟩
abbrev mX4_become : ev_M := (yX4_become, cX4_become, 3, none)
theorem vX4_become : ev_wV mX4_become 1 := ⟨⟨wI_X4_become, wS_X4_become, wN_X4, wC_X4_become⟩, ⟨by decide +kernel, by decide +kernel, by decide +kernel⟩, by decide⟩
abbrev mX7_of : ev_M := (yX7_of, cX7_of, 3, (some (.object "SpringChainLaw$Chain")))
theorem vX7_of : ev_wS mX7_of 1 := ⟨⟨wT_X7_of, wN_X7, wC_X7_of⟩, ⟨by decide +kernel, by decide +kernel, by decide +kernel⟩, by decide⟩
abbrev mX7_init : ev_M := (yX7_init, cX7_init, 1, none)
theorem vX7_init : ev_wI mX7_init 0 := ⟨⟨wI_X7_init, wN_X7, wC_X7_init⟩, ⟨by decide +kernel, by decide +kernel, by decide +kernel⟩, by decide, rfl, rfl⟩
abbrev mX8_init : ev_M := (yX8_init, cX8_init, 1, none)
theorem vX8_init : ev_wI mX8_init 0 := ⟨⟨wI_X8_init, wN_X8, wC_X8_init⟩, ⟨by decide +kernel, by decide +kernel, by decide +kernel⟩, by decide, rfl, rfl⟩
abbrev mX10_init : ev_M := (yX10_init, cX10_init, 1, none)
theorem vX10_init : ev_wI mX10_init 0 := ⟨⟨wI_X10_init, wN_X10, wC_X10_init⟩, ⟨by decide +kernel, by decide +kernel, by decide +kernel⟩, by decide, rfl, rfl⟩
abbrev mX7_copy : ev_M := (yX7_copy, cX7_copy, 3, (some (.object "SpringChainLaw$Chain")))
theorem vX7_copy : ev_wV mX7_copy 0 := ⟨⟨wI_X7_copy, wS_X7_copy, wN_X7, wC_X7_copy⟩, ⟨by decide +kernel, by decide +kernel, by decide +kernel⟩, by decide⟩
abbrev mX8_copy : ev_M := (yX8_copy, cX8_copy, 2, (some (.object "SpringChainLaw$Mass")))
theorem vX8_copy : ev_wV mX8_copy 0 := ⟨⟨wI_X8_copy, wS_X8_copy, wN_X8, wC_X8_copy⟩, ⟨by decide +kernel, by decide +kernel, by decide +kernel⟩, by decide⟩
abbrev mX10_copy : ev_M := (yX10_copy, cX10_copy, 2, (some (.object "SpringChainLaw$Spring")))
theorem vX10_copy : ev_wV mX10_copy 0 := ⟨⟨wI_X10_copy, wS_X10_copy, wN_X10, wC_X10_copy⟩, ⟨by decide +kernel, by decide +kernel, by decide +kernel⟩, by decide⟩
abbrev mX7_ticks : ev_M := (yX7_ticks, cX7_ticks, 12, (some .int))
theorem vX7_ticks : ev_wV mX7_ticks 0 := ⟨⟨wI_X7_ticks, wS_X7_ticks, wN_X7, wC_X7_ticks⟩, ⟨by decide +kernel, by decide +kernel, by decide +kernel⟩, by decide⟩
abbrev mX7_pull : ev_M := (yX7_pull, cX7_pull, 2, (some .long))
theorem vX7_pull : ev_wV mX7_pull 1 := ⟨⟨wI_X7_pull, wS_X7_pull, wN_X7, wC_X7_pull⟩, ⟨by decide +kernel, by decide +kernel, by decide +kernel⟩, by decide⟩
abbrev mX7_stretch : ev_M := (yX7_stretch, cX7_stretch, 6, (some .long))
theorem vX7_stretch : ev_wV mX7_stretch 1 := ⟨⟨wI_X7_stretch, wS_X7_stretch, wN_X7, wC_X7_stretch⟩, ⟨by decide +kernel, by decide +kernel, by decide +kernel⟩, by decide⟩
abbrev mL_with : ev_M := (yL_with, cL_with, 4, (Option.some (Jvm.ClassFile.FieldType.array (Jvm.ClassFile.FieldType.array Jvm.ClassFile.FieldType.int))))
theorem vL_with : ev_wS mL_with 2 := ⟨⟨wT_L_with, wN_L, wC_L_with⟩, ⟨by decide +kernel, by decide +kernel, by decide +kernel⟩, by decide⟩
abbrev mL_limited : ev_M := (yL_limited, cL_limited, 4, (some .long))
theorem vL_limited : ev_wS mL_limited 2 := ⟨⟨wT_L_limited, wN_L, wC_L_limited⟩, ⟨by decide +kernel, by decide +kernel, by decide +kernel⟩, by decide⟩
abbrev mX7_pattern : ev_M := (yX7_pattern, cX7_pattern, 7, (some .int))
theorem vX7_pattern : ev_wV mX7_pattern 0 := ⟨⟨wI_X7_pattern, wS_X7_pattern, wN_X7, wC_X7_pattern⟩, ⟨by decide +kernel, by decide +kernel, by decide +kernel⟩, by decide⟩
abbrev mX7_broken : ev_M := (yX7_broken, cX7_broken, 6, (some .int))
theorem vX7_broken : ev_wV mX7_broken 0 := ⟨⟨wI_X7_broken, wS_X7_broken, wN_X7, wC_X7_broken⟩, ⟨by decide +kernel, by decide +kernel, by decide +kernel⟩, by decide⟩
abbrev mX9_init : ev_M := (yX9_init, cX9_init, 2, none)
theorem vX9_init : ev_wI mX9_init 1 := ⟨⟨wI_X9_init, wN_X9, wC_X9_init⟩, ⟨by decide +kernel, by decide +kernel, by decide +kernel⟩, by decide, rfl, rfl⟩
abbrev mX9_below : ev_M := (yX9_below, cX9_below, 2, (some .int))
theorem vX9_below : ev_wV mX9_below 1 := ⟨⟨wI_X9_below, wS_X9_below, wN_X9, wC_X9_below⟩, ⟨by decide +kernel, by decide +kernel, by decide +kernel⟩, by decide⟩
abbrev mL_load : ev_M := (yL_load, cL_load, 3, (some .int))
abbrev mX6_load : ev_M := (yX6_load, cX6_load, 3, (some .int))
theorem vX6_load : ev_wV mX6_load 1 := ⟨⟨wI_X6_load, wS_X6_load, wN_X6, wC_X6_load⟩, ⟨by decide +kernel, by decide +kernel, by decide +kernel⟩, by decide⟩
abbrev mX6_requireWithin : ev_M := (yX6_requireWithin, cX6_requireWithin, 3, none)
theorem vX6_requireWithin : ev_wS mX6_requireWithin 3 := ⟨⟨wT_X6_requireWithin, wN_X6, wC_X6_requireWithin⟩, ⟨by decide +kernel, by decide +kernel, by decide +kernel⟩, by decide⟩
abbrev mX5_readSetup : ev_M := (yX5_readSetup, cX5_readSetup, 5, (some .boolean))
theorem vX5_readSetup : ev_wV mX5_readSetup 3 := ⟨⟨wI_X5_readSetup, wS_X5_readSetup, wN_X5, wC_X5_readSetup⟩, ⟨by decide +kernel, by decide +kernel, by decide +kernel⟩, by decide⟩
abbrev mX5_readHead : ev_M := (yX5_readHead, cX5_readHead, 1, (some .boolean))
theorem vX5_readHead : ev_wV mX5_readHead 0 := ⟨⟨wI_X5_readHead, wS_X5_readHead, wN_X5, wC_X5_readHead⟩, ⟨by decide +kernel, by decide +kernel, by decide +kernel⟩, by decide⟩
abbrev mX5_takeWord : ev_M := (yX5_takeWord, cX5_takeWord, 3, (some .boolean))
theorem vX5_takeWord : ev_wV mX5_takeWord 1 := ⟨⟨wI_X5_takeWord, wS_X5_takeWord, wN_X5, wC_X5_takeWord⟩, ⟨by decide +kernel, by decide +kernel, by decide +kernel⟩, by decide⟩
abbrev mX5_skipSpaces : ev_M := (yX5_skipSpaces, cX5_skipSpaces, 1, none)
theorem vX5_skipSpaces : ev_wV mX5_skipSpaces 0 := ⟨⟨wI_X5_skipSpaces, wS_X5_skipSpaces, wN_X5, wC_X5_skipSpaces⟩, ⟨by decide +kernel, by decide +kernel, by decide +kernel⟩, by decide⟩
abbrev mX5_byteAt : ev_M := (yX5_byteAt, cX5_byteAt, 2, (some .int))
theorem vX5_byteAt : ev_wV mX5_byteAt 1 := ⟨⟨wI_X5_byteAt, wS_X5_byteAt, wN_X5, wC_X5_byteAt⟩, ⟨by decide +kernel, by decide +kernel, by decide +kernel⟩, by decide⟩
abbrev mJ0_length_8abf5 : ev_M := (yJ0_length_8abf5, cJ0_length_8abf5, 1, (some .int))
theorem vJ0_length_8abf5 : ev_wV mJ0_length_8abf5 0 := ⟨⟨wI_J0_length_8abf5, wS_J0_length_8abf5, wN_J0, wC_J0_length_8abf5⟩, ⟨by decide +kernel, by decide +kernel, by decide +kernel⟩, by decide⟩
abbrev mJ0_coder_7d493 : ev_M := (yJ0_coder_7d493, cJ0_coder_7d493, 1, (some .byte))
theorem vJ0_coder_7d493 : ev_wV mJ0_coder_7d493 0 := ⟨⟨wI_J0_coder_7d493, wS_J0_coder_7d493, wN_J0, wC_J0_coder_7d493⟩, ⟨by decide +kernel, by decide +kernel, by decide +kernel⟩, by decide⟩
abbrev mJ0_charAt_5068e : ev_M := (yJ0_charAt_5068e, cJ0_charAt_5068e, 2, (some .char))
theorem vJ0_charAt_5068e : ev_wV mJ0_charAt_5068e 1 := ⟨⟨wI_J0_charAt_5068e, wS_J0_charAt_5068e, wN_J0, wC_J0_charAt_5068e⟩, ⟨by decide +kernel, by decide +kernel, by decide +kernel⟩, by decide⟩
abbrev mJ0_isLatin1_aae02 : ev_M := (yJ0_isLatin1_aae02, cJ0_isLatin1_aae02, 1, (some .boolean))
theorem vJ0_isLatin1_aae02 : ev_wV mJ0_isLatin1_aae02 0 := ⟨⟨wI_J0_isLatin1_aae02, wS_J0_isLatin1_aae02, wN_J0, wC_J0_isLatin1_aae02⟩, ⟨by decide +kernel, by decide +kernel, by decide +kernel⟩, by decide⟩
abbrev mJ1_charAt_3b067 : ev_M := (yJ1_charAt_3b067, cJ1_charAt_3b067, 2, (some .char))
theorem vJ1_charAt_3b067 : ev_wS mJ1_charAt_3b067 2 := ⟨⟨wT_J1_charAt_3b067, wN_J1, wC_J1_charAt_3b067⟩, ⟨by decide +kernel, by decide +kernel, by decide +kernel⟩, by decide⟩
abbrev mJ0_checkIndex_df160 : ev_M := (yJ0_checkIndex_df160, cJ0_checkIndex_df160, 2, none)
theorem vJ0_checkIndex_df160 : ev_wS mJ0_checkIndex_df160 2 := ⟨⟨wT_J0_checkIndex_df160, wN_J0, wC_J0_checkIndex_df160⟩, ⟨by decide +kernel, by decide +kernel, by decide +kernel⟩, by decide⟩
abbrev mJ3_checkIndex_8e157 : ev_M := (yJ3_checkIndex_8e157, cJ3_checkIndex_8e157, 3, (some .int))
theorem vJ3_checkIndex_8e157 : ev_wS mJ3_checkIndex_8e157 3 := ⟨⟨wT_J3_checkIndex_8e157, wN_J3, wC_J3_checkIndex_8e157⟩, ⟨by decide +kernel, by decide +kernel, by decide +kernel⟩, by decide⟩
abbrev mJ2_charAt_3b067 : ev_M := (yJ2_charAt_3b067, cJ2_charAt_3b067, 2, (some .char))
theorem vJ2_charAt_3b067 : ev_wS mJ2_charAt_3b067 2 := ⟨⟨wT_J2_charAt_3b067, wN_J2, wC_J2_charAt_3b067⟩, ⟨by decide +kernel, by decide +kernel, by decide +kernel⟩, by decide⟩
abbrev mJ2_checkIndex_2214a : ev_M := (yJ2_checkIndex_2214a, cJ2_checkIndex_2214a, 2, none)
theorem vJ2_checkIndex_2214a : ev_wS mJ2_checkIndex_2214a 2 := ⟨⟨wT_J2_checkIndex_2214a, wN_J2, wC_J2_checkIndex_2214a⟩, ⟨by decide +kernel, by decide +kernel, by decide +kernel⟩, by decide⟩
abbrev mJ2_length_9d52b : ev_M := (yJ2_length_9d52b, cJ2_length_9d52b, 1, (some .int))
theorem vJ2_length_9d52b : ev_wS mJ2_length_9d52b 1 := ⟨⟨wT_J2_length_9d52b, wN_J2, wC_J2_length_9d52b⟩, ⟨by decide +kernel, by decide +kernel, by decide +kernel⟩, by decide⟩
abbrev mJ2_getChar_3b067 : ev_M := (yJ2_getChar_3b067, cJ2_getChar_3b067, 2, (some .char))
theorem vJ2_getChar_3b067 : ev_wS mJ2_getChar_3b067 2 := ⟨⟨wT_J2_getChar_3b067, wN_J2, wC_J2_getChar_3b067⟩, ⟨by decide +kernel, by decide +kernel, by decide +kernel⟩, by decide⟩
abbrev mX5_isLetter : ev_M := (yX5_isLetter, cX5_isLetter, 1, (some .boolean))
theorem vX5_isLetter : ev_wS mX5_isLetter 1 := ⟨⟨wT_X5_isLetter, wN_X5, wC_X5_isLetter⟩, ⟨by decide +kernel, by decide +kernel, by decide +kernel⟩, by decide⟩
abbrev mX5_fail : ev_M := (yX5_fail, cX5_fail, 3, (some .boolean))
theorem vX5_fail : ev_wV mX5_fail 2 := ⟨⟨wI_X5_fail, wS_X5_fail, wN_X5, wC_X5_fail⟩, ⟨by decide +kernel, by decide +kernel, by decide +kernel⟩, by decide⟩
abbrev mX5_readNumber : ev_M := (yX5_readNumber, cX5_readNumber, 4, (some .boolean))
theorem vX5_readNumber : ev_wV mX5_readNumber 2 := ⟨⟨wI_X5_readNumber, wS_X5_readNumber, wN_X5, wC_X5_readNumber⟩, ⟨by decide +kernel, by decide +kernel, by decide +kernel⟩, by decide⟩
abbrev mX5_readDigits : ev_M := (yX5_readDigits, cX5_readDigits, 2, (some .boolean))
theorem vX5_readDigits : ev_wV mX5_readDigits 0 := ⟨⟨wI_X5_readDigits, wS_X5_readDigits, wN_X5, wC_X5_readDigits⟩, ⟨by decide +kernel, by decide +kernel, by decide +kernel⟩, by decide⟩
abbrev mX5_isDigit : ev_M := (yX5_isDigit, cX5_isDigit, 1, (some .boolean))
theorem vX5_isDigit : ev_wS mX5_isDigit 1 := ⟨⟨wT_X5_isDigit, wN_X5, wC_X5_isDigit⟩, ⟨by decide +kernel, by decide +kernel, by decide +kernel⟩, by decide⟩
abbrev mX5_checkRange : ev_M := (yX5_checkRange, cX5_checkRange, 4, (some .boolean))
theorem vX5_checkRange : ev_wV mX5_checkRange 3 := ⟨⟨wI_X5_checkRange, wS_X5_checkRange, wN_X5, wC_X5_checkRange⟩, ⟨by decide +kernel, by decide +kernel, by decide +kernel⟩, by decide⟩
abbrev mX5_readSign : ev_M := (yX5_readSign, cX5_readSign, 2, (some .boolean))
theorem vX5_readSign : ev_wV mX5_readSign 1 := ⟨⟨wI_X5_readSign, wS_X5_readSign, wN_X5, wC_X5_readSign⟩, ⟨by decide +kernel, by decide +kernel, by decide +kernel⟩, by decide⟩
abbrev mX5_isAtEnd : ev_M := (yX5_isAtEnd, cX5_isAtEnd, 1, (some .boolean))
theorem vX5_isAtEnd : ev_wV mX5_isAtEnd 0 := ⟨⟨wI_X5_isAtEnd, wS_X5_isAtEnd, wN_X5, wC_X5_isAtEnd⟩, ⟨by decide +kernel, by decide +kernel, by decide +kernel⟩, by decide⟩
abbrev mX5_readStatement : ev_M := (yX5_readStatement, cX5_readStatement, 2, (some .boolean))
theorem vX5_readStatement : ev_wV mX5_readStatement 0 := ⟨⟨wI_X5_readStatement, wS_X5_readStatement, wN_X5, wC_X5_readStatement⟩, ⟨by decide +kernel, by decide +kernel, by decide +kernel⟩, by decide⟩
abbrev mX5_readWeight : ev_M := (yX5_readWeight, cX5_readWeight, 2, (some .boolean))
theorem vX5_readWeight : ev_wV mX5_readWeight 0 := ⟨⟨wI_X5_readWeight, wS_X5_readWeight, wN_X5, wC_X5_readWeight⟩, ⟨by decide +kernel, by decide +kernel, by decide +kernel⟩, by decide⟩
abbrev mX0_setWeight : ev_M := (yX0_setWeight, cX0_setWeight, 3, none)
theorem vX0_setWeight : ev_wV mX0_setWeight 2 := ⟨⟨wI_X0_setWeight, wS_X0_setWeight, wN_X0, wC_X0_setWeight⟩, ⟨by decide +kernel, by decide +kernel, by decide +kernel⟩, by decide⟩
abbrev mX0_hasMass : ev_M := (yX0_hasMass, cX0_hasMass, 2, (some .boolean))
theorem vX0_hasMass : ev_wV mX0_hasMass 1 := ⟨⟨wI_X0_hasMass, wS_X0_hasMass, wN_X0, wC_X0_hasMass⟩, ⟨by decide +kernel, by decide +kernel, by decide +kernel⟩, by decide⟩
abbrev mX5_readAllWeights : ev_M := (yX5_readAllWeights, cX5_readAllWeights, 1, (some .boolean))
theorem vX5_readAllWeights : ev_wV mX5_readAllWeights 0 := ⟨⟨wI_X5_readAllWeights, wS_X5_readAllWeights, wN_X5, wC_X5_readAllWeights⟩, ⟨by decide +kernel, by decide +kernel, by decide +kernel⟩, by decide⟩
abbrev mX0_setAllWeights : ev_M := (yX0_setAllWeights, cX0_setAllWeights, 3, none)
theorem vX0_setAllWeights : ev_wV mX0_setAllWeights 1 := ⟨⟨wI_X0_setAllWeights, wS_X0_setAllWeights, wN_X0, wC_X0_setAllWeights⟩, ⟨by decide +kernel, by decide +kernel, by decide +kernel⟩, by decide⟩
abbrev mX5_readSpring : ev_M := (yX5_readSpring, cX5_readSpring, 2, (some .boolean))
theorem vX5_readSpring : ev_wV mX5_readSpring 0 := ⟨⟨wI_X5_readSpring, wS_X5_readSpring, wN_X5, wC_X5_readSpring⟩, ⟨by decide +kernel, by decide +kernel, by decide +kernel⟩, by decide⟩
abbrev mX0_setStiffness : ev_M := (yX0_setStiffness, cX0_setStiffness, 3, none)
theorem vX0_setStiffness : ev_wV mX0_setStiffness 2 := ⟨⟨wI_X0_setStiffness, wS_X0_setStiffness, wN_X0, wC_X0_setStiffness⟩, ⟨by decide +kernel, by decide +kernel, by decide +kernel⟩, by decide⟩
abbrev mX0_hasSpring : ev_M := (yX0_hasSpring, cX0_hasSpring, 2, (some .boolean))
theorem vX0_hasSpring : ev_wV mX0_hasSpring 1 := ⟨⟨wI_X0_hasSpring, wS_X0_hasSpring, wN_X0, wC_X0_hasSpring⟩, ⟨by decide +kernel, by decide +kernel, by decide +kernel⟩, by decide⟩
abbrev mX0_setLimit : ev_M := (yX0_setLimit, cX0_setLimit, 3, none)
theorem vX0_setLimit : ev_wV mX0_setLimit 2 := ⟨⟨wI_X0_setLimit, wS_X0_setLimit, wN_X0, wC_X0_setLimit⟩, ⟨by decide +kernel, by decide +kernel, by decide +kernel⟩, by decide⟩
abbrev mX5_readAllStiffnesses : ev_M := (yX5_readAllStiffnesses, cX5_readAllStiffnesses, 1, (some .boolean))
theorem vX5_readAllStiffnesses : ev_wV mX5_readAllStiffnesses 0 := ⟨⟨wI_X5_readAllStiffnesses, wS_X5_readAllStiffnesses, wN_X5, wC_X5_readAllStiffnesses⟩, ⟨by decide +kernel, by decide +kernel, by decide +kernel⟩, by decide⟩
abbrev mX0_setAllStiffnesses : ev_M := (yX0_setAllStiffnesses, cX0_setAllStiffnesses, 3, none)
theorem vX0_setAllStiffnesses : ev_wV mX0_setAllStiffnesses 1 := ⟨⟨wI_X0_setAllStiffnesses, wS_X0_setAllStiffnesses, wN_X0, wC_X0_setAllStiffnesses⟩, ⟨by decide +kernel, by decide +kernel, by decide +kernel⟩, by decide⟩
abbrev mX5_readDamping : ev_M := (yX5_readDamping, cX5_readDamping, 2, (some .boolean))
theorem vX5_readDamping : ev_wV mX5_readDamping 1 := ⟨⟨wI_X5_readDamping, wS_X5_readDamping, wN_X5, wC_X5_readDamping⟩, ⟨by decide +kernel, by decide +kernel, by decide +kernel⟩, by decide⟩
abbrev mX5_readPluck : ev_M := (yX5_readPluck, cX5_readPluck, 3, (some .boolean))
theorem vX5_readPluck : ev_wV mX5_readPluck 0 := ⟨⟨wI_X5_readPluck, wS_X5_readPluck, wN_X5, wC_X5_readPluck⟩, ⟨by decide +kernel, by decide +kernel, by decide +kernel⟩, by decide⟩
abbrev mX5_isFirst : ev_M := (yX5_isFirst, cX5_isFirst, 3, (some .boolean))
theorem vX5_isFirst : ev_wV mX5_isFirst 2 := ⟨⟨wI_X5_isFirst, wS_X5_isFirst, wN_X5, wC_X5_isFirst⟩, ⟨by decide +kernel, by decide +kernel, by decide +kernel⟩, by decide⟩
abbrev mX5_readSigned : ev_M := (yX5_readSigned, cX5_readSigned, 4, (some .boolean))
theorem vX5_readSigned : ev_wV mX5_readSigned 1 := ⟨⟨wI_X5_readSigned, wS_X5_readSigned, wN_X5, wC_X5_readSigned⟩, ⟨by decide +kernel, by decide +kernel, by decide +kernel⟩, by decide⟩
abbrev mX0_displace : ev_M := (yX0_displace, cX0_displace, 3, none)
theorem vX0_displace : ev_wV mX0_displace 2 := ⟨⟨wI_X0_displace, wS_X0_displace, wN_X0, wC_X0_displace⟩, ⟨by decide +kernel, by decide +kernel, by decide +kernel⟩, by decide⟩
abbrev mX5_readStrike : ev_M := (yX5_readStrike, cX5_readStrike, 3, (some .boolean))
theorem vX5_readStrike : ev_wV mX5_readStrike 0 := ⟨⟨wI_X5_readStrike, wS_X5_readStrike, wN_X5, wC_X5_readStrike⟩, ⟨by decide +kernel, by decide +kernel, by decide +kernel⟩, by decide⟩
abbrev mX0_hit : ev_M := (yX0_hit, cX0_hit, 4, none)
theorem vX0_hit : ev_wV mX0_hit 2 := ⟨⟨wI_X0_hit, wS_X0_hit, wN_X0, wC_X0_hit⟩, ⟨by decide +kernel, by decide +kernel, by decide +kernel⟩, by decide⟩
abbrev mX0_momentumOf : ev_M := (yX0_momentumOf, cX0_momentumOf, 2, (some .int))
theorem vX0_momentumOf : ev_wV mX0_momentumOf 1 := ⟨⟨wI_X0_momentumOf, wS_X0_momentumOf, wN_X0, wC_X0_momentumOf⟩, ⟨by decide +kernel, by decide +kernel, by decide +kernel⟩, by decide⟩
abbrev mX6_limited : ev_M := (yX6_limited, cX6_limited, 3, (some .int))
theorem vX6_limited : ev_wS mX6_limited 2 := ⟨⟨wT_X6_limited, wN_X6, wC_X6_limited⟩, ⟨by decide +kernel, by decide +kernel, by decide +kernel⟩, by decide⟩
abbrev mX0_putMomentum : ev_M := (yX0_putMomentum, cX0_putMomentum, 3, none)
theorem vX0_putMomentum : ev_wV mX0_putMomentum 2 := ⟨⟨wI_X0_putMomentum, wS_X0_putMomentum, wN_X0, wC_X0_putMomentum⟩, ⟨by decide +kernel, by decide +kernel, by decide +kernel⟩, by decide⟩
abbrev mX5_readEnd : ev_M := (yX5_readEnd, cX5_readEnd, 2, (some .boolean))
theorem vX5_readEnd : ev_wV mX5_readEnd 0 := ⟨⟨wI_X5_readEnd, wS_X5_readEnd, wN_X5, wC_X5_readEnd⟩, ⟨by decide +kernel, by decide +kernel, by decide +kernel⟩, by decide⟩
abbrev mX0_setEnd : ev_M := (yX0_setEnd, cX0_setEnd, 3, none)
theorem vX0_setEnd : ev_wV mX0_setEnd 2 := ⟨⟨wI_X0_setEnd, wS_X0_setEnd, wN_X0, wC_X0_setEnd⟩, ⟨by decide +kernel, by decide +kernel, by decide +kernel⟩, by decide⟩
abbrev mX5_readImpulse : ev_M := (yX5_readImpulse, cX5_readImpulse, 5, (some .boolean))
theorem vX5_readImpulse : ev_wV mX5_readImpulse 1 := ⟨⟨wI_X5_readImpulse, wS_X5_readImpulse, wN_X5, wC_X5_readImpulse⟩, ⟨by decide +kernel, by decide +kernel, by decide +kernel⟩, by decide⟩
abbrev mX2_insert : ev_M := (yX2_insert, cX2_insert, 5, none)
theorem vX2_insert : ev_wV mX2_insert 3 := ⟨⟨wI_X2_insert, wS_X2_insert, wN_X2, wC_X2_insert⟩, ⟨by decide +kernel, by decide +kernel, by decide +kernel⟩, by decide⟩
abbrev mX2_isLater : ev_M := (yX2_isLater, cX2_isLater, 4, (some .boolean))
theorem vX2_isLater : ev_wV mX2_isLater 3 := ⟨⟨wI_X2_isLater, wS_X2_isLater, wN_X2, wC_X2_isLater⟩, ⟨by decide +kernel, by decide +kernel, by decide +kernel⟩, by decide⟩
abbrev mX2_tickOf : ev_M := (yX2_tickOf, cX2_tickOf, 2, (some .int))
theorem vX2_tickOf : ev_wV mX2_tickOf 1 := ⟨⟨wI_X2_tickOf, wS_X2_tickOf, wN_X2, wC_X2_tickOf⟩, ⟨by decide +kernel, by decide +kernel, by decide +kernel⟩, by decide⟩
abbrev mX2_massOf : ev_M := (yX2_massOf, cX2_massOf, 2, (some .int))
theorem vX2_massOf : ev_wV mX2_massOf 1 := ⟨⟨wI_X2_massOf, wS_X2_massOf, wN_X2, wC_X2_massOf⟩, ⟨by decide +kernel, by decide +kernel, by decide +kernel⟩, by decide⟩
abbrev mX2_strengthOf : ev_M := (yX2_strengthOf, cX2_strengthOf, 2, (some .int))
theorem vX2_strengthOf : ev_wV mX2_strengthOf 1 := ⟨⟨wI_X2_strengthOf, wS_X2_strengthOf, wN_X2, wC_X2_strengthOf⟩, ⟨by decide +kernel, by decide +kernel, by decide +kernel⟩, by decide⟩
abbrev mX1_keep : ev_M := (yX1_keep, cX1_keep, 3, none)
theorem vX1_keep : ev_wV mX1_keep 1 := ⟨⟨wI_X1_keep, wS_X1_keep, wN_X1, wC_X1_keep⟩, ⟨by decide +kernel, by decide +kernel, by decide +kernel⟩, by decide⟩
abbrev mL_noted : ev_M := (yL_noted, cL_noted, 4, (some .int))
abbrev mX6_noted : ev_M := (yX6_noted, cX6_noted, 3, (some .int))
theorem vX6_noted : ev_wV mX6_noted 2 := ⟨⟨wI_X6_noted, wS_X6_noted, wN_X6, wC_X6_noted⟩, ⟨by decide +kernel, by decide +kernel, by decide +kernel⟩, by decide⟩
abbrev mX6_requireElement : ev_M := (yX6_requireElement, cX6_requireElement, 2, none)
theorem vX6_requireElement : ev_wS mX6_requireElement 2 := ⟨⟨wT_X6_requireElement, wN_X6, wC_X6_requireElement⟩, ⟨by decide +kernel, by decide +kernel, by decide +kernel⟩, by decide⟩
abbrev mX4_tell : ev_M := (yX4_tell, cX4_tell, 3, (some .int))
theorem vX4_tell : ev_wV mX4_tell 2 := ⟨⟨wI_X4_tell, wS_X4_tell, wN_X4, wC_X4_tell⟩, ⟨by decide +kernel, by decide +kernel, by decide +kernel⟩, by decide⟩
abbrev mL_waiting : ev_M := (yL_waiting, cL_waiting, 4, (some .int))
abbrev mX6_waiting : ev_M := (yX6_waiting, cX6_waiting, 3, (some .int))
theorem vX6_waiting : ev_wV mX6_waiting 2 := ⟨⟨wI_X6_waiting, wS_X6_waiting, wN_X6, wC_X6_waiting⟩, ⟨by decide +kernel, by decide +kernel, by decide +kernel⟩, by decide⟩
abbrev mX2_tell : ev_M := (yX2_tell, cX2_tell, 3, (some .int))
theorem vX2_tell : ev_wV mX2_tell 2 := ⟨⟨wI_X2_tell, wS_X2_tell, wN_X2, wC_X2_tell⟩, ⟨by decide +kernel, by decide +kernel, by decide +kernel⟩, by decide⟩
abbrev mL_foretold : ev_M := (yL_foretold, cL_foretold, 5, (some .int))
abbrev mX6_foretold : ev_M := (yX6_foretold, cX6_foretold, 6, (some .int))
theorem vX6_foretold : ev_wV mX6_foretold 3 := ⟨⟨wI_X6_foretold, wS_X6_foretold, wN_X6, wC_X6_foretold⟩, ⟨by decide +kernel, by decide +kernel, by decide +kernel⟩, by decide⟩
abbrev mX6_requireMass : ev_M := (yX6_requireMass, cX6_requireMass, 2, none)
theorem vX6_requireMass : ev_wV mX6_requireMass 1 := ⟨⟨wI_X6_requireMass, wS_X6_requireMass, wN_X6, wC_X6_requireMass⟩, ⟨by decide +kernel, by decide +kernel, by decide +kernel⟩, by decide⟩
abbrev mX0_tick : ev_M := (yX0_tick, cX0_tick, 2, (some .int))
theorem vX0_tick : ev_wV mX0_tick 0 := ⟨⟨wI_X0_tick, wS_X0_tick, wN_X0, wC_X0_tick⟩, ⟨by decide +kernel, by decide +kernel, by decide +kernel⟩, by decide⟩
abbrev mX0_takePulls : ev_M := (yX0_takePulls, cX0_takePulls, 2, none)
theorem vX0_takePulls : ev_wV mX0_takePulls 0 := ⟨⟨wI_X0_takePulls, wS_X0_takePulls, wN_X0, wC_X0_takePulls⟩, ⟨by decide +kernel, by decide +kernel, by decide +kernel⟩, by decide⟩
abbrev mX0_pullOf : ev_M := (yX0_pullOf, cX0_pullOf, 2, (some .int))
theorem vX0_pullOf : ev_wV mX0_pullOf 1 := ⟨⟨wI_X0_pullOf, wS_X0_pullOf, wN_X0, wC_X0_pullOf⟩, ⟨by decide +kernel, by decide +kernel, by decide +kernel⟩, by decide⟩
abbrev mX0_isBroken : ev_M := (yX0_isBroken, cX0_isBroken, 2, (some .boolean))
theorem vX0_isBroken : ev_wV mX0_isBroken 1 := ⟨⟨wI_X0_isBroken, wS_X0_isBroken, wN_X0, wC_X0_isBroken⟩, ⟨by decide +kernel, by decide +kernel, by decide +kernel⟩, by decide⟩
abbrev mX0_stiffnessOf : ev_M := (yX0_stiffnessOf, cX0_stiffnessOf, 2, (some .int))
theorem vX0_stiffnessOf : ev_wV mX0_stiffnessOf 1 := ⟨⟨wI_X0_stiffnessOf, wS_X0_stiffnessOf, wN_X0, wC_X0_stiffnessOf⟩, ⟨by decide +kernel, by decide +kernel, by decide +kernel⟩, by decide⟩
abbrev mX0_stretchOf : ev_M := (yX0_stretchOf, cX0_stretchOf, 4, (some .int))
theorem vX0_stretchOf : ev_wV mX0_stretchOf 1 := ⟨⟨wI_X0_stretchOf, wS_X0_stretchOf, wN_X0, wC_X0_stretchOf⟩, ⟨by decide +kernel, by decide +kernel, by decide +kernel⟩, by decide⟩
abbrev mX0_displacementOf : ev_M := (yX0_displacementOf, cX0_displacementOf, 2, (some .int))
theorem vX0_displacementOf : ev_wV mX0_displacementOf 1 := ⟨⟨wI_X0_displacementOf, wS_X0_displacementOf, wN_X0, wC_X0_displacementOf⟩, ⟨by decide +kernel, by decide +kernel, by decide +kernel⟩, by decide⟩
abbrev mX0_giveImpulses : ev_M := (yX0_giveImpulses, cX0_giveImpulses, 4, none)
theorem vX0_giveImpulses : ev_wV mX0_giveImpulses 0 := ⟨⟨wI_X0_giveImpulses, wS_X0_giveImpulses, wN_X0, wC_X0_giveImpulses⟩, ⟨by decide +kernel, by decide +kernel, by decide +kernel⟩, by decide⟩
abbrev mX2_countOfTick : ev_M := (yX2_countOfTick, cX2_countOfTick, 3, (some .int))
theorem vX2_countOfTick : ev_wV mX2_countOfTick 1 := ⟨⟨wI_X2_countOfTick, wS_X2_countOfTick, wN_X2, wC_X2_countOfTick⟩, ⟨by decide +kernel, by decide +kernel, by decide +kernel⟩, by decide⟩
abbrev mX2_dropFirst : ev_M := (yX2_dropFirst, cX2_dropFirst, 3, none)
theorem vX2_dropFirst : ev_wV mX2_dropFirst 1 := ⟨⟨wI_X2_dropFirst, wS_X2_dropFirst, wN_X2, wC_X2_dropFirst⟩, ⟨by decide +kernel, by decide +kernel, by decide +kernel⟩, by decide⟩
abbrev mX0_dampMomenta : ev_M := (yX0_dampMomenta, cX0_dampMomenta, 3, none)
theorem vX0_dampMomenta : ev_wV mX0_dampMomenta 0 := ⟨⟨wI_X0_dampMomenta, wS_X0_dampMomenta, wN_X0, wC_X0_dampMomenta⟩, ⟨by decide +kernel, by decide +kernel, by decide +kernel⟩, by decide⟩
abbrev mX0_limitMomenta : ev_M := (yX0_limitMomenta, cX0_limitMomenta, 3, none)
theorem vX0_limitMomenta : ev_wV mX0_limitMomenta 0 := ⟨⟨wI_X0_limitMomenta, wS_X0_limitMomenta, wN_X0, wC_X0_limitMomenta⟩, ⟨by decide +kernel, by decide +kernel, by decide +kernel⟩, by decide⟩
abbrev mX0_shiftMasses : ev_M := (yX0_shiftMasses, cX0_shiftMasses, 2, none)
theorem vX0_shiftMasses : ev_wV mX0_shiftMasses 0 := ⟨⟨wI_X0_shiftMasses, wS_X0_shiftMasses, wN_X0, wC_X0_shiftMasses⟩, ⟨by decide +kernel, by decide +kernel, by decide +kernel⟩, by decide⟩
abbrev mX0_velocityOf : ev_M := (yX0_velocityOf, cX0_velocityOf, 3, (some .int))
theorem vX0_velocityOf : ev_wV mX0_velocityOf 1 := ⟨⟨wI_X0_velocityOf, wS_X0_velocityOf, wN_X0, wC_X0_velocityOf⟩, ⟨by decide +kernel, by decide +kernel, by decide +kernel⟩, by decide⟩
abbrev mX0_weightOf : ev_M := (yX0_weightOf, cX0_weightOf, 2, (some .int))
theorem vX0_weightOf : ev_wV mX0_weightOf 1 := ⟨⟨wI_X0_weightOf, wS_X0_weightOf, wN_X0, wC_X0_weightOf⟩, ⟨by decide +kernel, by decide +kernel, by decide +kernel⟩, by decide⟩
abbrev mX0_breakSprings : ev_M := (yX0_breakSprings, cX0_breakSprings, 3, (some .int))
theorem vX0_breakSprings : ev_wV mX0_breakSprings 0 := ⟨⟨wI_X0_breakSprings, wS_X0_breakSprings, wN_X0, wC_X0_breakSprings⟩, ⟨by decide +kernel, by decide +kernel, by decide +kernel⟩, by decide⟩
abbrev mX0_isOverstretched : ev_M := (yX0_isOverstretched, cX0_isOverstretched, 3, (some .boolean))
theorem vX0_isOverstretched : ev_wV mX0_isOverstretched 1 := ⟨⟨wI_X0_isOverstretched, wS_X0_isOverstretched, wN_X0, wC_X0_isOverstretched⟩, ⟨by decide +kernel, by decide +kernel, by decide +kernel⟩, by decide⟩
abbrev mX0_limitOf : ev_M := (yX0_limitOf, cX0_limitOf, 2, (some .int))
theorem vX0_limitOf : ev_wV mX0_limitOf 1 := ⟨⟨wI_X0_limitOf, wS_X0_limitOf, wN_X0, wC_X0_limitOf⟩, ⟨by decide +kernel, by decide +kernel, by decide +kernel⟩, by decide⟩
abbrev mX0_setBroken : ev_M := (yX0_setBroken, cX0_setBroken, 3, none)
theorem vX0_setBroken : ev_wV mX0_setBroken 2 := ⟨⟨wI_X0_setBroken, wS_X0_setBroken, wN_X0, wC_X0_setBroken⟩, ⟨by decide +kernel, by decide +kernel, by decide +kernel⟩, by decide⟩
abbrev mX0_patternNumber : ev_M := (yX0_patternNumber, cX0_patternNumber, 4, (some .int))
theorem vX0_patternNumber : ev_wV mX0_patternNumber 0 := ⟨⟨wI_X0_patternNumber, wS_X0_patternNumber, wN_X0, wC_X0_patternNumber⟩, ⟨by decide +kernel, by decide +kernel, by decide +kernel⟩, by decide⟩
abbrev mX0_signOf : ev_M := (yX0_signOf, cX0_signOf, 3, (some .int))
theorem vX0_signOf : ev_wV mX0_signOf 1 := ⟨⟨wI_X0_signOf, wS_X0_signOf, wN_X0, wC_X0_signOf⟩, ⟨by decide +kernel, by decide +kernel, by decide +kernel⟩, by decide⟩
abbrev mX4_note : ev_M := (yX4_note, cX4_note, 3, none)
theorem vX4_note : ev_wV mX4_note 1 := ⟨⟨wI_X4_note, wS_X4_note, wN_X4, wC_X4_note⟩, ⟨by decide +kernel, by decide +kernel, by decide +kernel⟩, by decide⟩
abbrev mX0_countBroken : ev_M := (yX0_countBroken, cX0_countBroken, 3, (some .int))
theorem vX0_countBroken : ev_wV mX0_countBroken 0 := ⟨⟨wI_X0_countBroken, wS_X0_countBroken, wN_X0, wC_X0_countBroken⟩, ⟨by decide +kernel, by decide +kernel, by decide +kernel⟩, by decide⟩
abbrev mX0_countNodes : ev_M := (yX0_countNodes, cX0_countNodes, 5, (some .int))
theorem vX0_countNodes : ev_wV mX0_countNodes 0 := ⟨⟨wI_X0_countNodes, wS_X0_countNodes, wN_X0, wC_X0_countNodes⟩, ⟨by decide +kernel, by decide +kernel, by decide +kernel⟩, by decide⟩
abbrev mL_period : ev_M := (yL_period, cL_period, 4, (some .int))
abbrev mX6_period : ev_M := (yX6_period, cX6_period, 6, (some .int))
theorem vX6_period : ev_wV mX6_period 2 := ⟨⟨wI_X6_period, wS_X6_period, wN_X6, wC_X6_period⟩, ⟨by decide +kernel, by decide +kernel, by decide +kernel⟩, by decide⟩
abbrev mL_breaksIn : ev_M := (yL_breaksIn, cL_breaksIn, 3, (some .int))
abbrev mX6_breaksIn : ev_M := (yX6_breaksIn, cX6_breaksIn, 3, (some .int))
theorem vX6_breaksIn : ev_wV mX6_breaksIn 1 := ⟨⟨wI_X6_breaksIn, wS_X6_breaksIn, wN_X6, wC_X6_breaksIn⟩, ⟨by decide +kernel, by decide +kernel, by decide +kernel⟩, by decide⟩
abbrev mL_pass : ev_M := (yL_pass, cL_pass, 3, (some .int))
abbrev mX6_pass : ev_M := (yX6_pass, cX6_pass, 4, (some .int))
theorem vX6_pass : ev_wV mX6_pass 1 := ⟨⟨wI_X6_pass, wS_X6_pass, wN_X6, wC_X6_pass⟩, ⟨by decide +kernel, by decide +kernel, by decide +kernel⟩, by decide⟩
abbrev mL_pluck : ev_M := (yL_pluck, cL_pluck, 4, (some .int))
abbrev mX6_pluck : ev_M := (yX6_pluck, cX6_pluck, 4, (some .int))
theorem vX6_pluck : ev_wV mX6_pluck 2 := ⟨⟨wI_X6_pluck, wS_X6_pluck, wN_X6, wC_X6_pluck⟩, ⟨by decide +kernel, by decide +kernel, by decide +kernel⟩, by decide⟩
abbrev mL_strike : ev_M := (yL_strike, cL_strike, 4, (some .int))
abbrev mX6_strike : ev_M := (yX6_strike, cX6_strike, 3, (some .int))
theorem vX6_strike : ev_wV mX6_strike 2 := ⟨⟨wI_X6_strike, wS_X6_strike, wN_X6, wC_X6_strike⟩, ⟨by decide +kernel, by decide +kernel, by decide +kernel⟩, by decide⟩
abbrev mL_impulse : ev_M := (yL_impulse, cL_impulse, 5, (some .int))
abbrev mX6_impulse : ev_M := (yX6_impulse, cX6_impulse, 4, (some .int))
theorem vX6_impulse : ev_wV mX6_impulse 3 := ⟨⟨wI_X6_impulse, wS_X6_impulse, wN_X6, wC_X6_impulse⟩, ⟨by decide +kernel, by decide +kernel, by decide +kernel⟩, by decide⟩
abbrev mL_stiffen : ev_M := (yL_stiffen, cL_stiffen, 4, (some .int))
abbrev mX6_stiffen : ev_M := (yX6_stiffen, cX6_stiffen, 4, (some .int))
theorem vX6_stiffen : ev_wV mX6_stiffen 2 := ⟨⟨wI_X6_stiffen, wS_X6_stiffen, wN_X6, wC_X6_stiffen⟩, ⟨by decide +kernel, by decide +kernel, by decide +kernel⟩, by decide⟩
abbrev mX6_requireSpring : ev_M := (yX6_requireSpring, cX6_requireSpring, 2, none)
theorem vX6_requireSpring : ev_wV mX6_requireSpring 1 := ⟨⟨wI_X6_requireSpring, wS_X6_requireSpring, wN_X6, wC_X6_requireSpring⟩, ⟨by decide +kernel, by decide +kernel, by decide +kernel⟩, by decide⟩
abbrev mL_mend : ev_M := (yL_mend, cL_mend, 3, (some .int))
abbrev mX6_mend : ev_M := (yX6_mend, cX6_mend, 2, (some .int))
theorem vX6_mend : ev_wV mX6_mend 1 := ⟨⟨wI_X6_mend, wS_X6_mend, wN_X6, wC_X6_mend⟩, ⟨by decide +kernel, by decide +kernel, by decide +kernel⟩, by decide⟩
abbrev mL_move : ev_M := (yL_move, cL_move, 4, (some .int))
abbrev mX6_move : ev_M := (yX6_move, cX6_move, 4, (some .int))
theorem vX6_move : ev_wV mX6_move 2 := ⟨⟨wI_X6_move, wS_X6_move, wN_X6, wC_X6_move⟩, ⟨by decide +kernel, by decide +kernel, by decide +kernel⟩, by decide⟩
abbrev mL_randomChain : ev_M := (yL_randomChain, cL_randomChain, 11, (some (.object "SpringChainLaw$Chain")))
theorem vL_randomChain : ev_wS mL_randomChain 3 := ⟨⟨wT_L_randomChain, wN_L, wC_L_randomChain⟩, ⟨by decide +kernel, by decide +kernel, by decide +kernel⟩, by decide⟩
abbrev mL_writeAll : ev_M := (yL_writeAll, cL_writeAll, 8, none)
theorem vL_writeAll : ev_wS mL_writeAll 4 := ⟨⟨wT_L_writeAll, wN_L, wC_L_writeAll⟩, ⟨by decide +kernel, by decide +kernel, by decide +kernel⟩, by decide⟩
abbrev mL_write : ev_M := (yL_write, cL_write, 4, none)
theorem vL_write : ev_wS mL_write 3 := ⟨⟨wT_L_write, wN_L, wC_L_write⟩, ⟨by decide +kernel, by decide +kernel, by decide +kernel⟩, by decide⟩
abbrev mL_put : ev_M := (yL_put, cL_put, 3, none)
theorem vL_put : ev_wS mL_put 3 := ⟨⟨wT_L_put, wN_L, wC_L_put⟩, ⟨by decide +kernel, by decide +kernel, by decide +kernel⟩, by decide⟩
abbrev mL_flush : ev_M := (yL_flush, cL_flush, 3, none)
theorem vL_flush : ev_wS mL_flush 2 := ⟨⟨wT_L_flush, wN_L, wC_L_flush⟩, ⟨by decide +kernel, by decide +kernel, by decide +kernel⟩, by decide⟩
abbrev mX6_append : ev_M := (yX6_append, cX6_append, 6, (some .int))
theorem vX6_append : ev_wV mX6_append 5 := ⟨⟨wI_X6_append, wS_X6_append, wN_X6, wC_X6_append⟩, ⟨by decide +kernel, by decide +kernel, by decide +kernel⟩, by decide⟩
abbrev mX6_appendWord : ev_M := (yX6_appendWord, cX6_appendWord, 3, none)
theorem vX6_appendWord : ev_wV mX6_appendWord 1 := ⟨⟨wI_X6_appendWord, wS_X6_appendWord, wN_X6, wC_X6_appendWord⟩, ⟨by decide +kernel, by decide +kernel, by decide +kernel⟩, by decide⟩
abbrev mL_writeNumber : ev_M := (yL_writeNumber, cL_writeNumber, 4, none)
theorem vL_writeNumber : ev_wS mL_writeNumber 3 := ⟨⟨wT_L_writeNumber, wN_L, wC_L_writeNumber⟩, ⟨by decide +kernel, by decide +kernel, by decide +kernel⟩, by decide⟩
abbrev mL_loadText : ev_M := (yL_loadText, cL_loadText, 3, (some .int))
theorem vL_loadText : ev_wS mL_loadText 2 := ⟨⟨wT_L_loadText, wN_L, wC_L_loadText⟩, ⟨by decide +kernel, by decide +kernel, by decide +kernel⟩, by decide⟩
abbrev mL_agrees : ev_M := (yL_agrees, cL_agrees, 4, (some .boolean))
theorem vL_agrees : ev_wS mL_agrees 2 := ⟨⟨wT_L_agrees, wN_L, wC_L_agrees⟩, ⟨by decide +kernel, by decide +kernel, by decide +kernel⟩, by decide⟩
abbrev mX6_checksum : ev_M := (yX6_checksum, cX6_checksum, 5, (some .long))
theorem vX6_checksum : ev_wV mX6_checksum 0 := ⟨⟨wI_X6_checksum, wS_X6_checksum, wN_X6, wC_X6_checksum⟩, ⟨by decide +kernel, by decide +kernel, by decide +kernel⟩, by decide⟩
abbrev mX0_tellState : ev_M := (yX0_tellState, cX0_tellState, 2, (some .int))
theorem vX0_tellState : ev_wV mX0_tellState 1 := ⟨⟨wI_X0_tellState, wS_X0_tellState, wN_X0, wC_X0_tellState⟩, ⟨by decide +kernel, by decide +kernel, by decide +kernel⟩, by decide⟩
abbrev mX0_countResting : ev_M := (yX0_countResting, cX0_countResting, 3, (some .int))
theorem vX0_countResting : ev_wV mX0_countResting 0 := ⟨⟨wI_X0_countResting, wS_X0_countResting, wN_X0, wC_X0_countResting⟩, ⟨by decide +kernel, by decide +kernel, by decide +kernel⟩, by decide⟩
abbrev mX0_farthestMass : ev_M := (yX0_farthestMass, cX0_farthestMass, 3, (some .int))
theorem vX0_farthestMass : ev_wV mX0_farthestMass 0 := ⟨⟨wI_X0_farthestMass, wS_X0_farthestMass, wN_X0, wC_X0_farthestMass⟩, ⟨by decide +kernel, by decide +kernel, by decide +kernel⟩, by decide⟩
abbrev mX0_tellAccount : ev_M := (yX0_tellAccount, cX0_tellAccount, 2, (some .long))
theorem vX0_tellAccount : ev_wV mX0_tellAccount 1 := ⟨⟨wI_X0_tellAccount, wS_X0_tellAccount, wN_X0, wC_X0_tellAccount⟩, ⟨by decide +kernel, by decide +kernel, by decide +kernel⟩, by decide⟩
abbrev mX0_sumOfMomenta : ev_M := (yX0_sumOfMomenta, cX0_sumOfMomenta, 4, (some .long))
theorem vX0_sumOfMomenta : ev_wV mX0_sumOfMomenta 0 := ⟨⟨wI_X0_sumOfMomenta, wS_X0_sumOfMomenta, wN_X0, wC_X0_sumOfMomenta⟩, ⟨by decide +kernel, by decide +kernel, by decide +kernel⟩, by decide⟩
abbrev mX0_energyOfMasses : ev_M := (yX0_energyOfMasses, cX0_energyOfMasses, 4, (some .long))
theorem vX0_energyOfMasses : ev_wV mX0_energyOfMasses 0 := ⟨⟨wI_X0_energyOfMasses, wS_X0_energyOfMasses, wN_X0, wC_X0_energyOfMasses⟩, ⟨by decide +kernel, by decide +kernel, by decide +kernel⟩, by decide⟩
abbrev mX0_energyOfMass : ev_M := (yX0_energyOfMass, cX0_energyOfMass, 6, (some .long))
theorem vX0_energyOfMass : ev_wV mX0_energyOfMass 1 := ⟨⟨wI_X0_energyOfMass, wS_X0_energyOfMass, wN_X0, wC_X0_energyOfMass⟩, ⟨by decide +kernel, by decide +kernel, by decide +kernel⟩, by decide⟩
abbrev mX0_energyOfSprings : ev_M := (yX0_energyOfSprings, cX0_energyOfSprings, 4, (some .long))
theorem vX0_energyOfSprings : ev_wV mX0_energyOfSprings 0 := ⟨⟨wI_X0_energyOfSprings, wS_X0_energyOfSprings, wN_X0, wC_X0_energyOfSprings⟩, ⟨by decide +kernel, by decide +kernel, by decide +kernel⟩, by decide⟩
abbrev mX0_energyOfSpring : ev_M := (yX0_energyOfSpring, cX0_energyOfSpring, 4, (some .long))
theorem vX0_energyOfSpring : ev_wV mX0_energyOfSpring 1 := ⟨⟨wI_X0_energyOfSpring, wS_X0_energyOfSpring, wN_X0, wC_X0_energyOfSpring⟩, ⟨by decide +kernel, by decide +kernel, by decide +kernel⟩, by decide⟩
abbrev mX0_tellMass : ev_M := (yX0_tellMass, cX0_tellMass, 3, (some .int))
theorem vX0_tellMass : ev_wV mX0_tellMass 2 := ⟨⟨wI_X0_tellMass, wS_X0_tellMass, wN_X0, wC_X0_tellMass⟩, ⟨by decide +kernel, by decide +kernel, by decide +kernel⟩, by decide⟩
abbrev mX0_tellSpring : ev_M := (yX0_tellSpring, cX0_tellSpring, 3, (some .int))
theorem vX0_tellSpring : ev_wV mX0_tellSpring 2 := ⟨⟨wI_X0_tellSpring, wS_X0_tellSpring, wN_X0, wC_X0_tellSpring⟩, ⟨by decide +kernel, by decide +kernel, by decide +kernel⟩, by decide⟩
abbrev mX7_checksum : ev_M := (yX7_checksum, cX7_checksum, 7, (some .long))
theorem vX7_checksum : ev_wV mX7_checksum 0 := ⟨⟨wI_X7_checksum, wS_X7_checksum, wN_X7, wC_X7_checksum⟩, ⟨by decide +kernel, by decide +kernel, by decide +kernel⟩, by decide⟩
abbrev mX7_told : ev_M := (yX7_told, cX7_told, 5, (some .int))
theorem vX7_told : ev_wV mX7_told 1 := ⟨⟨wI_X7_told, wS_X7_told, wN_X7, wC_X7_told⟩, ⟨by decide +kernel, by decide +kernel, by decide +kernel⟩, by decide⟩
abbrev mX7_nodes : ev_M := (yX7_nodes, cX7_nodes, 7, (some .int))
theorem vX7_nodes : ev_wV mX7_nodes 0 := ⟨⟨wI_X7_nodes, wS_X7_nodes, wN_X7, wC_X7_nodes⟩, ⟨by decide +kernel, by decide +kernel, by decide +kernel⟩, by decide⟩
abbrev mX7_account : ev_M := (yX7_account, cX7_account, 8, (some .long))
theorem vX7_account : ev_wV mX7_account 1 := ⟨⟨wI_X7_account, wS_X7_account, wN_X7, wC_X7_account⟩, ⟨by decide +kernel, by decide +kernel, by decide +kernel⟩, by decide⟩
abbrev mX7_of_ : ev_M := (yX7_of_, cX7_of_, 4, (some .int))
theorem vX7_of_ : ev_wV mX7_of_ 2 := ⟨⟨wI_X7_of_, wS_X7_of_, wN_X7, wC_X7_of_⟩, ⟨by decide +kernel, by decide +kernel, by decide +kernel⟩, by decide⟩
abbrev mX7_ofSpring : ev_M := (yX7_ofSpring, cX7_ofSpring, 4, (some .int))
theorem vX7_ofSpring : ev_wV mX7_ofSpring 2 := ⟨⟨wI_X7_ofSpring, wS_X7_ofSpring, wN_X7, wC_X7_ofSpring⟩, ⟨by decide +kernel, by decide +kernel, by decide +kernel⟩, by decide⟩
abbrev mL_state : ev_M := (yL_state, cL_state, 3, (some .int))
abbrev mX6_state : ev_M := (yX6_state, cX6_state, 2, (some .int))
theorem vX6_state : ev_wV mX6_state 1 := ⟨⟨wI_X6_state, wS_X6_state, wN_X6, wC_X6_state⟩, ⟨by decide +kernel, by decide +kernel, by decide +kernel⟩, by decide⟩
abbrev mL_mass : ev_M := (yL_mass, cL_mass, 4, (some .int))
abbrev mX6_mass : ev_M := (yX6_mass, cX6_mass, 3, (some .int))
theorem vX6_mass : ev_wV mX6_mass 2 := ⟨⟨wI_X6_mass, wS_X6_mass, wN_X6, wC_X6_mass⟩, ⟨by decide +kernel, by decide +kernel, by decide +kernel⟩, by decide⟩
abbrev mL_spring : ev_M := (yL_spring, cL_spring, 4, (some .int))
abbrev mX6_spring : ev_M := (yX6_spring, cX6_spring, 3, (some .int))
theorem vX6_spring : ev_wV mX6_spring 2 := ⟨⟨wI_X6_spring, wS_X6_spring, wN_X6, wC_X6_spring⟩, ⟨by decide +kernel, by decide +kernel, by decide +kernel⟩, by decide⟩
abbrev mX6_account : ev_M := (yX6_account, cX6_account, 2, (some .long))
theorem vX6_account : ev_wV mX6_account 1 := ⟨⟨wI_X6_account, wS_X6_account, wN_X6, wC_X6_account⟩, ⟨by decide +kernel, by decide +kernel, by decide +kernel⟩, by decide⟩
