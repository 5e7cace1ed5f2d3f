/-! the cells of the model: itself, its buffer, its data, draft, aside, its history (with eight rows), its pulls -/
/-- thrown 0, bufferLength 1, textLength 2, position 3, error 4, errorAt 5, errorOffset 6, undoDepth 7, numberStart 8, plucked 9, struck 10, hasDamp 11; rows: data 0, draft 1, aside 2, the kept ones from 3 on, pulls 11; the buffer -/
abbrev MS : Type := (Nat → Int32) × (Nat → Nat → Int64) × (Nat → Int32)
def ms_I (μ : MS) (k : Nat) (v : Int32) : MS := (ev_u μ.1 k v, μ.2)
def ms_L (μ : MS) (k : Nat) (f : Nat → Int64) : MS := (μ.1, ev_u μ.2.1 k f, μ.2.2)
def ms_B (μ : MS) (f : Nat → Int32) : MS := (μ.1, μ.2.1, f)
def mo_cell (G : ev_G) (c : Nat) (μ : MS) (j : Nat) : va_E :=
  if j = 0 then .inr (7, [.int (μ.1 0), .ref (c + 1), .int (μ.1 1), .int (μ.1 2), .int (μ.1 3), .int (μ.1 4), .int (μ.1 5), .int (μ.1 6), .ref (c + 2), .ref (c + 3), .ref (c + 4), .ref (c + 5), .int (μ.1 7), .int (μ.1 8), .int (μ.1 9), .int (μ.1 10), .int (μ.1 11), .ref (c + 14)]) else if j = 1 then .inl (G.2.1 0, 500, .inl μ.2.2)
  else if j = 5 then .inl (G.2.1 5, 8, .inr (.inr (.inr (.inr (fun k => some (c + 6 + k))))))
  else if j = 14 then .inl (G.2.1 1, 13, .inr (.inl (μ.2.1 11)))
  else .inl (G.2.1 1, 199, .inr (.inl (μ.2.1 (if j < 5 then j - 2 else j - 3))))
def mo (G : ev_G) (c : Nat) (μ : MS) (h : ev_H) : ev_H := (fun a => if c ≤ a ∧ a < c + 15 then some (mo_cell G c μ (a - c)) else h.1 a, h.2)
/-- where a row of 199 longs lies -/
def mr (c i : Nat) : Nat := if i < 3 then c + 2 + i else c + 3 + i
theorem mo_at (G : ev_G) (c : Nat) (μ : MS) (h : ev_H) (j : Nat) (hj : j < 15) : (mo G c μ h).1 (c + j) = some (mo_cell G c μ j) := by
  show (if c ≤ c + j ∧ c + j < c + 15 then some (mo_cell G c μ (c + j - c)) else h.1 (c + j)) = _
  rw [if_pos ⟨by omega, by omega⟩, show c + j - c = j by omega]
theorem mo_out (G : ev_G) (c : Nat) (μ : MS) (h : ev_H) (b : Nat) (hb : ¬ (c ≤ b ∧ b < c + 15)) : (mo G c μ h).1 b = h.1 b := by
  show (if c ≤ b ∧ b < c + 15 then some (mo_cell G c μ (b - c)) else h.1 b) = _
  rw [if_neg hb]
theorem mo_put (G : ev_G) (c : Nat) (μ μ' : MS) (h : ev_H) (j : Nat) (hj : j < 15) (e : va_E) (he : mo_cell G c μ' j = e) (ho : ∀ i, i < 15 → i ≠ j → mo_cell G c μ' i = mo_cell G c μ i) : ev_put (mo G c μ h) (c + j) e = mo G c μ' h := by
  refine Prod.ext (funext fun b => ?_) rfl
  show (if b = c + j then some e else if c ≤ b ∧ b < c + 15 then some (mo_cell G c μ (b - c)) else h.1 b) = (if c ≤ b ∧ b < c + 15 then some (mo_cell G c μ' (b - c)) else h.1 b)
  by_cases hb : b = c + j
  · subst hb
    rw [if_pos rfl, if_pos ⟨by omega, by omega⟩, show c + j - c = j by omega, he]
  · rw [if_neg hb]
    by_cases hi : c ≤ b ∧ b < c + 15
    · rw [if_pos hi, if_pos hi, ho (b - c) (by omega) (by omega)]
    · rw [if_neg hi, if_neg hi]
theorem mo_rowc (G : ev_G) (c : Nat) (μ : MS) (i : Nat) (hi : i < 11) : mo_cell G c μ (mr c i - c) = .inl (G.2.1 1, 199, .inr (.inl (μ.2.1 i))) := by
  unfold mr mo_cell
  by_cases h3 : i < 3
  · rw [if_pos h3, if_neg (by omega), if_neg (by omega), if_neg (by omega), if_neg (by omega), if_pos (by omega), show c + 2 + i - c - 2 = i by omega]
  · rw [if_neg h3, if_neg (by omega), if_neg (by omega), if_neg (by omega), if_neg (by omega), if_neg (by omega), show c + 3 + i - c - 3 = i by omega]
theorem mr_ge (c i : Nat) (hi : i < 11) : mr c i = c + (mr c i - c) ∧ mr c i - c < 15 := by
  unfold mr
  split <;> omega
theorem mo_row (G : ev_G) (c : Nat) (μ : MS) (h : ev_H) (i : Nat) (hi : i < 11) : (mo G c μ h).1 (mr c i) = some (.inl (G.2.1 1, 199, .inr (.inl (μ.2.1 i)))) := by
  have hg := mr_ge c i hi
  rw [hg.1, mo_at G c μ h _ hg.2, mo_rowc G c μ i hi]
theorem mo_putr (G : ev_G) (c : Nat) (μ : MS) (h : ev_H) (i : Nat) (f : Nat → Int64) (hi : i < 11) : ev_put (mo G c μ h) (mr c i) (.inl (G.2.1 1, 199, .inr (.inl f))) = mo G c (ms_L μ i f) h := by
  have hg := mr_ge c i hi
  rw [hg.1]
  refine mo_put G c μ (ms_L μ i f) h _ hg.2 _ ?_ ?_
  · rw [mo_rowc G c _ i hi]
    show (Sum.inl (G.2.1 1, 199, .inr (.inl (ev_u μ.2.1 i f i))) : va_E) = _
    rw [ev_u_self]
  · intro j hj hne
    unfold mo_cell
    by_cases j0 : j = 0
    · rw [if_pos j0, if_pos j0]; rfl
    · rw [if_neg j0, if_neg j0]
      by_cases j1 : j = 1
      · rw [if_pos j1, if_pos j1]; rfl
      · rw [if_neg j1, if_neg j1]
        by_cases j5 : j = 5
        · rw [if_pos j5, if_pos j5]
        · rw [if_neg j5, if_neg j5]
          by_cases j14 : j = 14
          · rw [if_pos j14, if_pos j14]
            show (Sum.inl (G.2.1 1, 13, .inr (.inl (ev_u μ.2.1 i f 11))) : va_E) = _
            rw [ev_u_ne _ _ (by omega)]
          · rw [if_neg j14, if_neg j14]
            show (Sum.inl (G.2.1 1, 199, .inr (.inl (ev_u μ.2.1 i f (if j < 5 then j - 2 else j - 3)))) : va_E) = _
            rw [ev_u_ne]
            unfold mr at hne
            split <;> split at hne <;> omega
theorem ms_L_get (μ : MS) (k : Nat) (f : Nat → Int64) : (ms_L μ k f).2.1 k = f := by simp [ms_L, ev_u]
theorem ms_L_ne (μ : MS) {k j : Nat} (f : Nat → Int64) (h : j ≠ k) : (ms_L μ k f).2.1 j = μ.2.1 j := ev_u_ne _ _ h
theorem ms_L_L (μ : MS) (k : Nat) (f g : Nat → Int64) : ms_L (ms_L μ k f) k g = ms_L μ k g := by
  refine Prod.ext rfl (Prod.ext (funext fun j => ?_) rfl)
  by_cases h : j = k <;> simp [ms_L, ev_u, h]
theorem ms_L_self (μ : MS) (k : Nat) : ms_L μ k (μ.2.1 k) = μ := by
  refine Prod.ext rfl (Prod.ext (funext fun j => ?_) rfl)
  by_cases h : j = k
  · subst h; simp [ms_L, ev_u]
  · simp [ms_L, ev_u, h]
theorem ms_I_I (μ : MS) (k : Nat) (f g : Int32) : ms_I (ms_I μ k f) k g = ms_I μ k g := by
  refine Prod.ext (funext fun j => ?_) rfl
  by_cases h : j = k <;> simp [ms_I, ev_u, h]
theorem ms_I_self (μ : MS) (k : Nat) : ms_I μ k (μ.1 k) = μ := by
  refine Prod.ext (funext fun j => ?_) rfl
  by_cases h : j = k
  · subst h; simp [ms_I, ev_u]
  · simp [ms_I, ev_u, h]
theorem ms_I_get (μ : MS) (k : Nat) (f : Int32) : (ms_I μ k f).1 k = f := by simp [ms_I, ev_u]
theorem ms_I_ne (μ : MS) {k j : Nat} (f : Int32) (h : j ≠ k) : (ms_I μ k f).1 j = μ.1 j := ev_u_ne _ _ h
section MOR
variable {G : ev_G} {l : Launch} {M : ev_M} {J : ev_K} {pc k n c idx : Nat} {L : List (Option Value)} {st : List Value} {h : ev_H} {μ : MS}
theorem mo_oth {μ' : MS} (h1 : μ'.2 = μ.2) : ∀ i, i < 15 → i ≠ 0 → mo_cell G c μ' i = mo_cell G c μ i := by
  intro i hi hne
  unfold mo_cell
  rw [if_neg hne, if_neg hne, h1]
theorem mo_g0 (hw : Cond.fieldLink M.1.cls idx "SpringChainModel" "thrown" "I" ∈ ev_ws) (hd : decode M.2.1 pc = .ok (.getfield idx, 3)) (k0 : ev_V G l M J (pc + 3) L (.int (μ.1 0) :: st) (mo G c μ h) k n) : ev_V G l M J pc L (.ref (c) :: st) (mo G c μ h) k n := e_getf (C := RX7) (T := TX7) (N := 18) (ci := 7) 0 inX7 rfl (mo_at G c μ h 0 (by decide)) (by decide) hw rfl hd k0
theorem mo_p0 {v : Int32} (hw : Cond.fieldLink M.1.cls idx "SpringChainModel" "thrown" "I" ∈ ev_ws) (hd : decode M.2.1 pc = .ok (.putfield idx, 3)) (k0 : ev_V G l M J (pc + 3) L st (mo G c (ms_I μ 0 v) h) k n) : ev_V G l M J pc L (.int v :: .ref (c) :: st) (mo G c μ h) k n :=
  e_putf (Cn := RX7) (T := TX7) (N := 18) (ci := 7) 0 tyX7 tyX7_ok nmX7 inX7 rfl (mo_at G c μ h 0 (by decide)) (by decide) hw (Or.inl rfl) (tyX7_ok 0 (by decide)) rfl rfl (Nat.le_of_ble_eq_true rfl) hd (ev_as (mo_put G c μ (ms_I μ 0 v) h 0 (by decide) _ rfl (mo_oth rfl)) k0)
theorem mo_g1 (hw : Cond.fieldLink M.1.cls idx "SpringChainModel" "buffer" "[I" ∈ ev_ws) (hd : decode M.2.1 pc = .ok (.getfield idx, 3)) (k0 : ev_V G l M J (pc + 3) L (.ref (c + 1) :: st) (mo G c μ h) k n) : ev_V G l M J pc L (.ref (c) :: st) (mo G c μ h) k n := e_getf (C := RX7) (T := TX7) (N := 18) (ci := 7) 1 inX7 rfl (mo_at G c μ h 0 (by decide)) (by decide) hw rfl hd k0
theorem mo_g2 (hw : Cond.fieldLink M.1.cls idx "SpringChainModel" "bufferLength" "I" ∈ ev_ws) (hd : decode M.2.1 pc = .ok (.getfield idx, 3)) (k0 : ev_V G l M J (pc + 3) L (.int (μ.1 1) :: st) (mo G c μ h) k n) : ev_V G l M J pc L (.ref (c) :: st) (mo G c μ h) k n := e_getf (C := RX7) (T := TX7) (N := 18) (ci := 7) 2 inX7 rfl (mo_at G c μ h 0 (by decide)) (by decide) hw rfl hd k0
theorem mo_p2 {v : Int32} (hw : Cond.fieldLink M.1.cls idx "SpringChainModel" "bufferLength" "I" ∈ ev_ws) (hd : decode M.2.1 pc = .ok (.putfield idx, 3)) (k0 : ev_V G l M J (pc + 3) L st (mo G c (ms_I μ 1 v) h) k n) : ev_V G l M J pc L (.int v :: .ref (c) :: st) (mo G c μ h) k n :=
  e_putf (Cn := RX7) (T := TX7) (N := 18) (ci := 7) 2 tyX7 tyX7_ok nmX7 inX7 rfl (mo_at G c μ h 0 (by decide)) (by decide) hw (Or.inl rfl) (tyX7_ok 2 (by decide)) rfl rfl (Nat.le_of_ble_eq_true rfl) hd (ev_as (mo_put G c μ (ms_I μ 1 v) h 0 (by decide) _ rfl (mo_oth rfl)) k0)
theorem mo_g3 (hw : Cond.fieldLink M.1.cls idx "SpringChainModel" "textLength" "I" ∈ ev_ws) (hd : decode M.2.1 pc = .ok (.getfield idx, 3)) (k0 : ev_V G l M J (pc + 3) L (.int (μ.1 2) :: st) (mo G c μ h) k n) : ev_V G l M J pc L (.ref (c) :: st) (mo G c μ h) k n := e_getf (C := RX7) (T := TX7) (N := 18) (ci := 7) 3 inX7 rfl (mo_at G c μ h 0 (by decide)) (by decide) hw rfl hd k0
theorem mo_p3 {v : Int32} (hw : Cond.fieldLink M.1.cls idx "SpringChainModel" "textLength" "I" ∈ ev_ws) (hd : decode M.2.1 pc = .ok (.putfield idx, 3)) (k0 : ev_V G l M J (pc + 3) L st (mo G c (ms_I μ 2 v) h) k n) : ev_V G l M J pc L (.int v :: .ref (c) :: st) (mo G c μ h) k n :=
  e_putf (Cn := RX7) (T := TX7) (N := 18) (ci := 7) 3 tyX7 tyX7_ok nmX7 inX7 rfl (mo_at G c μ h 0 (by decide)) (by decide) hw (Or.inl rfl) (tyX7_ok 3 (by decide)) rfl rfl (Nat.le_of_ble_eq_true rfl) hd (ev_as (mo_put G c μ (ms_I μ 2 v) h 0 (by decide) _ rfl (mo_oth rfl)) k0)
theorem mo_g4 (hw : Cond.fieldLink M.1.cls idx "SpringChainModel" "position" "I" ∈ ev_ws) (hd : decode M.2.1 pc = .ok (.getfield idx, 3)) (k0 : ev_V G l M J (pc + 3) L (.int (μ.1 3) :: st) (mo G c μ h) k n) : ev_V G l M J pc L (.ref (c) :: st) (mo G c μ h) k n := e_getf (C := RX7) (T := TX7) (N := 18) (ci := 7) 4 inX7 rfl (mo_at G c μ h 0 (by decide)) (by decide) hw rfl hd k0
theorem mo_p4 {v : Int32} (hw : Cond.fieldLink M.1.cls idx "SpringChainModel" "position" "I" ∈ ev_ws) (hd : decode M.2.1 pc = .ok (.putfield idx, 3)) (k0 : ev_V G l M J (pc + 3) L st (mo G c (ms_I μ 3 v) h) k n) : ev_V G l M J pc L (.int v :: .ref (c) :: st) (mo G c μ h) k n :=
  e_putf (Cn := RX7) (T := TX7) (N := 18) (ci := 7) 4 tyX7 tyX7_ok nmX7 inX7 rfl (mo_at G c μ h 0 (by decide)) (by decide) hw (Or.inl rfl) (tyX7_ok 4 (by decide)) rfl rfl (Nat.le_of_ble_eq_true rfl) hd (ev_as (mo_put G c μ (ms_I μ 3 v) h 0 (by decide) _ rfl (mo_oth rfl)) k0)
theorem mo_g5 (hw : Cond.fieldLink M.1.cls idx "SpringChainModel" "error" "I" ∈ ev_ws) (hd : decode M.2.1 pc = .ok (.getfield idx, 3)) (k0 : ev_V G l M J (pc + 3) L (.int (μ.1 4) :: st) (mo G c μ h) k n) : ev_V G l M J pc L (.ref (c) :: st) (mo G c μ h) k n := e_getf (C := RX7) (T := TX7) (N := 18) (ci := 7) 5 inX7 rfl (mo_at G c μ h 0 (by decide)) (by decide) hw rfl hd k0
theorem mo_p5 {v : Int32} (hw : Cond.fieldLink M.1.cls idx "SpringChainModel" "error" "I" ∈ ev_ws) (hd : decode M.2.1 pc = .ok (.putfield idx, 3)) (k0 : ev_V G l M J (pc + 3) L st (mo G c (ms_I μ 4 v) h) k n) : ev_V G l M J pc L (.int v :: .ref (c) :: st) (mo G c μ h) k n :=
  e_putf (Cn := RX7) (T := TX7) (N := 18) (ci := 7) 5 tyX7 tyX7_ok nmX7 inX7 rfl (mo_at G c μ h 0 (by decide)) (by decide) hw (Or.inl rfl) (tyX7_ok 5 (by decide)) rfl rfl (Nat.le_of_ble_eq_true rfl) hd (ev_as (mo_put G c μ (ms_I μ 4 v) h 0 (by decide) _ rfl (mo_oth rfl)) k0)
theorem mo_g6 (hw : Cond.fieldLink M.1.cls idx "SpringChainModel" "errorAt" "I" ∈ ev_ws) (hd : decode M.2.1 pc = .ok (.getfield idx, 3)) (k0 : ev_V G l M J (pc + 3) L (.int (μ.1 5) :: st) (mo G c μ h) k n) : ev_V G l M J pc L (.ref (c) :: st) (mo G c μ h) k n := e_getf (C := RX7) (T := TX7) (N := 18) (ci := 7) 6 inX7 rfl (mo_at G c μ h 0 (by decide)) (by decide) hw rfl hd k0
theorem mo_p6 {v : Int32} (hw : Cond.fieldLink M.1.cls idx "SpringChainModel" "errorAt" "I" ∈ ev_ws) (hd : decode M.2.1 pc = .ok (.putfield idx, 3)) (k0 : ev_V G l M J (pc + 3) L st (mo G c (ms_I μ 5 v) h) k n) : ev_V G l M J pc L (.int v :: .ref (c) :: st) (mo G c μ h) k n :=
  e_putf (Cn := RX7) (T := TX7) (N := 18) (ci := 7) 6 tyX7 tyX7_ok nmX7 inX7 rfl (mo_at G c μ h 0 (by decide)) (by decide) hw (Or.inl rfl) (tyX7_ok 6 (by decide)) rfl rfl (Nat.le_of_ble_eq_true rfl) hd (ev_as (mo_put G c μ (ms_I μ 5 v) h 0 (by decide) _ rfl (mo_oth rfl)) k0)
theorem mo_g7 (hw : Cond.fieldLink M.1.cls idx "SpringChainModel" "errorOffset" "I" ∈ ev_ws) (hd : decode M.2.1 pc = .ok (.getfield idx, 3)) (k0 : ev_V G l M J (pc + 3) L (.int (μ.1 6) :: st) (mo G c μ h) k n) : ev_V G l M J pc L (.ref (c) :: st) (mo G c μ h) k n := e_getf (C := RX7) (T := TX7) (N := 18) (ci := 7) 7 inX7 rfl (mo_at G c μ h 0 (by decide)) (by decide) hw rfl hd k0
theorem mo_p7 {v : Int32} (hw : Cond.fieldLink M.1.cls idx "SpringChainModel" "errorOffset" "I" ∈ ev_ws) (hd : decode M.2.1 pc = .ok (.putfield idx, 3)) (k0 : ev_V G l M J (pc + 3) L st (mo G c (ms_I μ 6 v) h) k n) : ev_V G l M J pc L (.int v :: .ref (c) :: st) (mo G c μ h) k n :=
  e_putf (Cn := RX7) (T := TX7) (N := 18) (ci := 7) 7 tyX7 tyX7_ok nmX7 inX7 rfl (mo_at G c μ h 0 (by decide)) (by decide) hw (Or.inl rfl) (tyX7_ok 7 (by decide)) rfl rfl (Nat.le_of_ble_eq_true rfl) hd (ev_as (mo_put G c μ (ms_I μ 6 v) h 0 (by decide) _ rfl (mo_oth rfl)) k0)
theorem mo_g8 (hw : Cond.fieldLink M.1.cls idx "SpringChainModel" "data" "[J" ∈ ev_ws) (hd : decode M.2.1 pc = .ok (.getfield idx, 3)) (k0 : ev_V G l M J (pc + 3) L (.ref (c + 2) :: st) (mo G c μ h) k n) : ev_V G l M J pc L (.ref (c) :: st) (mo G c μ h) k n := e_getf (C := RX7) (T := TX7) (N := 18) (ci := 7) 8 inX7 rfl (mo_at G c μ h 0 (by decide)) (by decide) hw rfl hd k0
theorem mo_g9 (hw : Cond.fieldLink M.1.cls idx "SpringChainModel" "draft" "[J" ∈ ev_ws) (hd : decode M.2.1 pc = .ok (.getfield idx, 3)) (k0 : ev_V G l M J (pc + 3) L (.ref (c + 3) :: st) (mo G c μ h) k n) : ev_V G l M J pc L (.ref (c) :: st) (mo G c μ h) k n := e_getf (C := RX7) (T := TX7) (N := 18) (ci := 7) 9 inX7 rfl (mo_at G c μ h 0 (by decide)) (by decide) hw rfl hd k0
theorem mo_g10 (hw : Cond.fieldLink M.1.cls idx "SpringChainModel" "aside" "[J" ∈ ev_ws) (hd : decode M.2.1 pc = .ok (.getfield idx, 3)) (k0 : ev_V G l M J (pc + 3) L (.ref (c + 4) :: st) (mo G c μ h) k n) : ev_V G l M J pc L (.ref (c) :: st) (mo G c μ h) k n := e_getf (C := RX7) (T := TX7) (N := 18) (ci := 7) 10 inX7 rfl (mo_at G c μ h 0 (by decide)) (by decide) hw rfl hd k0
theorem mo_g11 (hw : Cond.fieldLink M.1.cls idx "SpringChainModel" "history" "[[J" ∈ ev_ws) (hd : decode M.2.1 pc = .ok (.getfield idx, 3)) (k0 : ev_V G l M J (pc + 3) L (.ref (c + 5) :: st) (mo G c μ h) k n) : ev_V G l M J pc L (.ref (c) :: st) (mo G c μ h) k n := e_getf (C := RX7) (T := TX7) (N := 18) (ci := 7) 11 inX7 rfl (mo_at G c μ h 0 (by decide)) (by decide) hw rfl hd k0
theorem mo_g12 (hw : Cond.fieldLink M.1.cls idx "SpringChainModel" "undoDepth" "I" ∈ ev_ws) (hd : decode M.2.1 pc = .ok (.getfield idx, 3)) (k0 : ev_V G l M J (pc + 3) L (.int (μ.1 7) :: st) (mo G c μ h) k n) : ev_V G l M J pc L (.ref (c) :: st) (mo G c μ h) k n := e_getf (C := RX7) (T := TX7) (N := 18) (ci := 7) 12 inX7 rfl (mo_at G c μ h 0 (by decide)) (by decide) hw rfl hd k0
theorem mo_p12 {v : Int32} (hw : Cond.fieldLink M.1.cls idx "SpringChainModel" "undoDepth" "I" ∈ ev_ws) (hd : decode M.2.1 pc = .ok (.putfield idx, 3)) (k0 : ev_V G l M J (pc + 3) L st (mo G c (ms_I μ 7 v) h) k n) : ev_V G l M J pc L (.int v :: .ref (c) :: st) (mo G c μ h) k n :=
  e_putf (Cn := RX7) (T := TX7) (N := 18) (ci := 7) 12 tyX7 tyX7_ok nmX7 inX7 rfl (mo_at G c μ h 0 (by decide)) (by decide) hw (Or.inl rfl) (tyX7_ok 12 (by decide)) rfl rfl (Nat.le_of_ble_eq_true rfl) hd (ev_as (mo_put G c μ (ms_I μ 7 v) h 0 (by decide) _ rfl (mo_oth rfl)) k0)
theorem mo_g13 (hw : Cond.fieldLink M.1.cls idx "SpringChainModel" "numberStart" "I" ∈ ev_ws) (hd : decode M.2.1 pc = .ok (.getfield idx, 3)) (k0 : ev_V G l M J (pc + 3) L (.int (μ.1 8) :: st) (mo G c μ h) k n) : ev_V G l M J pc L (.ref (c) :: st) (mo G c μ h) k n := e_getf (C := RX7) (T := TX7) (N := 18) (ci := 7) 13 inX7 rfl (mo_at G c μ h 0 (by decide)) (by decide) hw rfl hd k0
theorem mo_p13 {v : Int32} (hw : Cond.fieldLink M.1.cls idx "SpringChainModel" "numberStart" "I" ∈ ev_ws) (hd : decode M.2.1 pc = .ok (.putfield idx, 3)) (k0 : ev_V G l M J (pc + 3) L st (mo G c (ms_I μ 8 v) h) k n) : ev_V G l M J pc L (.int v :: .ref (c) :: st) (mo G c μ h) k n :=
  e_putf (Cn := RX7) (T := TX7) (N := 18) (ci := 7) 13 tyX7 tyX7_ok nmX7 inX7 rfl (mo_at G c μ h 0 (by decide)) (by decide) hw (Or.inl rfl) (tyX7_ok 13 (by decide)) rfl rfl (Nat.le_of_ble_eq_true rfl) hd (ev_as (mo_put G c μ (ms_I μ 8 v) h 0 (by decide) _ rfl (mo_oth rfl)) k0)
theorem mo_g14 (hw : Cond.fieldLink M.1.cls idx "SpringChainModel" "plucked" "I" ∈ ev_ws) (hd : decode M.2.1 pc = .ok (.getfield idx, 3)) (k0 : ev_V G l M J (pc + 3) L (.int (μ.1 9) :: st) (mo G c μ h) k n) : ev_V G l M J pc L (.ref (c) :: st) (mo G c μ h) k n := e_getf (C := RX7) (T := TX7) (N := 18) (ci := 7) 14 inX7 rfl (mo_at G c μ h 0 (by decide)) (by decide) hw rfl hd k0
theorem mo_p14 {v : Int32} (hw : Cond.fieldLink M.1.cls idx "SpringChainModel" "plucked" "I" ∈ ev_ws) (hd : decode M.2.1 pc = .ok (.putfield idx, 3)) (k0 : ev_V G l M J (pc + 3) L st (mo G c (ms_I μ 9 v) h) k n) : ev_V G l M J pc L (.int v :: .ref (c) :: st) (mo G c μ h) k n :=
  e_putf (Cn := RX7) (T := TX7) (N := 18) (ci := 7) 14 tyX7 tyX7_ok nmX7 inX7 rfl (mo_at G c μ h 0 (by decide)) (by decide) hw (Or.inl rfl) (tyX7_ok 14 (by decide)) rfl rfl (Nat.le_of_ble_eq_true rfl) hd (ev_as (mo_put G c μ (ms_I μ 9 v) h 0 (by decide) _ rfl (mo_oth rfl)) k0)
theorem mo_g15 (hw : Cond.fieldLink M.1.cls idx "SpringChainModel" "struck" "I" ∈ ev_ws) (hd : decode M.2.1 pc = .ok (.getfield idx, 3)) (k0 : ev_V G l M J (pc + 3) L (.int (μ.1 10) :: st) (mo G c μ h) k n) : ev_V G l M J pc L (.ref (c) :: st) (mo G c μ h) k n := e_getf (C := RX7) (T := TX7) (N := 18) (ci := 7) 15 inX7 rfl (mo_at G c μ h 0 (by decide)) (by decide) hw rfl hd k0
theorem mo_p15 {v : Int32} (hw : Cond.fieldLink M.1.cls idx "SpringChainModel" "struck" "I" ∈ ev_ws) (hd : decode M.2.1 pc = .ok (.putfield idx, 3)) (k0 : ev_V G l M J (pc + 3) L st (mo G c (ms_I μ 10 v) h) k n) : ev_V G l M J pc L (.int v :: .ref (c) :: st) (mo G c μ h) k n :=
  e_putf (Cn := RX7) (T := TX7) (N := 18) (ci := 7) 15 tyX7 tyX7_ok nmX7 inX7 rfl (mo_at G c μ h 0 (by decide)) (by decide) hw (Or.inl rfl) (tyX7_ok 15 (by decide)) rfl rfl (Nat.le_of_ble_eq_true rfl) hd (ev_as (mo_put G c μ (ms_I μ 10 v) h 0 (by decide) _ rfl (mo_oth rfl)) k0)
theorem mo_g16 (hw : Cond.fieldLink M.1.cls idx "SpringChainModel" "hasDamp" "Z" ∈ ev_ws) (hd : decode M.2.1 pc = .ok (.getfield idx, 3)) (k0 : ev_V G l M J (pc + 3) L (.int (μ.1 11) :: st) (mo G c μ h) k n) : ev_V G l M J pc L (.ref (c) :: st) (mo G c μ h) k n := e_getf (C := RX7) (T := TX7) (N := 18) (ci := 7) 16 inX7 rfl (mo_at G c μ h 0 (by decide)) (by decide) hw rfl hd k0
theorem mo_p16_0 (hw : Cond.fieldLink M.1.cls idx "SpringChainModel" "hasDamp" "Z" ∈ ev_ws) (hd : decode M.2.1 pc = .ok (.putfield idx, 3)) (k0 : ev_V G l M J (pc + 3) L st (mo G c (ms_I μ 11 0) h) k n) : ev_V G l M J pc L (.int 0 :: .ref (c) :: st) (mo G c μ h) k n :=
  e_putf (Cn := RX7) (T := TX7) (N := 18) (ci := 7) 16 tyX7 tyX7_ok nmX7 inX7 rfl (mo_at G c μ h 0 (by decide)) (by decide) hw (Or.inl rfl) (tyX7_ok 16 (by decide)) rfl rfl (Nat.le_of_ble_eq_true rfl) hd (ev_as (mo_put G c μ (ms_I μ 11 0) h 0 (by decide) _ rfl (mo_oth rfl)) k0)
theorem mo_p16_1 (hw : Cond.fieldLink M.1.cls idx "SpringChainModel" "hasDamp" "Z" ∈ ev_ws) (hd : decode M.2.1 pc = .ok (.putfield idx, 3)) (k0 : ev_V G l M J (pc + 3) L st (mo G c (ms_I μ 11 1) h) k n) : ev_V G l M J pc L (.int 1 :: .ref (c) :: st) (mo G c μ h) k n :=
  e_putf (Cn := RX7) (T := TX7) (N := 18) (ci := 7) 16 tyX7 tyX7_ok nmX7 inX7 rfl (mo_at G c μ h 0 (by decide)) (by decide) hw (Or.inl rfl) (tyX7_ok 16 (by decide)) rfl rfl (Nat.le_of_ble_eq_true rfl) hd (ev_as (mo_put G c μ (ms_I μ 11 1) h 0 (by decide) _ rfl (mo_oth rfl)) k0)
theorem mo_g17 (hw : Cond.fieldLink M.1.cls idx "SpringChainModel" "pulls" "[J" ∈ ev_ws) (hd : decode M.2.1 pc = .ok (.getfield idx, 3)) (k0 : ev_V G l M J (pc + 3) L (.ref (c + 14) :: st) (mo G c μ h) k n) : ev_V G l M J pc L (.ref (c) :: st) (mo G c μ h) k n := e_getf (C := RX7) (T := TX7) (N := 18) (ci := 7) 17 inX7 rfl (mo_at G c μ h 0 (by decide)) (by decide) hw rfl hd k0
theorem mo_l1 {i : Int32} (h0 : 0 ≤ i.toInt) (h1 : i.toInt < 500) (hd : decode M.2.1 pc = .ok (.iaload, 1)) (k0 : ev_V G l M J (pc + 1) L (.int (μ.2.2 i.toInt.toNat) :: st) (mo G c μ h) k n) : ev_V G l M J pc L (.int i :: .ref (c + 1) :: st) (mo G c μ h) k n := e_iald (N := 500) (mo_at G c μ h 1 (by decide)) h0 h1 hd k0
theorem mo_s1 {i x : Int32} (h0 : 0 ≤ i.toInt) (h1 : i.toInt < 500) (hd : decode M.2.1 pc = .ok (.iastore, 1)) (k0 : ev_V G l M J (pc + 1) L st (mo G c (ms_B μ (ev_u μ.2.2 i.toInt.toNat x)) h) k n) : ev_V G l M J pc L (.int x :: .int i :: .ref (c + 1) :: st) (mo G c μ h) k n := by
  refine e_iast (N := 500) (mo_at G c μ h 1 (by decide)) h0 h1 hd (ev_as (mo_put G c μ (ms_B μ (ev_u μ.2.2 i.toInt.toNat x)) h 1 (by decide) _ rfl ?_) k0)
  intro j hj hne
  unfold mo_cell
  by_cases j0 : j = 0
  · rw [if_pos j0, if_pos j0]; rfl
  · rw [if_neg j0, if_neg j0, if_neg hne, if_neg hne]; rfl
theorem mo_lr {i : Int32} (q : Nat) (hq : q < 11) (h0 : 0 ≤ i.toInt) (h1 : i.toInt < 199) (hd : decode M.2.1 pc = .ok (.laload, 1)) (k0 : ev_V G l M J (pc + 1) L (.long (μ.2.1 q i.toInt.toNat) :: st) (mo G c μ h) k n) : ev_V G l M J pc L (.int i :: .ref (mr c q) :: st) (mo G c μ h) k n := e_lald (N := 199) (mo_row G c μ h q hq) h0 h1 hd k0
theorem mo_sr {i : Int32} {x : Int64} (q : Nat) (hq : q < 11) (h0 : 0 ≤ i.toInt) (h1 : i.toInt < 199) (hd : decode M.2.1 pc = .ok (.lastore, 1)) (k0 : ev_V G l M J (pc + 1) L st (mo G c (ms_L μ q (ev_u (μ.2.1 q) i.toInt.toNat x)) h) k n) : ev_V G l M J pc L (.long x :: .int i :: .ref (mr c q) :: st) (mo G c μ h) k n := e_last (N := 199) (mo_row G c μ h q hq) h0 h1 hd (ev_as (mo_putr G c μ h q _ hq) k0)
theorem mo_l2 {i : Int32} (h0 : 0 ≤ i.toInt) (h1 : i.toInt < 199) (hd : decode M.2.1 pc = .ok (.laload, 1)) (k0 : ev_V G l M J (pc + 1) L (.long (μ.2.1 0 i.toInt.toNat) :: st) (mo G c μ h) k n) : ev_V G l M J pc L (.int i :: .ref (c + 2) :: st) (mo G c μ h) k n := mo_lr 0 (by decide) h0 h1 hd k0
theorem mo_s2 {i : Int32} {x : Int64} (h0 : 0 ≤ i.toInt) (h1 : i.toInt < 199) (hd : decode M.2.1 pc = .ok (.lastore, 1)) (k0 : ev_V G l M J (pc + 1) L st (mo G c (ms_L μ 0 (ev_u (μ.2.1 0) i.toInt.toNat x)) h) k n) : ev_V G l M J pc L (.long x :: .int i :: .ref (c + 2) :: st) (mo G c μ h) k n := mo_sr 0 (by decide) h0 h1 hd k0
theorem mo_l3 {i : Int32} (h0 : 0 ≤ i.toInt) (h1 : i.toInt < 199) (hd : decode M.2.1 pc = .ok (.laload, 1)) (k0 : ev_V G l M J (pc + 1) L (.long (μ.2.1 1 i.toInt.toNat) :: st) (mo G c μ h) k n) : ev_V G l M J pc L (.int i :: .ref (c + 3) :: st) (mo G c μ h) k n := mo_lr 1 (by decide) h0 h1 hd k0
theorem mo_s3 {i : Int32} {x : Int64} (h0 : 0 ≤ i.toInt) (h1 : i.toInt < 199) (hd : decode M.2.1 pc = .ok (.lastore, 1)) (k0 : ev_V G l M J (pc + 1) L st (mo G c (ms_L μ 1 (ev_u (μ.2.1 1) i.toInt.toNat x)) h) k n) : ev_V G l M J pc L (.long x :: .int i :: .ref (c + 3) :: st) (mo G c μ h) k n := mo_sr 1 (by decide) h0 h1 hd k0
theorem mo_l4 {i : Int32} (h0 : 0 ≤ i.toInt) (h1 : i.toInt < 199) (hd : decode M.2.1 pc = .ok (.laload, 1)) (k0 : ev_V G l M J (pc + 1) L (.long (μ.2.1 2 i.toInt.toNat) :: st) (mo G c μ h) k n) : ev_V G l M J pc L (.int i :: .ref (c + 4) :: st) (mo G c μ h) k n := mo_lr 2 (by decide) h0 h1 hd k0
theorem mo_s4 {i : Int32} {x : Int64} (h0 : 0 ≤ i.toInt) (h1 : i.toInt < 199) (hd : decode M.2.1 pc = .ok (.lastore, 1)) (k0 : ev_V G l M J (pc + 1) L st (mo G c (ms_L μ 2 (ev_u (μ.2.1 2) i.toInt.toNat x)) h) k n) : ev_V G l M J pc L (.long x :: .int i :: .ref (c + 4) :: st) (mo G c μ h) k n := mo_sr 2 (by decide) h0 h1 hd k0
theorem mo_l14 {i : Int32} (h0 : 0 ≤ i.toInt) (h1 : i.toInt < 13) (hd : decode M.2.1 pc = .ok (.laload, 1)) (k0 : ev_V G l M J (pc + 1) L (.long (μ.2.1 11 i.toInt.toNat) :: st) (mo G c μ h) k n) : ev_V G l M J pc L (.int i :: .ref (c + 14) :: st) (mo G c μ h) k n := e_lald (N := 13) (mo_at G c μ h 14 (by decide)) h0 h1 hd k0
theorem mo_s14 {i : Int32} {x : Int64} (h0 : 0 ≤ i.toInt) (h1 : i.toInt < 13) (hd : decode M.2.1 pc = .ok (.lastore, 1)) (k0 : ev_V G l M J (pc + 1) L st (mo G c (ms_L μ 11 (ev_u (μ.2.1 11) i.toInt.toNat x)) h) k n) : ev_V G l M J pc L (.long x :: .int i :: .ref (c + 14) :: st) (mo G c μ h) k n := by
  refine e_last (N := 13) (mo_at G c μ h 14 (by decide)) h0 h1 hd (ev_as (mo_put G c μ (ms_L μ 11 (ev_u (μ.2.1 11) i.toInt.toNat x)) h 14 (by decide) _ rfl ?_) k0)
  intro j hj hne
  unfold mo_cell
  by_cases j0 : j = 0
  · rw [if_pos j0, if_pos j0]; rfl
  · rw [if_neg j0, if_neg j0]
    by_cases j1 : j = 1
    · rw [if_pos j1, if_pos j1]; rfl
    · rw [if_neg j1, if_neg j1]
      by_cases j5 : j = 5
      · rw [if_pos j5, if_pos j5]
      · rw [if_neg j5, if_neg j5, if_neg hne, if_neg hne]
        show (Sum.inl (G.2.1 1, 199, .inr (.inl (ev_u μ.2.1 11 _ (if j < 5 then j - 2 else j - 3)))) : va_E) = _
        rw [ev_u_ne]
        split <;> omega
theorem mo_l5 {i : Int32} (h0 : 0 ≤ i.toInt) (h1 : i.toInt < 8) (hd : decode M.2.1 pc = .ok (.aaload, 1)) (k0 : ev_V G l M J (pc + 1) L (.ref (mr c (3 + i.toInt.toNat)) :: st) (mo G c μ h) k n) : ev_V G l M J pc L (.int i :: .ref (c + 5) :: st) (mo G c μ h) k n := by
  have e : Value.ref (mr c (3 + i.toInt.toNat)) = va_rf ((fun k => some (c + 6 + k)) i.toInt.toNat) := by show _ = Value.ref (c + 6 + i.toInt.toNat); unfold mr; rw [if_neg (by omega), show c + 3 + (3 + i.toInt.toNat) = c + 6 + i.toInt.toNat by omega]
  rw [e] at k0
  exact e_aald (N := 8) (t0 := 5) (mo_at G c μ h 5 (by decide)) rfl rfl h0 h1 hd k0
end MOR
