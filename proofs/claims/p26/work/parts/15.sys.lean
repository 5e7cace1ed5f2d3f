/-! the cells of a SpringChain: itself, its buffer, its reader (with two rows), its chain, its draft, its history (with the kept chains) -/
/-- buffered 0, errorAt 1; the history's count 2, next 3; the reader's errorCode 4, errorAt 5, length 6, position 7, number 8, isDampTold 9; rows: buffer 0, plucked 1, struck 2; text 0, target 1; the chain 0, the draft 1, the kept ones from 2 on -/
abbrev SS : Type := (Nat → Int32) × (Nat → Nat → Int32) × (Nat → Option Nat) × (Nat → CS)
def ss_I (S : SS) (k : Nat) (v : Int32) : SS := (ev_u S.1 k v, S.2)
def ss_R (S : SS) (k : Nat) (f : Nat → Int32) : SS := (S.1, ev_u S.2.1 k f, S.2.2)
def ss_T (S : SS) (k : Nat) (o : Option Nat) : SS := (S.1, S.2.1, ev_u S.2.2.1 k o, S.2.2.2)
def ss_C (S : SS) (i : Nat) (τ : CS) : SS := (S.1, S.2.1, S.2.2.1, ev_u S.2.2.2 i τ)
def sc (b i : Nat) : Nat := if i = 0 then b + 5 else if i = 1 then b + 20 else b + 37 + 15 * (i - 2)
def sy_cell (G : ev_G) (b : Nat) (S : SS) (j : Nat) : va_E :=
  if j = 0 then .inr (6, [.ref (b + 1), .ref (b + 2), .ref (b + 5), .ref (b + 20), .ref (b + 35), .int (S.1 0), .int (S.1 1)]) else if j = 1 then .inl (G.2.1 2, 500, .inl (S.2.1 0)) else if j = 2 then .inr (5, [.int (S.1 4), .int (S.1 5), va_rf (S.2.2.1 0), .int (S.1 6), .int (S.1 7), .int (S.1 8), va_rf (S.2.2.1 1), .int (S.1 9), .ref (b + 3), .ref (b + 4)])
  else if j = 3 then .inl (G.2.1 3, 12, .inl (S.2.1 1)) else if j = 4 then .inl (G.2.1 3, 12, .inl (S.2.1 2))
  else if j < 20 then ch_cell G (b + 5) (S.2.2.2 0) (j - 5) else if j < 35 then ch_cell G (b + 20) (S.2.2.2 1) (j - 20)
  else if j = 35 then .inr (1, [.int (S.1 2), .int (S.1 3), .ref (b + 36)]) else if j = 36 then .inl (G.2.1 4, 8, .inr (.inr (.inr (.inr (fun k => some (b + 37 + 15 * k))))))
  else ch_cell G (b + 37 + 15 * ((j - 37) / 15)) (S.2.2.2 (2 + (j - 37) / 15)) ((j - 37) % 15)
def sy (G : ev_G) (b : Nat) (S : SS) (h : ev_H) : ev_H := (fun a => if b ≤ a ∧ a < b + 157 then some (sy_cell G b S (a - b)) else h.1 a, h.2)
theorem sy_at (G : ev_G) (b : Nat) (S : SS) (h : ev_H) (j : Nat) (hj : j < 157) : (sy G b S h).1 (b + j) = some (sy_cell G b S j) := by
  show (if b ≤ b + j ∧ b + j < b + 157 then some (sy_cell G b S (b + j - b)) else h.1 (b + j)) = _
  rw [if_pos ⟨by omega, by omega⟩, show b + j - b = j by omega]
theorem sy_put (G : ev_G) (b : Nat) (S S' : SS) (h : ev_H) (j : Nat) (hj : j < 157) (e : va_E) (he : sy_cell G b S' j = e) (ho : ∀ i, i < 157 → i ≠ j → sy_cell G b S' i = sy_cell G b S i) : ev_put (sy G b S h) (b + j) e = sy G b S' h := by
  refine Prod.ext (funext fun a => ?_) rfl
  show (if a = b + j then some e else if b ≤ a ∧ a < b + 157 then some (sy_cell G b S (a - b)) else h.1 a) = (if b ≤ a ∧ a < b + 157 then some (sy_cell G b S' (a - b)) else h.1 a)
  by_cases hb : a = b + j
  · subst hb
    rw [if_pos rfl, if_pos ⟨by omega, by omega⟩, show b + j - b = j by omega, he]
  · rw [if_neg hb]
    by_cases hi : b ≤ a ∧ a < b + 157
    · rw [if_pos hi, if_pos hi, ho (a - b) (by omega) (by omega)]
    · rw [if_neg hi, if_neg hi]
theorem sy_cell_ch (G : ev_G) (b : Nat) (S : SS) (i t : Nat) (hi : i < 10) (ht : t < 15) : sy_cell G b S (sc b i - b + t) = ch_cell G (sc b i) (S.2.2.2 i) t := by
  unfold sc
  by_cases h0 : i = 0
  · subst h0
    rw [if_pos rfl, show b + 5 - b + t = 5 + t by omega]
    unfold sy_cell
    rw [if_neg (by omega), if_neg (by omega), if_neg (by omega), if_neg (by omega), if_neg (by omega), if_pos (by omega), show 5 + t - 5 = t by omega]
  · by_cases h1 : i = 1
    · subst h1
      rw [if_neg h0, if_pos rfl, show b + 20 - b + t = 20 + t by omega]
      unfold sy_cell
      rw [if_neg (by omega), if_neg (by omega), if_neg (by omega), if_neg (by omega), if_neg (by omega), if_neg (by omega), if_pos (by omega), show 20 + t - 20 = t by omega]
    · rw [if_neg h0, if_neg h1, show b + 37 + 15 * (i - 2) - b + t = 37 + 15 * (i - 2) + t by omega]
      unfold sy_cell
      rw [if_neg (by omega), if_neg (by omega), if_neg (by omega), if_neg (by omega), if_neg (by omega), if_neg (by omega), if_neg (by omega), if_neg (by omega), if_neg (by omega),
        show (37 + 15 * (i - 2) + t - 37) / 15 = i - 2 by omega, show (37 + 15 * (i - 2) + t - 37) % 15 = t by omega, show 2 + (i - 2) = i by omega]
theorem sy_cell_of (G : ev_G) (b : Nat) (S : SS) (i : Nat) (τ : CS) (j : Nat) (hi : i < 10) (hj : j < 157) (hn : ¬ (sc b i ≤ b + j ∧ b + j < sc b i + 15)) : sy_cell G b (ss_C S i τ) j = sy_cell G b S j := by
  have e : ∀ k, k ≠ i → (ss_C S i τ).2.2.2 k = S.2.2.2 k := fun k hk => ev_u_ne _ _ hk
  unfold sc at hn
  unfold sy_cell
  by_cases a0 : j < 5
  · rcases (show j = 0 ∨ j = 1 ∨ j = 2 ∨ j = 3 ∨ j = 4 by omega) with rfl | rfl | rfl | rfl | rfl <;> rfl
  · rw [if_neg (by omega), if_neg (by omega), if_neg (by omega), if_neg (by omega), if_neg (by omega), if_neg (by omega : ¬ j = 0), if_neg (by omega : ¬ j = 1), if_neg (by omega : ¬ j = 2), if_neg (by omega : ¬ j = 3), if_neg (by omega : ¬ j = 4)]
    by_cases a1 : j < 20
    · rw [if_pos a1, if_pos a1, e 0 (fun q => by subst q; rw [if_pos rfl] at hn; omega)]
    · rw [if_neg a1, if_neg a1]
      by_cases a2 : j < 35
      · rw [if_pos a2, if_pos a2, e 1 (fun q => by subst q; rw [if_neg (by decide), if_pos rfl] at hn; omega)]
      · rw [if_neg a2, if_neg a2]
        by_cases a3 : j = 35
        · rw [if_pos a3, if_pos a3]; rfl
        · rw [if_neg a3, if_neg a3]
          by_cases a4 : j = 36
          · rw [if_pos a4, if_pos a4]
          · rw [if_neg a4, if_neg a4, e _ (fun q => by
              rw [if_neg (by omega), if_neg (by omega)] at hn
              omega)]
theorem sc_ge (b i : Nat) (hi : i < 10) : b + 5 ≤ sc b i ∧ sc b i + 15 ≤ b + 157 := by
  unfold sc
  by_cases h0 : i = 0
  · rw [if_pos h0]; omega
  · by_cases h1 : i = 1
    · rw [if_neg h0, if_pos h1]; omega
    · rw [if_neg h0, if_neg h1]; omega
theorem sc_apart (b i j : Nat) (hi : i < 10) (hj : j < 10) (hij : i ≠ j) : sc b i + 15 ≤ sc b j ∨ sc b j + 15 ≤ sc b i := by
  unfold sc
  repeat' split
  all_goals omega
/-- a chain of the system, changed -/
theorem sy_chset (G : ev_G) (b : Nat) (S : SS) (h : ev_H) (i : Nat) (τ : CS) (hi : i < 10) : ch G (sc b i) τ (sy G b S h) = sy G b (ss_C S i τ) h := by
  refine Prod.ext (funext fun a => ?_) rfl
  have hge := sc_ge b i hi
  show (if sc b i ≤ a ∧ a < sc b i + 15 then some (ch_cell G (sc b i) τ (a - sc b i)) else if b ≤ a ∧ a < b + 157 then some (sy_cell G b S (a - b)) else h.1 a) = (if b ≤ a ∧ a < b + 157 then some (sy_cell G b (ss_C S i τ) (a - b)) else h.1 a)
  by_cases q : sc b i ≤ a ∧ a < sc b i + 15
  · rw [if_pos q, if_pos (by omega)]
    have := sy_cell_ch G b (ss_C S i τ) i (a - sc b i) hi (by omega)
    rw [show sc b i - b + (a - sc b i) = a - b by omega] at this
    rw [this]
    show _ = some (ch_cell G (sc b i) (ev_u S.2.2.2 i τ i) (a - sc b i))
    rw [ev_u_self]
  · rw [if_neg q]
    by_cases r : b ≤ a ∧ a < b + 157
    · rw [if_pos r, if_pos r, sy_cell_of G b S i τ (a - b) hi (by omega) (by rw [show b + (a - b) = a by omega]; exact q)]
    · rw [if_neg r, if_neg r]
theorem ss_C_self (S : SS) (i : Nat) : ss_C S i (S.2.2.2 i) = S := by
  refine Prod.ext rfl (Prod.ext rfl (Prod.ext rfl (funext fun j => ?_)))
  by_cases h : j = i
  · subst h; simp [ss_C, ev_u]
  · simp [ss_C, ev_u, h]
theorem ss_C_C (S : SS) (i : Nat) (τ υ : CS) : ss_C (ss_C S i τ) i υ = ss_C S i υ := by
  refine Prod.ext rfl (Prod.ext rfl (Prod.ext rfl (funext fun j => ?_)))
  by_cases h : j = i <;> simp [ss_C, ev_u, h]
/-- a chain of the system -/
theorem sy_as (G : ev_G) (b : Nat) (S : SS) (h : ev_H) (i : Nat) (hi : i < 10) : sy G b S h = ch G (sc b i) (S.2.2.2 i) (sy G b S h) := by rw [sy_chset G b S h i _ hi, ss_C_self]
/-- two chains of the system -/
theorem sy_as2 (G : ev_G) (b : Nat) (S : SS) (h : ev_H) (i j : Nat) (hi : i < 10) (hj : j < 10) : sy G b S h = ch G (sc b i) (S.2.2.2 i) (ch G (sc b j) (S.2.2.2 j) (sy G b S h)) := by rw [← sy_as G b S h j hj, ← sy_as G b S h i hi]
theorem sy_ch2 (G : ev_G) (b : Nat) (S : SS) (h : ev_H) (i j : Nat) (τ : CS) (hi : i < 10) (hj : j < 10) : ch G (sc b i) τ (ch G (sc b j) (S.2.2.2 j) (sy G b S h)) = sy G b (ss_C S i τ) h := by rw [← sy_as G b S h j hj, sy_chset G b S h i τ hi]
section SYR
variable {G : ev_G} {l : Launch} {M : ev_M} {J : ev_K} {pc k n b idx : Nat} {L : List (Option Value)} {st : List Value} {h : ev_H} {S : SS}
theorem sy_oth {S' : SS} {j : Nat} (h1 : ∀ i, i < 5 → i ≠ j → sy_cell G b S' i = sy_cell G b S i) (h2 : 35 ≠ j → sy_cell G b S' 35 = sy_cell G b S 35) (h3 : S'.2.2.2 = S.2.2.2) : ∀ i, i < 157 → i ≠ j → sy_cell G b S' i = sy_cell G b S i := by
  intro i hi hne
  by_cases a0 : i < 5
  · exact h1 i a0 hne
  · by_cases a1 : i = 35
    · subst a1; exact h2 hne
    · unfold sy_cell
      rw [if_neg (by omega), if_neg (by omega), if_neg (by omega), if_neg (by omega), if_neg (by omega), if_neg a1, if_neg (by omega : ¬ i = 0), if_neg (by omega : ¬ i = 1), if_neg (by omega : ¬ i = 2), if_neg (by omega : ¬ i = 3), if_neg (by omega : ¬ i = 4), if_neg a1, h3]
theorem sy_g6_0 (hw : Cond.fieldLink M.1.cls idx "SpringChain" "buffer" "[B" ∈ ev_ws) (hd : decode M.2.1 pc = .ok (.getfield idx, 3)) (k0 : ev_V G l M J (pc + 3) L (.ref (b + 1) :: st) (sy G b S h) k n) : ev_V G l M J pc L (.ref (b) :: st) (sy G b S h) k n := e_getf (C := RX6) (T := TX6) (N := 7) (ci := 6) 0 inX6 rfl (sy_at G b S h 0 (by decide)) (by decide) hw rfl hd k0
theorem sy_g6_1 (hw : Cond.fieldLink M.1.cls idx "SpringChain" "reader" "LSpringChain$SetupReader;" ∈ ev_ws) (hd : decode M.2.1 pc = .ok (.getfield idx, 3)) (k0 : ev_V G l M J (pc + 3) L (.ref (b + 2) :: st) (sy G b S h) k n) : ev_V G l M J pc L (.ref (b) :: st) (sy G b S h) k n := e_getf (C := RX6) (T := TX6) (N := 7) (ci := 6) 1 inX6 rfl (sy_at G b S h 0 (by decide)) (by decide) hw rfl hd k0
theorem sy_g6_2 (hw : Cond.fieldLink M.1.cls idx "SpringChain" "chain" "LSpringChain$Chain;" ∈ ev_ws) (hd : decode M.2.1 pc = .ok (.getfield idx, 3)) (k0 : ev_V G l M J (pc + 3) L (.ref (b + 5) :: st) (sy G b S h) k n) : ev_V G l M J pc L (.ref (b) :: st) (sy G b S h) k n := e_getf (C := RX6) (T := TX6) (N := 7) (ci := 6) 2 inX6 rfl (sy_at G b S h 0 (by decide)) (by decide) hw rfl hd k0
theorem sy_g6_3 (hw : Cond.fieldLink M.1.cls idx "SpringChain" "draft" "LSpringChain$Chain;" ∈ ev_ws) (hd : decode M.2.1 pc = .ok (.getfield idx, 3)) (k0 : ev_V G l M J (pc + 3) L (.ref (b + 20) :: st) (sy G b S h) k n) : ev_V G l M J pc L (.ref (b) :: st) (sy G b S h) k n := e_getf (C := RX6) (T := TX6) (N := 7) (ci := 6) 3 inX6 rfl (sy_at G b S h 0 (by decide)) (by decide) hw rfl hd k0
theorem sy_g6_4 (hw : Cond.fieldLink M.1.cls idx "SpringChain" "history" "LSpringChain$History;" ∈ ev_ws) (hd : decode M.2.1 pc = .ok (.getfield idx, 3)) (k0 : ev_V G l M J (pc + 3) L (.ref (b + 35) :: st) (sy G b S h) k n) : ev_V G l M J pc L (.ref (b) :: st) (sy G b S h) k n := e_getf (C := RX6) (T := TX6) (N := 7) (ci := 6) 4 inX6 rfl (sy_at G b S h 0 (by decide)) (by decide) hw rfl hd k0
theorem sy_g6_5 (hw : Cond.fieldLink M.1.cls idx "SpringChain" "buffered" "I" ∈ ev_ws) (hd : decode M.2.1 pc = .ok (.getfield idx, 3)) (k0 : ev_V G l M J (pc + 3) L (.int (S.1 0) :: st) (sy G b S h) k n) : ev_V G l M J pc L (.ref (b) :: st) (sy G b S h) k n := e_getf (C := RX6) (T := TX6) (N := 7) (ci := 6) 5 inX6 rfl (sy_at G b S h 0 (by decide)) (by decide) hw rfl hd k0
theorem sy_p6_5 {v : Int32} (hw : Cond.fieldLink M.1.cls idx "SpringChain" "buffered" "I" ∈ ev_ws) (hd : decode M.2.1 pc = .ok (.putfield idx, 3)) (k0 : ev_V G l M J (pc + 3) L st (sy G b (ss_I S 0 v) h) k n) : ev_V G l M J pc L (.int v :: .ref (b) :: st) (sy G b S h) k n :=
  e_putf (Cn := RX6) (T := TX6) (N := 7) (ci := 6) 5 tyX6 tyX6_ok nmX6 inX6 rfl (sy_at G b S h 0 (by decide)) (by decide) hw (Or.inl rfl) (tyX6_ok 5 (by decide)) rfl rfl (Nat.le_of_ble_eq_true rfl) hd (ev_as (sy_put G b S (ss_I S 0 v) h 0 (by decide) _ rfl (sy_oth (fun i hi hne => by rcases (show i = 0 ∨ i = 1 ∨ i = 2 ∨ i = 3 ∨ i = 4 by omega) with rfl | rfl | rfl | rfl | rfl <;> first | rfl | exact absurd rfl hne) (fun hne => by first | rfl | exact absurd rfl hne) rfl)) k0)
theorem sy_g6_6 (hw : Cond.fieldLink M.1.cls idx "SpringChain" "errorAt" "I" ∈ ev_ws) (hd : decode M.2.1 pc = .ok (.getfield idx, 3)) (k0 : ev_V G l M J (pc + 3) L (.int (S.1 1) :: st) (sy G b S h) k n) : ev_V G l M J pc L (.ref (b) :: st) (sy G b S h) k n := e_getf (C := RX6) (T := TX6) (N := 7) (ci := 6) 6 inX6 rfl (sy_at G b S h 0 (by decide)) (by decide) hw rfl hd k0
theorem sy_p6_6 {v : Int32} (hw : Cond.fieldLink M.1.cls idx "SpringChain" "errorAt" "I" ∈ ev_ws) (hd : decode M.2.1 pc = .ok (.putfield idx, 3)) (k0 : ev_V G l M J (pc + 3) L st (sy G b (ss_I S 1 v) h) k n) : ev_V G l M J pc L (.int v :: .ref (b) :: st) (sy G b S h) k n :=
  e_putf (Cn := RX6) (T := TX6) (N := 7) (ci := 6) 6 tyX6 tyX6_ok nmX6 inX6 rfl (sy_at G b S h 0 (by decide)) (by decide) hw (Or.inl rfl) (tyX6_ok 6 (by decide)) rfl rfl (Nat.le_of_ble_eq_true rfl) hd (ev_as (sy_put G b S (ss_I S 1 v) h 0 (by decide) _ rfl (sy_oth (fun i hi hne => by rcases (show i = 0 ∨ i = 1 ∨ i = 2 ∨ i = 3 ∨ i = 4 by omega) with rfl | rfl | rfl | rfl | rfl <;> first | rfl | exact absurd rfl hne) (fun hne => by first | rfl | exact absurd rfl hne) rfl)) k0)
theorem sy_g5_0 (hw : Cond.fieldLink M.1.cls idx "SpringChain$SetupReader" "errorCode" "I" ∈ ev_ws) (hd : decode M.2.1 pc = .ok (.getfield idx, 3)) (k0 : ev_V G l M J (pc + 3) L (.int (S.1 4) :: st) (sy G b S h) k n) : ev_V G l M J pc L (.ref (b + 2) :: st) (sy G b S h) k n := e_getf (C := RX5) (T := TX5) (N := 10) (ci := 5) 0 inX5 rfl (sy_at G b S h 2 (by decide)) (by decide) hw rfl hd k0
theorem sy_p5_0 {v : Int32} (hw : Cond.fieldLink M.1.cls idx "SpringChain$SetupReader" "errorCode" "I" ∈ ev_ws) (hd : decode M.2.1 pc = .ok (.putfield idx, 3)) (k0 : ev_V G l M J (pc + 3) L st (sy G b (ss_I S 4 v) h) k n) : ev_V G l M J pc L (.int v :: .ref (b + 2) :: st) (sy G b S h) k n :=
  e_putf (Cn := RX5) (T := TX5) (N := 10) (ci := 5) 0 tyX5 tyX5_ok nmX5 inX5 rfl (sy_at G b S h 2 (by decide)) (by decide) hw (Or.inl rfl) (tyX5_ok 0 (by decide)) rfl rfl (Nat.le_of_ble_eq_true rfl) hd (ev_as (sy_put G b S (ss_I S 4 v) h 2 (by decide) _ rfl (sy_oth (fun i hi hne => by rcases (show i = 0 ∨ i = 1 ∨ i = 2 ∨ i = 3 ∨ i = 4 by omega) with rfl | rfl | rfl | rfl | rfl <;> first | rfl | exact absurd rfl hne) (fun hne => by first | rfl | exact absurd rfl hne) rfl)) k0)
theorem sy_g5_1 (hw : Cond.fieldLink M.1.cls idx "SpringChain$SetupReader" "errorAt" "I" ∈ ev_ws) (hd : decode M.2.1 pc = .ok (.getfield idx, 3)) (k0 : ev_V G l M J (pc + 3) L (.int (S.1 5) :: st) (sy G b S h) k n) : ev_V G l M J pc L (.ref (b + 2) :: st) (sy G b S h) k n := e_getf (C := RX5) (T := TX5) (N := 10) (ci := 5) 1 inX5 rfl (sy_at G b S h 2 (by decide)) (by decide) hw rfl hd k0
theorem sy_p5_1 {v : Int32} (hw : Cond.fieldLink M.1.cls idx "SpringChain$SetupReader" "errorAt" "I" ∈ ev_ws) (hd : decode M.2.1 pc = .ok (.putfield idx, 3)) (k0 : ev_V G l M J (pc + 3) L st (sy G b (ss_I S 5 v) h) k n) : ev_V G l M J pc L (.int v :: .ref (b + 2) :: st) (sy G b S h) k n :=
  e_putf (Cn := RX5) (T := TX5) (N := 10) (ci := 5) 1 tyX5 tyX5_ok nmX5 inX5 rfl (sy_at G b S h 2 (by decide)) (by decide) hw (Or.inl rfl) (tyX5_ok 1 (by decide)) rfl rfl (Nat.le_of_ble_eq_true rfl) hd (ev_as (sy_put G b S (ss_I S 5 v) h 2 (by decide) _ rfl (sy_oth (fun i hi hne => by rcases (show i = 0 ∨ i = 1 ∨ i = 2 ∨ i = 3 ∨ i = 4 by omega) with rfl | rfl | rfl | rfl | rfl <;> first | rfl | exact absurd rfl hne) (fun hne => by first | rfl | exact absurd rfl hne) rfl)) k0)
theorem sy_g5_2 (hw : Cond.fieldLink M.1.cls idx "SpringChain$SetupReader" "text" "[B" ∈ ev_ws) (hd : decode M.2.1 pc = .ok (.getfield idx, 3)) (k0 : ev_V G l M J (pc + 3) L (va_rf (S.2.2.1 0) :: st) (sy G b S h) k n) : ev_V G l M J pc L (.ref (b + 2) :: st) (sy G b S h) k n := e_getf (C := RX5) (T := TX5) (N := 10) (ci := 5) 2 inX5 rfl (sy_at G b S h 2 (by decide)) (by decide) hw rfl hd k0
theorem sy_p5_2 {v : Nat} (hw : Cond.fieldLink M.1.cls idx "SpringChain$SetupReader" "text" "[B" ∈ ev_ws) (hd : decode M.2.1 pc = .ok (.putfield idx, 3)) (k0 : ev_V G l M J (pc + 3) L st (sy G b (ss_T S 0 (some v)) h) k n) : ev_V G l M J pc L (.ref v :: .ref (b + 2) :: st) (sy G b S h) k n :=
  e_putf (Cn := RX5) (T := TX5) (N := 10) (ci := 5) 2 tyX5 tyX5_ok nmX5 inX5 rfl (sy_at G b S h 2 (by decide)) (by decide) hw (Or.inl rfl) (tyX5_ok 2 (by decide)) rfl rfl (Nat.le_of_ble_eq_true rfl) hd (ev_as (sy_put G b S (ss_T S 0 (some v)) h 2 (by decide) _ rfl (sy_oth (fun i hi hne => by rcases (show i = 0 ∨ i = 1 ∨ i = 2 ∨ i = 3 ∨ i = 4 by omega) with rfl | rfl | rfl | rfl | rfl <;> first | rfl | exact absurd rfl hne) (fun hne => by first | rfl | exact absurd rfl hne) rfl)) k0)
theorem sy_g5_3 (hw : Cond.fieldLink M.1.cls idx "SpringChain$SetupReader" "length" "I" ∈ ev_ws) (hd : decode M.2.1 pc = .ok (.getfield idx, 3)) (k0 : ev_V G l M J (pc + 3) L (.int (S.1 6) :: st) (sy G b S h) k n) : ev_V G l M J pc L (.ref (b + 2) :: st) (sy G b S h) k n := e_getf (C := RX5) (T := TX5) (N := 10) (ci := 5) 3 inX5 rfl (sy_at G b S h 2 (by decide)) (by decide) hw rfl hd k0
theorem sy_p5_3 {v : Int32} (hw : Cond.fieldLink M.1.cls idx "SpringChain$SetupReader" "length" "I" ∈ ev_ws) (hd : decode M.2.1 pc = .ok (.putfield idx, 3)) (k0 : ev_V G l M J (pc + 3) L st (sy G b (ss_I S 6 v) h) k n) : ev_V G l M J pc L (.int v :: .ref (b + 2) :: st) (sy G b S h) k n :=
  e_putf (Cn := RX5) (T := TX5) (N := 10) (ci := 5) 3 tyX5 tyX5_ok nmX5 inX5 rfl (sy_at G b S h 2 (by decide)) (by decide) hw (Or.inl rfl) (tyX5_ok 3 (by decide)) rfl rfl (Nat.le_of_ble_eq_true rfl) hd (ev_as (sy_put G b S (ss_I S 6 v) h 2 (by decide) _ rfl (sy_oth (fun i hi hne => by rcases (show i = 0 ∨ i = 1 ∨ i = 2 ∨ i = 3 ∨ i = 4 by omega) with rfl | rfl | rfl | rfl | rfl <;> first | rfl | exact absurd rfl hne) (fun hne => by first | rfl | exact absurd rfl hne) rfl)) k0)
theorem sy_g5_4 (hw : Cond.fieldLink M.1.cls idx "SpringChain$SetupReader" "position" "I" ∈ ev_ws) (hd : decode M.2.1 pc = .ok (.getfield idx, 3)) (k0 : ev_V G l M J (pc + 3) L (.int (S.1 7) :: st) (sy G b S h) k n) : ev_V G l M J pc L (.ref (b + 2) :: st) (sy G b S h) k n := e_getf (C := RX5) (T := TX5) (N := 10) (ci := 5) 4 inX5 rfl (sy_at G b S h 2 (by decide)) (by decide) hw rfl hd k0
theorem sy_p5_4 {v : Int32} (hw : Cond.fieldLink M.1.cls idx "SpringChain$SetupReader" "position" "I" ∈ ev_ws) (hd : decode M.2.1 pc = .ok (.putfield idx, 3)) (k0 : ev_V G l M J (pc + 3) L st (sy G b (ss_I S 7 v) h) k n) : ev_V G l M J pc L (.int v :: .ref (b + 2) :: st) (sy G b S h) k n :=
  e_putf (Cn := RX5) (T := TX5) (N := 10) (ci := 5) 4 tyX5 tyX5_ok nmX5 inX5 rfl (sy_at G b S h 2 (by decide)) (by decide) hw (Or.inl rfl) (tyX5_ok 4 (by decide)) rfl rfl (Nat.le_of_ble_eq_true rfl) hd (ev_as (sy_put G b S (ss_I S 7 v) h 2 (by decide) _ rfl (sy_oth (fun i hi hne => by rcases (show i = 0 ∨ i = 1 ∨ i = 2 ∨ i = 3 ∨ i = 4 by omega) with rfl | rfl | rfl | rfl | rfl <;> first | rfl | exact absurd rfl hne) (fun hne => by first | rfl | exact absurd rfl hne) rfl)) k0)
theorem sy_g5_5 (hw : Cond.fieldLink M.1.cls idx "SpringChain$SetupReader" "number" "I" ∈ ev_ws) (hd : decode M.2.1 pc = .ok (.getfield idx, 3)) (k0 : ev_V G l M J (pc + 3) L (.int (S.1 8) :: st) (sy G b S h) k n) : ev_V G l M J pc L (.ref (b + 2) :: st) (sy G b S h) k n := e_getf (C := RX5) (T := TX5) (N := 10) (ci := 5) 5 inX5 rfl (sy_at G b S h 2 (by decide)) (by decide) hw rfl hd k0
theorem sy_p5_5 {v : Int32} (hw : Cond.fieldLink M.1.cls idx "SpringChain$SetupReader" "number" "I" ∈ ev_ws) (hd : decode M.2.1 pc = .ok (.putfield idx, 3)) (k0 : ev_V G l M J (pc + 3) L st (sy G b (ss_I S 8 v) h) k n) : ev_V G l M J pc L (.int v :: .ref (b + 2) :: st) (sy G b S h) k n :=
  e_putf (Cn := RX5) (T := TX5) (N := 10) (ci := 5) 5 tyX5 tyX5_ok nmX5 inX5 rfl (sy_at G b S h 2 (by decide)) (by decide) hw (Or.inl rfl) (tyX5_ok 5 (by decide)) rfl rfl (Nat.le_of_ble_eq_true rfl) hd (ev_as (sy_put G b S (ss_I S 8 v) h 2 (by decide) _ rfl (sy_oth (fun i hi hne => by rcases (show i = 0 ∨ i = 1 ∨ i = 2 ∨ i = 3 ∨ i = 4 by omega) with rfl | rfl | rfl | rfl | rfl <;> first | rfl | exact absurd rfl hne) (fun hne => by first | rfl | exact absurd rfl hne) rfl)) k0)
theorem sy_g5_6 (hw : Cond.fieldLink M.1.cls idx "SpringChain$SetupReader" "target" "LSpringChain$Chain;" ∈ ev_ws) (hd : decode M.2.1 pc = .ok (.getfield idx, 3)) (k0 : ev_V G l M J (pc + 3) L (va_rf (S.2.2.1 1) :: st) (sy G b S h) k n) : ev_V G l M J pc L (.ref (b + 2) :: st) (sy G b S h) k n := e_getf (C := RX5) (T := TX5) (N := 10) (ci := 5) 6 inX5 rfl (sy_at G b S h 2 (by decide)) (by decide) hw rfl hd k0
theorem sy_p5_6 {v : Nat} (hw : Cond.fieldLink M.1.cls idx "SpringChain$SetupReader" "target" "LSpringChain$Chain;" ∈ ev_ws) (hd : decode M.2.1 pc = .ok (.putfield idx, 3)) (k0 : ev_V G l M J (pc + 3) L st (sy G b (ss_T S 1 (some v)) h) k n) : ev_V G l M J pc L (.ref v :: .ref (b + 2) :: st) (sy G b S h) k n :=
  e_putf (Cn := RX5) (T := TX5) (N := 10) (ci := 5) 6 tyX5 tyX5_ok nmX5 inX5 rfl (sy_at G b S h 2 (by decide)) (by decide) hw (Or.inl rfl) (tyX5_ok 6 (by decide)) rfl rfl (Nat.le_of_ble_eq_true rfl) hd (ev_as (sy_put G b S (ss_T S 1 (some v)) h 2 (by decide) _ rfl (sy_oth (fun i hi hne => by rcases (show i = 0 ∨ i = 1 ∨ i = 2 ∨ i = 3 ∨ i = 4 by omega) with rfl | rfl | rfl | rfl | rfl <;> first | rfl | exact absurd rfl hne) (fun hne => by first | rfl | exact absurd rfl hne) rfl)) k0)
theorem sy_g5_7 (hw : Cond.fieldLink M.1.cls idx "SpringChain$SetupReader" "isDampTold" "Z" ∈ ev_ws) (hd : decode M.2.1 pc = .ok (.getfield idx, 3)) (k0 : ev_V G l M J (pc + 3) L (.int (S.1 9) :: st) (sy G b S h) k n) : ev_V G l M J pc L (.ref (b + 2) :: st) (sy G b S h) k n := e_getf (C := RX5) (T := TX5) (N := 10) (ci := 5) 7 inX5 rfl (sy_at G b S h 2 (by decide)) (by decide) hw rfl hd k0
theorem sy_p5_7_0 (hw : Cond.fieldLink M.1.cls idx "SpringChain$SetupReader" "isDampTold" "Z" ∈ ev_ws) (hd : decode M.2.1 pc = .ok (.putfield idx, 3)) (k0 : ev_V G l M J (pc + 3) L st (sy G b (ss_I S 9 0) h) k n) : ev_V G l M J pc L (.int 0 :: .ref (b + 2) :: st) (sy G b S h) k n :=
  e_putf (Cn := RX5) (T := TX5) (N := 10) (ci := 5) 7 tyX5 tyX5_ok nmX5 inX5 rfl (sy_at G b S h 2 (by decide)) (by decide) hw (Or.inl rfl) (tyX5_ok 7 (by decide)) rfl rfl (Nat.le_of_ble_eq_true rfl) hd (ev_as (sy_put G b S (ss_I S 9 0) h 2 (by decide) _ rfl (sy_oth (fun i hi hne => by rcases (show i = 0 ∨ i = 1 ∨ i = 2 ∨ i = 3 ∨ i = 4 by omega) with rfl | rfl | rfl | rfl | rfl <;> first | rfl | exact absurd rfl hne) (fun hne => by first | rfl | exact absurd rfl hne) rfl)) k0)
theorem sy_p5_7_1 (hw : Cond.fieldLink M.1.cls idx "SpringChain$SetupReader" "isDampTold" "Z" ∈ ev_ws) (hd : decode M.2.1 pc = .ok (.putfield idx, 3)) (k0 : ev_V G l M J (pc + 3) L st (sy G b (ss_I S 9 1) h) k n) : ev_V G l M J pc L (.int 1 :: .ref (b + 2) :: st) (sy G b S h) k n :=
  e_putf (Cn := RX5) (T := TX5) (N := 10) (ci := 5) 7 tyX5 tyX5_ok nmX5 inX5 rfl (sy_at G b S h 2 (by decide)) (by decide) hw (Or.inl rfl) (tyX5_ok 7 (by decide)) rfl rfl (Nat.le_of_ble_eq_true rfl) hd (ev_as (sy_put G b S (ss_I S 9 1) h 2 (by decide) _ rfl (sy_oth (fun i hi hne => by rcases (show i = 0 ∨ i = 1 ∨ i = 2 ∨ i = 3 ∨ i = 4 by omega) with rfl | rfl | rfl | rfl | rfl <;> first | rfl | exact absurd rfl hne) (fun hne => by first | rfl | exact absurd rfl hne) rfl)) k0)
theorem sy_g5_8 (hw : Cond.fieldLink M.1.cls idx "SpringChain$SetupReader" "plucked" "[Z" ∈ ev_ws) (hd : decode M.2.1 pc = .ok (.getfield idx, 3)) (k0 : ev_V G l M J (pc + 3) L (.ref (b + 3) :: st) (sy G b S h) k n) : ev_V G l M J pc L (.ref (b + 2) :: st) (sy G b S h) k n := e_getf (C := RX5) (T := TX5) (N := 10) (ci := 5) 8 inX5 rfl (sy_at G b S h 2 (by decide)) (by decide) hw rfl hd k0
theorem sy_g5_9 (hw : Cond.fieldLink M.1.cls idx "SpringChain$SetupReader" "struck" "[Z" ∈ ev_ws) (hd : decode M.2.1 pc = .ok (.getfield idx, 3)) (k0 : ev_V G l M J (pc + 3) L (.ref (b + 4) :: st) (sy G b S h) k n) : ev_V G l M J pc L (.ref (b + 2) :: st) (sy G b S h) k n := e_getf (C := RX5) (T := TX5) (N := 10) (ci := 5) 9 inX5 rfl (sy_at G b S h 2 (by decide)) (by decide) hw rfl hd k0
theorem sy_g1_0 (hw : Cond.fieldLink M.1.cls idx "SpringChain$History" "count" "I" ∈ ev_ws) (hd : decode M.2.1 pc = .ok (.getfield idx, 3)) (k0 : ev_V G l M J (pc + 3) L (.int (S.1 2) :: st) (sy G b S h) k n) : ev_V G l M J pc L (.ref (b + 35) :: st) (sy G b S h) k n := e_getf (C := RX1) (T := TX1) (N := 3) (ci := 1) 0 inX1 rfl (sy_at G b S h 35 (by decide)) (by decide) hw rfl hd k0
theorem sy_p1_0 {v : Int32} (hw : Cond.fieldLink M.1.cls idx "SpringChain$History" "count" "I" ∈ ev_ws) (hd : decode M.2.1 pc = .ok (.putfield idx, 3)) (k0 : ev_V G l M J (pc + 3) L st (sy G b (ss_I S 2 v) h) k n) : ev_V G l M J pc L (.int v :: .ref (b + 35) :: st) (sy G b S h) k n :=
  e_putf (Cn := RX1) (T := TX1) (N := 3) (ci := 1) 0 tyX1 tyX1_ok nmX1 inX1 rfl (sy_at G b S h 35 (by decide)) (by decide) hw (Or.inl rfl) (tyX1_ok 0 (by decide)) rfl rfl (Nat.le_of_ble_eq_true rfl) hd (ev_as (sy_put G b S (ss_I S 2 v) h 35 (by decide) _ rfl (sy_oth (fun i hi hne => by rcases (show i = 0 ∨ i = 1 ∨ i = 2 ∨ i = 3 ∨ i = 4 by omega) with rfl | rfl | rfl | rfl | rfl <;> first | rfl | exact absurd rfl hne) (fun hne => by first | rfl | exact absurd rfl hne) rfl)) k0)
theorem sy_g1_1 (hw : Cond.fieldLink M.1.cls idx "SpringChain$History" "next" "I" ∈ ev_ws) (hd : decode M.2.1 pc = .ok (.getfield idx, 3)) (k0 : ev_V G l M J (pc + 3) L (.int (S.1 3) :: st) (sy G b S h) k n) : ev_V G l M J pc L (.ref (b + 35) :: st) (sy G b S h) k n := e_getf (C := RX1) (T := TX1) (N := 3) (ci := 1) 1 inX1 rfl (sy_at G b S h 35 (by decide)) (by decide) hw rfl hd k0
theorem sy_p1_1 {v : Int32} (hw : Cond.fieldLink M.1.cls idx "SpringChain$History" "next" "I" ∈ ev_ws) (hd : decode M.2.1 pc = .ok (.putfield idx, 3)) (k0 : ev_V G l M J (pc + 3) L st (sy G b (ss_I S 3 v) h) k n) : ev_V G l M J pc L (.int v :: .ref (b + 35) :: st) (sy G b S h) k n :=
  e_putf (Cn := RX1) (T := TX1) (N := 3) (ci := 1) 1 tyX1 tyX1_ok nmX1 inX1 rfl (sy_at G b S h 35 (by decide)) (by decide) hw (Or.inl rfl) (tyX1_ok 1 (by decide)) rfl rfl (Nat.le_of_ble_eq_true rfl) hd (ev_as (sy_put G b S (ss_I S 3 v) h 35 (by decide) _ rfl (sy_oth (fun i hi hne => by rcases (show i = 0 ∨ i = 1 ∨ i = 2 ∨ i = 3 ∨ i = 4 by omega) with rfl | rfl | rfl | rfl | rfl <;> first | rfl | exact absurd rfl hne) (fun hne => by first | rfl | exact absurd rfl hne) rfl)) k0)
theorem sy_g1_2 (hw : Cond.fieldLink M.1.cls idx "SpringChain$History" "kept" "[LSpringChain$Chain;" ∈ ev_ws) (hd : decode M.2.1 pc = .ok (.getfield idx, 3)) (k0 : ev_V G l M J (pc + 3) L (.ref (b + 36) :: st) (sy G b S h) k n) : ev_V G l M J pc L (.ref (b + 35) :: st) (sy G b S h) k n := e_getf (C := RX1) (T := TX1) (N := 3) (ci := 1) 2 inX1 rfl (sy_at G b S h 35 (by decide)) (by decide) hw rfl hd k0
theorem sy_l1 {i : Int32} (h0 : 0 ≤ i.toInt) (h1 : i.toInt < 500) (hd : decode M.2.1 pc = .ok (.baload, 1)) (k0 : ev_V G l M J (pc + 1) L (.int (S.2.1 0 i.toInt.toNat) :: st) (sy G b S h) k n) : ev_V G l M J pc L (.int i :: .ref (b + 1) :: st) (sy G b S h) k n := e_bald (N := 500) (sy_at G b S h 1 (by decide)) h0 h1 hd k0
theorem sy_s1 {i x : Int32} (h0 : 0 ≤ i.toInt) (h1 : i.toInt < 500) (hd : decode M.2.1 pc = .ok (.bastore, 1)) (k0 : ev_V G l M J (pc + 1) L st (sy G b (ss_R S 0 (ev_u (S.2.1 0) i.toInt.toNat (vp_nar .byte x))) h) k n) : ev_V G l M J pc L (.int x :: .int i :: .ref (b + 1) :: st) (sy G b S h) k n :=
  e_bast (N := 500) (sy_at G b S h 1 (by decide)) h0 h1 hd (ev_as (sy_put G b S (ss_R S 0 (ev_u (S.2.1 0) i.toInt.toNat (vp_nar .byte x))) h 1 (by decide) _ rfl (sy_oth (fun i hi hne => by rcases (show i = 0 ∨ i = 1 ∨ i = 2 ∨ i = 3 ∨ i = 4 by omega) with rfl | rfl | rfl | rfl | rfl <;> first | rfl | exact absurd rfl hne) (fun hne => by first | rfl | exact absurd rfl hne) rfl)) k0)
theorem sy_n1 {v : Int32} (hv : Int32.ofNat 500 = v) (hd : decode M.2.1 pc = .ok (.arraylength, 1)) (k0 : ev_V G l M J (pc + 1) L (.int v :: st) (sy G b S h) k n) : ev_V G l M J pc L (.ref (b + 1) :: st) (sy G b S h) k n := e_alen (t0 := 2) (sy_at G b S h 1 (by decide)) rfl hv hd k0
theorem sy_l3 {i : Int32} (h0 : 0 ≤ i.toInt) (h1 : i.toInt < 12) (hd : decode M.2.1 pc = .ok (.baload, 1)) (k0 : ev_V G l M J (pc + 1) L (.int (S.2.1 1 i.toInt.toNat) :: st) (sy G b S h) k n) : ev_V G l M J pc L (.int i :: .ref (b + 3) :: st) (sy G b S h) k n := e_zald (N := 12) (sy_at G b S h 3 (by decide)) h0 h1 hd k0
theorem sy_s3 {i x : Int32} (h0 : 0 ≤ i.toInt) (h1 : i.toInt < 12) (hd : decode M.2.1 pc = .ok (.bastore, 1)) (k0 : ev_V G l M J (pc + 1) L st (sy G b (ss_R S 1 (ev_u (S.2.1 1) i.toInt.toNat (vp_nar .boolean x))) h) k n) : ev_V G l M J pc L (.int x :: .int i :: .ref (b + 3) :: st) (sy G b S h) k n :=
  e_zast (N := 12) (sy_at G b S h 3 (by decide)) h0 h1 hd (ev_as (sy_put G b S (ss_R S 1 (ev_u (S.2.1 1) i.toInt.toNat (vp_nar .boolean x))) h 3 (by decide) _ rfl (sy_oth (fun i hi hne => by rcases (show i = 0 ∨ i = 1 ∨ i = 2 ∨ i = 3 ∨ i = 4 by omega) with rfl | rfl | rfl | rfl | rfl <;> first | rfl | exact absurd rfl hne) (fun hne => by first | rfl | exact absurd rfl hne) rfl)) k0)
theorem sy_n3 {v : Int32} (hv : Int32.ofNat 12 = v) (hd : decode M.2.1 pc = .ok (.arraylength, 1)) (k0 : ev_V G l M J (pc + 1) L (.int v :: st) (sy G b S h) k n) : ev_V G l M J pc L (.ref (b + 3) :: st) (sy G b S h) k n := e_alen (t0 := 3) (sy_at G b S h 3 (by decide)) rfl hv hd k0
theorem sy_l4 {i : Int32} (h0 : 0 ≤ i.toInt) (h1 : i.toInt < 12) (hd : decode M.2.1 pc = .ok (.baload, 1)) (k0 : ev_V G l M J (pc + 1) L (.int (S.2.1 2 i.toInt.toNat) :: st) (sy G b S h) k n) : ev_V G l M J pc L (.int i :: .ref (b + 4) :: st) (sy G b S h) k n := e_zald (N := 12) (sy_at G b S h 4 (by decide)) h0 h1 hd k0
theorem sy_s4 {i x : Int32} (h0 : 0 ≤ i.toInt) (h1 : i.toInt < 12) (hd : decode M.2.1 pc = .ok (.bastore, 1)) (k0 : ev_V G l M J (pc + 1) L st (sy G b (ss_R S 2 (ev_u (S.2.1 2) i.toInt.toNat (vp_nar .boolean x))) h) k n) : ev_V G l M J pc L (.int x :: .int i :: .ref (b + 4) :: st) (sy G b S h) k n :=
  e_zast (N := 12) (sy_at G b S h 4 (by decide)) h0 h1 hd (ev_as (sy_put G b S (ss_R S 2 (ev_u (S.2.1 2) i.toInt.toNat (vp_nar .boolean x))) h 4 (by decide) _ rfl (sy_oth (fun i hi hne => by rcases (show i = 0 ∨ i = 1 ∨ i = 2 ∨ i = 3 ∨ i = 4 by omega) with rfl | rfl | rfl | rfl | rfl <;> first | rfl | exact absurd rfl hne) (fun hne => by first | rfl | exact absurd rfl hne) rfl)) k0)
theorem sy_n4 {v : Int32} (hv : Int32.ofNat 12 = v) (hd : decode M.2.1 pc = .ok (.arraylength, 1)) (k0 : ev_V G l M J (pc + 1) L (.int v :: st) (sy G b S h) k n) : ev_V G l M J pc L (.ref (b + 4) :: st) (sy G b S h) k n := e_alen (t0 := 3) (sy_at G b S h 4 (by decide)) rfl hv hd k0
theorem sy_n38 {v : Int32} (hv : Int32.ofNat 8 = v) (hd : decode M.2.1 pc = .ok (.arraylength, 1)) (k0 : ev_V G l M J (pc + 1) L (.int v :: st) (sy G b S h) k n) : ev_V G l M J pc L (.ref (b + 36) :: st) (sy G b S h) k n := e_alen (t0 := 4) (sy_at G b S h 36 (by decide)) rfl hv hd k0
theorem sy_l38 {i : Int32} (h0 : 0 ≤ i.toInt) (h1 : i.toInt < 8) (hd : decode M.2.1 pc = .ok (.aaload, 1)) (k0 : ev_V G l M J (pc + 1) L (.ref (sc b (2 + i.toInt.toNat)) :: st) (sy G b S h) k n) : ev_V G l M J pc L (.int i :: .ref (b + 36) :: st) (sy G b S h) k n := by
  have e : Value.ref (sc b (2 + i.toInt.toNat)) = va_rf ((fun k => some (b + 37 + 15 * k)) i.toInt.toNat) := by show _ = Value.ref (b + 37 + 15 * i.toInt.toNat); unfold sc; rw [if_neg (by omega), if_neg (by omega), show 2 + i.toInt.toNat - 2 = i.toInt.toNat by omega]
  rw [e] at k0
  exact e_aald (N := 8) (t0 := 4) (sy_at G b S h 36 (by decide)) rfl rfl h0 h1 hd k0
end SYR
