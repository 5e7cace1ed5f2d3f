/-! the reader: what it reads, apart from cells -/
def tB (T : Nat → Int32) (n k : Nat) : Int32 := if k < n then T k &&& 255 else -1
abbrev isD (x : Int32) : Prop := 48 ≤ x.toInt ∧ x.toInt ≤ 57
abbrev isLt (x : Int32) : Prop := 97 ≤ x.toInt ∧ x.toInt ≤ 122
def pSk (B : Nat → Int32) : Nat → Nat → Nat
  | 0, p => p
  | f + 1, p => if B p = 32 then pSk B f (p + 1) else p
def sk (B : Nat → Int32) (n p : Nat) : Nat := pSk B (n - p) p
def pDE (B : Nat → Int32) : Nat → Nat → Nat
  | 0, p => p
  | f + 1, p => if isD (B p) then pDE B f (p + 1) else p
def dE (B : Nat → Int32) (n p : Nat) : Nat := pDE B (n - p) p
def pDN (B : Nat → Int32) : Nat → Nat → Nat → Nat
  | 0, _, v => v
  | f + 1, p, v => if isD (B p) then pDN B f (p + 1) (10 * v + ((B p).toInt - 48).toNat) else v
def dN (B : Nat → Int32) (n p : Nat) : Nat := pDN B (n - p) p 0
def pDC (B : Nat → Int32) : Nat → Nat → Int32 → Int32
  | 0, _, v => v
  | f + 1, p, v => if isD (B p) then pDC B f (p + 1) (if v.toInt < 10000000 then 10 * v + (B p - 48) else v) else v
/-- outcome of reading a number: an error's kind (0 none, 2 syntax, 3 range, 4 repeated, 5 too many), a place, a value -/
def pN (B : Nat → Int32) (n : Nat) (lo hi : Int) (p : Nat) : Nat × Nat × Int :=
  if isD (B (sk B n p)) then (if lo ≤ (dN B n (sk B n p) : Int) ∧ (dN B n (sk B n p) : Int) ≤ hi then (0, dE B n (sk B n p), (dN B n (sk B n p) : Int)) else (3, sk B n p, 0)) else (2, sk B n p, 0)
def pS (B : Nat → Int32) (n : Nat) (m : Int) (p : Nat) : Nat × Nat × Int :=
  if B (sk B n p) = 45 then (if isD (B (sk B n (sk B n p + 1))) then (if (dN B n (sk B n (sk B n p + 1)) : Int) ≤ m then (0, dE B n (sk B n (sk B n p + 1)), -(dN B n (sk B n (sk B n p + 1)) : Int)) else (3, sk B n p, 0)) else (2, sk B n (sk B n p + 1), 0))
  else pN B n (-m) m p
def wAt (B : Nat → Int32) (j s : Nat) : Prop := (∀ k, k < ev_len.getD j 0 → B (s + k) = sB j k) ∧ ¬ isLt (B (s + ev_len.getD j 0))
theorem tB_ge {T : Nat → Int32} {n k : Nat} (h : n ≤ k) : tB T n k = -1 := if_neg (by omega)
theorem tB_lt {T : Nat → Int32} {n k : Nat} (h : k < n) : tB T n k = T k &&& 255 := if_pos h
theorem pSk_ge (B : Nat → Int32) : ∀ f p, p ≤ pSk B f p ∧ pSk B f p ≤ p + f
  | 0, p => ⟨Nat.le_refl _, Nat.le_refl _⟩
  | f + 1, p => by
    have := pSk_ge B f (p + 1)
    unfold pSk
    split <;> omega
theorem sk_rng (B : Nat → Int32) {n p : Nat} (h : p ≤ n) : p ≤ sk B n p ∧ sk B n p ≤ n := by have := pSk_ge B (n - p) p; unfold sk; omega
theorem pDE_ge (B : Nat → Int32) : ∀ f p, p ≤ pDE B f p ∧ pDE B f p ≤ p + f
  | 0, p => ⟨Nat.le_refl _, Nat.le_refl _⟩
  | f + 1, p => by
    have := pDE_ge B f (p + 1)
    unfold pDE
    split <;> omega
theorem dE_rng (B : Nat → Int32) {n p : Nat} (h : p ≤ n) : p ≤ dE B n p ∧ dE B n p ≤ n := by have := pDE_ge B (n - p) p; unfold dE; omega
theorem dE_no {B : Nat → Int32} {n p : Nat} (h : ¬ isD (B p)) : dE B n p = p := by
  unfold dE
  cases n - p with
  | zero => rfl
  | succ f => exact if_neg h
theorem dE_up {B : Nat → Int32} {n p : Nat} (h : isD (B p)) (hp : p < n) : p < dE B n p := by
  unfold dE
  obtain ⟨f, hf⟩ : ∃ f, n - p = f + 1 := ⟨n - p - 1, by omega⟩
  rw [hf]
  have := pDE_ge B f (p + 1)
  show p < (if isD (B p) then pDE B f (p + 1) else p)
  rw [if_pos h]
  omega
theorem ar_of {n : Nat} (h : n ≤ 2000) : (Int32.ofNat n).toInt = (n : Int) := Int32.toInt_ofNat_of_lt (by omega)
theorem ar_ofI {w : Int} (h1 : -100000000 ≤ w) (h2 : w ≤ 100000000) : (Int32.ofInt w).toInt = w := Int32.toInt_ofInt_of_le (by omega) (by omega)
theorem ar_ofE {x : Int32} {i : Nat} (h : x.toInt = (i : Int)) (hi : i ≤ 2000) : x = Int32.ofNat i := ar_eq (by rw [h, ar_of hi])
theorem ar_ofadd {s i : Nat} {x : Int32} (h : x.toInt = (i : Int)) (hs : s ≤ 1000) (hi : i ≤ 1000) : Int32.ofNat s + x = Int32.ofNat (s + i) := by
  have := ar_of (n := s) (by omega)
  have e2 := ar_of (n := s + i) (by omega)
  exact ar_eq (by rw [ar_add (by omega) (by omega)]; omega)
theorem and255 (x : Int32) : 0 ≤ (x &&& 255).toInt ∧ (x &&& 255).toInt ≤ 255 := by
  have h : (x &&& 255).toBitVec.toNat ≤ 255 := by
    rw [Int32.toBitVec_and, BitVec.toNat_and]
    exact Nat.le_trans Nat.and_le_right (by decide)
  have e : (x &&& 255).toInt = (x &&& 255).toBitVec.toInt := rfl
  rw [e, BitVec.toInt_eq_toNat_of_lt (by omega)]
  omega
theorem tB_rng (T : Nat → Int32) (n k : Nat) : -1 ≤ (tB T n k).toInt ∧ (tB T n k).toInt ≤ 255 := by
  unfold tB
  have := and255 (T k)
  have := ar_m1
  split <;> omega
/-- digits as they are counted up to a bound, and exactly -/
theorem pDN_ge (B : Nat → Int32) : ∀ f p v, v ≤ pDN B f p v
  | 0, _, v => Nat.le_refl _
  | f + 1, p, v => by
    unfold pDN
    split
    · exact Nat.le_trans (by omega) (pDN_ge B f (p + 1) _)
    · exact Nat.le_refl _
theorem pDC_rel (B : Nat → Int32) : ∀ f p (w : Int32) (v : Nat), ((w.toInt = (v : Int) ∧ v < 100000000) ∨ (10000000 ≤ v ∧ 10000000 ≤ w.toInt ∧ w.toInt < 100000000)) → (((pDC B f p w).toInt = (pDN B f p v : Int) ∧ pDN B f p v < 100000000) ∨ (10000000 ≤ pDN B f p v ∧ 10000000 ≤ (pDC B f p w).toInt ∧ (pDC B f p w).toInt < 100000000))
  | 0, _, _, _, h => h
  | f + 1, p, w, v, h => by
    unfold pDC pDN
    by_cases c : isD (B p)
    · rw [if_pos c, if_pos c]
      refine pDC_rel B f (p + 1) _ _ ?_
      have w48 : (48 : Int32).toInt = 48 := by decide +kernel
      have w10 : (10 : Int32).toInt = 10 := by decide +kernel
      have c1 := c.1
      have c2 := c.2
      have e1 : (B p - 48).toInt = (B p).toInt - 48 := by rw [ar_sub (by omega) (by omega), w48]
      by_cases d : w.toInt < 10000000
      · rw [if_pos d]
        rcases h with ⟨h1, h2⟩ | ⟨h1, h2, h3⟩
        · have e2 : (10 * w).toInt = 10 * w.toInt := by rw [ar_mul (by rw [w10]; omega) (by rw [w10]; omega), w10]
          refine Or.inl ⟨?_, by omega⟩
          rw [ar_add (by omega) (by omega), e1, e2]
          omega
        · omega
      · rw [if_neg d]
        refine Or.inr ⟨?_, by omega, ?_⟩
        · rcases h with ⟨h1, h2⟩ | ⟨h1, h2, h3⟩ <;> omega
        · rcases h with ⟨h1, h2⟩ | ⟨h1, h2, h3⟩ <;> omega
    · rw [if_neg c, if_neg c]
      exact h
/-! the reader's cells -/
def rS (S : SS) (p : Nat) (v : Int32) : SS := ss_I (ss_I S 7 (Int32.ofNat p)) 8 v
def rOk (b : Nat) (S : SS) (n : Nat) : Prop := S.1 6 = Int32.ofNat n ∧ n ≤ 500 ∧ S.2.2.1 0 = some (b + 1) ∧ S.2.2.1 1 = some (sc b 1)
theorem rS_p (S : SS) (p q : Nat) (v : Int32) : ss_I (rS S p v) 7 (Int32.ofNat q) = rS S q v := by
  unfold rS ss_I
  congr 1
  funext j
  unfold ev_u
  by_cases c : j = 7
  · subst c; rfl
  · simp [c]
theorem rS_n (S : SS) (p : Nat) (v w : Int32) : ss_I (rS S p v) 8 w = rS S p w := by
  unfold rS ss_I
  congr 1
  funext j
  unfold ev_u
  by_cases c : j = 8
  · simp [c]
  · simp [c]
theorem rS_C (S : SS) (p : Nat) (v : Int32) (i : Nat) (τ : CS) : ss_C (rS S p v) i τ = rS (ss_C S i τ) p v := rfl
theorem rS_R (S : SS) (p : Nat) (v : Int32) (i : Nat) (f : Nat → Int32) : ss_R (rS S p v) i f = rS (ss_R S i f) p v := rfl
theorem rS_self {S : SS} {p : Nat} (h : S.1 7 = Int32.ofNat p) : rS S p (S.1 8) = S := by
  unfold rS ss_I
  have e : ev_u (ev_u S.1 7 (Int32.ofNat p)) 8 (S.1 8) = S.1 := by
    funext j
    unfold ev_u
    by_cases c : j = 8
    · simp [c]
    · by_cases d : j = 7
      · simp [d, h]
      · simp [c, d]
  show (ev_u (ev_u S.1 7 (Int32.ofNat p)) 8 (S.1 8), S.2) = S
  rw [e]
def FR (G : ev_G) (b : Nat) (S : SS) (h : ev_H) (c q : Nat) (a : ev_H) : Prop := ∃ U : SS, a = sy G b U h ∧ U.1 4 = Int32.ofInt (-(c : Int)) ∧ U.1 5 = Int32.ofNat q ∧ (∀ k, k < 4 → U.1 k = S.1 k) ∧ U.2.1 0 = S.2.1 0 ∧ U.2.2.1 = S.2.2.1 ∧ ∀ i, i ≠ 1 → U.2.2.2 i = S.2.2.2 i
theorem FR_of (G : ev_G) (b : Nat) (S : SS) (h : ev_H) (p q : Nat) (v x : Int32) (c : Nat) (hx : x = Int32.ofInt (-(c : Int))) : FR G b S h c q (sy G b (ss_I (ss_I (rS S p v) 4 x) 5 (Int32.ofNat q)) h) := by
  subst hx
  refine ⟨_, rfl, rfl, rfl, ?_, rfl, rfl, fun _ _ => rfl⟩
  intro k hk
  rcases (show k = 0 ∨ k = 1 ∨ k = 2 ∨ k = 3 by omega) with rfl | rfl | rfl | rfl <;> rfl
theorem FR_I {G : ev_G} {b : Nat} {S : SS} {h : ev_H} {c q k : Nat} {a : ev_H} {x : Int32} (hk : 4 ≤ k) (f : FR G b (ss_I S k x) h c q a) : FR G b S h c q a := by
  obtain ⟨U, f1, f2, f3, f4, f5⟩ := f
  exact ⟨U, f1, f2, f3, fun j hj => (f4 j hj).trans (ev_u_ne _ _ (by omega)), f5⟩
theorem FR_R {G : ev_G} {b : Nat} {S : SS} {h : ev_H} {c q k : Nat} {a : ev_H} {x : Nat → Int32} (hk : 1 ≤ k) (f : FR G b (ss_R S k x) h c q a) : FR G b S h c q a := by
  obtain ⟨U, f1, f2, f3, f4, f5, f6⟩ := f
  exact ⟨U, f1, f2, f3, f4, f5.trans (ev_u_ne _ _ (by omega)), f6⟩
theorem FR_C {G : ev_G} {b : Nat} {S : SS} {h : ev_H} {c q : Nat} {a : ev_H} {τ : CS} (f : FR G b (ss_C S 1 τ) h c q a) : FR G b S h c q a := by
  obtain ⟨U, f1, f2, f3, f4, f5, f6, f7⟩ := f
  exact ⟨U, f1, f2, f3, f4, f5, f6, fun i hi => (f7 i hi).trans (ev_u_ne _ _ (by omega))⟩
section RD1
variable {G : ev_G} {l : Launch} {M : ev_M} {J : ev_K} {pc k m idx : Nat} {L : List (Option Value)} {st : List Value} {b n p q j : Nat} {S : SS} {h : ev_H} {x y z v : Int32}
theorem rS_g2 (hO : rOk b S n) (hw : Cond.fieldLink M.1.cls idx "SpringChain$SetupReader" "text" "[B" ∈ ev_ws) (hd : decode M.2.1 pc = .ok (.getfield idx, 3)) (k0 : ev_V G l M J (pc + 3) L (.ref (b + 1) :: st) (sy G b (rS S p v) h) k m) : ev_V G l M J pc L (.ref (b + 2) :: st) (sy G b (rS S p v) h) k m := sy_g5_2 hw hd (by rw [show (rS S p v).2.2.1 0 = some (b + 1) from hO.2.2.1]; exact k0)
theorem rS_g3 (hO : rOk b S n) (hw : Cond.fieldLink M.1.cls idx "SpringChain$SetupReader" "length" "I" ∈ ev_ws) (hd : decode M.2.1 pc = .ok (.getfield idx, 3)) (k0 : ev_V G l M J (pc + 3) L (.int (Int32.ofNat n) :: st) (sy G b (rS S p v) h) k m) : ev_V G l M J pc L (.ref (b + 2) :: st) (sy G b (rS S p v) h) k m := sy_g5_3 hw hd (by rw [show (rS S p v).1 6 = Int32.ofNat n from hO.1]; exact k0)
theorem rS_g4 (hw : Cond.fieldLink M.1.cls idx "SpringChain$SetupReader" "position" "I" ∈ ev_ws) (hd : decode M.2.1 pc = .ok (.getfield idx, 3)) (k0 : ev_V G l M J (pc + 3) L (.int (Int32.ofNat p) :: st) (sy G b (rS S p v) h) k m) : ev_V G l M J pc L (.ref (b + 2) :: st) (sy G b (rS S p v) h) k m := sy_g5_4 hw hd (by rw [show (rS S p v).1 7 = Int32.ofNat p from rfl]; exact k0)
theorem rS_g5 (hw : Cond.fieldLink M.1.cls idx "SpringChain$SetupReader" "number" "I" ∈ ev_ws) (hd : decode M.2.1 pc = .ok (.getfield idx, 3)) (k0 : ev_V G l M J (pc + 3) L (.int v :: st) (sy G b (rS S p v) h) k m) : ev_V G l M J pc L (.ref (b + 2) :: st) (sy G b (rS S p v) h) k m := sy_g5_5 hw hd (by rw [show (rS S p v).1 8 = v from rfl]; exact k0)
theorem rS_g6 (hO : rOk b S n) (hw : Cond.fieldLink M.1.cls idx "SpringChain$SetupReader" "target" "LSpringChain$Chain;" ∈ ev_ws) (hd : decode M.2.1 pc = .ok (.getfield idx, 3)) (k0 : ev_V G l M J (pc + 3) L (.ref (sc b 1) :: st) (sy G b (rS S p v) h) k m) : ev_V G l M J pc L (.ref (b + 2) :: st) (sy G b (rS S p v) h) k m := sy_g5_6 hw hd (by rw [show (rS S p v).2.2.1 1 = some (sc b 1) from hO.2.2.2]; exact k0)
theorem rS_g7 (hw : Cond.fieldLink M.1.cls idx "SpringChain$SetupReader" "isDampTold" "Z" ∈ ev_ws) (hd : decode M.2.1 pc = .ok (.getfield idx, 3)) (k0 : ev_V G l M J (pc + 3) L (.int (S.1 9) :: st) (sy G b (rS S p v) h) k m) : ev_V G l M J pc L (.ref (b + 2) :: st) (sy G b (rS S p v) h) k m := sy_g5_7 hw hd (by rw [show (rS S p v).1 9 = S.1 9 from rfl]; exact k0)
theorem rS_g8 (hw : Cond.fieldLink M.1.cls idx "SpringChain$SetupReader" "plucked" "[Z" ∈ ev_ws) (hd : decode M.2.1 pc = .ok (.getfield idx, 3)) (k0 : ev_V G l M J (pc + 3) L (.ref (b + 3) :: st) (sy G b (rS S p v) h) k m) : ev_V G l M J pc L (.ref (b + 2) :: st) (sy G b (rS S p v) h) k m := sy_g5_8 hw hd (k0)
theorem rS_g9 (hw : Cond.fieldLink M.1.cls idx "SpringChain$SetupReader" "struck" "[Z" ∈ ev_ws) (hd : decode M.2.1 pc = .ok (.getfield idx, 3)) (k0 : ev_V G l M J (pc + 3) L (.ref (b + 4) :: st) (sy G b (rS S p v) h) k m) : ev_V G l M J pc L (.ref (b + 2) :: st) (sy G b (rS S p v) h) k m := sy_g5_9 hw hd (k0)
theorem rS_p4 (hx : x = Int32.ofNat q) (hw : Cond.fieldLink M.1.cls idx "SpringChain$SetupReader" "position" "I" ∈ ev_ws) (hd : decode M.2.1 pc = .ok (.putfield idx, 3)) (k0 : ev_V G l M J (pc + 3) L st (sy G b (rS S q v) h) k m) : ev_V G l M J pc L (.int x :: .ref (b + 2) :: st) (sy G b (rS S p v) h) k m := sy_p5_4 hw hd (by rw [hx, rS_p]; exact k0)
theorem rS_p5 (hw : Cond.fieldLink M.1.cls idx "SpringChain$SetupReader" "number" "I" ∈ ev_ws) (hd : decode M.2.1 pc = .ok (.putfield idx, 3)) (k0 : ev_V G l M J (pc + 3) L st (sy G b (rS S p x) h) k m) : ev_V G l M J pc L (.int x :: .ref (b + 2) :: st) (sy G b (rS S p v) h) k m := sy_p5_5 hw hd (by rw [rS_n]; exact k0)
set_option maxRecDepth 20000 in
theorem ct_X5_isDigit {a : ev_H} : ev_Ct G l mX5_isDigit 0 0 0 [.int x] (a) (fun v c => v = some (.int (if isD x then 1 else 0)) ∧ c = a) (fun _ _ => False) := by
  refine ev_Ct.of (by decide +kernel) (Nat.le_of_ble_eq_true rfl) ?_
  have w48 : (48 : Int32).toInt = 48 := by decide +kernel
  have w57 : (57 : Int32).toInt = 57 := by decide +kernel
  refine e_iload_n dX5_isDigit_0 rfl rfl ?_
  refine e_bipush (v := 48) dX5_isDigit_1 (by decide) ?_
  refine e_icmp_lt (tgt := 16) dX5_isDigit_3 (by decide) (fun i3 => ?_) (fun i3 => ?_)
  · refine e_iconst (v := 0) dX5_isDigit_16 (by decide) ?_
    exact e_zret (ty := .boolean) rfl rfl dX5_isDigit_17 (⟨by first | rw [if_pos (by omega)] | rw [if_neg (by omega)], rfl⟩)
  · refine e_iload_n dX5_isDigit_6 rfl rfl ?_
    refine e_bipush (v := 57) dX5_isDigit_7 (by decide) ?_
    refine e_icmp_gt (tgt := 16) dX5_isDigit_9 (by decide) (fun i9 => ?_) (fun i9 => ?_)
    · refine e_iconst (v := 0) dX5_isDigit_16 (by decide) ?_
      exact e_zret (ty := .boolean) rfl rfl dX5_isDigit_17 (⟨by first | rw [if_pos (by omega)] | rw [if_neg (by omega)], rfl⟩)
    · refine e_iconst (v := 1) dX5_isDigit_12 (by decide) ?_
      refine e_goto (tgt := 17) dX5_isDigit_13 (by decide) ?_
      exact e_zret (ty := .boolean) rfl rfl dX5_isDigit_17 (⟨by first | rw [if_pos (by omega)] | rw [if_neg (by omega)], rfl⟩)
set_option maxRecDepth 20000 in
theorem ct_X5_isLetter {a : ev_H} : ev_Ct G l mX5_isLetter 0 0 0 [.int x] (a) (fun v c => v = some (.int (if isLt x then 1 else 0)) ∧ c = a) (fun _ _ => False) := by
  refine ev_Ct.of (by decide +kernel) (Nat.le_of_ble_eq_true rfl) ?_
  have w97 : (97 : Int32).toInt = 97 := by decide +kernel
  have w122 : (122 : Int32).toInt = 122 := by decide +kernel
  refine e_iload_n dX5_isLetter_0 rfl rfl ?_
  refine e_bipush (v := 97) dX5_isLetter_1 (by decide) ?_
  refine e_icmp_lt (tgt := 16) dX5_isLetter_3 (by decide) (fun i3 => ?_) (fun i3 => ?_)
  · refine e_iconst (v := 0) dX5_isLetter_16 (by decide) ?_
    exact e_zret (ty := .boolean) rfl rfl dX5_isLetter_17 (⟨by first | rw [if_pos (by omega)] | rw [if_neg (by omega)], rfl⟩)
  · refine e_iload_n dX5_isLetter_6 rfl rfl ?_
    refine e_bipush (v := 122) dX5_isLetter_7 (by decide) ?_
    refine e_icmp_gt (tgt := 16) dX5_isLetter_9 (by decide) (fun i9 => ?_) (fun i9 => ?_)
    · refine e_iconst (v := 0) dX5_isLetter_16 (by decide) ?_
      exact e_zret (ty := .boolean) rfl rfl dX5_isLetter_17 (⟨by first | rw [if_pos (by omega)] | rw [if_neg (by omega)], rfl⟩)
    · refine e_iconst (v := 1) dX5_isLetter_12 (by decide) ?_
      refine e_goto (tgt := 17) dX5_isLetter_13 (by decide) ?_
      exact e_zret (ty := .boolean) rfl rfl dX5_isLetter_17 (⟨by first | rw [if_pos (by omega)] | rw [if_neg (by omega)], rfl⟩)
set_option maxRecDepth 20000 in
theorem ct_X5_fail  : ev_Ct G l mX5_fail 0 0 0 [.ref (b + 2), .int x, .int y] (sy G b S h) (fun v a => v = some (.int 0) ∧ a = sy G b (ss_I (ss_I S 4 x) 5 y) h) (fun _ _ => False) := by
  refine ev_Ct.of (by decide +kernel) (Nat.le_of_ble_eq_true rfl) ?_
  refine e_aload_n dX5_fail_0 rfl rfl ?_
  refine e_iload_n dX5_fail_1 rfl rfl ?_
  refine sy_p5_0 wF_X5_42 dX5_fail_2 ?_
  refine e_aload_n dX5_fail_5 rfl rfl ?_
  refine e_iload_n dX5_fail_6 rfl rfl ?_
  refine sy_p5_1 wF_X5_18 dX5_fail_7 ?_
  refine e_iconst (v := 0) dX5_fail_10 (by decide) ?_
  exact e_zret (ty := .boolean) rfl rfl dX5_fail_11 (⟨rfl, rfl⟩)
set_option maxRecDepth 20000 in
theorem ct_X5_byteAt (hO : rOk b S n) (hx : x = Int32.ofNat q) (hq : q ≤ 2000) : ev_Ct G l mX5_byteAt 0 0 0 [.ref (b + 2), .int x] (sy G b (rS S p v) h) (fun c a => c = some (.int (tB (S.2.1 0) n q)) ∧ a = sy G b (rS S p v) h) (fun _ _ => False) := by
  refine ev_Ct.of (by decide +kernel) (Nat.le_of_ble_eq_true rfl) ?_
  have hq1 : x.toInt = (q : Int) := by rw [hx]; exact ar_of hq
  have hq2 : x.toInt.toNat = q := ar_nat hq1
  have hn1 : (Int32.ofNat n).toInt = (n : Int) := ar_of (by have := hO.2.1; omega)
  have hn2 := hO.2.1
  have w500 : (500 : Int32).toInt = 500 := by decide +kernel
  refine e_aload_n dX5_byteAt_0 rfl rfl ?_
  refine rS_g2 hO wF_X5_22 dX5_byteAt_1 ?_
  refine e_ifnull dX5_byteAt_4 ?_
  refine e_iload_n dX5_byteAt_7 rfl rfl ?_
  refine e_if_lt (tgt := 28) dX5_byteAt_8 (by decide) (fun i8 => ?_) (fun i8 => ?_)
  · omega
  · refine e_iload_n dX5_byteAt_11 rfl rfl ?_
    refine e_aload_n dX5_byteAt_12 rfl rfl ?_
    refine rS_g3 hO wF_X5_32 dX5_byteAt_13 ?_
    refine e_icmp_ge (tgt := 28) dX5_byteAt_16 (by decide) (fun i16 => ?_) (fun i16 => ?_)
    · refine e_iconst (v := (-1)) dX5_byteAt_28 (by decide) ?_
      exact e_iret rfl dX5_byteAt_29 (⟨by rw [tB_ge (by omega)], rfl⟩)
    · refine e_iload_n dX5_byteAt_19 rfl rfl ?_
      refine e_aload_n dX5_byteAt_20 rfl rfl ?_
      refine rS_g2 hO wF_X5_22 dX5_byteAt_21 ?_
      refine sy_n1 (v := 500) (by decide +kernel) dX5_byteAt_24 ?_
      refine e_icmp_lt (tgt := 30) dX5_byteAt_25 (by decide) (fun i25 => ?_) (fun i25 => ?_)
      · refine e_aload_n dX5_byteAt_30 rfl rfl ?_
        refine rS_g2 hO wF_X5_22 dX5_byteAt_31 ?_
        refine e_iload_n dX5_byteAt_34 rfl rfl ?_
        refine sy_l1 (by omega) (by omega) dX5_byteAt_35 ?_
        refine e_sipush (v := 255) dX5_byteAt_36 (by decide) ?_
        refine e_iand dX5_byteAt_39 ?_
        exact e_iret rfl dX5_byteAt_40 (⟨by rw [tB_lt (by omega), ← hq2]; rfl, rfl⟩)
      · omega
set_option maxRecDepth 20000 in
theorem lp_skip {J : ev_K} {k m : Nat} (hJ : 1 ≤ J.2.2.1) (hO : rOk b S n) (hP : J.2.2.2.2.2.1 none (sy G b (rS S q v) h)) : ∀ (r p : Nat), r + p = n → pSk (tB (S.2.1 0) n) r p = q → ev_V G l mX5_skipSpaces J 0 [some (.ref (b + 2))] [] (sy G b (rS S p v) h) k m := by
  have hn2 := hO.2.1
  have hn1 : (Int32.ofNat n).toInt = (n : Int) := ar_of (by omega)
  have w32 : (32 : Int32).toInt = 32 := by decide +kernel
  intro r
  induction r with
  | zero =>
    intro p hr hq
    have hp1 : (Int32.ofNat p).toInt = (p : Int) := ar_of (by omega)
    have hq' : p = q := hq
    subst hq'
    refine e_aload_n dX5_skipSpaces_0 rfl rfl ?_
    refine rS_g4 wF_X5_39 dX5_skipSpaces_1 ?_
    refine e_aload_n dX5_skipSpaces_4 rfl rfl ?_
    refine rS_g3 hO wF_X5_32 dX5_skipSpaces_5 ?_
    refine e_icmp_ge (tgt := 37) dX5_skipSpaces_8 (by decide) (fun i8 => ?_) (fun i8 => ?_)
    · exact e_vret rfl dX5_skipSpaces_37 (hP)
    · omega
  | succ r ih =>
    intro p hr hq
    have hp1 : (Int32.ofNat p).toInt = (p : Int) := ar_of (by omega)
    have hq' : (if tB (S.2.1 0) n p = 32 then pSk (tB (S.2.1 0) n) r (p + 1) else p) = q := hq
    refine e_aload_n dX5_skipSpaces_0 rfl rfl ?_
    refine rS_g4 wF_X5_39 dX5_skipSpaces_1 ?_
    refine e_aload_n dX5_skipSpaces_4 rfl rfl ?_
    refine rS_g3 hO wF_X5_32 dX5_skipSpaces_5 ?_
    refine e_icmp_ge (tgt := 37) dX5_skipSpaces_8 (by decide) (fun i8 => ?_) (fun i8 => ?_)
    · omega
    · refine e_aload_n dX5_skipSpaces_11 rfl rfl ?_
      refine e_aload_n dX5_skipSpaces_12 rfl rfl ?_
      refine rS_g4 wF_X5_39 dX5_skipSpaces_13 ?_
      refine e_invV (mcY := 0) (msY := 0) (ct_X5_byteAt hO (q := p) (rfl) (by have := hO.2.1; omega)) vX5_byteAt wM_X5_200 (sy_at G b _ h 2 (by decide)) rfl dX5_skipSpaces_16 rfl rfl (Nat.le_of_ble_eq_true rfl) (Nat.le_trans (Nat.le_of_ble_eq_true rfl) hJ) ?_
      rintro _ _ ⟨rfl, rfl⟩
      refine e_bipush (v := 32) dX5_skipSpaces_19 (by decide) ?_
      refine e_icmp_ne (tgt := 37) dX5_skipSpaces_21 (by decide) (fun i21 => ?_) (fun i21 => ?_)
      · rw [if_neg i21] at hq'
        subst hq'
        exact e_vret rfl dX5_skipSpaces_37 (hP)
      · rw [if_pos i21] at hq'
        refine e_aload_n dX5_skipSpaces_24 rfl rfl ?_
        refine e_dup dX5_skipSpaces_25 rfl ?_
        refine rS_g4 wF_X5_39 dX5_skipSpaces_26 ?_
        refine e_iconst (v := 1) dX5_skipSpaces_29 (by decide) ?_
        refine e_iadd dX5_skipSpaces_30 ?_
        refine rS_p4 (q := p + 1) (ar_ofadd (i := 1) ar_1 (by omega) (by omega)) wF_X5_39 dX5_skipSpaces_31 ?_
        refine e_goto (tgt := 0) dX5_skipSpaces_34 (by decide) ?_
        exact ih (p + 1) (by omega) hq'
set_option maxRecDepth 20000 in
theorem ct_X5_skipSpaces (hO : rOk b S n) (hp : p ≤ n) : ev_Ct G l mX5_skipSpaces 1 0 0 [.ref (b + 2)] (sy G b (rS S p v) h) (fun c a => c = none ∧ a = sy G b (rS S (sk (tB (S.2.1 0) n) n p) v) h) (fun _ _ => False) := by
  refine ev_Ct.of (by decide +kernel) (Nat.le_of_ble_eq_true rfl) ?_
  exact lp_skip (Nat.le_of_ble_eq_true rfl) hO (by exact ⟨rfl, rfl⟩) (n - p) p (by omega) rfl
end RD1
