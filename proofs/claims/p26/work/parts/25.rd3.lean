/-! the reader: numbers and signs as wholes -/
def oN (G : ev_G) (b : Nat) (S : SS) (h : ev_H) (r : Nat × Nat × Int) (c : Option Value) (a : ev_H) : Prop := (r.1 = 0 ∧ c = some (.int 1) ∧ a = sy G b (rS S r.2.1 (Int32.ofInt r.2.2)) h) ∨ (r.1 ≠ 0 ∧ c = some (.int 0) ∧ FR G b S h r.1 r.2.1 a)
theorem pC_ok {B : Nat → Int32} {n s : Nat} {hi : Int} (h1 : (pDC B (n - s) s 0).toInt ≤ hi) (hh : hi < 10000000) : (pDC B (n - s) s 0).toInt = (dN B n s : Int) ∧ dN B n s < 100000000 := by
  rcases pDC_rel B (n - s) s 0 0 (Or.inl ⟨ar_0, by omega⟩) with e | e
  · exact e
  · omega
theorem pC_bad {B : Nat → Int32} {n s : Nat} {hi : Int} (h1 : ¬ (pDC B (n - s) s 0).toInt ≤ hi) : ¬ (dN B n s : Int) ≤ hi ∨ 10000000 ≤ dN B n s := by
  rcases pDC_rel B (n - s) s 0 0 (Or.inl ⟨ar_0, by omega⟩) with e | e
  · have : dN B n s = pDN B (n - s) s 0 := rfl
    exact Or.inl (by omega)
  · exact Or.inr e.1
theorem pC_nn (B : Nat → Int32) (n s : Nat) : 0 ≤ (pDC B (n - s) s 0).toInt ∧ (pDC B (n - s) s 0).toInt < 100000000 := by
  rcases pDC_rel B (n - s) s 0 0 (Or.inl ⟨ar_0, by omega⟩) with e | e <;> omega
theorem pN_ok {B : Nat → Int32} {n p : Nat} {lo hi : Int} {w : Int32} (hw : w = pDC B (n - sk B n p) (sk B n p) 0) (hd : isD (B (sk B n p))) (h1 : lo ≤ w.toInt ∧ w.toInt ≤ hi) (hh : hi < 10000000) : (pN B n lo hi p).1 = 0 ∧ (pN B n lo hi p).2.1 = dE B n (sk B n p) ∧ Int32.ofInt (pN B n lo hi p).2.2 = w := by
  subst hw
  have e := pC_ok h1.2 hh
  unfold pN
  rw [if_pos hd, if_pos (by omega)]
  exact ⟨rfl, rfl, ar_eq (by show (Int32.ofInt (dN B n (sk B n p) : Int)).toInt = _; rw [ar_ofI (by omega) (by omega), e.1])⟩
theorem pN_bad {B : Nat → Int32} {n p : Nat} {lo hi : Int} {w : Int32} (hw : w = pDC B (n - sk B n p) (sk B n p) 0) (hd : isD (B (sk B n p))) (h1 : ¬ (lo ≤ w.toInt ∧ w.toInt ≤ hi)) (hh : hi < 10000000) : pN B n lo hi p = (3, sk B n p, 0) := by
  subst hw
  unfold pN
  rw [if_pos hd, if_neg]
  intro q
  refine h1 ?_
  rcases pDC_rel B (n - sk B n p) (sk B n p) 0 0 (Or.inl ⟨ar_0, by omega⟩) with e | e
  · have : dN B n (sk B n p) = pDN B (n - sk B n p) (sk B n p) 0 := rfl
    omega
  · have : dN B n (sk B n p) = pDN B (n - sk B n p) (sk B n p) 0 := rfl
    omega
theorem pN_syn {B : Nat → Int32} {n p : Nat} {lo hi : Int} (hd : ¬ isD (B (sk B n p))) : pN B n lo hi p = (2, sk B n p, 0) := if_neg hd
theorem pS_pos {B : Nat → Int32} {n p : Nat} {m : Int} (hd : ¬ B (sk B n p) = 45) : pS B n m p = pN B n (-m) m p := if_neg hd
theorem pS_ok {B : Nat → Int32} {n p s2 : Nat} {m : Int} {w : Int32} (h45 : B (sk B n p) = 45) (hs : s2 = sk B n (sk B n p + 1)) (hw : w = pDC B (n - s2) s2 0) (hd : isD (B s2)) (h1 : (-w).toInt ≥ -m) (hh : m < 10000000) : (pS B n m p).1 = 0 ∧ (pS B n m p).2.1 = dE B n s2 ∧ Int32.ofInt (pS B n m p).2.2 = -w := by
  subst hs
  subst hw
  have e0 := pC_nn B n (sk B n (sk B n p + 1))
  rw [ar_neg (by omega)] at h1
  have e := pC_ok (B := B) (n := n) (s := sk B n (sk B n p + 1)) (hi := m) (by omega) hh
  unfold pS
  rw [if_pos h45, if_pos hd, if_pos (by omega)]
  refine ⟨rfl, rfl, ar_eq ?_⟩
  show (Int32.ofInt (-(dN B n (sk B n (sk B n p + 1)) : Int))).toInt = _
  rw [ar_ofI (by omega) (by omega), ar_neg (by omega), e.1]
theorem pS_bad {B : Nat → Int32} {n p s2 : Nat} {m : Int} {w : Int32} (h45 : B (sk B n p) = 45) (hs : s2 = sk B n (sk B n p + 1)) (hw : w = pDC B (n - s2) s2 0) (hd : isD (B s2)) (h1 : ¬ (-w).toInt ≥ -m) (hh : m < 10000000) : pS B n m p = (3, sk B n p, 0) := by
  subst hs
  subst hw
  have e0 := pC_nn B n (sk B n (sk B n p + 1))
  rw [ar_neg (by omega)] at h1
  unfold pS
  rw [if_pos h45, if_pos hd, if_neg]
  intro q
  rcases pDC_rel B (n - sk B n (sk B n p + 1)) (sk B n (sk B n p + 1)) 0 0 (Or.inl ⟨ar_0, by omega⟩) with e | e
  · have : dN B n (sk B n (sk B n p + 1)) = pDN B (n - sk B n (sk B n p + 1)) (sk B n (sk B n p + 1)) 0 := rfl
    omega
  · have : dN B n (sk B n (sk B n p + 1)) = pDN B (n - sk B n (sk B n p + 1)) (sk B n (sk B n p + 1)) 0 := rfl
    omega
theorem pS_syn {B : Nat → Int32} {n p s2 : Nat} {m : Int} (h45 : B (sk B n p) = 45) (hs : s2 = sk B n (sk B n p + 1)) (hd : ¬ isD (B s2)) : pS B n m p = (2, s2, 0) := by
  subst hs
  unfold pS
  rw [if_pos h45, if_neg hd]
/-- what a number that was read promises -/
theorem pN_0 {B : Nat → Int32} {n p : Nat} {lo hi : Int} (hB : ∀ k, n ≤ k → B k = -1) (hp : p ≤ n) (h : (pN B n lo hi p).1 = 0) : p < (pN B n lo hi p).2.1 ∧ (pN B n lo hi p).2.1 ≤ n ∧ lo ≤ (pN B n lo hi p).2.2 ∧ (pN B n lo hi p).2.2 ≤ hi := by
  have hs := sk_rng B hp
  unfold pN at h ⊢
  by_cases hd : isD (B (sk B n p))
  · rw [if_pos hd] at h ⊢
    by_cases hr : lo ≤ (dN B n (sk B n p) : Int) ∧ (dN B n (sk B n p) : Int) ≤ hi
    · rw [if_pos hr] at h ⊢
      have hlt : sk B n p < n := Nat.lt_of_not_le fun c => by have q := hd.1; rw [hB _ c, ar_m1] at q; omega
      have := dE_up hd hlt
      have := dE_rng B hs.2
      exact ⟨by show p < dE B n (sk B n p); omega, by show dE B n (sk B n p) ≤ n; omega, hr.1, hr.2⟩
    · rw [if_neg hr] at h; exact absurd h (by simp)
  · rw [if_neg hd] at h; exact absurd h (by simp)
theorem pS_0 {B : Nat → Int32} {n p : Nat} {m : Int} (hB : ∀ k, n ≤ k → B k = -1) (hp : p ≤ n) (hm : 0 ≤ m) (h : (pS B n m p).1 = 0) : p < (pS B n m p).2.1 ∧ (pS B n m p).2.1 ≤ n ∧ -m ≤ (pS B n m p).2.2 ∧ (pS B n m p).2.2 ≤ m := by
  by_cases c : B (sk B n p) = 45
  · have hs := sk_rng B hp
    have hlt : sk B n p < n := Nat.lt_of_not_le fun c2 => by rw [hB _ c2] at c; exact absurd c (by decide)
    have hs2 := sk_rng B (n := n) (p := sk B n p + 1) (by omega)
    unfold pS at h ⊢
    rw [if_pos c] at h ⊢
    by_cases hd : isD (B (sk B n (sk B n p + 1)))
    · rw [if_pos hd] at h ⊢
      by_cases hr : (dN B n (sk B n (sk B n p + 1)) : Int) ≤ m
      · rw [if_pos hr] at h ⊢
        have := dE_rng B hs2.2
        exact ⟨by show p < dE B n (sk B n (sk B n p + 1)); omega, by show dE B n (sk B n (sk B n p + 1)) ≤ n; omega, by show -m ≤ -(dN B n (sk B n (sk B n p + 1)) : Int); omega, by show -(dN B n (sk B n (sk B n p + 1)) : Int) ≤ m; omega⟩
      · rw [if_neg hr] at h; exact absurd h (by simp)
    · rw [if_neg hd] at h; exact absurd h (by simp)
  · rw [pS_pos c] at h ⊢
    exact pN_0 hB hp h
section RD3
variable {G : ev_G} {l : Launch} {M : ev_M} {J : ev_K} {pc k m idx : Nat} {L : List (Option Value)} {st : List Value} {b n p q j : Nat} {S : SS} {h : ev_H} {x y z v : Int32}
set_option maxRecDepth 20000 in
theorem ct_X5_readNumber (hO : rOk b S n) (hp : p ≤ n) (y1 : y.toInt < 10000000) : ev_Ct G l mX5_readNumber 3 0 0 [.ref (b + 2), .int x, .int y] (sy G b (rS S p v) h) (fun c a => oN G b S h (pN (tB (S.2.1 0) n) n x.toInt y.toInt p) c a) (fun _ _ => False) := by
  refine ev_Ct.of (by decide +kernel) (Nat.le_of_ble_eq_true rfl) ?_
  refine e_aload_n dX5_readNumber_0 rfl rfl ?_
  refine e_invV (mcY := 0) (msY := 0) (ct_X5_skipSpaces hO hp) vX5_skipSpaces wM_X5_63 (sy_at G b _ h 2 (by decide)) rfl dX5_readNumber_1 rfl rfl (Nat.le_of_ble_eq_true rfl) (Nat.le_of_ble_eq_true rfl) ?_
  rintro _ _ ⟨rfl, rfl⟩
  refine e_aload_n dX5_readNumber_4 rfl rfl ?_
  refine rS_g4 wF_X5_39 dX5_readNumber_5 ?_
  refine e_istore_n dX5_readNumber_8 rfl (Nat.le_of_ble_eq_true rfl) ?_
  refine e_aload_n dX5_readNumber_9 rfl rfl ?_
  refine e_invV (mcY := 0) (msY := 0) (ct_X5_readDigits hO (sk_rng _ hp).2) vX5_readDigits wM_X5_193 (sy_at G b _ h 2 (by decide)) rfl dX5_readNumber_10 rfl rfl (Nat.le_of_ble_eq_true rfl) (Nat.le_of_ble_eq_true rfl) ?_
  rintro c a hc
  rcases hc with ⟨r0, rfl, rfl⟩ | ⟨r0, rfl, hf⟩
  · refine e_if_eq (tgt := 30) dX5_readNumber_13 (by decide) (fun i13 => ?_) (fun i13 => ?_)
    · first | exact absurd i13 (by decide) | exact absurd rfl i13
    · refine e_aload_n dX5_readNumber_16 rfl rfl ?_
      refine e_iload_n dX5_readNumber_17 rfl rfl ?_
      refine e_iload_n dX5_readNumber_18 rfl rfl ?_
      refine e_iload_n dX5_readNumber_19 rfl rfl ?_
      refine e_invV (mcY := 0) (msY := 0) (ct_X5_checkRange) vX5_checkRange wM_X5_196 (sy_at G b _ h 2 (by decide)) rfl dX5_readNumber_20 rfl rfl (Nat.le_of_ble_eq_true rfl) (Nat.le_of_ble_eq_true rfl) ?_
      rintro c a hc
      rcases hc with ⟨r1, rfl, rfl⟩ | ⟨r1, rfl, rfl⟩
      · have e := pN_ok rfl r0 r1 y1
        refine e_if_eq (tgt := 30) dX5_readNumber_23 (by decide) (fun i23 => ?_) (fun i23 => ?_)
        · first | exact absurd i23 (by decide) | exact absurd rfl i23
        · refine e_iconst (v := 1) dX5_readNumber_26 (by decide) ?_
          refine e_goto (tgt := 31) dX5_readNumber_27 (by decide) ?_
          exact e_zret (ty := .boolean) rfl rfl dX5_readNumber_31 (by first | exact Or.inl ⟨e.1, rfl, by rw [e.2.1, e.2.2]⟩ | exact Or.inr ⟨by rw [e]; simp, rfl, by rw [e]; exact hf⟩ | exact Or.inr ⟨by rw [e]; simp, rfl, by rw [e]; exact FR_of G b S h _ _ _ _ 3 (by decide +kernel)⟩)
      · have e := pN_bad rfl r0 r1 y1
        refine e_if_eq (tgt := 30) dX5_readNumber_23 (by decide) (fun i23 => ?_) (fun i23 => ?_)
        · refine e_iconst (v := 0) dX5_readNumber_30 (by decide) ?_
          exact e_zret (ty := .boolean) rfl rfl dX5_readNumber_31 (by first | exact Or.inl ⟨e.1, rfl, by rw [e.2.1, e.2.2]⟩ | exact Or.inr ⟨by rw [e]; simp, rfl, by rw [e]; exact hf⟩ | exact Or.inr ⟨by rw [e]; simp, rfl, by rw [e]; exact FR_of G b S h _ _ _ _ 3 (by decide +kernel)⟩)
        · first | exact absurd i23 (by decide) | exact absurd rfl i23
  · have e := pN_syn (lo := x.toInt) (hi := y.toInt) r0
    refine e_if_eq (tgt := 30) dX5_readNumber_13 (by decide) (fun i13 => ?_) (fun i13 => ?_)
    · refine e_iconst (v := 0) dX5_readNumber_30 (by decide) ?_
      exact e_zret (ty := .boolean) rfl rfl dX5_readNumber_31 (by first | exact Or.inl ⟨e.1, rfl, by rw [e.2.1, e.2.2]⟩ | exact Or.inr ⟨by rw [e]; simp, rfl, by rw [e]; exact hf⟩ | exact Or.inr ⟨by rw [e]; simp, rfl, by rw [e]; exact FR_of G b S h _ _ _ _ 3 (by decide +kernel)⟩)
    · first | exact absurd i13 (by decide) | exact absurd rfl i13
set_option maxRecDepth 20000 in
theorem ct_X5_readSigned (hO : rOk b S n) (hp : p ≤ n) (x0 : 0 ≤ x.toInt) (x1 : x.toInt < 10000000) : ev_Ct G l mX5_readSigned 3 0 0 [.ref (b + 2), .int x] (sy G b (rS S p v) h) (fun c a => oN G b S h (pS (tB (S.2.1 0) n) n x.toInt p) c a) (fun _ _ => False) := by
  refine ev_Ct.of (by decide +kernel) (Nat.le_of_ble_eq_true rfl) ?_
  have hn2 := hO.2.1
  have hs1 := sk_rng (tB (S.2.1 0) n) hp
  have xn : (-x).toInt = -x.toInt := ar_neg (by omega)
  refine e_aload_n dX5_readSigned_0 rfl rfl ?_
  refine e_invV (mcY := 0) (msY := 0) (ct_X5_skipSpaces hO hp) vX5_skipSpaces wM_X5_63 (sy_at G b _ h 2 (by decide)) rfl dX5_readSigned_1 rfl rfl (Nat.le_of_ble_eq_true rfl) (Nat.le_of_ble_eq_true rfl) ?_
  rintro _ _ ⟨rfl, rfl⟩
  refine e_aload_n dX5_readSigned_4 rfl rfl ?_
  refine rS_g4 wF_X5_39 dX5_readSigned_5 ?_
  refine e_istore_n dX5_readSigned_8 rfl (Nat.le_of_ble_eq_true rfl) ?_
  refine e_aload_n dX5_readSigned_9 rfl rfl ?_
  refine e_aload_n dX5_readSigned_10 rfl rfl ?_
  refine rS_g4 wF_X5_39 dX5_readSigned_11 ?_
  refine e_invV (mcY := 0) (msY := 0) (ct_X5_byteAt hO (q := sk (tB (S.2.1 0) n) n p) (rfl) (by have := hO.2.1; omega)) vX5_byteAt wM_X5_200 (sy_at G b _ h 2 (by decide)) rfl dX5_readSigned_14 rfl rfl (Nat.le_of_ble_eq_true rfl) (Nat.le_of_ble_eq_true rfl) ?_
  rintro _ _ ⟨rfl, rfl⟩
  refine e_bipush (v := 45) dX5_readSigned_17 (by decide) ?_
  refine e_icmp_ne (tgt := 26) dX5_readSigned_19 (by decide) (fun i19 => ?_) (fun i19 => ?_)
  · have c45 : ¬ tB (S.2.1 0) n (sk (tB (S.2.1 0) n) n p) = 45 := i19
    have ep := pS_pos (m := x.toInt) c45
    refine e_iconst (v := 0) dX5_readSigned_26 (by decide) ?_
    refine e_istore_n dX5_readSigned_27 rfl (Nat.le_of_ble_eq_true rfl) ?_
    refine e_iload_n dX5_readSigned_28 rfl rfl ?_
    refine e_if_eq (tgt := 46) dX5_readSigned_29 (by decide) (fun i29 => ?_) (fun i29 => ?_)
    · refine e_aload_n dX5_readSigned_46 rfl rfl ?_
      refine e_invV (mcY := 0) (msY := 0) (ct_X5_readDigits hO (by first | exact (sk_rng _ hp).2 | exact (sk_rng _ (show sk (tB (S.2.1 0) n) n p + 1 ≤ n by omega)).2)) vX5_readDigits wM_X5_193 (sy_at G b _ h 2 (by decide)) rfl dX5_readSigned_47 rfl rfl (Nat.le_of_ble_eq_true rfl) (Nat.le_of_ble_eq_true rfl) ?_
      rintro c a hc
      rcases hc with ⟨r0, rfl, rfl⟩ | ⟨r0, rfl, hf⟩
      · refine e_if_ne (tgt := 55) dX5_readSigned_50 (by decide) (fun i50 => ?_) (fun i50 => ?_)
        · refine e_iload_n dX5_readSigned_55 rfl rfl ?_
          refine e_if_eq (tgt := 68) dX5_readSigned_56 (by decide) (fun i56 => ?_) (fun i56 => ?_)
          · refine e_aload_n dX5_readSigned_68 rfl rfl ?_
            refine e_iload_n dX5_readSigned_69 rfl rfl ?_
            refine e_ineg dX5_readSigned_70 ?_
            refine e_iload_n dX5_readSigned_71 rfl rfl ?_
            refine e_iload_n dX5_readSigned_72 rfl rfl ?_
            refine e_invV (mcY := 0) (msY := 0) (ct_X5_checkRange) vX5_checkRange wM_X5_196 (sy_at G b _ h 2 (by decide)) rfl dX5_readSigned_73 rfl rfl (Nat.le_of_ble_eq_true rfl) (Nat.le_of_ble_eq_true rfl) ?_
            rintro c a hc
            rcases hc with ⟨r1, rfl, rfl⟩ | ⟨r1, rfl, rfl⟩
            · first
                | (have e := pN_ok rfl r0 r1 x1; rw [xn, ← ep] at e)
                | have e := pS_ok c45 rfl rfl r0 (by rw [← xn]; exact r1.1) x1
              exact e_zret (ty := .boolean) rfl rfl dX5_readSigned_76 (by first | exact Or.inl ⟨e.1, rfl, by rw [e.2.1, e.2.2]⟩ | exact Or.inr ⟨by rw [e]; simp, rfl, by rw [e]; exact hf⟩ | exact Or.inr ⟨by rw [e]; simp, rfl, by rw [e]; exact FR_of G b S h _ _ _ _ 3 (by decide +kernel)⟩)
            · first
                | (have e := pN_bad rfl r0 r1 x1; rw [xn, ← ep] at e)
                | have e := pS_bad c45 rfl rfl r0 (fun q2 => r1 ⟨by rw [xn]; exact q2, Int.le_trans (by have q3 := pC_nn (tB (S.2.1 0) n) n (sk (tB (S.2.1 0) n) n (sk (tB (S.2.1 0) n) n p + 1)); rw [ar_neg (by omega)]; omega) x0⟩) x1
              exact e_zret (ty := .boolean) rfl rfl dX5_readSigned_76 (by first | exact Or.inl ⟨e.1, rfl, by rw [e.2.1, e.2.2]⟩ | exact Or.inr ⟨by rw [e]; simp, rfl, by rw [e]; exact hf⟩ | exact Or.inr ⟨by rw [e]; simp, rfl, by rw [e]; exact FR_of G b S h _ _ _ _ 3 (by decide +kernel)⟩)
          · first | exact absurd i56 (by decide) | exact absurd rfl i56
        · first | exact absurd i50 (by decide) | exact absurd rfl i50
      · first
          | (have e := pN_syn (lo := -x.toInt) (hi := x.toInt) r0; rw [← ep] at e)
          | have e := pS_syn (m := x.toInt) c45 rfl r0
        refine e_if_ne (tgt := 55) dX5_readSigned_50 (by decide) (fun i50 => ?_) (fun i50 => ?_)
        · first | exact absurd i50 (by decide) | exact absurd rfl i50
        · refine e_iconst (v := 0) dX5_readSigned_53 (by decide) ?_
          exact e_zret (ty := .boolean) rfl rfl dX5_readSigned_54 (by first | exact Or.inl ⟨e.1, rfl, by rw [e.2.1, e.2.2]⟩ | exact Or.inr ⟨by rw [e]; simp, rfl, by rw [e]; exact hf⟩ | exact Or.inr ⟨by rw [e]; simp, rfl, by rw [e]; exact FR_of G b S h _ _ _ _ 3 (by decide +kernel)⟩)
    · first | exact absurd i29 (by decide) | exact absurd rfl i29
  · have ep : True := trivial
    have c45 : tB (S.2.1 0) n (sk (tB (S.2.1 0) n) n p) = 45 := i19
    have hlt : sk (tB (S.2.1 0) n) n p < n := Nat.lt_of_not_le fun c => by rw [tB_ge c] at c45; exact absurd c45 (by decide)
    refine e_iconst (v := 1) dX5_readSigned_22 (by decide) ?_
    refine e_goto (tgt := 27) dX5_readSigned_23 (by decide) ?_
    refine e_istore_n dX5_readSigned_27 rfl (Nat.le_of_ble_eq_true rfl) ?_
    refine e_iload_n dX5_readSigned_28 rfl rfl ?_
    refine e_if_eq (tgt := 46) dX5_readSigned_29 (by decide) (fun i29 => ?_) (fun i29 => ?_)
    · first | exact absurd i29 (by decide) | exact absurd rfl i29
    · refine e_aload_n dX5_readSigned_32 rfl rfl ?_
      refine e_dup dX5_readSigned_33 rfl ?_
      refine rS_g4 wF_X5_39 dX5_readSigned_34 ?_
      refine e_iconst (v := 1) dX5_readSigned_37 (by decide) ?_
      refine e_iadd dX5_readSigned_38 ?_
      refine rS_p4 (q := sk (tB (S.2.1 0) n) n p + 1) (ar_ofadd (i := 1) ar_1 (by omega) (by omega)) wF_X5_39 dX5_readSigned_39 ?_
      refine e_aload_n dX5_readSigned_42 rfl rfl ?_
      refine e_invV (mcY := 0) (msY := 0) (ct_X5_skipSpaces hO (p := sk (tB (S.2.1 0) n) n p + 1) (by omega)) vX5_skipSpaces wM_X5_63 (sy_at G b _ h 2 (by decide)) rfl dX5_readSigned_43 rfl rfl (Nat.le_of_ble_eq_true rfl) (Nat.le_of_ble_eq_true rfl) ?_
      rintro _ _ ⟨rfl, rfl⟩
      refine e_aload_n dX5_readSigned_46 rfl rfl ?_
      refine e_invV (mcY := 0) (msY := 0) (ct_X5_readDigits hO (by first | exact (sk_rng _ hp).2 | exact (sk_rng _ (show sk (tB (S.2.1 0) n) n p + 1 ≤ n by omega)).2)) vX5_readDigits wM_X5_193 (sy_at G b _ h 2 (by decide)) rfl dX5_readSigned_47 rfl rfl (Nat.le_of_ble_eq_true rfl) (Nat.le_of_ble_eq_true rfl) ?_
      rintro c a hc
      rcases hc with ⟨r0, rfl, rfl⟩ | ⟨r0, rfl, hf⟩
      · refine e_if_ne (tgt := 55) dX5_readSigned_50 (by decide) (fun i50 => ?_) (fun i50 => ?_)
        · refine e_iload_n dX5_readSigned_55 rfl rfl ?_
          refine e_if_eq (tgt := 68) dX5_readSigned_56 (by decide) (fun i56 => ?_) (fun i56 => ?_)
          · first | exact absurd i56 (by decide) | exact absurd rfl i56
          · refine e_aload_n dX5_readSigned_59 rfl rfl ?_
            refine e_aload_n dX5_readSigned_60 rfl rfl ?_
            refine rS_g5 wF_X5_79 dX5_readSigned_61 ?_
            refine e_ineg dX5_readSigned_64 ?_
            refine rS_p5 wF_X5_79 dX5_readSigned_65 ?_
            refine e_aload_n dX5_readSigned_68 rfl rfl ?_
            refine e_iload_n dX5_readSigned_69 rfl rfl ?_
            refine e_ineg dX5_readSigned_70 ?_
            refine e_iload_n dX5_readSigned_71 rfl rfl ?_
            refine e_iload_n dX5_readSigned_72 rfl rfl ?_
            refine e_invV (mcY := 0) (msY := 0) (ct_X5_checkRange) vX5_checkRange wM_X5_196 (sy_at G b _ h 2 (by decide)) rfl dX5_readSigned_73 rfl rfl (Nat.le_of_ble_eq_true rfl) (Nat.le_of_ble_eq_true rfl) ?_
            rintro c a hc
            rcases hc with ⟨r1, rfl, rfl⟩ | ⟨r1, rfl, rfl⟩
            · first
                | (have e := pN_ok rfl r0 r1 x1; rw [xn, ← ep] at e)
                | have e := pS_ok c45 rfl rfl r0 (by rw [← xn]; exact r1.1) x1
              exact e_zret (ty := .boolean) rfl rfl dX5_readSigned_76 (by first | exact Or.inl ⟨e.1, rfl, by rw [e.2.1, e.2.2]⟩ | exact Or.inr ⟨by rw [e]; simp, rfl, by rw [e]; exact hf⟩ | exact Or.inr ⟨by rw [e]; simp, rfl, by rw [e]; exact FR_of G b S h _ _ _ _ 3 (by decide +kernel)⟩)
            · first
                | (have e := pN_bad rfl r0 r1 x1; rw [xn, ← ep] at e)
                | have e := pS_bad c45 rfl rfl r0 (fun q2 => r1 ⟨by rw [xn]; exact q2, Int.le_trans (by have q3 := pC_nn (tB (S.2.1 0) n) n (sk (tB (S.2.1 0) n) n (sk (tB (S.2.1 0) n) n p + 1)); rw [ar_neg (by omega)]; omega) x0⟩) x1
              exact e_zret (ty := .boolean) rfl rfl dX5_readSigned_76 (by first | exact Or.inl ⟨e.1, rfl, by rw [e.2.1, e.2.2]⟩ | exact Or.inr ⟨by rw [e]; simp, rfl, by rw [e]; exact hf⟩ | exact Or.inr ⟨by rw [e]; simp, rfl, by rw [e]; exact FR_of G b S h _ _ _ _ 3 (by decide +kernel)⟩)
        · first | exact absurd i50 (by decide) | exact absurd rfl i50
      · first
          | (have e := pN_syn (lo := -x.toInt) (hi := x.toInt) r0; rw [← ep] at e)
          | have e := pS_syn (m := x.toInt) c45 rfl r0
        refine e_if_ne (tgt := 55) dX5_readSigned_50 (by decide) (fun i50 => ?_) (fun i50 => ?_)
        · first | exact absurd i50 (by decide) | exact absurd rfl i50
        · refine e_iconst (v := 0) dX5_readSigned_53 (by decide) ?_
          exact e_zret (ty := .boolean) rfl rfl dX5_readSigned_54 (by first | exact Or.inl ⟨e.1, rfl, by rw [e.2.1, e.2.2]⟩ | exact Or.inr ⟨by rw [e]; simp, rfl, by rw [e]; exact hf⟩ | exact Or.inr ⟨by rw [e]; simp, rfl, by rw [e]; exact FR_of G b S h _ _ _ _ 3 (by decide +kernel)⟩)
set_option maxRecDepth 20000 in
theorem ct_X5_readSign (hO : rOk b S n) (hp : p ≤ n) : ev_Ct G l mX5_readSign 2 0 0 [.ref (b + 2), .int y] (sy G b (rS S p v) h) (fun c a => ((tB (S.2.1 0) n) (sk (tB (S.2.1 0) n) n p) = y ∧ c = some (.int 1) ∧ a = sy G b (rS S ((sk (tB (S.2.1 0) n) n p) + 1) v) h) ∨ (¬ (tB (S.2.1 0) n) (sk (tB (S.2.1 0) n) n p) = y ∧ c = some (.int 0) ∧ FR G b S h 2 (sk (tB (S.2.1 0) n) n p) a)) (fun _ _ => False) := by
  refine ev_Ct.of (by decide +kernel) (Nat.le_of_ble_eq_true rfl) ?_
  have hn2 := hO.2.1
  have hs1 := sk_rng (tB (S.2.1 0) n) hp
  refine e_aload_n dX5_readSign_0 rfl rfl ?_
  refine e_invV (mcY := 0) (msY := 0) (ct_X5_skipSpaces hO hp) vX5_skipSpaces wM_X5_63 (sy_at G b _ h 2 (by decide)) rfl dX5_readSign_1 rfl rfl (Nat.le_of_ble_eq_true rfl) (Nat.le_of_ble_eq_true rfl) ?_
  rintro _ _ ⟨rfl, rfl⟩
  refine e_aload_n dX5_readSign_4 rfl rfl ?_
  refine e_aload_n dX5_readSign_5 rfl rfl ?_
  refine rS_g4 wF_X5_39 dX5_readSign_6 ?_
  refine e_invV (mcY := 0) (msY := 0) (ct_X5_byteAt hO (q := sk (tB (S.2.1 0) n) n p) (rfl) (by have := hO.2.1; omega)) vX5_byteAt wM_X5_200 (sy_at G b _ h 2 (by decide)) rfl dX5_readSign_9 rfl rfl (Nat.le_of_ble_eq_true rfl) (Nat.le_of_ble_eq_true rfl) ?_
  rintro _ _ ⟨rfl, rfl⟩
  refine e_iload_n dX5_readSign_12 rfl rfl ?_
  refine e_icmp_eq (tgt := 27) dX5_readSign_13 (by decide) (fun i13 => ?_) (fun i13 => ?_)
  · refine e_aload_n dX5_readSign_27 rfl rfl ?_
    refine e_dup dX5_readSign_28 rfl ?_
    refine rS_g4 wF_X5_39 dX5_readSign_29 ?_
    refine e_iconst (v := 1) dX5_readSign_32 (by decide) ?_
    refine e_iadd dX5_readSign_33 ?_
    refine rS_p4 (q := sk (tB (S.2.1 0) n) n p + 1) (ar_ofadd (i := 1) ar_1 (by omega) (by omega)) wF_X5_39 dX5_readSign_34 ?_
    refine e_iconst (v := 1) dX5_readSign_37 (by decide) ?_
    exact e_zret (ty := .boolean) rfl rfl dX5_readSign_38 (Or.inl (by exact ⟨i13, rfl, rfl⟩))
  · refine e_aload_n dX5_readSign_16 rfl rfl ?_
    refine e_bipush (v := (-2)) dX5_readSign_17 (by decide) ?_
    refine e_aload_n dX5_readSign_19 rfl rfl ?_
    refine rS_g4 wF_X5_39 dX5_readSign_20 ?_
    refine e_invV (mcY := 0) (msY := 0) (ct_X5_fail) vX5_fail wM_X5_72 (sy_at G b _ h 2 (by decide)) rfl dX5_readSign_23 rfl rfl (Nat.le_of_ble_eq_true rfl) (Nat.le_of_ble_eq_true rfl) ?_
    rintro _ _ ⟨rfl, rfl⟩
    exact e_zret (ty := .boolean) rfl rfl dX5_readSign_26 (Or.inr (by exact ⟨i13, rfl, FR_of G b S h _ _ _ _ 2 (by decide +kernel)⟩))
set_option maxRecDepth 20000 in
theorem ct_X5_isAtEnd (hO : rOk b S n) (hp : p ≤ n) : ev_Ct G l mX5_isAtEnd 2 0 0 [.ref (b + 2)] (sy G b (rS S p v) h) (fun c a => (n ≤ (sk (tB (S.2.1 0) n) n p) ∧ c = some (.int 1) ∧ a = sy G b (rS S (sk (tB (S.2.1 0) n) n p) v) h) ∨ ((sk (tB (S.2.1 0) n) n p) < n ∧ c = some (.int 0) ∧ a = sy G b (rS S (sk (tB (S.2.1 0) n) n p) v) h)) (fun _ _ => False) := by
  refine ev_Ct.of (by decide +kernel) (Nat.le_of_ble_eq_true rfl) ?_
  have hn2 := hO.2.1
  have hs1 := sk_rng (tB (S.2.1 0) n) hp
  have e1 := ar_of (n := n) (by omega)
  have e2 := ar_of (n := (sk (tB (S.2.1 0) n) n p)) (by omega)
  refine e_aload_n dX5_isAtEnd_0 rfl rfl ?_
  refine e_invV (mcY := 0) (msY := 0) (ct_X5_skipSpaces hO hp) vX5_skipSpaces wM_X5_63 (sy_at G b _ h 2 (by decide)) rfl dX5_isAtEnd_1 rfl rfl (Nat.le_of_ble_eq_true rfl) (Nat.le_of_ble_eq_true rfl) ?_
  rintro _ _ ⟨rfl, rfl⟩
  refine e_aload_n dX5_isAtEnd_4 rfl rfl ?_
  refine rS_g4 wF_X5_39 dX5_isAtEnd_5 ?_
  refine e_aload_n dX5_isAtEnd_8 rfl rfl ?_
  refine rS_g3 hO wF_X5_32 dX5_isAtEnd_9 ?_
  refine e_icmp_lt (tgt := 19) dX5_isAtEnd_12 (by decide) (fun i12 => ?_) (fun i12 => ?_)
  · refine e_iconst (v := 0) dX5_isAtEnd_19 (by decide) ?_
    exact e_zret (ty := .boolean) rfl rfl dX5_isAtEnd_20 (by first | exact Or.inl ⟨by omega, rfl, rfl⟩ | exact Or.inr ⟨by omega, rfl, rfl⟩)
  · refine e_iconst (v := 1) dX5_isAtEnd_15 (by decide) ?_
    refine e_goto (tgt := 20) dX5_isAtEnd_16 (by decide) ?_
    exact e_zret (ty := .boolean) rfl rfl dX5_isAtEnd_20 (by first | exact Or.inl ⟨by omega, rfl, rfl⟩ | exact Or.inr ⟨by omega, rfl, rfl⟩)
end RD3
