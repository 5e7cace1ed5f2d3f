/-! the model's parser: numbers -/
def cap (v : Nat) : Int := if v ≤ 100000000 then (v : Int) else 100000000
theorem cap_b (v : Nat) : 0 ≤ cap v ∧ cap v ≤ 100000000 := by unfold cap; split <;> omega
theorem cap_up {v d : Nat} (hd : d ≤ 9) : cap (10 * v + d) = (if 100000000 < 10 * cap v + (d : Int) then 100000000 else 10 * cap v + (d : Int)) := by
  unfold cap
  split <;> split <;> split <;> omega
theorem pN_cap_ok {B : Nat → Int32} {n p : Nat} {lo hi : Int} (hd : isD (B (sk B n p))) (hh : hi < 100000000) (h : lo ≤ cap (dN B n (sk B n p)) ∧ cap (dN B n (sk B n p)) ≤ hi) : pN B n lo hi p = (0, dE B n (sk B n p), (dN B n (sk B n p) : Int)) ∧ cap (dN B n (sk B n p)) = (dN B n (sk B n p) : Int) := by
  have e : cap (dN B n (sk B n p)) = (dN B n (sk B n p) : Int) := by
    have h2 := h.2
    unfold cap at h2 ⊢
    split at h2
    · rw [if_pos (by assumption)]
    · omega
  refine ⟨?_, e⟩
  unfold pN
  rw [if_pos hd, if_pos (by rw [e] at h; exact h)]
theorem pN_cap_bad {B : Nat → Int32} {n p : Nat} {lo hi : Int} (hd : isD (B (sk B n p))) (hl : lo ≤ 100000000) (h : ¬ (lo ≤ cap (dN B n (sk B n p)) ∧ cap (dN B n (sk B n p)) ≤ hi)) : pN B n lo hi p = (3, sk B n p, 0) := by
  unfold pN
  rw [if_pos hd, if_neg ?_]
  intro q
  apply h
  unfold cap
  split <;> omega
section P2
variable {G : ev_G} {l : Launch} {c n p q j : Nat} {μ : MS} {h : ev_H} {B : Nat → Int32} {x y z s f e : Int32} {lo hi : Int} {T : Int} {S : SS}
set_option maxRecDepth 20000 in
theorem lp_mdig {J : ev_K} {k m W : Nat} (hJ : 3 ≤ J.2.2.1) (hB : MB B n μ) (hk : ∀ w : Int32, w.toInt = cap W → ev_V G l mX7_number J 90 [some (.ref c), some (.int x), some (.int y), some (.int w)] [] (mo G c (qS μ q s 0 f) h) k m) : ∀ (r p V : Nat) (w : Int32), r + p = n → pDE B r p = q → pDN B r p V = W → w.toInt = cap V → ev_V G l mX7_number J 41 [some (.ref c), some (.int x), some (.int y), some (.int w)] [] (mo G c (qS μ p s 0 f) h) k m := by
  have w8 : (100000000 : Int32).toInt = 100000000 := by decide +kernel
  have w10 : (10 : Int32).toInt = 10 := by decide +kernel
  have w48 : (48 : Int32).toInt = 48 := by decide +kernel
  have hn2 := hB.2.1
  intro r
  induction r with
  | zero =>
    intro p V w hr hq hW hw
    have hq' : p = q := hq
    have hW' : V = W := hW
    subst hq'
    subst hW'
    refine e_aload_n dX7_number_41 rfl rfl ?_
    refine e_aload_n dX7_number_42 rfl rfl ?_
    refine qS_g4 wF_X7_52 dX7_number_43 ?_
    refine e_invV (mcY := 0) (msY := 0) (ct_X7_byteAt hB (q := p) (rfl) (by have := hB.2.1; omega)) vX7_byteAt wM_X7_55 (mo_at G c _ h 0 (by decide)) rfl dX7_number_46 rfl rfl (Nat.le_of_ble_eq_true rfl) (Nat.le_trans (Nat.le_of_ble_eq_true rfl) hJ) ?_
    rintro _ _ ⟨rfl, rfl⟩
    refine e_invS (mcY := 0) (msY := 0) (ct_X7_isDigit) vX7_isDigit wM_X7_90 dX7_number_49 rfl rfl (Nat.le_of_ble_eq_true rfl) (Nat.le_trans (Nat.le_of_ble_eq_true rfl) hJ) ?_
    rintro _ _ hc
    rcases hc with ⟨hd, rfl, rfl⟩ | ⟨hd, rfl, rfl⟩
    · rw [hB.2.2.2 p (by omega)] at hd; exact absurd hd.1 (by decide +kernel)
    · refine e_if_eq (tgt := 90) dX7_number_52 (by decide) (fun c52 => ?_) (fun c52 => ?_)
      · exact hk w hw
      · first | exact absurd c52 (by decide) | exact absurd rfl c52
  | succ r ih =>
    intro p V w hr hq hW hw
    have hq' : (if isD (B p) then pDE B r (p + 1) else p) = q := hq
    have hW' : (if isD (B p) then pDN B r (p + 1) (10 * V + ((B p).toInt - 48).toNat) else V) = W := hW
    have hcb := cap_b V
    refine e_aload_n dX7_number_41 rfl rfl ?_
    refine e_aload_n dX7_number_42 rfl rfl ?_
    refine qS_g4 wF_X7_52 dX7_number_43 ?_
    refine e_invV (mcY := 0) (msY := 0) (ct_X7_byteAt hB (q := p) (rfl) (by have := hB.2.1; omega)) vX7_byteAt wM_X7_55 (mo_at G c _ h 0 (by decide)) rfl dX7_number_46 rfl rfl (Nat.le_of_ble_eq_true rfl) (Nat.le_trans (Nat.le_of_ble_eq_true rfl) hJ) ?_
    rintro _ _ ⟨rfl, rfl⟩
    refine e_invS (mcY := 0) (msY := 0) (ct_X7_isDigit) vX7_isDigit wM_X7_90 dX7_number_49 rfl rfl (Nat.le_of_ble_eq_true rfl) (Nat.le_trans (Nat.le_of_ble_eq_true rfl) hJ) ?_
    rintro _ _ hc
    rcases hc with ⟨hd, rfl, rfl⟩ | ⟨hd, rfl, rfl⟩
    · rw [if_pos hd] at hq' hW'
      have e10 : (10 * w).toInt = 10 * w.toInt := by rw [ar_mul (by rw [w10]; omega) (by rw [w10]; omega), w10]
      have eX : (10 * w + B p - 48).toInt = 10 * w.toInt + (B p).toInt - 48 := by rw [ar_sub (by rw [ar_add (by omega) (by omega)]; omega) (by rw [ar_add (by omega) (by omega)]; omega), ar_add (by omega) (by omega), e10, w48]
      refine e_if_eq (tgt := 90) dX7_number_52 (by decide) (fun c52 => ?_) (fun c52 => ?_)
      · first | exact absurd c52 (by decide) | exact absurd rfl c52
      · refine e_ldc dX7_number_55 wK_X7_97 ?_
        refine e_bipush (v := 10) dX7_number_57 (by decide) ?_
        refine e_iload_n dX7_number_59 rfl rfl ?_
        refine e_imul dX7_number_60 ?_
        refine e_aload_n dX7_number_61 rfl rfl ?_
        refine e_aload_n dX7_number_62 rfl rfl ?_
        refine qS_g4 wF_X7_52 dX7_number_63 ?_
        refine e_invV (mcY := 0) (msY := 0) (ct_X7_byteAt hB (q := p) (rfl) (by have := hB.2.1; omega)) vX7_byteAt wM_X7_55 (mo_at G c _ h 0 (by decide)) rfl dX7_number_66 rfl rfl (Nat.le_of_ble_eq_true rfl) (Nat.le_trans (Nat.le_of_ble_eq_true rfl) hJ) ?_
        rintro _ _ ⟨rfl, rfl⟩
        refine e_iadd dX7_number_69 ?_
        refine e_bipush (v := 48) dX7_number_70 (by decide) ?_
        refine e_isub dX7_number_72 ?_
        refine e_invS (mcY := 0) (msY := 0) (ct_X7_min) vX7_min wM_X7_98 dX7_number_73 rfl rfl (Nat.le_of_ble_eq_true rfl) (Nat.le_trans (Nat.le_of_ble_eq_true rfl) hJ) ?_
        rintro _ _ ⟨rfl, rfl⟩
        refine e_istore_n dX7_number_76 rfl (Nat.le_of_ble_eq_true rfl) ?_
        refine e_aload_n dX7_number_77 rfl rfl ?_
        refine e_dup dX7_number_78 rfl ?_
        refine qS_g4 wF_X7_52 dX7_number_79 ?_
        refine e_iconst (v := 1) dX7_number_82 (by decide) ?_
        refine e_iadd dX7_number_83 ?_
        refine qS_p4 (q := p + 1) (ar_ofadd ar_1 (by omega) (by decide)) wF_X7_52 dX7_number_84 ?_
        refine e_goto (tgt := 41) dX7_number_87 (by decide) ?_
        refine ev_loc (L' := [some (.ref c), some (.int x), some (.int y), some (.int _)]) ⟨rfl, rfl, rfl, rfl, trivial⟩ (ih (p + 1) _ _ (by omega) hq' hW' ?_)
        rw [cap_up (by omega), w8, eX]
        by_cases c : 100000000 < 10 * w.toInt + (B p).toInt - 48
        · rw [if_pos c, if_pos (by omega), w8]
        · rw [if_neg c, if_neg (by omega), eX]; omega
    · rw [if_neg hd] at hq' hW'
      subst hq'
      subst hW'
      refine e_if_eq (tgt := 90) dX7_number_52 (by decide) (fun c52 => ?_) (fun c52 => ?_)
      · exact hk w hw
      · first | exact absurd c52 (by decide) | exact absurd rfl c52
set_option maxRecDepth 20000 in
theorem ct_X7_numberL (hB : MB B n μ) (hp : p ≤ n) (hx : x.toInt = lo) (hy : y.toInt = hi) : ev_Ct G l mX7_number 3 0 0 [.ref c, .int x, .int y] (mo G c (qS μ p s 0 f) h) (fun v a => (¬ isD (B (sk B n p)) ∧ v = some (.int 0) ∧ a = mo G c (qS μ (sk B n p) s (-2) (Int32.ofNat (sk B n p))) h) ∨ (isD (B (sk B n p)) ∧ (lo ≤ (cap (dN B n (sk B n p))) ∧ (cap (dN B n (sk B n p))) ≤ hi) ∧ (∃ w : Int32, w.toInt = (cap (dN B n (sk B n p))) ∧ v = some (.int w)) ∧ a = mo G c (qS μ (dE B n (sk B n p)) (Int32.ofNat (sk B n p)) 0 f) h) ∨ (isD (B (sk B n p)) ∧ ¬ (lo ≤ (cap (dN B n (sk B n p))) ∧ (cap (dN B n (sk B n p))) ≤ hi) ∧ v = some (.int 0) ∧ ∃ p' s', a = mo G c (qS μ p' s' (-3) (Int32.ofNat (sk B n p))) h)) (fun _ _ => False) := by
  refine ev_Ct.of (by decide +kernel) (Nat.le_of_ble_eq_true rfl) ?_
  have hn2 := hB.2.1
  have hsr := sk_rng B hp
  refine e_aload_n dX7_number_0 rfl rfl ?_
  refine e_invV (mcY := 0) (msY := 0) (ct_X7_isGood1) vX7_isGood wM_X7_69 (mo_at G c _ h 0 (by decide)) rfl dX7_number_1 rfl rfl (Nat.le_of_ble_eq_true rfl) (Nat.le_of_ble_eq_true rfl) ?_
  rintro _ _ ⟨rfl, rfl⟩
  refine e_if_ne (tgt := 9) dX7_number_4 (by decide) (fun c4 => ?_) (fun c4 => ?_)
  · refine e_aload_n dX7_number_9 rfl rfl ?_
    refine e_invV (mcY := 0) (msY := 0) (ct_X7_ahead hB hp) vX7_ahead wM_X7_73 (mo_at G c _ h 0 (by decide)) rfl dX7_number_10 rfl rfl (Nat.le_of_ble_eq_true rfl) (Nat.le_of_ble_eq_true rfl) ?_
    rintro _ _ ⟨rfl, rfl⟩
    refine e_invS (mcY := 0) (msY := 0) (ct_X7_isDigit) vX7_isDigit wM_X7_90 dX7_number_13 rfl rfl (Nat.le_of_ble_eq_true rfl) (Nat.le_of_ble_eq_true rfl) ?_
    rintro _ _ hc
    rcases hc with ⟨hd, rfl, rfl⟩ | ⟨hd, rfl, rfl⟩
    · refine e_if_ne (tgt := 31) dX7_number_16 (by decide) (fun c16 => ?_) (fun c16 => ?_)
      · refine e_aload_n dX7_number_31 rfl rfl ?_
        refine e_aload_n dX7_number_32 rfl rfl ?_
        refine qS_g4 wF_X7_52 dX7_number_33 ?_
        refine qS_p13 wF_X7_94 dX7_number_36 ?_
        refine e_iconst (v := 0) dX7_number_39 (by decide) ?_
        refine e_istore_n dX7_number_40 rfl (Nat.le_of_ble_eq_true rfl) ?_
        refine ev_loc (L' := [some (.ref c), some (.int x), some (.int y), some (.int 0)]) ⟨rfl, rfl, rfl, rfl, trivial⟩ ?_
        refine lp_mdig (q := dE B n (sk B n p)) (W := dN B n (sk B n p)) (Nat.le_refl _) hB (fun w hw => ?_) (n - sk B n p) (sk B n p) 0 0 (by omega) rfl rfl (by rw [ar_0]; rfl)
        refine e_iload_n dX7_number_90 rfl rfl ?_
        refine e_iload_n dX7_number_91 rfl rfl ?_
        refine e_iload_n dX7_number_92 rfl rfl ?_
        refine e_invS (mcY := 0) (msY := 0) (ct_X7_in) vX7_in wM_X7_65 dX7_number_93 rfl rfl (Nat.le_of_ble_eq_true rfl) (Nat.le_of_ble_eq_true rfl) ?_
        rintro _ _ hc
        rw [hx, hy, hw] at hc
        rcases hc with ⟨hin, rfl, rfl⟩ | ⟨hin, rfl, rfl⟩
        · refine e_if_ne (tgt := 109) dX7_number_96 (by decide) (fun c96 => ?_) (fun c96 => ?_)
          · refine e_aload_n dX7_number_109 rfl rfl ?_
            refine e_invV (mcY := 0) (msY := 0) (ct_X7_isGood1) vX7_isGood wM_X7_69 (mo_at G c _ h 0 (by decide)) rfl dX7_number_110 rfl rfl (Nat.le_of_ble_eq_true rfl) (Nat.le_of_ble_eq_true rfl) ?_
            rintro _ _ ⟨rfl, rfl⟩
            refine e_if_eq (tgt := 120) dX7_number_113 (by decide) (fun c113 => ?_) (fun c113 => ?_)
            · first | exact absurd c113 (by decide) | exact absurd rfl c113
            · refine e_iload_n dX7_number_116 rfl rfl ?_
              refine e_goto (tgt := 121) dX7_number_117 (by decide) ?_
              exact e_iret rfl dX7_number_121 (by
                  first
                    | exact Or.inr (Or.inl ⟨hd, hin, ⟨_, hw, rfl⟩, rfl⟩)
                    | exact Or.inr (Or.inr ⟨hd, hin, rfl, _, _, rfl⟩))
          · first | exact absurd c96 (by decide) | exact absurd rfl c96
        · refine e_if_ne (tgt := 109) dX7_number_96 (by decide) (fun c96 => ?_) (fun c96 => ?_)
          · first | exact absurd c96 (by decide) | exact absurd rfl c96
          · refine e_aload_n dX7_number_99 rfl rfl ?_
            refine e_bipush (v := (-3)) dX7_number_100 (by decide) ?_
            refine e_aload_n dX7_number_102 rfl rfl ?_
            refine qS_g13 wF_X7_94 dX7_number_103 ?_
            refine e_invV (mcY := 0) (msY := 0) (ct_X7_report1) vX7_report wM_X7_86 (mo_at G c _ h 0 (by decide)) rfl dX7_number_106 rfl rfl (Nat.le_of_ble_eq_true rfl) (Nat.le_of_ble_eq_true rfl) ?_
            rintro _ _ ⟨rfl, rfl⟩
            refine e_aload_n dX7_number_109 rfl rfl ?_
            refine e_invV (mcY := 0) (msY := 0) (ct_X7_isGood0 (by decide)) vX7_isGood wM_X7_69 (mo_at G c _ h 0 (by decide)) rfl dX7_number_110 rfl rfl (Nat.le_of_ble_eq_true rfl) (Nat.le_of_ble_eq_true rfl) ?_
            rintro _ _ ⟨rfl, rfl⟩
            refine e_if_eq (tgt := 120) dX7_number_113 (by decide) (fun c113 => ?_) (fun c113 => ?_)
            · refine e_iconst (v := 0) dX7_number_120 (by decide) ?_
              exact e_iret rfl dX7_number_121 (by
                  first
                    | exact Or.inr (Or.inl ⟨hd, hin, ⟨_, hw, rfl⟩, rfl⟩)
                    | exact Or.inr (Or.inr ⟨hd, hin, rfl, _, _, rfl⟩))
            · first | exact absurd c113 (by decide) | exact absurd rfl c113
      · first | exact absurd c16 (by decide) | exact absurd rfl c16
    · refine e_if_ne (tgt := 31) dX7_number_16 (by decide) (fun c16 => ?_) (fun c16 => ?_)
      · first | exact absurd c16 (by decide) | exact absurd rfl c16
      · refine e_aload_n dX7_number_19 rfl rfl ?_
        refine e_bipush (v := (-2)) dX7_number_20 (by decide) ?_
        refine e_aload_n dX7_number_22 rfl rfl ?_
        refine qS_g4 wF_X7_52 dX7_number_23 ?_
        refine e_invV (mcY := 0) (msY := 0) (ct_X7_report1) vX7_report wM_X7_86 (mo_at G c _ h 0 (by decide)) rfl dX7_number_26 rfl rfl (Nat.le_of_ble_eq_true rfl) (Nat.le_of_ble_eq_true rfl) ?_
        rintro _ _ ⟨rfl, rfl⟩
        refine e_iconst (v := 0) dX7_number_29 (by decide) ?_
        exact e_iret rfl dX7_number_30 (Or.inl ⟨hd, rfl, rfl⟩)
  · first | exact absurd c4 (by decide) | exact absurd rfl c4
set_option maxRecDepth 20000 in
theorem ct_X7_number0 (he : e ≠ 0) : ev_Ct G l mX7_number 3 0 0 [.ref c, .int x, .int y] (mo G c (qS μ p s e f) h) (fun v a => v = some (.int 0) ∧ a = mo G c (qS μ p s e f) h) (fun _ _ => False) := by
  refine ev_Ct.of (by decide +kernel) (Nat.le_of_ble_eq_true rfl) ?_
  refine e_aload_n dX7_number_0 rfl rfl ?_
  refine e_invV (mcY := 0) (msY := 0) (ct_X7_isGood0 he) vX7_isGood wM_X7_69 (mo_at G c _ h 0 (by decide)) rfl dX7_number_1 rfl rfl (Nat.le_of_ble_eq_true rfl) (Nat.le_of_ble_eq_true rfl) ?_
  rintro _ _ ⟨rfl, rfl⟩
  refine e_if_ne (tgt := 9) dX7_number_4 (by decide) (fun c4 => ?_) (fun c4 => ?_)
  · first | exact absurd c4 (by decide) | exact absurd rfl c4
  · refine e_iconst (v := 0) dX7_number_7 (by decide) ?_
    exact e_iret rfl dX7_number_8 (⟨rfl, rfl⟩)
theorem ct_num (hB : MB B n μ) (hp : p ≤ n) (hx : x.toInt = lo) (hy : y.toInt = hi) (hh : hi < 100000000) (hl : lo ≤ 100000000) : ev_Ct G l mX7_number 3 0 0 [.ref c, .int x, .int y] (mo G c (qS μ p s 0 f) h) (fun v a => ((pN B n lo hi p).1 = 0 ∧ v = some (.int (Int32.ofInt (pN B n lo hi p).2.2)) ∧ a = mo G c (qS μ (pN B n lo hi p).2.1 (Int32.ofNat (sk B n p)) 0 f) h) ∨ ((pN B n lo hi p).1 ≠ 0 ∧ v = some (.int 0) ∧ ∃ p' s' e', e' ≠ 0 ∧ e'.toInt = -((pN B n lo hi p).1 : Int) ∧ a = mo G c (qS μ p' s' e' (Int32.ofNat (pN B n lo hi p).2.1)) h)) (fun _ _ => False) := by
  refine (ct_X7_numberL hB hp hx hy).mono (fun v a q => ?_) (fun _ _ q => q)
  rcases q with ⟨hd, rfl, rfl⟩ | ⟨hd, hr, ⟨w, hw, rfl⟩, rfl⟩ | ⟨hd, hr, rfl, p', s', rfl⟩
  · rw [pN_syn hd]
    exact Or.inr ⟨(by decide : (2 : Nat) ≠ 0), rfl, _, _, -2, by decide, (show (-2 : Int32).toInt = -((2 : Nat) : Int) by decide +kernel), rfl⟩
  · obtain ⟨h1, h2⟩ := pN_cap_ok hd hh hr
    have hcb := cap_b (dN B n (sk B n p))
    rw [h1]
    refine Or.inl ⟨rfl, ?_, rfl⟩
    rw [show w = Int32.ofInt (dN B n (sk B n p) : Int) from ar_eq (by rw [hw, ar_ofI (by omega) (by omega), h2])]
  · rw [pN_cap_bad hd hl hr]
    exact Or.inr ⟨(by decide : (3 : Nat) ≠ 0), rfl, p', s', -3, by decide, (show (-3 : Int32).toInt = -((3 : Nat) : Int) by decide +kernel), rfl⟩
theorem ct_num8 (hB : MB B n μ) (hp : p ≤ n) (hx : x.toInt = 0) (hy : y.toInt = 100000000) : ev_Ct G l mX7_number 3 0 0 [.ref c, .int x, .int y] (mo G c (qS μ p s 0 f) h) (fun v a => (isD (B (sk B n p)) ∧ (∃ w : Int32, w.toInt = cap (dN B n (sk B n p)) ∧ v = some (.int w)) ∧ a = mo G c (qS μ (dE B n (sk B n p)) (Int32.ofNat (sk B n p)) 0 f) h) ∨ (¬ isD (B (sk B n p)) ∧ v = some (.int 0) ∧ a = mo G c (qS μ (sk B n p) s (-2) (Int32.ofNat (sk B n p))) h)) (fun _ _ => False) := by
  refine (ct_X7_numberL hB hp hx hy).mono (fun v a q => ?_) (fun _ _ q => q)
  rcases q with ⟨hd, h1, h2⟩ | ⟨hd, hr, h1, h2⟩ | ⟨hd, hr, h1, h2⟩
  · exact Or.inr ⟨hd, h1, h2⟩
  · exact Or.inl ⟨hd, h1, h2⟩
  · exact absurd (cap_b _) hr
theorem pS_cap_ok (h45 : B (sk B n p) = 45) (hd : isD (B (sk B n (sk B n p + 1)))) (hh : hi < 100000000) (h : cap (dN B n (sk B n (sk B n p + 1))) ≤ hi) : pS B n hi p = (0, dE B n (sk B n (sk B n p + 1)), -(dN B n (sk B n (sk B n p + 1)) : Int)) ∧ cap (dN B n (sk B n (sk B n p + 1))) = (dN B n (sk B n (sk B n p + 1)) : Int) := by
  have e : cap (dN B n (sk B n (sk B n p + 1))) = (dN B n (sk B n (sk B n p + 1)) : Int) := by
    unfold cap at h ⊢
    split at h
    · rw [if_pos (by assumption)]
    · omega
  refine ⟨?_, e⟩
  unfold pS
  rw [if_pos h45, if_pos hd, if_pos (by rw [e] at h; exact h)]
theorem pS_cap_bad (h45 : B (sk B n p) = 45) (hd : isD (B (sk B n (sk B n p + 1)))) (h : ¬ cap (dN B n (sk B n (sk B n p + 1))) ≤ hi) : pS B n hi p = (3, sk B n p, 0) := by
  unfold pS
  rw [if_pos h45, if_pos hd, if_neg ?_]
  intro q
  apply h
  unfold cap
  split <;> omega
theorem pS_cap_syn (h45 : B (sk B n p) = 45) (hd : ¬ isD (B (sk B n (sk B n p + 1)))) : pS B n hi p = (2, sk B n (sk B n p + 1), 0) := by
  unfold pS
  rw [if_pos h45, if_neg hd]
set_option maxRecDepth 20000 in
theorem ct_X7_signedL (hB : MB B n μ) (hp : p ≤ n) (hx : x.toInt = -hi) (hy : y.toInt = hi) (hh0 : 0 ≤ hi) (hh : hi < 100000000) : ev_Ct G l mX7_signed 4 0 0 [.ref c, .int x, .int y] (mo G c (qS μ p s 0 f) h) (fun v a => ((pS B n hi p).1 = 0 ∧ v = some (.int (Int32.ofInt (pS B n hi p).2.2)) ∧ ∃ s', a = mo G c (qS μ (pS B n hi p).2.1 s' 0 f) h) ∨ ((pS B n hi p).1 ≠ 0 ∧ (∃ w, v = some (.int w)) ∧ ∃ p' s' e', e' ≠ 0 ∧ e'.toInt = -((pS B n hi p).1 : Int) ∧ a = mo G c (qS μ p' s' e' (Int32.ofNat (pS B n hi p).2.1)) h)) (fun _ _ => False) := by
  refine ev_Ct.of (by decide +kernel) (Nat.le_of_ble_eq_true rfl) ?_
  have hn2 := hB.2.1
  have hsr := sk_rng B hp
  have w45 : (45 : Int32).toInt = 45 := by decide +kernel
  have w8 : (100000000 : Int32).toInt = 100000000 := by decide +kernel
  refine e_aload_n dX7_signed_0 rfl rfl ?_
  refine e_invV (mcY := 0) (msY := 0) (ct_X7_isGood1) vX7_isGood wM_X7_69 (mo_at G c _ h 0 (by decide)) rfl dX7_signed_1 rfl rfl (Nat.le_of_ble_eq_true rfl) (Nat.le_of_ble_eq_true rfl) ?_
  rintro _ _ ⟨rfl, rfl⟩
  refine e_if_ne (tgt := 9) dX7_signed_4 (by decide) (fun c4 => ?_) (fun c4 => ?_)
  · refine e_aload_n dX7_signed_9 rfl rfl ?_
    refine e_invV (mcY := 0) (msY := 0) (ct_X7_ahead hB hp) vX7_ahead wM_X7_73 (mo_at G c _ h 0 (by decide)) rfl dX7_signed_10 rfl rfl (Nat.le_of_ble_eq_true rfl) (Nat.le_of_ble_eq_true rfl) ?_
    rintro _ _ ⟨rfl, rfl⟩
    refine e_bipush (v := 45) dX7_signed_13 (by decide) ?_
    refine e_icmp_eq (tgt := 25) dX7_signed_15 (by decide) (fun c15 => ?_) (fun c15 => ?_)
    · have hlt : sk B n p < n := Nat.lt_of_not_le fun q => by rw [hB.2.2.2 _ q] at c15; exact absurd c15 (by decide)
      refine e_aload_n dX7_signed_25 rfl rfl ?_
      refine qS_g4 wF_X7_52 dX7_signed_26 ?_
      refine e_istore_n dX7_signed_29 rfl (Nat.le_of_ble_eq_true rfl) ?_
      refine e_aload_n dX7_signed_30 rfl rfl ?_
      refine e_dup dX7_signed_31 rfl ?_
      refine qS_g4 wF_X7_52 dX7_signed_32 ?_
      refine e_iconst (v := 1) dX7_signed_35 (by decide) ?_
      refine e_iadd dX7_signed_36 ?_
      refine qS_p4 (q := sk B n p + 1) (ar_ofadd ar_1 (by omega) (by decide)) wF_X7_52 dX7_signed_37 ?_
      refine e_aload_n dX7_signed_40 rfl rfl ?_
      refine e_iconst (v := 0) dX7_signed_41 (by decide) ?_
      refine e_ldc dX7_signed_42 wK_X7_97 ?_
      refine e_invV (mcY := 0) (msY := 0) (ct_num8 hB (show sk B n p + 1 ≤ n from hlt) ar_0 w8) vX7_number wM_X7_102 (mo_at G c _ h 0 (by decide)) rfl dX7_signed_44 rfl rfl (Nat.le_of_ble_eq_true rfl) (Nat.le_of_ble_eq_true rfl) ?_
      rintro _ _ hc
      rcases hc with ⟨hd, ⟨w, hw, rfl⟩, rfl⟩ | ⟨hd, rfl, rfl⟩
      · have hcb := cap_b (dN B n (sk B n (sk B n p + 1)))
        have hnw : (-w).toInt = -(cap (dN B n (sk B n (sk B n p + 1)))) := by rw [ar_neg (by omega), hw]
        refine e_istore dX7_signed_47 (Nat.le_of_ble_eq_true rfl) ?_
        refine e_aload_n dX7_signed_49 rfl rfl ?_
        refine e_invV (mcY := 0) (msY := 0) (ct_X7_isGood1) vX7_isGood wM_X7_69 (mo_at G c _ h 0 (by decide)) rfl dX7_signed_50 rfl rfl (Nat.le_of_ble_eq_true rfl) (Nat.le_of_ble_eq_true rfl) ?_
        rintro _ _ ⟨rfl, rfl⟩
        refine e_if_eq (tgt := 74) dX7_signed_53 (by decide) (fun c53 => ?_) (fun c53 => ?_)
        · first | exact absurd c53 (by decide) | exact absurd rfl c53
        · refine e_iload dX7_signed_56 rfl ?_
          refine e_ineg dX7_signed_58 ?_
          refine e_iload_n dX7_signed_59 rfl rfl ?_
          refine e_iload_n dX7_signed_60 rfl rfl ?_
          refine e_invS (mcY := 0) (msY := 0) (ct_X7_in) vX7_in wM_X7_65 dX7_signed_61 rfl rfl (Nat.le_of_ble_eq_true rfl) (Nat.le_of_ble_eq_true rfl) ?_
          rintro _ _ hc
          rw [hx, hy, hnw] at hc
          rcases hc with ⟨hin, rfl, rfl⟩ | ⟨hin, rfl, rfl⟩
          · refine e_if_ne (tgt := 74) dX7_signed_64 (by decide) (fun c64 => ?_) (fun c64 => ?_)
            · refine e_aload_n dX7_signed_74 rfl rfl ?_
              refine e_invV (mcY := 0) (msY := 0) (ct_X7_isGood1) vX7_isGood wM_X7_69 (mo_at G c _ h 0 (by decide)) rfl dX7_signed_75 rfl rfl (Nat.le_of_ble_eq_true rfl) (Nat.le_of_ble_eq_true rfl) ?_
              rintro _ _ ⟨rfl, rfl⟩
              refine e_if_eq (tgt := 87) dX7_signed_78 (by decide) (fun c78 => ?_) (fun c78 => ?_)
              · first | exact absurd c78 (by decide) | exact absurd rfl c78
              · refine e_iload dX7_signed_81 rfl ?_
                refine e_ineg dX7_signed_83 ?_
                refine e_goto (tgt := 88) dX7_signed_84 (by decide) ?_
                exact e_iret rfl dX7_signed_88 (by
                    first
                      | (obtain ⟨h1, h2⟩ := pS_cap_ok c15 hd hh (by omega)
                         rw [h1]
                         refine Or.inl ⟨rfl, ?_, _, rfl⟩
                         rw [show -w = Int32.ofInt (-(dN B n (sk B n (sk B n p + 1)) : Int)) from ar_eq (by rw [hnw, ar_ofI (by omega) (by omega), h2])])
                      | (rw [pS_cap_bad c15 hd (by omega)]
                         exact Or.inr ⟨(by decide : (3 : Nat) ≠ 0), ⟨_, rfl⟩, _, _, -3, by decide, (show (-3 : Int32).toInt = -((3 : Nat) : Int) by decide +kernel), rfl⟩)
                      | (rw [pS_cap_syn c15 hd]
                         exact Or.inr ⟨(by decide : (2 : Nat) ≠ 0), ⟨_, rfl⟩, _, _, -2, by decide, (show (-2 : Int32).toInt = -((2 : Nat) : Int) by decide +kernel), rfl⟩))
            · first | exact absurd c64 (by decide) | exact absurd rfl c64
          · refine e_if_ne (tgt := 74) dX7_signed_64 (by decide) (fun c64 => ?_) (fun c64 => ?_)
            · first | exact absurd c64 (by decide) | exact absurd rfl c64
            · refine e_aload_n dX7_signed_67 rfl rfl ?_
              refine e_bipush (v := (-3)) dX7_signed_68 (by decide) ?_
              refine e_iload_n dX7_signed_70 rfl rfl ?_
              refine e_invV (mcY := 0) (msY := 0) (ct_X7_report1) vX7_report wM_X7_86 (mo_at G c _ h 0 (by decide)) rfl dX7_signed_71 rfl rfl (Nat.le_of_ble_eq_true rfl) (Nat.le_of_ble_eq_true rfl) ?_
              rintro _ _ ⟨rfl, rfl⟩
              refine e_aload_n dX7_signed_74 rfl rfl ?_
              refine e_invV (mcY := 0) (msY := 0) (ct_X7_isGood0 (by decide)) vX7_isGood wM_X7_69 (mo_at G c _ h 0 (by decide)) rfl dX7_signed_75 rfl rfl (Nat.le_of_ble_eq_true rfl) (Nat.le_of_ble_eq_true rfl) ?_
              rintro _ _ ⟨rfl, rfl⟩
              refine e_if_eq (tgt := 87) dX7_signed_78 (by decide) (fun c78 => ?_) (fun c78 => ?_)
              · refine e_iload_n dX7_signed_87 rfl rfl ?_
                exact e_iret rfl dX7_signed_88 (by
                    first
                      | (obtain ⟨h1, h2⟩ := pS_cap_ok c15 hd hh (by omega)
                         rw [h1]
                         refine Or.inl ⟨rfl, ?_, _, rfl⟩
                         rw [show -w = Int32.ofInt (-(dN B n (sk B n (sk B n p + 1)) : Int)) from ar_eq (by rw [hnw, ar_ofI (by omega) (by omega), h2])])
                      | (rw [pS_cap_bad c15 hd (by omega)]
                         exact Or.inr ⟨(by decide : (3 : Nat) ≠ 0), ⟨_, rfl⟩, _, _, -3, by decide, (show (-3 : Int32).toInt = -((3 : Nat) : Int) by decide +kernel), rfl⟩)
                      | (rw [pS_cap_syn c15 hd]
                         exact Or.inr ⟨(by decide : (2 : Nat) ≠ 0), ⟨_, rfl⟩, _, _, -2, by decide, (show (-2 : Int32).toInt = -((2 : Nat) : Int) by decide +kernel), rfl⟩))
              · first | exact absurd c78 (by decide) | exact absurd rfl c78
      · refine e_istore dX7_signed_47 (Nat.le_of_ble_eq_true rfl) ?_
        refine e_aload_n dX7_signed_49 rfl rfl ?_
        refine e_invV (mcY := 0) (msY := 0) (ct_X7_isGood0 (by decide)) vX7_isGood wM_X7_69 (mo_at G c _ h 0 (by decide)) rfl dX7_signed_50 rfl rfl (Nat.le_of_ble_eq_true rfl) (Nat.le_of_ble_eq_true rfl) ?_
        rintro _ _ ⟨rfl, rfl⟩
        refine e_if_eq (tgt := 74) dX7_signed_53 (by decide) (fun c53 => ?_) (fun c53 => ?_)
        · refine e_aload_n dX7_signed_74 rfl rfl ?_
          refine e_invV (mcY := 0) (msY := 0) (ct_X7_isGood0 (by decide)) vX7_isGood wM_X7_69 (mo_at G c _ h 0 (by decide)) rfl dX7_signed_75 rfl rfl (Nat.le_of_ble_eq_true rfl) (Nat.le_of_ble_eq_true rfl) ?_
          rintro _ _ ⟨rfl, rfl⟩
          refine e_if_eq (tgt := 87) dX7_signed_78 (by decide) (fun c78 => ?_) (fun c78 => ?_)
          · refine e_iload_n dX7_signed_87 rfl rfl ?_
            exact e_iret rfl dX7_signed_88 (by
                first
                  | (obtain ⟨h1, h2⟩ := pS_cap_ok c15 hd hh (by omega)
                     rw [h1]
                     refine Or.inl ⟨rfl, ?_, _, rfl⟩
                     rw [show -w = Int32.ofInt (-(dN B n (sk B n (sk B n p + 1)) : Int)) from ar_eq (by rw [hnw, ar_ofI (by omega) (by omega), h2])])
                  | (rw [pS_cap_bad c15 hd (by omega)]
                     exact Or.inr ⟨(by decide : (3 : Nat) ≠ 0), ⟨_, rfl⟩, _, _, -3, by decide, (show (-3 : Int32).toInt = -((3 : Nat) : Int) by decide +kernel), rfl⟩)
                  | (rw [pS_cap_syn c15 hd]
                     exact Or.inr ⟨(by decide : (2 : Nat) ≠ 0), ⟨_, rfl⟩, _, _, -2, by decide, (show (-2 : Int32).toInt = -((2 : Nat) : Int) by decide +kernel), rfl⟩))
          · first | exact absurd c78 (by decide) | exact absurd rfl c78
        · first | exact absurd c53 (by decide) | exact absurd rfl c53
    · refine e_aload_n dX7_signed_18 rfl rfl ?_
      refine e_iload_n dX7_signed_19 rfl rfl ?_
      refine e_iload_n dX7_signed_20 rfl rfl ?_
      refine e_invV (mcY := 0) (msY := 0) (ct_num (lo := -hi) (hi := hi) hB hsr.2 hx hy hh (by omega)) vX7_number wM_X7_102 (mo_at G c _ h 0 (by decide)) rfl dX7_signed_21 rfl rfl (Nat.le_of_ble_eq_true rfl) (Nat.le_of_ble_eq_true rfl) ?_
      rintro _ _ hc
      have hps : pS B n hi p = pN B n (-hi) hi (sk B n p) := by rw [pS_pos c15]; unfold pN; rw [sk_sk B hp]
      rcases hc with ⟨hr, rfl, rfl⟩ | ⟨hr, rfl, p', s', e', he1, he2, rfl⟩
      · exact e_iret rfl dX7_signed_24 (by
            rw [hps]
            first
              | exact Or.inl ⟨hr, rfl, _, rfl⟩
              | exact Or.inr ⟨hr, ⟨_, rfl⟩, p', s', e', he1, he2, rfl⟩)
      · exact e_iret rfl dX7_signed_24 (by
            rw [hps]
            first
              | exact Or.inl ⟨hr, rfl, _, rfl⟩
              | exact Or.inr ⟨hr, ⟨_, rfl⟩, p', s', e', he1, he2, rfl⟩)
  · first | exact absurd c4 (by decide) | exact absurd rfl c4
set_option maxRecDepth 20000 in
theorem ct_X7_signed0 (he : e ≠ 0) : ev_Ct G l mX7_signed 4 0 0 [.ref c, .int x, .int y] (mo G c (qS μ p s e f) h) (fun v a => v = some (.int x) ∧ a = mo G c (qS μ p s e f) h) (fun _ _ => False) := by
  refine ev_Ct.of (by decide +kernel) (Nat.le_of_ble_eq_true rfl) ?_
  refine e_aload_n dX7_signed_0 rfl rfl ?_
  refine e_invV (mcY := 0) (msY := 0) (ct_X7_isGood0 he) vX7_isGood wM_X7_69 (mo_at G c _ h 0 (by decide)) rfl dX7_signed_1 rfl rfl (Nat.le_of_ble_eq_true rfl) (Nat.le_of_ble_eq_true rfl) ?_
  rintro _ _ ⟨rfl, rfl⟩
  refine e_if_ne (tgt := 9) dX7_signed_4 (by decide) (fun c4 => ?_) (fun c4 => ?_)
  · first | exact absurd c4 (by decide) | exact absurd rfl c4
  · refine e_iload_n dX7_signed_7 rfl rfl ?_
    exact e_iret rfl dX7_signed_8 (⟨rfl, rfl⟩)
end P2
