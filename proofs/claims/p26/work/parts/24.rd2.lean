/-! the reader: words, numbers, signs -/
section RD2
variable {G : ev_G} {l : Launch} {M : ev_M} {J : ev_K} {pc k m idx : Nat} {L : List (Option Value)} {st : List Value} {b n p q j : Nat} {S : SS} {h : ev_H} {x y z v : Int32}
set_option maxRecDepth 20000 in
theorem lp_word {J : ev_K} {k m : Nat} (hJ : 4 ≤ J.2.2.1) (hO : rOk b S n) (hp : p ≤ n) (hj : j < 26) (hT : wAt (tB (S.2.1 0) n) j p → J.2.2.2.2.2.1 (some (.int 1)) (sy G b (rS S (p + ev_len.getD j 0) v) h)) (hF : ¬ wAt (tB (S.2.1 0) n) j p → J.2.2.2.2.2.1 (some (.int 0)) (sy G b (rS S p v) h)) : ∀ (r i : Nat) (x : Int32), r + i = ev_len.getD j 0 → x.toInt = (i : Int) → (∀ k, k < i → tB (S.2.1 0) n (p + k) = sB j k) → ev_V G l mX5_takeWord J 6 [some (.ref (b + 2)), some (.ref (ev_Ks G j)), some (.int x)] [] (sy G b (rS S p v) h) k m := by
  have hn2 := hO.2.1
  have hl := ev_len_le j
  have hl2 : (Int32.ofNat (ev_len.getD j 0)).toInt = (ev_len.getD j 0 : Nat) := ar_of (by omega)
  intro r
  induction r with
  | zero =>
    intro i x hr hx hk
    have hn : x.toInt.toNat = i := ar_nat hx
    have hi : i = ev_len.getD j 0 := by omega
    refine e_iload_n dX5_takeWord_6 rfl rfl ?_
    refine e_aload_n dX5_takeWord_7 rfl rfl ?_
    refine e_invK (mcY := 0) (msY := 0) (ct_J0_length hj) vJ0_length_8abf5 wM_X5_208 hj rfl dX5_takeWord_8 rfl rfl (Nat.le_of_ble_eq_true rfl) (Nat.le_trans (Nat.le_of_ble_eq_true rfl) hJ) ?_
    rintro _ _ ⟨rfl, rfl⟩
    refine e_icmp_ge (tgt := 40) dX5_takeWord_11 (by decide) (fun i11 => ?_) (fun i11 => ?_)
    · refine e_aload_n dX5_takeWord_40 rfl rfl ?_
      refine e_aload_n dX5_takeWord_41 rfl rfl ?_
      refine rS_g4 wF_X5_39 dX5_takeWord_42 ?_
      refine e_aload_n dX5_takeWord_45 rfl rfl ?_
      refine e_invK (mcY := 0) (msY := 0) (ct_J0_length hj) vJ0_length_8abf5 wM_X5_208 hj rfl dX5_takeWord_46 rfl rfl (Nat.le_of_ble_eq_true rfl) (Nat.le_trans (Nat.le_of_ble_eq_true rfl) hJ) ?_
      rintro _ _ ⟨rfl, rfl⟩
      refine e_iadd dX5_takeWord_49 ?_
      refine e_invV (mcY := 0) (msY := 0) (ct_X5_byteAt hO (q := p + ev_len.getD j 0) (ar_ofadd hl2 (by omega) (by omega)) (by have := hO.2.1; omega)) vX5_byteAt wM_X5_200 (sy_at G b _ h 2 (by decide)) rfl dX5_takeWord_50 rfl rfl (Nat.le_of_ble_eq_true rfl) (Nat.le_trans (Nat.le_of_ble_eq_true rfl) hJ) ?_
      rintro _ _ ⟨rfl, rfl⟩
      refine e_invS (mcY := 0) (msY := 0) (ct_X5_isLetter) vX5_isLetter wM_X5_217 dX5_takeWord_53 rfl rfl (Nat.le_of_ble_eq_true rfl) (Nat.le_trans (Nat.le_of_ble_eq_true rfl) hJ) ?_
      rintro _ _ ⟨rfl, rfl⟩
      refine e_if_eq (tgt := 61) dX5_takeWord_56 (by decide) (fun i56 => ?_) (fun i56 => ?_)
      · have hT2 : wAt (tB (S.2.1 0) n) j p := ⟨fun k2 hk2 => hk k2 (by omega), fun q2 => by rw [if_pos q2] at i56; exact absurd i56 (by decide)⟩
        refine e_aload_n dX5_takeWord_61 rfl rfl ?_
        refine e_dup dX5_takeWord_62 rfl ?_
        refine rS_g4 wF_X5_39 dX5_takeWord_63 ?_
        refine e_aload_n dX5_takeWord_66 rfl rfl ?_
        refine e_invK (mcY := 0) (msY := 0) (ct_J0_length hj) vJ0_length_8abf5 wM_X5_208 hj rfl dX5_takeWord_67 rfl rfl (Nat.le_of_ble_eq_true rfl) (Nat.le_trans (Nat.le_of_ble_eq_true rfl) hJ) ?_
        rintro _ _ ⟨rfl, rfl⟩
        refine e_iadd dX5_takeWord_70 ?_
        refine rS_p4 (q := p + ev_len.getD j 0) (ar_ofadd hl2 (by omega) (by omega)) wF_X5_39 dX5_takeWord_71 ?_
        refine e_iconst (v := 1) dX5_takeWord_74 (by decide) ?_
        exact e_zret (ty := .boolean) rfl rfl dX5_takeWord_75 (hT hT2)
      · have hF2 : ¬ wAt (tB (S.2.1 0) n) j p := fun q2 => by rw [if_neg q2.2] at i56; exact absurd rfl i56
        refine e_iconst (v := 0) dX5_takeWord_59 (by decide) ?_
        exact e_zret (ty := .boolean) rfl rfl dX5_takeWord_60 (hF hF2)
    · omega
  | succ r ih =>
    intro i x hr hx hk
    have hn : x.toInt.toNat = i := ar_nat hx
    refine e_iload_n dX5_takeWord_6 rfl rfl ?_
    refine e_aload_n dX5_takeWord_7 rfl rfl ?_
    refine e_invK (mcY := 0) (msY := 0) (ct_J0_length hj) vJ0_length_8abf5 wM_X5_208 hj rfl dX5_takeWord_8 rfl rfl (Nat.le_of_ble_eq_true rfl) (Nat.le_trans (Nat.le_of_ble_eq_true rfl) hJ) ?_
    rintro _ _ ⟨rfl, rfl⟩
    refine e_icmp_ge (tgt := 40) dX5_takeWord_11 (by decide) (fun i11 => ?_) (fun i11 => ?_)
    · omega
    · refine e_aload_n dX5_takeWord_14 rfl rfl ?_
      refine e_aload_n dX5_takeWord_15 rfl rfl ?_
      refine rS_g4 wF_X5_39 dX5_takeWord_16 ?_
      refine e_iload_n dX5_takeWord_19 rfl rfl ?_
      refine e_iadd dX5_takeWord_20 ?_
      refine e_invV (mcY := 0) (msY := 0) (ct_X5_byteAt hO (q := p + i) (ar_ofadd hx (by omega) (by omega)) (by have := hO.2.1; omega)) vX5_byteAt wM_X5_200 (sy_at G b _ h 2 (by decide)) rfl dX5_takeWord_21 rfl rfl (Nat.le_of_ble_eq_true rfl) (Nat.le_trans (Nat.le_of_ble_eq_true rfl) hJ) ?_
      rintro _ _ ⟨rfl, rfl⟩
      refine e_aload_n dX5_takeWord_24 rfl rfl ?_
      refine e_iload_n dX5_takeWord_25 rfl rfl ?_
      refine e_invK (mcY := 0) (msY := 0) (ct_J0_charAt hj (by omega) (by omega)) vJ0_charAt_5068e wM_X5_213 hj rfl dX5_takeWord_26 rfl rfl (Nat.le_of_ble_eq_true rfl) (Nat.le_trans (Nat.le_of_ble_eq_true rfl) hJ) ?_
      rintro _ _ ⟨rfl, rfl⟩
      refine e_icmp_eq (tgt := 34) dX5_takeWord_29 (by decide) (fun i29 => ?_) (fun i29 => ?_)
      · refine e_iinc dX5_takeWord_34 rfl rfl (Nat.le_of_ble_eq_true rfl) ?_
        refine e_goto (tgt := 6) dX5_takeWord_37 (by decide) ?_
        refine ih (i + 1) _ (by omega) (ar_inc hx (by omega)) (fun k2 hk2 => ?_)
        by_cases e : k2 = i
        · rw [e, i29, hn]
        · exact hk k2 (by omega)
      · have hF2 : ¬ wAt (tB (S.2.1 0) n) j p := fun q2 => i29 (by rw [q2.1 i (by omega), hn])
        refine e_iconst (v := 0) dX5_takeWord_32 (by decide) ?_
        exact e_zret (ty := .boolean) rfl rfl dX5_takeWord_33 (hF hF2)
set_option maxRecDepth 20000 in
theorem ct_X5_takeWord (hO : rOk b S n) (hp : p ≤ n) (hj : j < 26) : ev_Ct G l mX5_takeWord 5 0 0 [.ref (b + 2), .ref (ev_Ks G j)] (sy G b (rS S p v) h) (fun c a => (wAt (tB (S.2.1 0) n) j (sk (tB (S.2.1 0) n) n p) ∧ c = some (.int 1) ∧ a = sy G b (rS S ((sk (tB (S.2.1 0) n) n p) + ev_len.getD j 0) v) h) ∨ (¬ wAt (tB (S.2.1 0) n) j (sk (tB (S.2.1 0) n) n p) ∧ c = some (.int 0) ∧ a = sy G b (rS S (sk (tB (S.2.1 0) n) n p) v) h)) (fun _ _ => False) := by
  refine ev_Ct.of (by decide +kernel) (Nat.le_of_ble_eq_true rfl) ?_
  refine e_aload_n dX5_takeWord_0 rfl rfl ?_
  refine e_invV (mcY := 0) (msY := 0) (ct_X5_skipSpaces hO hp) vX5_skipSpaces wM_X5_63 (sy_at G b _ h 2 (by decide)) rfl dX5_takeWord_1 rfl rfl (Nat.le_of_ble_eq_true rfl) (Nat.le_of_ble_eq_true rfl) ?_
  rintro _ _ ⟨rfl, rfl⟩
  refine e_iconst (v := 0) dX5_takeWord_4 (by decide) ?_
  refine e_istore_n dX5_takeWord_5 rfl (Nat.le_of_ble_eq_true rfl) ?_
  refine ev_loc (L' := [some (.ref (b + 2)), some (.ref (ev_Ks G j)), some (.int 0)]) ⟨rfl, rfl, rfl, trivial⟩ ?_
  exact lp_word (Nat.le_of_ble_eq_true rfl) hO (sk_rng _ hp).2 hj (fun q2 => Or.inl (by exact ⟨q2, rfl, rfl⟩)) (fun q2 => Or.inr (by exact ⟨q2, rfl, rfl⟩)) (ev_len.getD j 0) 0 _ (by omega) ar_0 (fun k2 hk2 => absurd hk2 (Nat.not_lt_zero _))
set_option maxRecDepth 20000 in
theorem lp_dig {J : ev_K} {k m : Nat} {w : Int32} (hJ : 1 ≤ J.2.2.1) (hO : rOk b S n) (hk : ev_V G l mX5_readDigits J 80 [some (.ref (b + 2)), some (.int x)] [] (sy G b (rS S q w) h) k m) : ∀ (r p : Nat) (v : Int32), r + p = n → pDE (tB (S.2.1 0) n) r p = q → pDC (tB (S.2.1 0) n) r p v = w → ev_V G l mX5_readDigits J 10 [some (.ref (b + 2)), some (.int x)] [] (sy G b (rS S p v) h) k m := by
  have hn2 := hO.2.1
  have hn1 : (Int32.ofNat n).toInt = (n : Int) := ar_of (by omega)
  intro r
  induction r with
  | zero =>
    intro p v hr hq hw
    have hp1 : (Int32.ofNat p).toInt = (p : Int) := ar_of (by omega)
    have hq' : p = q := hq
    have hw' : v = w := hw
    subst hq'
    subst hw'
    refine e_aload_n dX5_readDigits_10 rfl rfl ?_
    refine rS_g4 wF_X5_39 dX5_readDigits_11 ?_
    refine e_aload_n dX5_readDigits_14 rfl rfl ?_
    refine rS_g3 hO wF_X5_32 dX5_readDigits_15 ?_
    refine e_icmp_ge (tgt := 80) dX5_readDigits_18 (by decide) (fun i18 => ?_) (fun i18 => ?_)
    · exact hk
    · omega
  | succ r ih =>
    intro p v hr hq hw
    have hp1 : (Int32.ofNat p).toInt = (p : Int) := ar_of (by omega)
    have hq' : (if isD (tB (S.2.1 0) n p) then pDE (tB (S.2.1 0) n) r (p + 1) else p) = q := hq
    have hw' : (if isD (tB (S.2.1 0) n p) then pDC (tB (S.2.1 0) n) r (p + 1) (if v.toInt < 10000000 then 10 * v + (tB (S.2.1 0) n p - 48) else v) else v) = w := hw
    have w7 : (10000000 : Int32).toInt = 10000000 := by decide +kernel
    refine e_aload_n dX5_readDigits_10 rfl rfl ?_
    refine rS_g4 wF_X5_39 dX5_readDigits_11 ?_
    refine e_aload_n dX5_readDigits_14 rfl rfl ?_
    refine rS_g3 hO wF_X5_32 dX5_readDigits_15 ?_
    refine e_icmp_ge (tgt := 80) dX5_readDigits_18 (by decide) (fun i18 => ?_) (fun i18 => ?_)
    · omega
    · refine e_aload_n dX5_readDigits_21 rfl rfl ?_
      refine e_aload_n dX5_readDigits_22 rfl rfl ?_
      refine rS_g4 wF_X5_39 dX5_readDigits_23 ?_
      refine e_invV (mcY := 0) (msY := 0) (ct_X5_byteAt hO (q := p) (rfl) (by have := hO.2.1; omega)) vX5_byteAt wM_X5_200 (sy_at G b _ h 2 (by decide)) rfl dX5_readDigits_26 rfl rfl (Nat.le_of_ble_eq_true rfl) (Nat.le_trans (Nat.le_of_ble_eq_true rfl) hJ) ?_
      rintro _ _ ⟨rfl, rfl⟩
      refine e_invS (mcY := 0) (msY := 0) (ct_X5_isDigit) vX5_isDigit wM_X5_204 dX5_readDigits_29 rfl rfl (Nat.le_of_ble_eq_true rfl) (Nat.le_trans (Nat.le_of_ble_eq_true rfl) hJ) ?_
      rintro _ _ ⟨rfl, rfl⟩
      refine e_if_eq (tgt := 80) dX5_readDigits_32 (by decide) (fun i32 => ?_) (fun i32 => ?_)
      · have d32 : ¬ isD (tB (S.2.1 0) n p) := fun q2 => by rw [if_pos q2] at i32; exact absurd i32 (by decide)
        rw [if_neg d32] at hq' hw'
        subst hq'
        subst hw'
        exact hk
      · have d32 : isD (tB (S.2.1 0) n p) := Decidable.byContradiction fun q2 => by rw [if_neg q2] at i32; exact absurd rfl i32
        rw [if_pos d32] at hq' hw'
        refine e_aload_n dX5_readDigits_35 rfl rfl ?_
        refine rS_g5 wF_X5_79 dX5_readDigits_36 ?_
        refine e_ldc dX5_readDigits_39 wK_X5_207 ?_
        refine e_icmp_ge (tgt := 67) dX5_readDigits_41 (by decide) (fun i41 => ?_) (fun i41 => ?_)
        · rw [if_neg (by omega)] at hw'
          refine e_aload_n dX5_readDigits_67 rfl rfl ?_
          refine e_dup dX5_readDigits_68 rfl ?_
          refine rS_g4 wF_X5_39 dX5_readDigits_69 ?_
          refine e_iconst (v := 1) dX5_readDigits_72 (by decide) ?_
          refine e_iadd dX5_readDigits_73 ?_
          refine rS_p4 (q := p + 1) (ar_ofadd (i := 1) ar_1 (by omega) (by omega)) wF_X5_39 dX5_readDigits_74 ?_
          refine e_goto (tgt := 10) dX5_readDigits_77 (by decide) ?_
          exact ih (p + 1) _ (by omega) hq' hw'
        · rw [if_pos (by omega)] at hw'
          refine e_aload_n dX5_readDigits_44 rfl rfl ?_
          refine e_bipush (v := 10) dX5_readDigits_45 (by decide) ?_
          refine e_aload_n dX5_readDigits_47 rfl rfl ?_
          refine rS_g5 wF_X5_79 dX5_readDigits_48 ?_
          refine e_imul dX5_readDigits_51 ?_
          refine e_aload_n dX5_readDigits_52 rfl rfl ?_
          refine e_aload_n dX5_readDigits_53 rfl rfl ?_
          refine rS_g4 wF_X5_39 dX5_readDigits_54 ?_
          refine e_invV (mcY := 0) (msY := 0) (ct_X5_byteAt hO (q := p) (rfl) (by have := hO.2.1; omega)) vX5_byteAt wM_X5_200 (sy_at G b _ h 2 (by decide)) rfl dX5_readDigits_57 rfl rfl (Nat.le_of_ble_eq_true rfl) (Nat.le_trans (Nat.le_of_ble_eq_true rfl) hJ) ?_
          rintro _ _ ⟨rfl, rfl⟩
          refine e_bipush (v := 48) dX5_readDigits_60 (by decide) ?_
          refine e_isub dX5_readDigits_62 ?_
          refine e_iadd dX5_readDigits_63 ?_
          refine rS_p5 wF_X5_79 dX5_readDigits_64 ?_
          refine e_aload_n dX5_readDigits_67 rfl rfl ?_
          refine e_dup dX5_readDigits_68 rfl ?_
          refine rS_g4 wF_X5_39 dX5_readDigits_69 ?_
          refine e_iconst (v := 1) dX5_readDigits_72 (by decide) ?_
          refine e_iadd dX5_readDigits_73 ?_
          refine rS_p4 (q := p + 1) (ar_ofadd (i := 1) ar_1 (by omega) (by omega)) wF_X5_39 dX5_readDigits_74 ?_
          refine e_goto (tgt := 10) dX5_readDigits_77 (by decide) ?_
          exact ih (p + 1) _ (by omega) hq' hw'
set_option maxRecDepth 20000 in
theorem ct_X5_readDigits (hO : rOk b S n) (hp : p ≤ n) : ev_Ct G l mX5_readDigits 2 0 0 [.ref (b + 2)] (sy G b (rS S p v) h) (fun c a => (isD ((tB (S.2.1 0) n) p) ∧ c = some (.int 1) ∧ a = sy G b (rS S (dE (tB (S.2.1 0) n) n p) (pDC (tB (S.2.1 0) n) (n - p) p 0)) h) ∨ (¬ isD ((tB (S.2.1 0) n) p) ∧ c = some (.int 0) ∧ FR G b S h 2 p a)) (fun _ _ => False) := by
  refine ev_Ct.of (by decide +kernel) (Nat.le_of_ble_eq_true rfl) ?_
  have hn2 := hO.2.1
  refine e_aload_n dX5_readDigits_0 rfl rfl ?_
  refine rS_g4 wF_X5_39 dX5_readDigits_1 ?_
  refine e_istore_n dX5_readDigits_4 rfl (Nat.le_of_ble_eq_true rfl) ?_
  refine e_aload_n dX5_readDigits_5 rfl rfl ?_
  refine e_iconst (v := 0) dX5_readDigits_6 (by decide) ?_
  refine rS_p5 wF_X5_79 dX5_readDigits_7 ?_
  refine ev_loc (L' := [some (.ref (b + 2)), some (.int (Int32.ofNat p))]) ⟨rfl, rfl, trivial⟩ ?_
  refine lp_dig (Nat.le_of_ble_eq_true rfl) hO ?_ (n - p) p 0 (by omega) rfl rfl
  have hd1 := dE_rng (tB (S.2.1 0) n) hp
  have hd2 : (Int32.ofNat p).toInt = (p : Int) := ar_of (by omega)
  have hd3 : (Int32.ofNat (dE (tB (S.2.1 0) n) n p)).toInt = (dE (tB (S.2.1 0) n) n p : Nat) := ar_of (by omega)
  refine e_aload_n dX5_readDigits_80 rfl rfl ?_
  refine rS_g4 wF_X5_39 dX5_readDigits_81 ?_
  refine e_iload_n dX5_readDigits_84 rfl rfl ?_
  refine e_icmp_gt (tgt := 98) dX5_readDigits_85 (by decide) (fun i85 => ?_) (fun i85 => ?_)
  · have d85 : isD (tB (S.2.1 0) n p) := Decidable.byContradiction fun q2 => by have i85b : (Int32.ofNat p).toInt < (Int32.ofNat (dE (tB (S.2.1 0) n) n p)).toInt := i85; rw [dE_no q2] at i85b; omega
    refine e_iconst (v := 1) dX5_readDigits_98 (by decide) ?_
    refine e_goto (tgt := 103) dX5_readDigits_99 (by decide) ?_
    exact e_zret (ty := .boolean) rfl rfl dX5_readDigits_103 (by first | exact Or.inl ⟨d85, rfl, rfl⟩ | exact Or.inr ⟨d85, rfl, FR_of G b S h _ p _ _ 2 (by decide +kernel)⟩)
  · have d85 : ¬ isD (tB (S.2.1 0) n p) := fun q2 => by have i85b : (Int32.ofNat (dE (tB (S.2.1 0) n) n p)).toInt ≤ (Int32.ofNat p).toInt := i85; have := dE_up (n := n) q2 (Nat.lt_of_not_le fun c => by have e := tB_ge (T := S.2.1 0) c; have q3 := q2.1; rw [e, ar_m1] at q3; omega); omega
    refine e_aload_n dX5_readDigits_88 rfl rfl ?_
    refine e_bipush (v := (-2)) dX5_readDigits_89 (by decide) ?_
    refine e_iload_n dX5_readDigits_91 rfl rfl ?_
    refine e_invV (mcY := 0) (msY := 0) (ct_X5_fail) vX5_fail wM_X5_72 (sy_at G b _ h 2 (by decide)) rfl dX5_readDigits_92 rfl rfl (Nat.le_of_ble_eq_true rfl) (Nat.le_of_ble_eq_true rfl) ?_
    rintro _ _ ⟨rfl, rfl⟩
    refine e_if_eq (tgt := 102) dX5_readDigits_95 (by decide) (fun i95 => ?_) (fun i95 => ?_)
    · refine e_iconst (v := 0) dX5_readDigits_102 (by decide) ?_
      exact e_zret (ty := .boolean) rfl rfl dX5_readDigits_103 (by first | exact Or.inl ⟨d85, rfl, rfl⟩ | exact Or.inr ⟨d85, rfl, FR_of G b S h _ p _ _ 2 (by decide +kernel)⟩)
    · exact absurd rfl i95
set_option maxRecDepth 20000 in
theorem ct_X5_checkRange  : ev_Ct G l mX5_checkRange 1 0 0 [.ref (b + 2), .int x, .int y, .int z] (sy G b (rS S p v) h) (fun c a => ((x.toInt ≤ v.toInt ∧ v.toInt ≤ y.toInt) ∧ c = some (.int 1) ∧ a = sy G b (rS S p v) h) ∨ (¬ (x.toInt ≤ v.toInt ∧ v.toInt ≤ y.toInt) ∧ c = some (.int 0) ∧ a = sy G b (ss_I (ss_I (rS S p v) 4 (-3)) 5 z) h)) (fun _ _ => False) := by
  refine ev_Ct.of (by decide +kernel) (Nat.le_of_ble_eq_true rfl) ?_
  refine e_aload_n dX5_checkRange_0 rfl rfl ?_
  refine rS_g5 wF_X5_79 dX5_checkRange_1 ?_
  refine e_iload_n dX5_checkRange_4 rfl rfl ?_
  refine e_icmp_lt (tgt := 16) dX5_checkRange_5 (by decide) (fun i5 => ?_) (fun i5 => ?_)
  · refine e_aload_n dX5_checkRange_16 rfl rfl ?_
    refine e_bipush (v := (-3)) dX5_checkRange_17 (by decide) ?_
    refine e_iload_n dX5_checkRange_19 rfl rfl ?_
    refine e_invV (mcY := 0) (msY := 0) (ct_X5_fail) vX5_fail wM_X5_72 (sy_at G b _ h 2 (by decide)) rfl dX5_checkRange_20 rfl rfl (Nat.le_of_ble_eq_true rfl) (Nat.le_of_ble_eq_true rfl) ?_
    rintro _ _ ⟨rfl, rfl⟩
    refine e_if_eq (tgt := 30) dX5_checkRange_23 (by decide) (fun i23 => ?_) (fun i23 => ?_)
    · refine e_iconst (v := 0) dX5_checkRange_30 (by decide) ?_
      exact e_zret (ty := .boolean) rfl rfl dX5_checkRange_31 (by first | exact Or.inl ⟨⟨by omega, by omega⟩, rfl, rfl⟩ | exact Or.inr ⟨by omega, rfl, rfl⟩)
    · exact absurd rfl i23
  · refine e_aload_n dX5_checkRange_8 rfl rfl ?_
    refine rS_g5 wF_X5_79 dX5_checkRange_9 ?_
    refine e_iload_n dX5_checkRange_12 rfl rfl ?_
    refine e_icmp_le (tgt := 26) dX5_checkRange_13 (by decide) (fun i13 => ?_) (fun i13 => ?_)
    · refine e_iconst (v := 1) dX5_checkRange_26 (by decide) ?_
      refine e_goto (tgt := 31) dX5_checkRange_27 (by decide) ?_
      exact e_zret (ty := .boolean) rfl rfl dX5_checkRange_31 (by first | exact Or.inl ⟨⟨by omega, by omega⟩, rfl, rfl⟩ | exact Or.inr ⟨by omega, rfl, rfl⟩)
    · refine e_aload_n dX5_checkRange_16 rfl rfl ?_
      refine e_bipush (v := (-3)) dX5_checkRange_17 (by decide) ?_
      refine e_iload_n dX5_checkRange_19 rfl rfl ?_
      refine e_invV (mcY := 0) (msY := 0) (ct_X5_fail) vX5_fail wM_X5_72 (sy_at G b _ h 2 (by decide)) rfl dX5_checkRange_20 rfl rfl (Nat.le_of_ble_eq_true rfl) (Nat.le_of_ble_eq_true rfl) ?_
      rintro _ _ ⟨rfl, rfl⟩
      refine e_if_eq (tgt := 30) dX5_checkRange_23 (by decide) (fun i23 => ?_) (fun i23 => ?_)
      · refine e_iconst (v := 0) dX5_checkRange_30 (by decide) ?_
        exact e_zret (ty := .boolean) rfl rfl dX5_checkRange_31 (by first | exact Or.inl ⟨⟨by omega, by omega⟩, rfl, rfl⟩ | exact Or.inr ⟨by omega, rfl, rfl⟩)
      · exact absurd rfl i23
end RD2
