/-! the model's parser: plucks, strikes, ends, impulses -/
section P4
variable {G : ev_G} {l : Launch} {c n p q j : Nat} {μ : MS} {h : ev_H} {B : Nat → Int32} {x y z s f e : Int32} {lo hi : Int} {T : Int} {S : SS}
theorem wB_no {s : Nat} (h : ¬ wAt B j s) : wB B j s = false := by
  cases q : wB B j s with
  | false => rfl
  | true => exact absurd (wB_iff.mp q) h
set_option maxRecDepth 20000 in
theorem ct_X7_readPluck (hB : MB B n μ) (hp : p ≤ n) (hD : DR T S μ) : ev_Ct G l mX7_readPluck 5 0 0 [.ref c] (mo G c (qS μ p s 0 f) h) (fun v a => v = none ∧ oQ G c h T S μ f (pPl B n (sM (S.2.2.2 1)) (S.2.1 1) p) a) (fun _ _ => False) := by
  refine ev_Ct.of (by decide +kernel) (Nat.le_of_ble_eq_true rfl) ?_
  have hn2 := hB.2.1
  have hK := hD.1
  have hR := hK.1
  have hv := hK.2.1
  have hmn := hv.1.nat
  have hM : ((S.2.2.2 1).1 0).toInt = sM (S.2.2.2 1) := rfl
  have z0 := ar_0
  have z1 := ar_1
  have f1 : (μ.2.1 1 (1 : Int32).toInt.toNat).toInt32 = (S.2.2.2 1).1 0 := by rw [z1]; show (μ.2.1 1 1).toInt32 = _; rw [hR.1.2.1, ar_6432]
  have em : ((S.2.2.2 1).1 0 - 1).toInt = sM (S.2.2.2 1) - 1 := by rw [ar_sub (by omega) (by omega), z1, hM]
  have z12 : (12 : Int32).toInt = ((12 : Nat) : Int) := ar_12
  have z48 : (48 : Int32).toInt = ((48 : Nat) : Int) := by decide +kernel
  have w2 : (2 : Int32).toInt = ((2 : Nat) : Int) := by decide +kernel
  have wp : (10000 : Int32).toInt = 10000 := by decide +kernel
  have wm : (-10000 : Int32).toInt = -10000 := by decide +kernel
  have w9 : (9 : Int32).toInt = 9 := by decide +kernel
  have n9 : (9 : Int32).toInt.toNat = 9 := by decide +kernel
  refine e_aload_n dX7_readPluck_0 rfl rfl ?_
  refine e_invV (mcY := 0) (msY := 0) (ct_X7_massOfTextL hB hp hD) vX7_massOfText wM_X7_112 (mo_at G c _ h 0 (by decide)) rfl dX7_readPluck_1 rfl rfl (Nat.le_of_ble_eq_true rfl) (Nat.le_of_ble_eq_true rfl) ?_
  rintro _ _ hc
  generalize er1 : pN B n (0) ((sM (S.2.2.2 1)) - 1) (p) = r1 at hc
  obtain ⟨k1, q1, m1⟩ := r1
  dsimp only at hc
  rcases hc with ⟨hr1, rfl, rfl⟩ | ⟨hr1, rfl, p1, s1, e1, he1, hv1, rfl⟩
  · subst hr1
    have g1 := pN_0 hB.2.2.2 hp (lo := 0) (hi := (sM (S.2.2.2 1)) - 1) (by rw [er1])
    rw [er1] at g1
    change p < q1 ∧ q1 ≤ n ∧ 0 ≤ m1 ∧ m1 ≤ (sM (S.2.2.2 1)) - 1 at g1
    have hm1e : Int32.ofInt m1 = Int32.ofNat m1.toNat := ar_eq (by rw [ar_ofI (by omega) (by omega), ar_of (by omega)]; omega)
    have hm12 : m1.toNat < 12 := by omega
    have hmN : m1.toNat < sNm (S.2.2.2 1) := by omega
    refine e_istore_n dX7_readPluck_4 rfl (Nat.le_of_ble_eq_true rfl) ?_
    refine e_aload_n dX7_readPluck_5 rfl rfl ?_
    refine e_invV (mcY := 0) (msY := 0) (ct_X7_isGood1) vX7_isGood wM_X7_69 (mo_at G c _ h 0 (by decide)) rfl dX7_readPluck_6 rfl rfl (Nat.le_of_ble_eq_true rfl) (Nat.le_of_ble_eq_true rfl) ?_
    rintro _ _ ⟨rfl, rfl⟩
    refine e_if_eq (tgt := 34) dX7_readPluck_9 (by decide) (fun c9 => ?_) (fun c9 => ?_)
    · first | exact absurd c9 (by decide) | exact absurd rfl c9
    · refine e_aload_n dX7_readPluck_12 rfl rfl ?_
      refine qS_g14 wF_X7_115 dX7_readPluck_13 ?_
      refine e_iload_n dX7_readPluck_16 rfl rfl ?_
      refine e_ishr dX7_readPluck_17 ?_
      refine e_iconst (v := 1) dX7_readPluck_18 (by decide) ?_
      refine e_iand dX7_readPluck_19 ?_
      refine e_iconst (v := 1) dX7_readPluck_20 (by decide) ?_
      refine e_icmp_ne (tgt := 34) dX7_readPluck_21 (by decide) (fun c21 => ?_) (fun c21 => ?_)
      · have d21 : S.2.1 1 m1.toNat = 0 := by
          rw [hm1e, bt_test _ _ hm12, hD.2.1 m1.toNat hm12] at c21
          exact Decidable.byContradiction fun q => c21 q
        refine e_aload_n dX7_readPluck_34 rfl rfl ?_
        refine e_sipush (v := (-10000)) dX7_readPluck_35 (by decide) ?_
        refine e_sipush (v := 10000) dX7_readPluck_38 (by decide) ?_
        refine e_invV (mcY := 0) (msY := 0) (ct_X7_signedL (hi := 10000) hB g1.2.1 wm wp (by omega) (by omega)) vX7_signed wM_X7_118 (mo_at G c _ h 0 (by decide)) rfl dX7_readPluck_41 rfl rfl (Nat.le_of_ble_eq_true rfl) (Nat.le_of_ble_eq_true rfl) ?_
        rintro _ _ hc
        generalize er2 : pS B n (10000) (q1) = r2 at hc
        obtain ⟨k2, q2, m2⟩ := r2
        dsimp only at hc
        rcases hc with ⟨hr2, rfl, s2, rfl⟩ | ⟨hr2, ⟨w2, rfl⟩, p2, s2, e2, he2, hv2, rfl⟩
        · subst hr2
          have g2 := pS_0 hB.2.2.2 g1.2.1 (m := 10000) (by omega) (by rw [er2])
          rw [er2] at g2
          change q1 < q2 ∧ q2 ≤ n ∧ -10000 ≤ m2 ∧ m2 ≤ 10000 at g2
          refine e_istore_n dX7_readPluck_44 rfl (Nat.le_of_ble_eq_true rfl) ?_
          refine e_aload_n dX7_readPluck_45 rfl rfl ?_
          refine e_invV (mcY := 0) (msY := 0) (ct_X7_isGood1) vX7_isGood wM_X7_69 (mo_at G c _ h 0 (by decide)) rfl dX7_readPluck_46 rfl rfl (Nat.le_of_ble_eq_true rfl) (Nat.le_of_ble_eq_true rfl) ?_
          rintro _ _ ⟨rfl, rfl⟩
          refine e_if_ne (tgt := 53) dX7_readPluck_49 (by decide) (fun c49 => ?_) (fun c49 => ?_)
          · refine e_aload_n dX7_readPluck_53 rfl rfl ?_
            refine e_dup dX7_readPluck_54 rfl ?_
            refine qS_g14 wF_X7_115 dX7_readPluck_55 ?_
            refine e_iconst (v := 1) dX7_readPluck_58 (by decide) ?_
            refine e_iload_n dX7_readPluck_59 rfl rfl ?_
            refine e_ishl dX7_readPluck_60 ?_
            refine e_ior dX7_readPluck_61 ?_
            refine qS_p14 wF_X7_115 dX7_readPluck_62 ?_
            refine e_aload_n dX7_readPluck_65 rfl rfl ?_
            refine qS_g9 wF_X7_21 dX7_readPluck_66 ?_
            refine e_bipush (v := 12) dX7_readPluck_69 (by decide) ?_
            refine e_iconst (v := 3) dX7_readPluck_71 (by decide) ?_
            refine e_iload_n dX7_readPluck_72 rfl rfl ?_
            refine e_imul dX7_readPluck_73 ?_
            refine e_iadd dX7_readPluck_74 ?_
            refine e_iconst (v := 1) dX7_readPluck_75 (by decide) ?_
            refine e_iadd dX7_readPluck_76 ?_
            refine e_iload_n dX7_readPluck_77 rfl rfl ?_
            refine e_i2l dX7_readPluck_78 ?_
            refine qS_s3 (by rw [(ar_ix (j := (m1).toNat) (w := 1) z12 (show (Int32.ofInt m1).toInt = ((m1).toNat : Int) by rw [ar_ofI (by omega) (by omega)]; omega) ar_1 (by omega) (by omega) (by omega))]; omega) (by rw [(ar_ix (j := (m1).toNat) (w := 1) z12 (show (Int32.ofInt m1).toInt = ((m1).toNat : Int) by rw [ar_ofI (by omega) (by omega)]; omega) ar_1 (by omega) (by omega) (by omega))]; omega) dX7_readPluck_79 ?_
            exact e_vret rfl dX7_readPluck_80 (by
                refine ⟨rfl, ?_⟩
                have i1 := ar_nat (ar_ix (j := (m1).toNat) (w := 1) z12 (show (Int32.ofInt m1).toInt = ((m1).toNat : Int) by rw [ar_ofI (by omega) (by omega)]; omega) ar_1 (by omega) (by omega) (by omega))
                have a2 : (Int32.ofInt m2).toInt = m2 := ar_ofI (by omega) (by omega)
                have hd5 := hD.s5 (a := m1) (b := m2) (d := 0) hm12 (KR.pluck (y := Int32.ofInt m2) hK hmN (by omega) (by omega))
                rw [← hm1e] at hd5
                exact oQ_ok (t := (5, m1, m2, 0)) (by unfold pPl; rw [er1, pb_ok rfl]; show (if S.2.1 1 m1.toNat = 0 then _ else _) = _; rw [if_pos d21, er2]; rfl) hd5 ((FRM.int μ _ (by decide)).trans (FRM.row _ _)) (by rw [i1]; rfl))
          · first | exact absurd c49 (by decide) | exact absurd rfl c49
        · refine e_istore_n dX7_readPluck_44 rfl (Nat.le_of_ble_eq_true rfl) ?_
          refine e_aload_n dX7_readPluck_45 rfl rfl ?_
          refine e_invV (mcY := 0) (msY := 0) (ct_X7_isGood0 he2) vX7_isGood wM_X7_69 (mo_at G c _ h 0 (by decide)) rfl dX7_readPluck_46 rfl rfl (Nat.le_of_ble_eq_true rfl) (Nat.le_of_ble_eq_true rfl) ?_
          rintro _ _ ⟨rfl, rfl⟩
          refine e_if_ne (tgt := 53) dX7_readPluck_49 (by decide) (fun c49 => ?_) (fun c49 => ?_)
          · first | exact absurd c49 (by decide) | exact absurd rfl c49
          · exact e_vret rfl dX7_readPluck_52 (by
                refine ⟨rfl, ?_⟩
                first
                  | exact oQ_no (by unfold pPl; rw [er1]; exact pb_no hr1) hr1 (FRM.refl μ) he1 hv1 rfl
                  | exact oQ_no (k := 4) (by unfold pPl; rw [er1, pb_ok rfl]; exact if_neg d21) (by decide) (FRM.refl μ) (by decide) (by decide +kernel) rfl
                  | exact oQ_no (by unfold pPl; rw [er1, pb_ok rfl]; show (if S.2.1 1 m1.toNat = 0 then _ else _) = _; rw [if_pos d21, er2]; exact pb_no hr2) hr2 (FRM.refl μ) he2 hv2 rfl)
      · have d21 : S.2.1 1 m1.toNat ≠ 0 := by
          rw [hm1e, bt_test _ _ hm12, hD.2.1 m1.toNat hm12] at c21
          exact c21
        refine e_aload_n dX7_readPluck_24 rfl rfl ?_
        refine e_bipush (v := (-4)) dX7_readPluck_25 (by decide) ?_
        refine e_aload_n dX7_readPluck_27 rfl rfl ?_
        refine qS_g13 wF_X7_94 dX7_readPluck_28 ?_
        refine e_invV (mcY := 0) (msY := 0) (ct_X7_report1) vX7_report wM_X7_86 (mo_at G c _ h 0 (by decide)) rfl dX7_readPluck_31 rfl rfl (Nat.le_of_ble_eq_true rfl) (Nat.le_of_ble_eq_true rfl) ?_
        rintro _ _ ⟨rfl, rfl⟩
        refine e_aload_n dX7_readPluck_34 rfl rfl ?_
        refine e_sipush (v := (-10000)) dX7_readPluck_35 (by decide) ?_
        refine e_sipush (v := 10000) dX7_readPluck_38 (by decide) ?_
        refine e_invV (mcY := 0) (msY := 0) (ct_X7_signed0 (by decide)) vX7_signed wM_X7_118 (mo_at G c _ h 0 (by decide)) rfl dX7_readPluck_41 rfl rfl (Nat.le_of_ble_eq_true rfl) (Nat.le_of_ble_eq_true rfl) ?_
        rintro _ _ ⟨rfl, rfl⟩
        refine e_istore_n dX7_readPluck_44 rfl (Nat.le_of_ble_eq_true rfl) ?_
        refine e_aload_n dX7_readPluck_45 rfl rfl ?_
        refine e_invV (mcY := 0) (msY := 0) (ct_X7_isGood0 (by decide)) vX7_isGood wM_X7_69 (mo_at G c _ h 0 (by decide)) rfl dX7_readPluck_46 rfl rfl (Nat.le_of_ble_eq_true rfl) (Nat.le_of_ble_eq_true rfl) ?_
        rintro _ _ ⟨rfl, rfl⟩
        refine e_if_ne (tgt := 53) dX7_readPluck_49 (by decide) (fun c49 => ?_) (fun c49 => ?_)
        · first | exact absurd c49 (by decide) | exact absurd rfl c49
        · exact e_vret rfl dX7_readPluck_52 (by
              refine ⟨rfl, ?_⟩
              first
                | exact oQ_no (by unfold pPl; rw [er1]; exact pb_no hr1) hr1 (FRM.refl μ) he1 hv1 rfl
                | exact oQ_no (k := 4) (by unfold pPl; rw [er1, pb_ok rfl]; exact if_neg d21) (by decide) (FRM.refl μ) (by decide) (by decide +kernel) rfl
                | exact oQ_no (by unfold pPl; rw [er1, pb_ok rfl]; show (if S.2.1 1 m1.toNat = 0 then _ else _) = _; rw [if_pos d21, er2]; exact pb_no hr2) hr2 (FRM.refl μ) he2 hv2 rfl)
  · refine e_istore_n dX7_readPluck_4 rfl (Nat.le_of_ble_eq_true rfl) ?_
    refine e_aload_n dX7_readPluck_5 rfl rfl ?_
    refine e_invV (mcY := 0) (msY := 0) (ct_X7_isGood0 he1) vX7_isGood wM_X7_69 (mo_at G c _ h 0 (by decide)) rfl dX7_readPluck_6 rfl rfl (Nat.le_of_ble_eq_true rfl) (Nat.le_of_ble_eq_true rfl) ?_
    rintro _ _ ⟨rfl, rfl⟩
    refine e_if_eq (tgt := 34) dX7_readPluck_9 (by decide) (fun c9 => ?_) (fun c9 => ?_)
    · refine e_aload_n dX7_readPluck_34 rfl rfl ?_
      refine e_sipush (v := (-10000)) dX7_readPluck_35 (by decide) ?_
      refine e_sipush (v := 10000) dX7_readPluck_38 (by decide) ?_
      refine e_invV (mcY := 0) (msY := 0) (ct_X7_signed0 he1) vX7_signed wM_X7_118 (mo_at G c _ h 0 (by decide)) rfl dX7_readPluck_41 rfl rfl (Nat.le_of_ble_eq_true rfl) (Nat.le_of_ble_eq_true rfl) ?_
      rintro _ _ ⟨rfl, rfl⟩
      refine e_istore_n dX7_readPluck_44 rfl (Nat.le_of_ble_eq_true rfl) ?_
      refine e_aload_n dX7_readPluck_45 rfl rfl ?_
      refine e_invV (mcY := 0) (msY := 0) (ct_X7_isGood0 he1) vX7_isGood wM_X7_69 (mo_at G c _ h 0 (by decide)) rfl dX7_readPluck_46 rfl rfl (Nat.le_of_ble_eq_true rfl) (Nat.le_of_ble_eq_true rfl) ?_
      rintro _ _ ⟨rfl, rfl⟩
      refine e_if_ne (tgt := 53) dX7_readPluck_49 (by decide) (fun c49 => ?_) (fun c49 => ?_)
      · first | exact absurd c49 (by decide) | exact absurd rfl c49
      · exact e_vret rfl dX7_readPluck_52 (by
            refine ⟨rfl, ?_⟩
            first
              | exact oQ_no (by unfold pPl; rw [er1]; exact pb_no hr1) hr1 (FRM.refl μ) he1 hv1 rfl
              | exact oQ_no (k := 4) (by unfold pPl; rw [er1, pb_ok rfl]; exact if_neg d21) (by decide) (FRM.refl μ) (by decide) (by decide +kernel) rfl
              | exact oQ_no (by unfold pPl; rw [er1, pb_ok rfl]; show (if S.2.1 1 m1.toNat = 0 then _ else _) = _; rw [if_pos d21, er2]; exact pb_no hr2) hr2 (FRM.refl μ) he2 hv2 rfl)
    · first | exact absurd c9 (by decide) | exact absurd rfl c9
set_option maxRecDepth 20000 in
theorem ct_X7_readStrike (hB : MB B n μ) (hp : p ≤ n) (hD : DR T S μ) : ev_Ct G l mX7_readStrike 5 0 0 [.ref c] (mo G c (qS μ p s 0 f) h) (fun v a => v = none ∧ oQ G c h T S μ f (pSr B n (sM (S.2.2.2 1)) (S.2.1 2) p) a) (fun _ _ => False) := by
  refine ev_Ct.of (by decide +kernel) (Nat.le_of_ble_eq_true rfl) ?_
  have hn2 := hB.2.1
  have hK := hD.1
  have hR := hK.1
  have hv := hK.2.1
  have hmn := hv.1.nat
  have hM : ((S.2.2.2 1).1 0).toInt = sM (S.2.2.2 1) := rfl
  have z0 := ar_0
  have z1 := ar_1
  have f1 : (μ.2.1 1 (1 : Int32).toInt.toNat).toInt32 = (S.2.2.2 1).1 0 := by rw [z1]; show (μ.2.1 1 1).toInt32 = _; rw [hR.1.2.1, ar_6432]
  have em : ((S.2.2.2 1).1 0 - 1).toInt = sM (S.2.2.2 1) - 1 := by rw [ar_sub (by omega) (by omega), z1, hM]
  have z12 : (12 : Int32).toInt = ((12 : Nat) : Int) := ar_12
  have z48 : (48 : Int32).toInt = ((48 : Nat) : Int) := by decide +kernel
  have w2 : (2 : Int32).toInt = ((2 : Nat) : Int) := by decide +kernel
  have wp : (100000 : Int32).toInt = 100000 := by decide +kernel
  have wm : (-100000 : Int32).toInt = -100000 := by decide +kernel
  have w9 : (9 : Int32).toInt = 9 := by decide +kernel
  have n9 : (9 : Int32).toInt.toNat = 9 := by decide +kernel
  refine e_aload_n dX7_readStrike_0 rfl rfl ?_
  refine e_invV (mcY := 0) (msY := 0) (ct_X7_massOfTextL hB hp hD) vX7_massOfText wM_X7_112 (mo_at G c _ h 0 (by decide)) rfl dX7_readStrike_1 rfl rfl (Nat.le_of_ble_eq_true rfl) (Nat.le_of_ble_eq_true rfl) ?_
  rintro _ _ hc
  generalize er1 : pN B n (0) ((sM (S.2.2.2 1)) - 1) (p) = r1 at hc
  obtain ⟨k1, q1, m1⟩ := r1
  dsimp only at hc
  rcases hc with ⟨hr1, rfl, rfl⟩ | ⟨hr1, rfl, p1, s1, e1, he1, hv1, rfl⟩
  · subst hr1
    have g1 := pN_0 hB.2.2.2 hp (lo := 0) (hi := (sM (S.2.2.2 1)) - 1) (by rw [er1])
    rw [er1] at g1
    change p < q1 ∧ q1 ≤ n ∧ 0 ≤ m1 ∧ m1 ≤ (sM (S.2.2.2 1)) - 1 at g1
    have hm1e : Int32.ofInt m1 = Int32.ofNat m1.toNat := ar_eq (by rw [ar_ofI (by omega) (by omega), ar_of (by omega)]; omega)
    have hm12 : m1.toNat < 12 := by omega
    have hmN : m1.toNat < sNm (S.2.2.2 1) := by omega
    refine e_istore_n dX7_readStrike_4 rfl (Nat.le_of_ble_eq_true rfl) ?_
    refine e_aload_n dX7_readStrike_5 rfl rfl ?_
    refine e_invV (mcY := 0) (msY := 0) (ct_X7_isGood1) vX7_isGood wM_X7_69 (mo_at G c _ h 0 (by decide)) rfl dX7_readStrike_6 rfl rfl (Nat.le_of_ble_eq_true rfl) (Nat.le_of_ble_eq_true rfl) ?_
    rintro _ _ ⟨rfl, rfl⟩
    refine e_if_eq (tgt := 34) dX7_readStrike_9 (by decide) (fun c9 => ?_) (fun c9 => ?_)
    · first | exact absurd c9 (by decide) | exact absurd rfl c9
    · refine e_aload_n dX7_readStrike_12 rfl rfl ?_
      refine qS_g15 wF_X7_121 dX7_readStrike_13 ?_
      refine e_iload_n dX7_readStrike_16 rfl rfl ?_
      refine e_ishr dX7_readStrike_17 ?_
      refine e_iconst (v := 1) dX7_readStrike_18 (by decide) ?_
      refine e_iand dX7_readStrike_19 ?_
      refine e_iconst (v := 1) dX7_readStrike_20 (by decide) ?_
      refine e_icmp_ne (tgt := 34) dX7_readStrike_21 (by decide) (fun c21 => ?_) (fun c21 => ?_)
      · have d21 : S.2.1 2 m1.toNat = 0 := by
          rw [hm1e, bt_test _ _ hm12, hD.2.2.1 m1.toNat hm12] at c21
          exact Decidable.byContradiction fun q => c21 q
        refine e_aload_n dX7_readStrike_34 rfl rfl ?_
        refine e_ldc dX7_readStrike_35 wK_X7_124 ?_
        refine e_ldc dX7_readStrike_37 wK_X7_125 ?_
        refine e_invV (mcY := 0) (msY := 0) (ct_X7_signedL (hi := 100000) hB g1.2.1 wm wp (by omega) (by omega)) vX7_signed wM_X7_118 (mo_at G c _ h 0 (by decide)) rfl dX7_readStrike_39 rfl rfl (Nat.le_of_ble_eq_true rfl) (Nat.le_of_ble_eq_true rfl) ?_
        rintro _ _ hc
        generalize er2 : pS B n (100000) (q1) = r2 at hc
        obtain ⟨k2, q2, m2⟩ := r2
        dsimp only at hc
        rcases hc with ⟨hr2, rfl, s2, rfl⟩ | ⟨hr2, ⟨w2, rfl⟩, p2, s2, e2, he2, hv2, rfl⟩
        · subst hr2
          have g2 := pS_0 hB.2.2.2 g1.2.1 (m := 100000) (by omega) (by rw [er2])
          rw [er2] at g2
          change q1 < q2 ∧ q2 ≤ n ∧ -100000 ≤ m2 ∧ m2 ≤ 100000 at g2
          refine e_istore_n dX7_readStrike_42 rfl (Nat.le_of_ble_eq_true rfl) ?_
          refine e_aload_n dX7_readStrike_43 rfl rfl ?_
          refine e_invV (mcY := 0) (msY := 0) (ct_X7_isGood1) vX7_isGood wM_X7_69 (mo_at G c _ h 0 (by decide)) rfl dX7_readStrike_44 rfl rfl (Nat.le_of_ble_eq_true rfl) (Nat.le_of_ble_eq_true rfl) ?_
          rintro _ _ ⟨rfl, rfl⟩
          refine e_if_ne (tgt := 51) dX7_readStrike_47 (by decide) (fun c47 => ?_) (fun c47 => ?_)
          · refine e_aload_n dX7_readStrike_51 rfl rfl ?_
            refine e_dup dX7_readStrike_52 rfl ?_
            refine qS_g15 wF_X7_121 dX7_readStrike_53 ?_
            refine e_iconst (v := 1) dX7_readStrike_56 (by decide) ?_
            refine e_iload_n dX7_readStrike_57 rfl rfl ?_
            refine e_ishl dX7_readStrike_58 ?_
            refine e_ior dX7_readStrike_59 ?_
            refine qS_p15 wF_X7_121 dX7_readStrike_60 ?_
            refine e_aload_n dX7_readStrike_63 rfl rfl ?_
            refine qS_g9 wF_X7_21 dX7_readStrike_64 ?_
            refine e_bipush (v := 12) dX7_readStrike_67 (by decide) ?_
            refine e_iconst (v := 3) dX7_readStrike_69 (by decide) ?_
            refine e_iload_n dX7_readStrike_70 rfl rfl ?_
            refine e_imul dX7_readStrike_71 ?_
            refine e_iadd dX7_readStrike_72 ?_
            refine e_iconst (v := 2) dX7_readStrike_73 (by decide) ?_
            refine e_iadd dX7_readStrike_74 ?_
            refine e_iload_n dX7_readStrike_75 rfl rfl ?_
            refine e_i2l dX7_readStrike_76 ?_
            refine qS_s3 (by rw [(ar_ix (j := (m1).toNat) (w := 2) z12 (show (Int32.ofInt m1).toInt = ((m1).toNat : Int) by rw [ar_ofI (by omega) (by omega)]; omega) w2 (by omega) (by omega) (by omega))]; omega) (by rw [(ar_ix (j := (m1).toNat) (w := 2) z12 (show (Int32.ofInt m1).toInt = ((m1).toNat : Int) by rw [ar_ofI (by omega) (by omega)]; omega) w2 (by omega) (by omega) (by omega))]; omega) dX7_readStrike_77 ?_
            refine e_aload_n dX7_readStrike_78 rfl rfl ?_
            refine qS_g9 wF_X7_21 dX7_readStrike_79 ?_
            refine e_bipush (v := 9) dX7_readStrike_82 (by decide) ?_
            refine e_dup2 dX7_readStrike_84 rfl rfl ?_
            refine qS_l3 (by omega) (by omega) dX7_readStrike_85 ?_
            refine e_iload_n dX7_readStrike_86 rfl rfl ?_
            refine e_i2l dX7_readStrike_87 ?_
            refine e_ladd dX7_readStrike_88 ?_
            refine qS_s3 (by omega) (by omega) dX7_readStrike_89 ?_
            exact e_vret rfl dX7_readStrike_90 (by
                refine ⟨rfl, ?_⟩
                have i1 := ar_nat (ar_ix (j := (m1).toNat) (w := 2) z12 (show (Int32.ofInt m1).toInt = ((m1).toNat : Int) by rw [ar_ofI (by omega) (by omega)]; omega) w2 (by omega) (by omega) (by omega))
                have a2 : (Int32.ofInt m2).toInt = m2 := ar_ofI (by omega) (by omega)
                have hd5 := hD.s6 (a := m1) (b := m2) (d := 0) hm12 (KR.hit0 (y := Int32.ofInt m2) hK hmN (hD.2.2.2.2.2 _ hmN d21) (by omega) (by omega))
                rw [← hm1e] at hd5
                exact oQ_ok (t := (6, m1, m2, 0)) (by unfold pSr; rw [er1, pb_ok rfl]; show (if S.2.1 2 m1.toNat = 0 then _ else _) = _; rw [if_pos d21, er2]; rfl) hd5 ((FRM.int μ _ (by decide)).trans (FRM.row _ _)) (by simp only [ms_L_L, ms_L_get, i1, n9]; rw [ev_u_ne (k := 12 + 3 * m1.toNat + 2) (j := 9) _ _ (by omega)]; rfl))
          · first | exact absurd c47 (by decide) | exact absurd rfl c47
        · refine e_istore_n dX7_readStrike_42 rfl (Nat.le_of_ble_eq_true rfl) ?_
          refine e_aload_n dX7_readStrike_43 rfl rfl ?_
          refine e_invV (mcY := 0) (msY := 0) (ct_X7_isGood0 he2) vX7_isGood wM_X7_69 (mo_at G c _ h 0 (by decide)) rfl dX7_readStrike_44 rfl rfl (Nat.le_of_ble_eq_true rfl) (Nat.le_of_ble_eq_true rfl) ?_
          rintro _ _ ⟨rfl, rfl⟩
          refine e_if_ne (tgt := 51) dX7_readStrike_47 (by decide) (fun c47 => ?_) (fun c47 => ?_)
          · first | exact absurd c47 (by decide) | exact absurd rfl c47
          · exact e_vret rfl dX7_readStrike_50 (by
                refine ⟨rfl, ?_⟩
                first
                  | exact oQ_no (by unfold pSr; rw [er1]; exact pb_no hr1) hr1 (FRM.refl μ) he1 hv1 rfl
                  | exact oQ_no (k := 4) (by unfold pSr; rw [er1, pb_ok rfl]; exact if_neg d21) (by decide) (FRM.refl μ) (by decide) (by decide +kernel) rfl
                  | exact oQ_no (by unfold pSr; rw [er1, pb_ok rfl]; show (if S.2.1 2 m1.toNat = 0 then _ else _) = _; rw [if_pos d21, er2]; exact pb_no hr2) hr2 (FRM.refl μ) he2 hv2 rfl)
      · have d21 : S.2.1 2 m1.toNat ≠ 0 := by
          rw [hm1e, bt_test _ _ hm12, hD.2.2.1 m1.toNat hm12] at c21
          exact c21
        refine e_aload_n dX7_readStrike_24 rfl rfl ?_
        refine e_bipush (v := (-4)) dX7_readStrike_25 (by decide) ?_
        refine e_aload_n dX7_readStrike_27 rfl rfl ?_
        refine qS_g13 wF_X7_94 dX7_readStrike_28 ?_
        refine e_invV (mcY := 0) (msY := 0) (ct_X7_report1) vX7_report wM_X7_86 (mo_at G c _ h 0 (by decide)) rfl dX7_readStrike_31 rfl rfl (Nat.le_of_ble_eq_true rfl) (Nat.le_of_ble_eq_true rfl) ?_
        rintro _ _ ⟨rfl, rfl⟩
        refine e_aload_n dX7_readStrike_34 rfl rfl ?_
        refine e_ldc dX7_readStrike_35 wK_X7_124 ?_
        refine e_ldc dX7_readStrike_37 wK_X7_125 ?_
        refine e_invV (mcY := 0) (msY := 0) (ct_X7_signed0 (by decide)) vX7_signed wM_X7_118 (mo_at G c _ h 0 (by decide)) rfl dX7_readStrike_39 rfl rfl (Nat.le_of_ble_eq_true rfl) (Nat.le_of_ble_eq_true rfl) ?_
        rintro _ _ ⟨rfl, rfl⟩
        refine e_istore_n dX7_readStrike_42 rfl (Nat.le_of_ble_eq_true rfl) ?_
        refine e_aload_n dX7_readStrike_43 rfl rfl ?_
        refine e_invV (mcY := 0) (msY := 0) (ct_X7_isGood0 (by decide)) vX7_isGood wM_X7_69 (mo_at G c _ h 0 (by decide)) rfl dX7_readStrike_44 rfl rfl (Nat.le_of_ble_eq_true rfl) (Nat.le_of_ble_eq_true rfl) ?_
        rintro _ _ ⟨rfl, rfl⟩
        refine e_if_ne (tgt := 51) dX7_readStrike_47 (by decide) (fun c47 => ?_) (fun c47 => ?_)
        · first | exact absurd c47 (by decide) | exact absurd rfl c47
        · exact e_vret rfl dX7_readStrike_50 (by
              refine ⟨rfl, ?_⟩
              first
                | exact oQ_no (by unfold pSr; rw [er1]; exact pb_no hr1) hr1 (FRM.refl μ) he1 hv1 rfl
                | exact oQ_no (k := 4) (by unfold pSr; rw [er1, pb_ok rfl]; exact if_neg d21) (by decide) (FRM.refl μ) (by decide) (by decide +kernel) rfl
                | exact oQ_no (by unfold pSr; rw [er1, pb_ok rfl]; show (if S.2.1 2 m1.toNat = 0 then _ else _) = _; rw [if_pos d21, er2]; exact pb_no hr2) hr2 (FRM.refl μ) he2 hv2 rfl)
  · refine e_istore_n dX7_readStrike_4 rfl (Nat.le_of_ble_eq_true rfl) ?_
    refine e_aload_n dX7_readStrike_5 rfl rfl ?_
    refine e_invV (mcY := 0) (msY := 0) (ct_X7_isGood0 he1) vX7_isGood wM_X7_69 (mo_at G c _ h 0 (by decide)) rfl dX7_readStrike_6 rfl rfl (Nat.le_of_ble_eq_true rfl) (Nat.le_of_ble_eq_true rfl) ?_
    rintro _ _ ⟨rfl, rfl⟩
    refine e_if_eq (tgt := 34) dX7_readStrike_9 (by decide) (fun c9 => ?_) (fun c9 => ?_)
    · refine e_aload_n dX7_readStrike_34 rfl rfl ?_
      refine e_ldc dX7_readStrike_35 wK_X7_124 ?_
      refine e_ldc dX7_readStrike_37 wK_X7_125 ?_
      refine e_invV (mcY := 0) (msY := 0) (ct_X7_signed0 he1) vX7_signed wM_X7_118 (mo_at G c _ h 0 (by decide)) rfl dX7_readStrike_39 rfl rfl (Nat.le_of_ble_eq_true rfl) (Nat.le_of_ble_eq_true rfl) ?_
      rintro _ _ ⟨rfl, rfl⟩
      refine e_istore_n dX7_readStrike_42 rfl (Nat.le_of_ble_eq_true rfl) ?_
      refine e_aload_n dX7_readStrike_43 rfl rfl ?_
      refine e_invV (mcY := 0) (msY := 0) (ct_X7_isGood0 he1) vX7_isGood wM_X7_69 (mo_at G c _ h 0 (by decide)) rfl dX7_readStrike_44 rfl rfl (Nat.le_of_ble_eq_true rfl) (Nat.le_of_ble_eq_true rfl) ?_
      rintro _ _ ⟨rfl, rfl⟩
      refine e_if_ne (tgt := 51) dX7_readStrike_47 (by decide) (fun c47 => ?_) (fun c47 => ?_)
      · first | exact absurd c47 (by decide) | exact absurd rfl c47
      · exact e_vret rfl dX7_readStrike_50 (by
            refine ⟨rfl, ?_⟩
            first
              | exact oQ_no (by unfold pSr; rw [er1]; exact pb_no hr1) hr1 (FRM.refl μ) he1 hv1 rfl
              | exact oQ_no (k := 4) (by unfold pSr; rw [er1, pb_ok rfl]; exact if_neg d21) (by decide) (FRM.refl μ) (by decide) (by decide +kernel) rfl
              | exact oQ_no (by unfold pSr; rw [er1, pb_ok rfl]; show (if S.2.1 2 m1.toNat = 0 then _ else _) = _; rw [if_pos d21, er2]; exact pb_no hr2) hr2 (FRM.refl μ) he2 hv2 rfl)
    · first | exact absurd c9 (by decide) | exact absurd rfl c9
set_option maxRecDepth 20000 in
theorem ct_X7_readEnd (hB : MB B n μ) (hp : p ≤ n) (hD : DR T S μ) : ev_Ct G l mX7_readEnd 6 0 0 [.ref c] (mo G c (qS μ p s 0 f) h) (fun v a => v = none ∧ oQ G c h T S μ f (pEn B n p) a) (fun _ _ => False) := by
  refine ev_Ct.of (by decide +kernel) (Nat.le_of_ble_eq_true rfl) ?_
  have hn2 := hB.2.1
  have hK := hD.1
  have hR := hK.1
  have hv := hK.2.1
  have hmn := hv.1.nat
  have hM : ((S.2.2.2 1).1 0).toInt = sM (S.2.2.2 1) := rfl
  have z0 := ar_0
  have z1 := ar_1
  have f1 : (μ.2.1 1 (1 : Int32).toInt.toNat).toInt32 = (S.2.2.2 1).1 0 := by rw [z1]; show (μ.2.1 1 1).toInt32 = _; rw [hR.1.2.1, ar_6432]
  have em : ((S.2.2.2 1).1 0 - 1).toInt = sM (S.2.2.2 1) - 1 := by rw [ar_sub (by omega) (by omega), z1, hM]
  have z12 : (12 : Int32).toInt = ((12 : Nat) : Int) := ar_12
  have z48 : (48 : Int32).toInt = ((48 : Nat) : Int) := by decide +kernel
  have w2 : (2 : Int32).toInt = ((2 : Nat) : Int) := by decide +kernel
  have hsr := sk_rng B hp
  have wp : (100000 : Int32).toInt = 100000 := by decide +kernel
  have wm : (-100000 : Int32).toInt = -100000 := by decide +kernel
  have w2' : (2 : Int32).toInt = 2 := by decide +kernel
  have w3 : (3 : Int32).toInt = 3 := by decide +kernel
  have n2' : (2 : Int32).toInt.toNat = 2 := by decide +kernel
  have n3 : (3 : Int32).toInt.toNat = 3 := by decide +kernel
  refine e_aload_n dX7_readEnd_0 rfl rfl ?_
  refine e_invV (mcY := 0) (msY := 0) (ct_X7_isGood1) vX7_isGood wM_X7_69 (mo_at G c _ h 0 (by decide)) rfl dX7_readEnd_1 rfl rfl (Nat.le_of_ble_eq_true rfl) (Nat.le_of_ble_eq_true rfl) ?_
  rintro _ _ ⟨rfl, rfl⟩
  refine e_if_ne (tgt := 8) dX7_readEnd_4 (by decide) (fun c4 => ?_) (fun c4 => ?_)
  · refine e_aload_n dX7_readEnd_8 rfl rfl ?_
    refine e_ldcS (j := 12) (tx := "left") dX7_readEnd_9 (by decide +kernel) ?_
    refine e_invV (mcY := 0) (msY := 0) (ct_X7_takeWord1 hB hp (j := 12) (by decide)) vX7_takeWord wM_X7_107 (mo_at G c _ h 0 (by decide)) rfl dX7_readEnd_11 rfl rfl (Nat.le_of_ble_eq_true rfl) (Nat.le_of_ble_eq_true rfl) ?_
    rintro _ _ hc
    rcases hc with ⟨hw1, rfl, rfl⟩ | ⟨hw1, rfl, rfl⟩
    · rw [show ev_len.getD 12 0 = 4 from rfl]
      have h4 : sk B n p + 4 ≤ n := wAt_n hB.2.2.2 hw1 (by decide)
      have hnr : wB B 11 (sk B n p) = false := wB_no (fun q => by have a := q.1 0 (by decide); have b := hw1.1 0 (by decide); rw [a] at b; exact absurd b (by decide +kernel))
      have hwl := wB_iff.mpr hw1
      refine e_istore_n dX7_readEnd_14 rfl (Nat.le_of_ble_eq_true rfl) ?_
      refine e_iload_n dX7_readEnd_15 rfl rfl ?_
      refine e_if_ne (tgt := 38) dX7_readEnd_16 (by decide) (fun c16 => ?_) (fun c16 => ?_)
      · refine e_aload_n dX7_readEnd_38 rfl rfl ?_
        refine e_ldc dX7_readEnd_39 wK_X7_124 ?_
        refine e_ldc dX7_readEnd_41 wK_X7_125 ?_
        refine e_invV (mcY := 0) (msY := 0) (ct_X7_signedL (hi := 100000) hB h4 wm wp (by omega) (by omega)) vX7_signed wM_X7_118 (mo_at G c _ h 0 (by decide)) rfl dX7_readEnd_43 rfl rfl (Nat.le_of_ble_eq_true rfl) (Nat.le_of_ble_eq_true rfl) ?_
        rintro _ _ hc
        generalize er1 : pS B n (100000) (sk B n p + 4) = r1 at hc
        obtain ⟨k1, q1, m1⟩ := r1
        dsimp only at hc
        rcases hc with ⟨hr1, rfl, s1, rfl⟩ | ⟨hr1, ⟨w1, rfl⟩, p1, s1, e1, he1, hv1, rfl⟩
        · subst hr1
          have g1 := pS_0 hB.2.2.2 h4 (m := 100000) (by omega) (by rw [er1])
          rw [er1] at g1
          change sk B n p + 4 < q1 ∧ q1 ≤ n ∧ -100000 ≤ m1 ∧ m1 ≤ 100000 at g1
          refine e_istore_n dX7_readEnd_46 rfl (Nat.le_of_ble_eq_true rfl) ?_
          refine e_aload_n dX7_readEnd_47 rfl rfl ?_
          refine e_invV (mcY := 0) (msY := 0) (ct_X7_isGood1) vX7_isGood wM_X7_69 (mo_at G c _ h 0 (by decide)) rfl dX7_readEnd_48 rfl rfl (Nat.le_of_ble_eq_true rfl) (Nat.le_of_ble_eq_true rfl) ?_
          rintro _ _ ⟨rfl, rfl⟩
          refine e_if_eq (tgt := 70) dX7_readEnd_51 (by decide) (fun c51 => ?_) (fun c51 => ?_)
          · first | exact absurd c51 (by decide) | exact absurd rfl c51
          · refine e_aload_n dX7_readEnd_54 rfl rfl ?_
            refine qS_g9 wF_X7_21 dX7_readEnd_55 ?_
            refine e_iload_n dX7_readEnd_58 rfl rfl ?_
            refine e_if_eq (tgt := 66) dX7_readEnd_59 (by decide) (fun c59 => ?_) (fun c59 => ?_)
            · first | exact absurd c59 (by decide) | exact absurd rfl c59
            · refine e_iconst (v := 2) dX7_readEnd_62 (by decide) ?_
              refine e_goto (tgt := 67) dX7_readEnd_63 (by decide) ?_
              refine e_iload_n dX7_readEnd_67 rfl rfl ?_
              refine e_i2l dX7_readEnd_68 ?_
              refine qS_s3 (by omega) (by omega) dX7_readEnd_69 ?_
              exact e_vret rfl dX7_readEnd_70 (by
                  refine ⟨rfl, ?_⟩
                  first
                    | exact oQ_no (k := 2) (by unfold pEn; rw [hnr, cond_false, hnl]; rfl) (by decide) (FRM.refl μ) (by decide) (by decide +kernel) rfl
                    | exact oQ_no (by unfold pEn; rw [hnr, cond_false, hwl, cond_true, er1]; exact pb_no hr1) hr1 (FRM.refl μ) he1 hv1 rfl
                    | exact oQ_no (by unfold pEn; rw [hwr, cond_true, er1]; exact pb_no hr1) hr1 (FRM.refl μ) he1 hv1 rfl
                    | (have a1 : (Int32.ofInt m1).toInt = m1 := ar_ofI (by omega) (by omega)
                       exact oQ_ok (t := (7, 0, m1, 0)) (by unfold pEn; rw [hnr, cond_false, hwl, cond_true, er1]; rfl) (hD.s7 (a := 0) (b := m1) (d := 0) (by rw [if_pos rfl]; exact KR.left (y := Int32.ofInt m1) hK (by omega) (by omega))) (FRM.row μ _) (by rw [n2']))
                    | (have a1 : (Int32.ofInt m1).toInt = m1 := ar_ofI (by omega) (by omega)
                       exact oQ_ok (t := (7, 1, m1, 0)) (by unfold pEn; rw [hwr, cond_true, er1]; rfl) (hD.s7 (a := 1) (b := m1) (d := 0) (by rw [if_neg (by decide)]; exact KR.right (y := Int32.ofInt m1) hK (by omega) (by omega))) (FRM.row μ _) (by rw [n3])))
        · refine e_istore_n dX7_readEnd_46 rfl (Nat.le_of_ble_eq_true rfl) ?_
          refine e_aload_n dX7_readEnd_47 rfl rfl ?_
          refine e_invV (mcY := 0) (msY := 0) (ct_X7_isGood0 he1) vX7_isGood wM_X7_69 (mo_at G c _ h 0 (by decide)) rfl dX7_readEnd_48 rfl rfl (Nat.le_of_ble_eq_true rfl) (Nat.le_of_ble_eq_true rfl) ?_
          rintro _ _ ⟨rfl, rfl⟩
          refine e_if_eq (tgt := 70) dX7_readEnd_51 (by decide) (fun c51 => ?_) (fun c51 => ?_)
          · exact e_vret rfl dX7_readEnd_70 (by
                refine ⟨rfl, ?_⟩
                first
                  | exact oQ_no (k := 2) (by unfold pEn; rw [hnr, cond_false, hnl]; rfl) (by decide) (FRM.refl μ) (by decide) (by decide +kernel) rfl
                  | exact oQ_no (by unfold pEn; rw [hnr, cond_false, hwl, cond_true, er1]; exact pb_no hr1) hr1 (FRM.refl μ) he1 hv1 rfl
                  | exact oQ_no (by unfold pEn; rw [hwr, cond_true, er1]; exact pb_no hr1) hr1 (FRM.refl μ) he1 hv1 rfl
                  | (have a1 : (Int32.ofInt m1).toInt = m1 := ar_ofI (by omega) (by omega)
                     exact oQ_ok (t := (7, 0, m1, 0)) (by unfold pEn; rw [hnr, cond_false, hwl, cond_true, er1]; rfl) (hD.s7 (a := 0) (b := m1) (d := 0) (by rw [if_pos rfl]; exact KR.left (y := Int32.ofInt m1) hK (by omega) (by omega))) (FRM.row μ _) (by rw [n2']))
                  | (have a1 : (Int32.ofInt m1).toInt = m1 := ar_ofI (by omega) (by omega)
                     exact oQ_ok (t := (7, 1, m1, 0)) (by unfold pEn; rw [hwr, cond_true, er1]; rfl) (hD.s7 (a := 1) (b := m1) (d := 0) (by rw [if_neg (by decide)]; exact KR.right (y := Int32.ofInt m1) hK (by omega) (by omega))) (FRM.row μ _) (by rw [n3])))
          · first | exact absurd c51 (by decide) | exact absurd rfl c51
      · first | exact absurd c16 (by decide) | exact absurd rfl c16
    · refine e_istore_n dX7_readEnd_14 rfl (Nat.le_of_ble_eq_true rfl) ?_
      refine e_iload_n dX7_readEnd_15 rfl rfl ?_
      refine e_if_ne (tgt := 38) dX7_readEnd_16 (by decide) (fun c16 => ?_) (fun c16 => ?_)
      · first | exact absurd c16 (by decide) | exact absurd rfl c16
      · refine e_aload_n dX7_readEnd_19 rfl rfl ?_
        refine e_ldcS (j := 11) (tx := "right") dX7_readEnd_20 (by decide +kernel) ?_
        refine e_invV (mcY := 0) (msY := 0) (ct_X7_takeWord1 hB hsr.2 (j := 11) (by decide)) vX7_takeWord wM_X7_107 (mo_at G c _ h 0 (by decide)) rfl dX7_readEnd_22 rfl rfl (Nat.le_of_ble_eq_true rfl) (Nat.le_of_ble_eq_true rfl) ?_
        rintro _ _ hc
        rcases hc with ⟨hw2, rfl, rfl⟩ | ⟨hw2, rfl, rfl⟩
        · rw [sk_sk B hp] at hw2 ⊢
          rw [show ev_len.getD 11 0 = 5 from rfl]
          have h5 : sk B n p + 5 ≤ n := wAt_n hB.2.2.2 hw2 (by decide)
          have hwr := wB_iff.mpr hw2
          refine e_if_ne (tgt := 38) dX7_readEnd_25 (by decide) (fun c25 => ?_) (fun c25 => ?_)
          · refine e_aload_n dX7_readEnd_38 rfl rfl ?_
            refine e_ldc dX7_readEnd_39 wK_X7_124 ?_
            refine e_ldc dX7_readEnd_41 wK_X7_125 ?_
            refine e_invV (mcY := 0) (msY := 0) (ct_X7_signedL (hi := 100000) hB h5 wm wp (by omega) (by omega)) vX7_signed wM_X7_118 (mo_at G c _ h 0 (by decide)) rfl dX7_readEnd_43 rfl rfl (Nat.le_of_ble_eq_true rfl) (Nat.le_of_ble_eq_true rfl) ?_
            rintro _ _ hc
            generalize er1 : pS B n (100000) (sk B n p + 5) = r1 at hc
            obtain ⟨k1, q1, m1⟩ := r1
            dsimp only at hc
            rcases hc with ⟨hr1, rfl, s1, rfl⟩ | ⟨hr1, ⟨w1, rfl⟩, p1, s1, e1, he1, hv1, rfl⟩
            · subst hr1
              have g1 := pS_0 hB.2.2.2 h5 (m := 100000) (by omega) (by rw [er1])
              rw [er1] at g1
              change sk B n p + 5 < q1 ∧ q1 ≤ n ∧ -100000 ≤ m1 ∧ m1 ≤ 100000 at g1
              refine e_istore_n dX7_readEnd_46 rfl (Nat.le_of_ble_eq_true rfl) ?_
              refine e_aload_n dX7_readEnd_47 rfl rfl ?_
              refine e_invV (mcY := 0) (msY := 0) (ct_X7_isGood1) vX7_isGood wM_X7_69 (mo_at G c _ h 0 (by decide)) rfl dX7_readEnd_48 rfl rfl (Nat.le_of_ble_eq_true rfl) (Nat.le_of_ble_eq_true rfl) ?_
              rintro _ _ ⟨rfl, rfl⟩
              refine e_if_eq (tgt := 70) dX7_readEnd_51 (by decide) (fun c51 => ?_) (fun c51 => ?_)
              · first | exact absurd c51 (by decide) | exact absurd rfl c51
              · refine e_aload_n dX7_readEnd_54 rfl rfl ?_
                refine qS_g9 wF_X7_21 dX7_readEnd_55 ?_
                refine e_iload_n dX7_readEnd_58 rfl rfl ?_
                refine e_if_eq (tgt := 66) dX7_readEnd_59 (by decide) (fun c59 => ?_) (fun c59 => ?_)
                · refine e_iconst (v := 3) dX7_readEnd_66 (by decide) ?_
                  refine e_iload_n dX7_readEnd_67 rfl rfl ?_
                  refine e_i2l dX7_readEnd_68 ?_
                  refine qS_s3 (by omega) (by omega) dX7_readEnd_69 ?_
                  exact e_vret rfl dX7_readEnd_70 (by
                      refine ⟨rfl, ?_⟩
                      first
                        | exact oQ_no (k := 2) (by unfold pEn; rw [hnr, cond_false, hnl]; rfl) (by decide) (FRM.refl μ) (by decide) (by decide +kernel) rfl
                        | exact oQ_no (by unfold pEn; rw [hnr, cond_false, hwl, cond_true, er1]; exact pb_no hr1) hr1 (FRM.refl μ) he1 hv1 rfl
                        | exact oQ_no (by unfold pEn; rw [hwr, cond_true, er1]; exact pb_no hr1) hr1 (FRM.refl μ) he1 hv1 rfl
                        | (have a1 : (Int32.ofInt m1).toInt = m1 := ar_ofI (by omega) (by omega)
                           exact oQ_ok (t := (7, 0, m1, 0)) (by unfold pEn; rw [hnr, cond_false, hwl, cond_true, er1]; rfl) (hD.s7 (a := 0) (b := m1) (d := 0) (by rw [if_pos rfl]; exact KR.left (y := Int32.ofInt m1) hK (by omega) (by omega))) (FRM.row μ _) (by rw [n2']))
                        | (have a1 : (Int32.ofInt m1).toInt = m1 := ar_ofI (by omega) (by omega)
                           exact oQ_ok (t := (7, 1, m1, 0)) (by unfold pEn; rw [hwr, cond_true, er1]; rfl) (hD.s7 (a := 1) (b := m1) (d := 0) (by rw [if_neg (by decide)]; exact KR.right (y := Int32.ofInt m1) hK (by omega) (by omega))) (FRM.row μ _) (by rw [n3])))
                · first | exact absurd c59 (by decide) | exact absurd rfl c59
            · refine e_istore_n dX7_readEnd_46 rfl (Nat.le_of_ble_eq_true rfl) ?_
              refine e_aload_n dX7_readEnd_47 rfl rfl ?_
              refine e_invV (mcY := 0) (msY := 0) (ct_X7_isGood0 he1) vX7_isGood wM_X7_69 (mo_at G c _ h 0 (by decide)) rfl dX7_readEnd_48 rfl rfl (Nat.le_of_ble_eq_true rfl) (Nat.le_of_ble_eq_true rfl) ?_
              rintro _ _ ⟨rfl, rfl⟩
              refine e_if_eq (tgt := 70) dX7_readEnd_51 (by decide) (fun c51 => ?_) (fun c51 => ?_)
              · exact e_vret rfl dX7_readEnd_70 (by
                    refine ⟨rfl, ?_⟩
                    first
                      | exact oQ_no (k := 2) (by unfold pEn; rw [hnr, cond_false, hnl]; rfl) (by decide) (FRM.refl μ) (by decide) (by decide +kernel) rfl
                      | exact oQ_no (by unfold pEn; rw [hnr, cond_false, hwl, cond_true, er1]; exact pb_no hr1) hr1 (FRM.refl μ) he1 hv1 rfl
                      | exact oQ_no (by unfold pEn; rw [hwr, cond_true, er1]; exact pb_no hr1) hr1 (FRM.refl μ) he1 hv1 rfl
                      | (have a1 : (Int32.ofInt m1).toInt = m1 := ar_ofI (by omega) (by omega)
                         exact oQ_ok (t := (7, 0, m1, 0)) (by unfold pEn; rw [hnr, cond_false, hwl, cond_true, er1]; rfl) (hD.s7 (a := 0) (b := m1) (d := 0) (by rw [if_pos rfl]; exact KR.left (y := Int32.ofInt m1) hK (by omega) (by omega))) (FRM.row μ _) (by rw [n2']))
                      | (have a1 : (Int32.ofInt m1).toInt = m1 := ar_ofI (by omega) (by omega)
                         exact oQ_ok (t := (7, 1, m1, 0)) (by unfold pEn; rw [hwr, cond_true, er1]; rfl) (hD.s7 (a := 1) (b := m1) (d := 0) (by rw [if_neg (by decide)]; exact KR.right (y := Int32.ofInt m1) hK (by omega) (by omega))) (FRM.row μ _) (by rw [n3])))
              · first | exact absurd c51 (by decide) | exact absurd rfl c51
          · first | exact absurd c25 (by decide) | exact absurd rfl c25
        · rw [sk_sk B hp] at hw2 ⊢
          have hnl := wB_no hw1
          have hnr := wB_no hw2
          refine e_if_ne (tgt := 38) dX7_readEnd_25 (by decide) (fun c25 => ?_) (fun c25 => ?_)
          · first | exact absurd c25 (by decide) | exact absurd rfl c25
          · refine e_aload_n dX7_readEnd_28 rfl rfl ?_
            refine e_bipush (v := (-2)) dX7_readEnd_29 (by decide) ?_
            refine e_aload_n dX7_readEnd_31 rfl rfl ?_
            refine qS_g4 wF_X7_52 dX7_readEnd_32 ?_
            refine e_invV (mcY := 0) (msY := 0) (ct_X7_report1) vX7_report wM_X7_86 (mo_at G c _ h 0 (by decide)) rfl dX7_readEnd_35 rfl rfl (Nat.le_of_ble_eq_true rfl) (Nat.le_of_ble_eq_true rfl) ?_
            rintro _ _ ⟨rfl, rfl⟩
            refine e_aload_n dX7_readEnd_38 rfl rfl ?_
            refine e_ldc dX7_readEnd_39 wK_X7_124 ?_
            refine e_ldc dX7_readEnd_41 wK_X7_125 ?_
            refine e_invV (mcY := 0) (msY := 0) (ct_X7_signed0 (by decide)) vX7_signed wM_X7_118 (mo_at G c _ h 0 (by decide)) rfl dX7_readEnd_43 rfl rfl (Nat.le_of_ble_eq_true rfl) (Nat.le_of_ble_eq_true rfl) ?_
            rintro _ _ ⟨rfl, rfl⟩
            refine e_istore_n dX7_readEnd_46 rfl (Nat.le_of_ble_eq_true rfl) ?_
            refine e_aload_n dX7_readEnd_47 rfl rfl ?_
            refine e_invV (mcY := 0) (msY := 0) (ct_X7_isGood0 (by decide)) vX7_isGood wM_X7_69 (mo_at G c _ h 0 (by decide)) rfl dX7_readEnd_48 rfl rfl (Nat.le_of_ble_eq_true rfl) (Nat.le_of_ble_eq_true rfl) ?_
            rintro _ _ ⟨rfl, rfl⟩
            refine e_if_eq (tgt := 70) dX7_readEnd_51 (by decide) (fun c51 => ?_) (fun c51 => ?_)
            · exact e_vret rfl dX7_readEnd_70 (by
                  refine ⟨rfl, ?_⟩
                  first
                    | exact oQ_no (k := 2) (by unfold pEn; rw [hnr, cond_false, hnl]; rfl) (by decide) (FRM.refl μ) (by decide) (by decide +kernel) rfl
                    | exact oQ_no (by unfold pEn; rw [hnr, cond_false, hwl, cond_true, er1]; exact pb_no hr1) hr1 (FRM.refl μ) he1 hv1 rfl
                    | exact oQ_no (by unfold pEn; rw [hwr, cond_true, er1]; exact pb_no hr1) hr1 (FRM.refl μ) he1 hv1 rfl
                    | (have a1 : (Int32.ofInt m1).toInt = m1 := ar_ofI (by omega) (by omega)
                       exact oQ_ok (t := (7, 0, m1, 0)) (by unfold pEn; rw [hnr, cond_false, hwl, cond_true, er1]; rfl) (hD.s7 (a := 0) (b := m1) (d := 0) (by rw [if_pos rfl]; exact KR.left (y := Int32.ofInt m1) hK (by omega) (by omega))) (FRM.row μ _) (by rw [n2']))
                    | (have a1 : (Int32.ofInt m1).toInt = m1 := ar_ofI (by omega) (by omega)
                       exact oQ_ok (t := (7, 1, m1, 0)) (by unfold pEn; rw [hwr, cond_true, er1]; rfl) (hD.s7 (a := 1) (b := m1) (d := 0) (by rw [if_neg (by decide)]; exact KR.right (y := Int32.ofInt m1) hK (by omega) (by omega))) (FRM.row μ _) (by rw [n3])))
            · first | exact absurd c51 (by decide) | exact absurd rfl c51
  · first | exact absurd c4 (by decide) | exact absurd rfl c4
set_option maxRecDepth 20000 in
theorem ct_X7_readImpulse (hB : MB B n μ) (hp : p ≤ n) (hD : DR T S μ) : ev_Ct G l mX7_readImpulse 5 0 0 [.ref c, .int (Int32.ofNat q)] (mo G c (qS μ p s 0 f) h) (fun v a => v = none ∧ oQ G c h T S μ f (pIm B n (sM (S.2.2.2 1)) ((S.2.2.2 1).1 5).toInt q p) a) (fun _ _ => False) := by
  refine ev_Ct.of (by decide +kernel) (Nat.le_of_ble_eq_true rfl) ?_
  have hn2 := hB.2.1
  have hK := hD.1
  have hR := hK.1
  have hv := hK.2.1
  have hmn := hv.1.nat
  have hM : ((S.2.2.2 1).1 0).toInt = sM (S.2.2.2 1) := rfl
  have z0 := ar_0
  have z1 := ar_1
  have f1 : (μ.2.1 1 (1 : Int32).toInt.toNat).toInt32 = (S.2.2.2 1).1 0 := by rw [z1]; show (μ.2.1 1 1).toInt32 = _; rw [hR.1.2.1, ar_6432]
  have em : ((S.2.2.2 1).1 0 - 1).toInt = sM (S.2.2.2 1) - 1 := by rw [ar_sub (by omega) (by omega), z1, hM]
  have z12 : (12 : Int32).toInt = ((12 : Nat) : Int) := ar_12
  have z48 : (48 : Int32).toInt = ((48 : Nat) : Int) := by decide +kernel
  have w2 : (2 : Int32).toInt = ((2 : Nat) : Int) := by decide +kernel
  have hin := hv.2.2.1.nat
  have w5 : (5 : Int32).toInt = 5 := by decide +kernel
  have w99 : (9999 : Int32).toInt = 9999 := by decide +kernel
  have wm : (-9999 : Int32).toInt = -9999 := by decide +kernel
  have f5 : μ.2.1 1 (5 : Int32).toInt.toNat = ((S.2.2.2 1).1 5).toInt64 := by rw [w5]; exact hR.1.2.2.2.2.2.1
  have w16 : (16 : Int64).toInt = 16 := by decide +kernel
  have hn5 : ((μ.2.1 1 5).toInt32).toInt = (sIn (S.2.2.2 1) : Int) := by rw [hR.1.2.2.2.2.2.1, ar_6432]; exact hin.1.symm
  refine e_aload_n dX7_readImpulse_0 rfl rfl ?_
  refine qS_g9 wF_X7_21 dX7_readImpulse_1 ?_
  refine e_iconst (v := 5) dX7_readImpulse_4 (by decide) ?_
  refine qS_l3 (by omega) (by omega) dX7_readImpulse_5 ?_
  rw [f5]
  refine e_ldc2 dX7_readImpulse_6 wK_X7_130 ?_
  refine e_lcmp dX7_readImpulse_9 ?_
  refine e_if_ne (tgt := 20) dX7_readImpulse_10 (by decide) (fun c10 => ?_) (fun c10 => ?_)
  · have hi4 : sIn (S.2.2.2 1) < 16 := by have q : ¬ ((S.2.2.2 1).1 5).toInt = 16 := fun q => c10 (ar_lcmp0.mpr (ar_eqL (by rw [ar_64, q, w16]))); omega
    have hi5 : ((S.2.2.2 1).1 5).toInt < 16 := by omega
    refine e_aload_n dX7_readImpulse_20 rfl rfl ?_
    refine e_iconst (v := 0) dX7_readImpulse_21 (by decide) ?_
    refine e_sipush (v := 9999) dX7_readImpulse_22 (by decide) ?_
    refine e_invV (mcY := 0) (msY := 0) (ct_num (lo := 0) (hi := 9999) hB hp ar_0 w99 (by omega) (by omega)) vX7_number wM_X7_102 (mo_at G c _ h 0 (by decide)) rfl dX7_readImpulse_25 rfl rfl (Nat.le_of_ble_eq_true rfl) (Nat.le_of_ble_eq_true rfl) ?_
    rintro _ _ hc
    generalize er1 : pN B n (0) (9999) (p) = r1 at hc
    obtain ⟨k1, q1, m1⟩ := r1
    dsimp only at hc
    rcases hc with ⟨hr1, rfl, rfl⟩ | ⟨hr1, rfl, p1, s1, e1, he1, hv1, rfl⟩
    · subst hr1
      have g1 := pN_0 hB.2.2.2 hp (lo := 0) (hi := 9999) (by rw [er1])
      rw [er1] at g1
      change p < q1 ∧ q1 ≤ n ∧ 0 ≤ m1 ∧ m1 ≤ 9999 at g1
      refine e_istore_n dX7_readImpulse_28 rfl (Nat.le_of_ble_eq_true rfl) ?_
      refine e_aload_n dX7_readImpulse_29 rfl rfl ?_
      refine e_invV (mcY := 0) (msY := 0) (ct_X7_massOfTextL hB g1.2.1 hD) vX7_massOfText wM_X7_112 (mo_at G c _ h 0 (by decide)) rfl dX7_readImpulse_30 rfl rfl (Nat.le_of_ble_eq_true rfl) (Nat.le_of_ble_eq_true rfl) ?_
      rintro _ _ hc
      generalize er2 : pN B n (0) ((sM (S.2.2.2 1)) - 1) (q1) = r2 at hc
      obtain ⟨k2, q2, m2⟩ := r2
      dsimp only at hc
      rcases hc with ⟨hr2, rfl, rfl⟩ | ⟨hr2, rfl, p2, s2, e2, he2, hv2, rfl⟩
      · subst hr2
        have g2 := pN_0 hB.2.2.2 g1.2.1 (lo := 0) (hi := (sM (S.2.2.2 1)) - 1) (by rw [er2])
        rw [er2] at g2
        change q1 < q2 ∧ q2 ≤ n ∧ 0 ≤ m2 ∧ m2 ≤ (sM (S.2.2.2 1)) - 1 at g2
        have hsr2 := sk_rng B g2.2.1
        refine e_istore_n dX7_readImpulse_33 rfl (Nat.le_of_ble_eq_true rfl) ?_
        refine e_aload_n dX7_readImpulse_34 rfl rfl ?_
        refine e_invV (mcY := 0) (msY := 0) (ct_X7_isGood1) vX7_isGood wM_X7_69 (mo_at G c _ h 0 (by decide)) rfl dX7_readImpulse_35 rfl rfl (Nat.le_of_ble_eq_true rfl) (Nat.le_of_ble_eq_true rfl) ?_
        rintro _ _ ⟨rfl, rfl⟩
        refine e_if_ne (tgt := 42) dX7_readImpulse_38 (by decide) (fun c38 => ?_) (fun c38 => ?_)
        · refine e_aload_n dX7_readImpulse_42 rfl rfl ?_
          refine e_invV (mcY := 0) (msY := 0) (ct_X7_ahead hB g2.2.1) vX7_ahead wM_X7_73 (mo_at G c _ h 0 (by decide)) rfl dX7_readImpulse_43 rfl rfl (Nat.le_of_ble_eq_true rfl) (Nat.le_of_ble_eq_true rfl) ?_
          rintro _ _ ⟨rfl, rfl⟩
          refine e_pop dX7_readImpulse_46 rfl ?_
          refine e_aload_n dX7_readImpulse_47 rfl rfl ?_
          refine qS_g4 wF_X7_52 dX7_readImpulse_48 ?_
          refine e_istore dX7_readImpulse_51 (Nat.le_of_ble_eq_true rfl) ?_
          refine e_aload_n dX7_readImpulse_53 rfl rfl ?_
          refine e_sipush (v := (-9999)) dX7_readImpulse_54 (by decide) ?_
          refine e_sipush (v := 9999) dX7_readImpulse_57 (by decide) ?_
          refine e_invV (mcY := 0) (msY := 0) (ct_X7_signedL (hi := 9999) hB hsr2.2 wm w99 (by omega) (by omega)) vX7_signed wM_X7_118 (mo_at G c _ h 0 (by decide)) rfl dX7_readImpulse_60 rfl rfl (Nat.le_of_ble_eq_true rfl) (Nat.le_of_ble_eq_true rfl) ?_
          rintro _ _ hc
          generalize er3 : pS B n (9999) (sk B n q2) = r3 at hc
          obtain ⟨k3, q3, m3⟩ := r3
          dsimp only at hc
          rcases hc with ⟨hr3, rfl, s3, rfl⟩ | ⟨hr3, ⟨w3, rfl⟩, p3, s3, e3, he3, hv3, rfl⟩
          · subst hr3
            have g3 := pS_0 hB.2.2.2 hsr2.2 (m := 9999) (by omega) (by rw [er3])
            rw [er3] at g3
            change sk B n q2 < q3 ∧ q3 ≤ n ∧ -9999 ≤ m3 ∧ m3 ≤ 9999 at g3
            refine e_istore dX7_readImpulse_63 (Nat.le_of_ble_eq_true rfl) ?_
            refine e_aload_n dX7_readImpulse_65 rfl rfl ?_
            refine e_invV (mcY := 0) (msY := 0) (ct_X7_isGood1) vX7_isGood wM_X7_69 (mo_at G c _ h 0 (by decide)) rfl dX7_readImpulse_66 rfl rfl (Nat.le_of_ble_eq_true rfl) (Nat.le_of_ble_eq_true rfl) ?_
            rintro _ _ ⟨rfl, rfl⟩
            refine e_if_eq (tgt := 85) dX7_readImpulse_69 (by decide) (fun c69 => ?_) (fun c69 => ?_)
            · first | exact absurd c69 (by decide) | exact absurd rfl c69
            · refine e_iload dX7_readImpulse_72 rfl ?_
              refine e_if_ne (tgt := 85) dX7_readImpulse_74 (by decide) (fun c74 => ?_) (fun c74 => ?_)
              · have hu : m3 ≠ 0 := fun q => c74 (by rw [q]; rfl)
                refine e_aload_n dX7_readImpulse_85 rfl rfl ?_
                refine e_invV (mcY := 0) (msY := 0) (ct_X7_isGood1) vX7_isGood wM_X7_69 (mo_at G c _ h 0 (by decide)) rfl dX7_readImpulse_86 rfl rfl (Nat.le_of_ble_eq_true rfl) (Nat.le_of_ble_eq_true rfl) ?_
                rintro _ _ ⟨rfl, rfl⟩
                refine e_if_eq (tgt := 103) dX7_readImpulse_89 (by decide) (fun c89 => ?_) (fun c89 => ?_)
                · first | exact absurd c89 (by decide) | exact absurd rfl c89
                · refine e_aload_n dX7_readImpulse_92 rfl rfl ?_
                  refine qS_g9 wF_X7_21 dX7_readImpulse_93 ?_
                  refine e_iload_n dX7_readImpulse_96 rfl rfl ?_
                  refine e_iload_n dX7_readImpulse_97 rfl rfl ?_
                  refine e_iload dX7_readImpulse_98 rfl ?_
                  refine e_invS (mcY := 0) (msY := 0) (ct_X7_addImpulse (q := 1) (nn := sIn (S.2.2.2 1)) (by decide) hn5 hi4) vX7_addImpulse wM_X7_132 dX7_readImpulse_100 rfl rfl (Nat.le_of_ble_eq_true rfl) (Nat.le_of_ble_eq_true rfl) ?_
                  rintro _ _ ⟨rfl, rfl⟩
                  exact e_vret rfl dX7_readImpulse_103 (by
                      refine ⟨rfl, ?_⟩
                      first
                        | exact oQ_no (by unfold pIm; rw [if_pos hi5, er1, pb_ok rfl]; show pb (pN B n 0 (sM (S.2.2.2 1) - 1) q1) _ = _; rw [er2, pb_ok rfl]; show pb (pS B n 9999 (sk B n q2)) _ = _; rw [er3]; exact pb_no hr3) hr3 (FRM.refl μ) he3 hv3 rfl
                        | exact oQ_no (k := 3) (by unfold pIm; rw [if_pos hi5, er1, pb_ok rfl]; show pb (pN B n 0 (sM (S.2.2.2 1) - 1) q1) _ = _; rw [er2, pb_ok rfl]; show pb (pS B n 9999 (sk B n q2)) _ = _; rw [er3, pb_ok rfl]; exact if_pos hu) (by decide) (FRM.refl μ) (by decide) (by decide +kernel) rfl
                        | (have a1 : (Int32.ofInt m1).toInt = m1 := ar_ofI (by omega) (by omega)
                           have a2 : (Int32.ofInt m2).toInt = m2 := ar_ofI (by omega) (by omega)
                           have a3 : (Int32.ofInt m3).toInt = m3 := ar_ofI (by omega) (by omega)
                           have tm := hD.2.2.2.2.1
                           refine oQ_ok (s' := s3) (t := (8, m1, m2, m3)) (by unfold pIm; rw [if_pos hi5, er1, pb_ok rfl]; show pb (pN B n 0 (sM (S.2.2.2 1) - 1) q1) _ = _; rw [er2, pb_ok rfl]; show pb (pS B n 9999 (sk B n q2)) _ = _; rw [er3, pb_ok rfl]; exact if_neg hu) (hD.s8 (a := m1) (b := m2) (d := m3) (KR.ins hK hi4 (by omega) (by omega) (by rw [tm, z0]; omega) (by omega) (by omega) (by omega) ?_ ?_ ?_ ?_ ?_)) (FRM.row μ _) rfl
                           · rw [ev_u_ne _ _ (by omega), ev_u_ne _ _ (by omega), ev_u_ne _ _ (by omega), ev_u_self]
                           · rw [ev_u_ne _ _ (by omega), ev_u_ne _ _ (by omega), ev_u_self]
                           · rw [ev_u_ne _ _ (by omega), ev_u_self]
                           · rw [ev_u_self]
                             show μ.2.1 1 5 + 1 = _
                             rw [hR.1.2.2.2.2.2.1, show (1 : Int64) = (1 : Int32).toInt64 by decide +kernel, ← ar_64add (by omega) (by omega)]
                           · intro q a1 a2
                             rw [ev_u_ne _ _ a1, ev_u_ne _ _ (by omega), ev_u_ne _ _ (by omega), ev_u_ne _ _ (by omega)]
                             rfl))
              · have hu : m3 = 0 := by have a := congrArg Int32.toInt c74; rw [ar_ofI (by omega) (by omega), z0] at a; exact a
                refine e_aload_n dX7_readImpulse_77 rfl rfl ?_
                refine e_bipush (v := (-3)) dX7_readImpulse_78 (by decide) ?_
                refine e_iload dX7_readImpulse_80 rfl ?_
                refine e_invV (mcY := 0) (msY := 0) (ct_X7_report1) vX7_report wM_X7_86 (mo_at G c _ h 0 (by decide)) rfl dX7_readImpulse_82 rfl rfl (Nat.le_of_ble_eq_true rfl) (Nat.le_of_ble_eq_true rfl) ?_
                rintro _ _ ⟨rfl, rfl⟩
                refine e_aload_n dX7_readImpulse_85 rfl rfl ?_
                refine e_invV (mcY := 0) (msY := 0) (ct_X7_isGood0 (by decide)) vX7_isGood wM_X7_69 (mo_at G c _ h 0 (by decide)) rfl dX7_readImpulse_86 rfl rfl (Nat.le_of_ble_eq_true rfl) (Nat.le_of_ble_eq_true rfl) ?_
                rintro _ _ ⟨rfl, rfl⟩
                refine e_if_eq (tgt := 103) dX7_readImpulse_89 (by decide) (fun c89 => ?_) (fun c89 => ?_)
                · exact e_vret rfl dX7_readImpulse_103 (by
                      refine ⟨rfl, ?_⟩
                      first
                        | exact oQ_no (by unfold pIm; rw [if_pos hi5, er1, pb_ok rfl]; show pb (pN B n 0 (sM (S.2.2.2 1) - 1) q1) _ = _; rw [er2, pb_ok rfl]; show pb (pS B n 9999 (sk B n q2)) _ = _; rw [er3]; exact pb_no hr3) hr3 (FRM.refl μ) he3 hv3 rfl
                        | exact oQ_no (k := 3) (by unfold pIm; rw [if_pos hi5, er1, pb_ok rfl]; show pb (pN B n 0 (sM (S.2.2.2 1) - 1) q1) _ = _; rw [er2, pb_ok rfl]; show pb (pS B n 9999 (sk B n q2)) _ = _; rw [er3, pb_ok rfl]; exact if_pos hu) (by decide) (FRM.refl μ) (by decide) (by decide +kernel) rfl
                        | (have a1 : (Int32.ofInt m1).toInt = m1 := ar_ofI (by omega) (by omega)
                           have a2 : (Int32.ofInt m2).toInt = m2 := ar_ofI (by omega) (by omega)
                           have a3 : (Int32.ofInt m3).toInt = m3 := ar_ofI (by omega) (by omega)
                           have tm := hD.2.2.2.2.1
                           refine oQ_ok (s' := s3) (t := (8, m1, m2, m3)) (by unfold pIm; rw [if_pos hi5, er1, pb_ok rfl]; show pb (pN B n 0 (sM (S.2.2.2 1) - 1) q1) _ = _; rw [er2, pb_ok rfl]; show pb (pS B n 9999 (sk B n q2)) _ = _; rw [er3, pb_ok rfl]; exact if_neg hu) (hD.s8 (a := m1) (b := m2) (d := m3) (KR.ins hK hi4 (by omega) (by omega) (by rw [tm, z0]; omega) (by omega) (by omega) (by omega) ?_ ?_ ?_ ?_ ?_)) (FRM.row μ _) rfl
                           · rw [ev_u_ne _ _ (by omega), ev_u_ne _ _ (by omega), ev_u_ne _ _ (by omega), ev_u_self]
                           · rw [ev_u_ne _ _ (by omega), ev_u_ne _ _ (by omega), ev_u_self]
                           · rw [ev_u_ne _ _ (by omega), ev_u_self]
                           · rw [ev_u_self]
                             show μ.2.1 1 5 + 1 = _
                             rw [hR.1.2.2.2.2.2.1, show (1 : Int64) = (1 : Int32).toInt64 by decide +kernel, ← ar_64add (by omega) (by omega)]
                           · intro q a1 a2
                             rw [ev_u_ne _ _ a1, ev_u_ne _ _ (by omega), ev_u_ne _ _ (by omega), ev_u_ne _ _ (by omega)]
                             rfl))
                · first | exact absurd c89 (by decide) | exact absurd rfl c89
          · refine e_istore dX7_readImpulse_63 (Nat.le_of_ble_eq_true rfl) ?_
            refine e_aload_n dX7_readImpulse_65 rfl rfl ?_
            refine e_invV (mcY := 0) (msY := 0) (ct_X7_isGood0 he3) vX7_isGood wM_X7_69 (mo_at G c _ h 0 (by decide)) rfl dX7_readImpulse_66 rfl rfl (Nat.le_of_ble_eq_true rfl) (Nat.le_of_ble_eq_true rfl) ?_
            rintro _ _ ⟨rfl, rfl⟩
            refine e_if_eq (tgt := 85) dX7_readImpulse_69 (by decide) (fun c69 => ?_) (fun c69 => ?_)
            · refine e_aload_n dX7_readImpulse_85 rfl rfl ?_
              refine e_invV (mcY := 0) (msY := 0) (ct_X7_isGood0 he3) vX7_isGood wM_X7_69 (mo_at G c _ h 0 (by decide)) rfl dX7_readImpulse_86 rfl rfl (Nat.le_of_ble_eq_true rfl) (Nat.le_of_ble_eq_true rfl) ?_
              rintro _ _ ⟨rfl, rfl⟩
              refine e_if_eq (tgt := 103) dX7_readImpulse_89 (by decide) (fun c89 => ?_) (fun c89 => ?_)
              · exact e_vret rfl dX7_readImpulse_103 (by
                    refine ⟨rfl, ?_⟩
                    first
                      | exact oQ_no (by unfold pIm; rw [if_pos hi5, er1, pb_ok rfl]; show pb (pN B n 0 (sM (S.2.2.2 1) - 1) q1) _ = _; rw [er2, pb_ok rfl]; show pb (pS B n 9999 (sk B n q2)) _ = _; rw [er3]; exact pb_no hr3) hr3 (FRM.refl μ) he3 hv3 rfl
                      | exact oQ_no (k := 3) (by unfold pIm; rw [if_pos hi5, er1, pb_ok rfl]; show pb (pN B n 0 (sM (S.2.2.2 1) - 1) q1) _ = _; rw [er2, pb_ok rfl]; show pb (pS B n 9999 (sk B n q2)) _ = _; rw [er3, pb_ok rfl]; exact if_pos hu) (by decide) (FRM.refl μ) (by decide) (by decide +kernel) rfl
                      | (have a1 : (Int32.ofInt m1).toInt = m1 := ar_ofI (by omega) (by omega)
                         have a2 : (Int32.ofInt m2).toInt = m2 := ar_ofI (by omega) (by omega)
                         have a3 : (Int32.ofInt m3).toInt = m3 := ar_ofI (by omega) (by omega)
                         have tm := hD.2.2.2.2.1
                         refine oQ_ok (s' := s3) (t := (8, m1, m2, m3)) (by unfold pIm; rw [if_pos hi5, er1, pb_ok rfl]; show pb (pN B n 0 (sM (S.2.2.2 1) - 1) q1) _ = _; rw [er2, pb_ok rfl]; show pb (pS B n 9999 (sk B n q2)) _ = _; rw [er3, pb_ok rfl]; exact if_neg hu) (hD.s8 (a := m1) (b := m2) (d := m3) (KR.ins hK hi4 (by omega) (by omega) (by rw [tm, z0]; omega) (by omega) (by omega) (by omega) ?_ ?_ ?_ ?_ ?_)) (FRM.row μ _) rfl
                         · rw [ev_u_ne _ _ (by omega), ev_u_ne _ _ (by omega), ev_u_ne _ _ (by omega), ev_u_self]
                         · rw [ev_u_ne _ _ (by omega), ev_u_ne _ _ (by omega), ev_u_self]
                         · rw [ev_u_ne _ _ (by omega), ev_u_self]
                         · rw [ev_u_self]
                           show μ.2.1 1 5 + 1 = _
                           rw [hR.1.2.2.2.2.2.1, show (1 : Int64) = (1 : Int32).toInt64 by decide +kernel, ← ar_64add (by omega) (by omega)]
                         · intro q a1 a2
                           rw [ev_u_ne _ _ a1, ev_u_ne _ _ (by omega), ev_u_ne _ _ (by omega), ev_u_ne _ _ (by omega)]
                           rfl))
              · first | exact absurd c89 (by decide) | exact absurd rfl c89
            · first | exact absurd c69 (by decide) | exact absurd rfl c69
        · first | exact absurd c38 (by decide) | exact absurd rfl c38
      · refine e_istore_n dX7_readImpulse_33 rfl (Nat.le_of_ble_eq_true rfl) ?_
        refine e_aload_n dX7_readImpulse_34 rfl rfl ?_
        refine e_invV (mcY := 0) (msY := 0) (ct_X7_isGood0 he2) vX7_isGood wM_X7_69 (mo_at G c _ h 0 (by decide)) rfl dX7_readImpulse_35 rfl rfl (Nat.le_of_ble_eq_true rfl) (Nat.le_of_ble_eq_true rfl) ?_
        rintro _ _ ⟨rfl, rfl⟩
        refine e_if_ne (tgt := 42) dX7_readImpulse_38 (by decide) (fun c38 => ?_) (fun c38 => ?_)
        · first | exact absurd c38 (by decide) | exact absurd rfl c38
        · exact e_vret rfl dX7_readImpulse_41 (by
              refine ⟨rfl, ?_⟩
              first
                | exact oQ_no (k := 5) (by unfold pIm; exact if_neg hi4) (by decide) (FRM.refl μ) (by decide) (by decide +kernel) rfl
                | exact oQ_no (by unfold pIm; rw [if_pos hi5, er1]; exact pb_no hr1) hr1 (FRM.refl μ) he1 hv1 rfl
                | exact oQ_no (by unfold pIm; rw [if_pos hi5, er1, pb_ok rfl]; show pb (pN B n 0 (sM (S.2.2.2 1) - 1) q1) _ = _; rw [er2]; exact pb_no hr2) hr2 (FRM.refl μ) he2 hv2 rfl)
    · refine e_istore_n dX7_readImpulse_28 rfl (Nat.le_of_ble_eq_true rfl) ?_
      refine e_aload_n dX7_readImpulse_29 rfl rfl ?_
      refine e_invV (mcY := 0) (msY := 0) (ct_X7_massOfText0 he1) vX7_massOfText wM_X7_112 (mo_at G c _ h 0 (by decide)) rfl dX7_readImpulse_30 rfl rfl (Nat.le_of_ble_eq_true rfl) (Nat.le_of_ble_eq_true rfl) ?_
      rintro _ _ ⟨rfl, rfl⟩
      refine e_istore_n dX7_readImpulse_33 rfl (Nat.le_of_ble_eq_true rfl) ?_
      refine e_aload_n dX7_readImpulse_34 rfl rfl ?_
      refine e_invV (mcY := 0) (msY := 0) (ct_X7_isGood0 he1) vX7_isGood wM_X7_69 (mo_at G c _ h 0 (by decide)) rfl dX7_readImpulse_35 rfl rfl (Nat.le_of_ble_eq_true rfl) (Nat.le_of_ble_eq_true rfl) ?_
      rintro _ _ ⟨rfl, rfl⟩
      refine e_if_ne (tgt := 42) dX7_readImpulse_38 (by decide) (fun c38 => ?_) (fun c38 => ?_)
      · first | exact absurd c38 (by decide) | exact absurd rfl c38
      · exact e_vret rfl dX7_readImpulse_41 (by
            refine ⟨rfl, ?_⟩
            first
              | exact oQ_no (k := 5) (by unfold pIm; exact if_neg hi4) (by decide) (FRM.refl μ) (by decide) (by decide +kernel) rfl
              | exact oQ_no (by unfold pIm; rw [if_pos hi5, er1]; exact pb_no hr1) hr1 (FRM.refl μ) he1 hv1 rfl
              | exact oQ_no (by unfold pIm; rw [if_pos hi5, er1, pb_ok rfl]; show pb (pN B n 0 (sM (S.2.2.2 1) - 1) q1) _ = _; rw [er2]; exact pb_no hr2) hr2 (FRM.refl μ) he2 hv2 rfl)
  · have hi4 : ¬ ((S.2.2.2 1).1 5).toInt < 16 := by have q := congrArg Int64.toInt (ar_lcmp0.mp c10); rw [ar_64, w16] at q; omega
    refine e_aload_n dX7_readImpulse_13 rfl rfl ?_
    refine e_bipush (v := (-5)) dX7_readImpulse_14 (by decide) ?_
    refine e_iload_n dX7_readImpulse_16 rfl rfl ?_
    refine e_invV (mcY := 0) (msY := 0) (ct_X7_report1) vX7_report wM_X7_86 (mo_at G c _ h 0 (by decide)) rfl dX7_readImpulse_17 rfl rfl (Nat.le_of_ble_eq_true rfl) (Nat.le_of_ble_eq_true rfl) ?_
    rintro _ _ ⟨rfl, rfl⟩
    refine e_aload_n dX7_readImpulse_20 rfl rfl ?_
    refine e_iconst (v := 0) dX7_readImpulse_21 (by decide) ?_
    refine e_sipush (v := 9999) dX7_readImpulse_22 (by decide) ?_
    refine e_invV (mcY := 0) (msY := 0) (ct_X7_number0 (by decide)) vX7_number wM_X7_102 (mo_at G c _ h 0 (by decide)) rfl dX7_readImpulse_25 rfl rfl (Nat.le_of_ble_eq_true rfl) (Nat.le_of_ble_eq_true rfl) ?_
    rintro _ _ ⟨rfl, rfl⟩
    refine e_istore_n dX7_readImpulse_28 rfl (Nat.le_of_ble_eq_true rfl) ?_
    refine e_aload_n dX7_readImpulse_29 rfl rfl ?_
    refine e_invV (mcY := 0) (msY := 0) (ct_X7_massOfText0 (by decide)) vX7_massOfText wM_X7_112 (mo_at G c _ h 0 (by decide)) rfl dX7_readImpulse_30 rfl rfl (Nat.le_of_ble_eq_true rfl) (Nat.le_of_ble_eq_true rfl) ?_
    rintro _ _ ⟨rfl, rfl⟩
    refine e_istore_n dX7_readImpulse_33 rfl (Nat.le_of_ble_eq_true rfl) ?_
    refine e_aload_n dX7_readImpulse_34 rfl rfl ?_
    refine e_invV (mcY := 0) (msY := 0) (ct_X7_isGood0 (by decide)) vX7_isGood wM_X7_69 (mo_at G c _ h 0 (by decide)) rfl dX7_readImpulse_35 rfl rfl (Nat.le_of_ble_eq_true rfl) (Nat.le_of_ble_eq_true rfl) ?_
    rintro _ _ ⟨rfl, rfl⟩
    refine e_if_ne (tgt := 42) dX7_readImpulse_38 (by decide) (fun c38 => ?_) (fun c38 => ?_)
    · first | exact absurd c38 (by decide) | exact absurd rfl c38
    · exact e_vret rfl dX7_readImpulse_41 (by
          refine ⟨rfl, ?_⟩
          first
            | exact oQ_no (k := 5) (by unfold pIm; exact if_neg hi4) (by decide) (FRM.refl μ) (by decide) (by decide +kernel) rfl
            | exact oQ_no (by unfold pIm; rw [if_pos hi5, er1]; exact pb_no hr1) hr1 (FRM.refl μ) he1 hv1 rfl
            | exact oQ_no (by unfold pIm; rw [if_pos hi5, er1, pb_ok rfl]; show pb (pN B n 0 (sM (S.2.2.2 1) - 1) q1) _ = _; rw [er2]; exact pb_no hr2) hr2 (FRM.refl μ) he2 hv2 rfl)
end P4
