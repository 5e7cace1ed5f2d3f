/-! the reader: ends, impulses, any statement -/
section RD6
variable {G : ev_G} {l : Launch} {M : ev_M} {J : ev_K} {pc k m idx : Nat} {L : List (Option Value)} {st : List Value} {b n p q j : Nat} {S : SS} {h : ev_H} {x y z v : Int32} {lo hi : Int}
theorem of0 {w : Int} (h1 : -100000000 ≤ w) (h2 : w ≤ 100000000) : Int32.ofInt w = 0 ↔ w = 0 := by
  constructor
  · intro e
    have := ar_ofI h1 h2
    rw [e, ar_0] at this
    exact this.symm
  · rintro rfl
    decide +kernel
set_option maxRecDepth 20000 in
theorem ct_X5_readEnd (hO : rOk b S n) (hd : sInv (S.2.2.2 1)) (hp : p ≤ n) : ev_Ct G l mX5_readEnd 6 0 0 [.ref (b + 2)] (sy G b (rS S p v) h) (fun c a => oP G b S h (pEn (tB (S.2.1 0) n) n p) c a) (fun _ _ => False) := by
  refine ev_Ct.of (by decide +kernel) (Nat.le_of_ble_eq_true rfl) ?_
  have hM : 1 ≤ sM (S.2.2.2 1) ∧ sM (S.2.2.2 1) ≤ 12 := hd.1
  have hM3 : sM (S.2.2.2 1) = ((S.2.2.2 1).1 0).toInt := rfl
  have z0 := ar_0
  have z1 := ar_1
  have hn2 := hO.2.1
  have hM4 : ((S.2.2.2 1).1 0 - 1).toInt = sM (S.2.2.2 1) - 1 := by rw [ar_sub (by omega) (by omega)]; omega
  have w100000 : (100000 : Int32).toInt = 100000 := by decide +kernel
  have hs1 := sk_rng (tB (S.2.1 0) n) hp
  have hs2 := sk_sk (tB (S.2.1 0) n) hp
  refine e_aload_n dX5_readEnd_0 rfl rfl ?_
  refine e_ldcS (j := 11) (tx := "right") dX5_readEnd_1 (by decide +kernel) ?_
  refine e_invV (mcY := 0) (msY := 0) (ct_X5_takeWord (j := 11) hO hp (by decide)) vX5_takeWord wM_X5_68 (sy_at G b _ h 2 (by decide)) rfl dX5_readEnd_3 rfl rfl (Nat.le_of_ble_eq_true rfl) (Nat.le_of_ble_eq_true rfl) ?_
  rintro c a hc
  rcases hc with ⟨t11, rfl, rfl⟩ | ⟨t11, rfl, rfl⟩
  · have g11 : wB (tB (S.2.1 0) n) 11 (sk (tB (S.2.1 0) n) n p) = true := wB_iff.mpr t11
    have h11 := wAt_n tbB t11 (by decide)
    change sk (tB (S.2.1 0) n) n p + 5 ≤ n at h11
    refine e_istore_n dX5_readEnd_6 rfl (Nat.le_of_ble_eq_true rfl) ?_
    refine e_iload_n dX5_readEnd_7 rfl rfl ?_
    refine e_if_ne (tgt := 31) dX5_readEnd_8 (by decide) (fun i8 => ?_) (fun i8 => ?_)
    · refine e_aload_n dX5_readEnd_31 rfl rfl ?_
      refine e_ldc dX5_readEnd_32 wK_X5_168 ?_
      refine e_invV (mcY := 0) (msY := 0) (ct_rG (p := sk (tB (S.2.1 0) n) n p + 5) hO h11 w100000 (by decide) (by decide)) vX5_readSigned wM_X5_162 (sy_at G b _ h 2 (by decide)) rfl dX5_readEnd_34 rfl rfl (Nat.le_of_ble_eq_true rfl) (Nat.le_of_ble_eq_true rfl) ?_
      rintro c a hc
      rcases hc with ⟨r0, rfl, rfl⟩ | ⟨r0, rfl, hf⟩
      · refine e_if_ne (tgt := 42) dX5_readEnd_37 (by decide) (fun i37 => ?_) (fun i37 => ?_)
        · refine e_aload_n dX5_readEnd_42 rfl rfl ?_
          refine rS_g6 hO wF_X5_35 dX5_readEnd_43 ?_
          refine e_iload_n dX5_readEnd_46 rfl rfl ?_
          refine e_aload_n dX5_readEnd_47 rfl rfl ?_
          refine rS_g5 wF_X5_79 dX5_readEnd_48 ?_
          refine ev_as (sy_as G b _ h 1 (by decide)) ?_
          refine e_invV (mcY := 0) (msY := 0) (ct_X0_setEnd (c := sc b 1) (σ := S.2.2.2 1)) vX0_setEnd wM_X5_176 (ch_at G (sc b 1) _ (sy G b _ h) 0 (by decide)) rfl dX5_readEnd_51 rfl rfl (Nat.le_of_ble_eq_true rfl) (Nat.le_of_ble_eq_true rfl) ?_
          rintro _ _ ⟨rfl, rfl⟩
          refine ev_as (sy_chset G b _ h 1 _ (by decide)) ?_
          rw [rS_C]
          refine e_iconst (v := 1) dX5_readEnd_54 (by decide) ?_
          exact e_zret (ty := .boolean) rfl rfl dX5_readEnd_55 (by unfold pEn; first | (rw [g11, cond_true]; exact oP_ok _ (pb_ok r0) rfl) | (rw [g11, g12, cond_false, cond_true]; exact oP_ok _ (pb_ok r0) rfl))
        · first | exact absurd i37 (by decide) | exact absurd rfl i37
      · refine e_if_ne (tgt := 42) dX5_readEnd_37 (by decide) (fun i37 => ?_) (fun i37 => ?_)
        · first | exact absurd i37 (by decide) | exact absurd rfl i37
        · refine e_iconst (v := 0) dX5_readEnd_40 (by decide) ?_
          exact e_zret (ty := .boolean) rfl rfl dX5_readEnd_41 (by unfold pEn; first | (rw [g11, cond_true]; exact oP_no (pb_no r0) r0 hf) | (rw [g11, g12, cond_false, cond_true]; exact oP_no (pb_no r0) r0 hf))
    · first | exact absurd i8 (by decide) | exact absurd rfl i8
  · have g11 : wB (tB (S.2.1 0) n) 11 (sk (tB (S.2.1 0) n) n p) = false := by rw [← Bool.not_eq_true]; exact fun q2 => t11 (wB_iff.mp q2)
    
    refine e_istore_n dX5_readEnd_6 rfl (Nat.le_of_ble_eq_true rfl) ?_
    refine e_iload_n dX5_readEnd_7 rfl rfl ?_
    refine e_if_ne (tgt := 31) dX5_readEnd_8 (by decide) (fun i8 => ?_) (fun i8 => ?_)
    · first | exact absurd i8 (by decide) | exact absurd rfl i8
    · refine e_aload_n dX5_readEnd_11 rfl rfl ?_
      refine e_ldcS (j := 12) (tx := "left") dX5_readEnd_12 (by decide +kernel) ?_
      refine e_invV (mcY := 0) (msY := 0) (ct_X5_takeWord (j := 12) hO hs1.2 (by decide)) vX5_takeWord wM_X5_68 (sy_at G b _ h 2 (by decide)) rfl dX5_readEnd_14 rfl rfl (Nat.le_of_ble_eq_true rfl) (Nat.le_of_ble_eq_true rfl) ?_
      rintro c a hc
      rcases hc with ⟨t12, rfl, rfl⟩ | ⟨t12, rfl, rfl⟩
      · rw [hs2] at t12
        rw [hs2]
        have g12 : wB (tB (S.2.1 0) n) 12 (sk (tB (S.2.1 0) n) n p) = true := wB_iff.mpr t12
        have h12 := wAt_n tbB t12 (by decide)
        change sk (tB (S.2.1 0) n) n p + 4 ≤ n at h12
        refine e_if_ne (tgt := 31) dX5_readEnd_17 (by decide) (fun i17 => ?_) (fun i17 => ?_)
        · refine e_aload_n dX5_readEnd_31 rfl rfl ?_
          refine e_ldc dX5_readEnd_32 wK_X5_168 ?_
          refine e_invV (mcY := 0) (msY := 0) (ct_rG (p := sk (tB (S.2.1 0) n) n p + 4) hO h12 w100000 (by decide) (by decide)) vX5_readSigned wM_X5_162 (sy_at G b _ h 2 (by decide)) rfl dX5_readEnd_34 rfl rfl (Nat.le_of_ble_eq_true rfl) (Nat.le_of_ble_eq_true rfl) ?_
          rintro c a hc
          rcases hc with ⟨r0, rfl, rfl⟩ | ⟨r0, rfl, hf⟩
          · refine e_if_ne (tgt := 42) dX5_readEnd_37 (by decide) (fun i37 => ?_) (fun i37 => ?_)
            · refine e_aload_n dX5_readEnd_42 rfl rfl ?_
              refine rS_g6 hO wF_X5_35 dX5_readEnd_43 ?_
              refine e_iload_n dX5_readEnd_46 rfl rfl ?_
              refine e_aload_n dX5_readEnd_47 rfl rfl ?_
              refine rS_g5 wF_X5_79 dX5_readEnd_48 ?_
              refine ev_as (sy_as G b _ h 1 (by decide)) ?_
              refine e_invV (mcY := 0) (msY := 0) (ct_X0_setEnd (c := sc b 1) (σ := S.2.2.2 1)) vX0_setEnd wM_X5_176 (ch_at G (sc b 1) _ (sy G b _ h) 0 (by decide)) rfl dX5_readEnd_51 rfl rfl (Nat.le_of_ble_eq_true rfl) (Nat.le_of_ble_eq_true rfl) ?_
              rintro _ _ ⟨rfl, rfl⟩
              refine ev_as (sy_chset G b _ h 1 _ (by decide)) ?_
              rw [rS_C]
              refine e_iconst (v := 1) dX5_readEnd_54 (by decide) ?_
              exact e_zret (ty := .boolean) rfl rfl dX5_readEnd_55 (by unfold pEn; first | (rw [g11, cond_true]; exact oP_ok _ (pb_ok r0) rfl) | (rw [g11, g12, cond_false, cond_true]; exact oP_ok _ (pb_ok r0) rfl))
            · first | exact absurd i37 (by decide) | exact absurd rfl i37
          · refine e_if_ne (tgt := 42) dX5_readEnd_37 (by decide) (fun i37 => ?_) (fun i37 => ?_)
            · first | exact absurd i37 (by decide) | exact absurd rfl i37
            · refine e_iconst (v := 0) dX5_readEnd_40 (by decide) ?_
              exact e_zret (ty := .boolean) rfl rfl dX5_readEnd_41 (by unfold pEn; first | (rw [g11, cond_true]; exact oP_no (pb_no r0) r0 hf) | (rw [g11, g12, cond_false, cond_true]; exact oP_no (pb_no r0) r0 hf))
        · first | exact absurd i17 (by decide) | exact absurd rfl i17
      · rw [hs2] at t12
        rw [hs2]
        have g12 : wB (tB (S.2.1 0) n) 12 (sk (tB (S.2.1 0) n) n p) = false := by rw [← Bool.not_eq_true]; exact fun q2 => t12 (wB_iff.mp q2)
        refine e_if_ne (tgt := 31) dX5_readEnd_17 (by decide) (fun i17 => ?_) (fun i17 => ?_)
        · first | exact absurd i17 (by decide) | exact absurd rfl i17
        · refine e_aload_n dX5_readEnd_20 rfl rfl ?_
          refine e_bipush (v := (-2)) dX5_readEnd_21 (by decide) ?_
          refine e_aload_n dX5_readEnd_23 rfl rfl ?_
          refine rS_g4 wF_X5_39 dX5_readEnd_24 ?_
          refine e_invV (mcY := 0) (msY := 0) (ct_X5_fail) vX5_fail wM_X5_72 (sy_at G b _ h 2 (by decide)) rfl dX5_readEnd_27 rfl rfl (Nat.le_of_ble_eq_true rfl) (Nat.le_of_ble_eq_true rfl) ?_
          rintro _ _ ⟨rfl, rfl⟩
          exact e_zret (ty := .boolean) rfl rfl dX5_readEnd_30 (by unfold pEn; rw [g11, g12]; exact oP_no rfl (by decide) (FR_of G b S h _ _ _ _ 2 (by decide +kernel)))
set_option maxRecDepth 20000 in
theorem ct_X5_readImpulse (hO : rOk b S n) (hd : sInv (S.2.2.2 1)) (hp : p ≤ n) : ev_Ct G l mX5_readImpulse 6 0 0 [.ref (b + 2), .int (Int32.ofNat q)] (sy G b (rS S p v) h) (fun c a => oP G b S h (pIm (tB (S.2.1 0) n) n (sM (S.2.2.2 1)) ((S.2.2.2 1).1 5).toInt q p) c a) (fun _ _ => False) := by
  refine ev_Ct.of (by decide +kernel) (Nat.le_of_ble_eq_true rfl) ?_
  have hM : 1 ≤ sM (S.2.2.2 1) ∧ sM (S.2.2.2 1) ≤ 12 := hd.1
  have hM3 : sM (S.2.2.2 1) = ((S.2.2.2 1).1 0).toInt := rfl
  have z0 := ar_0
  have z1 := ar_1
  have hn2 := hO.2.1
  have hM4 : ((S.2.2.2 1).1 0 - 1).toInt = sM (S.2.2.2 1) - 1 := by rw [ar_sub (by omega) (by omega)]; omega
  have w16 : (16 : Int32).toInt = 16 := by decide +kernel
  have w9999 : (9999 : Int32).toInt = 9999 := by decide +kernel
  refine e_aload_n dX5_readImpulse_0 rfl rfl ?_
  refine rS_g6 hO wF_X5_35 dX5_readImpulse_1 ?_
  refine ev_as (sy_as G b _ h 1 (by decide)) (ch_g0_6 (c := sc b 1) wF_X5_180 dX5_readImpulse_4 (ev_as (sy_as G b _ h 1 (by decide)).symm ?_))
  refine ev_as (sy_as G b _ h 1 (by decide)) (ch_g2_0 (c := sc b 1) wF_X5_184 dX5_readImpulse_7 (ev_as (sy_as G b _ h 1 (by decide)).symm ?_))
  refine e_bipush (v := 16) dX5_readImpulse_10 (by decide) ?_
  refine e_icmp_lt (tgt := 23) dX5_readImpulse_12 (by decide) (fun i12 => ?_) (fun i12 => ?_)
  · have i12b : ((S.2.2.2 1).1 5).toInt < 16 := by have i12c : ((S.2.2.2 1).1 5).toInt < (16 : Int32).toInt := i12; omega
    refine e_aload_n dX5_readImpulse_23 rfl rfl ?_
    refine e_iconst (v := 0) dX5_readImpulse_24 (by decide) ?_
    refine e_sipush (v := 9999) dX5_readImpulse_25 (by decide) ?_
    refine e_invV (mcY := 0) (msY := 0) (ct_rN hO hp (lo := 0) (hi := 9999) z0 w9999 (by omega)) vX5_readNumber wM_X5_76 (sy_at G b _ h 2 (by decide)) rfl dX5_readImpulse_28 rfl rfl (Nat.le_of_ble_eq_true rfl) (Nat.le_of_ble_eq_true rfl) ?_
    rintro c a hc
    rcases hc with ⟨r0, rfl, rfl⟩ | ⟨r0, rfl, hf⟩
    · have f0 := pN_0 (lo := 0) (hi := 9999) tbB hp r0
      generalize hA : (pN (tB (S.2.1 0) n) n 0 9999 p) = A at *
      refine e_if_ne (tgt := 36) dX5_readImpulse_31 (by decide) (fun i31 => ?_) (fun i31 => ?_)
      · refine e_aload_n dX5_readImpulse_36 rfl rfl ?_
        refine rS_g5 wF_X5_79 dX5_readImpulse_37 ?_
        refine e_istore_n dX5_readImpulse_40 rfl (Nat.le_of_ble_eq_true rfl) ?_
        refine e_aload_n dX5_readImpulse_41 rfl rfl ?_
        refine e_iconst (v := 0) dX5_readImpulse_42 (by decide) ?_
        refine e_aload_n dX5_readImpulse_43 rfl rfl ?_
        refine rS_g6 hO wF_X5_35 dX5_readImpulse_44 ?_
        refine ev_as (sy_as G b _ h 1 (by decide)) (ch_g0_0 (c := sc b 1) wF_X5_134 dX5_readImpulse_47 (ev_as (sy_as G b _ h 1 (by decide)).symm ?_))
        refine e_iconst (v := 1) dX5_readImpulse_50 (by decide) ?_
        refine e_isub dX5_readImpulse_51 ?_
        refine e_invV (mcY := 0) (msY := 0) (ct_rN hO f0.2.1 (lo := 0) (hi := sM (S.2.2.2 1) - 1) z0 hM4 (by omega)) vX5_readNumber wM_X5_76 (sy_at G b _ h 2 (by decide)) rfl dX5_readImpulse_52 rfl rfl (Nat.le_of_ble_eq_true rfl) (Nat.le_of_ble_eq_true rfl) ?_
        rintro c a hc
        rcases hc with ⟨r1, rfl, rfl⟩ | ⟨r1, rfl, hf⟩
        · have f1 := pN_0 (lo := 0) (hi := sM (S.2.2.2 1) - 1) tbB f0.2.1 r1
          have hs1 := sk_rng (tB (S.2.1 0) n) f1.2.1
          generalize hC : pN (tB (S.2.1 0) n) n 0 (sM (S.2.2.2 1) - 1) A.2.1 = C at *
          refine e_if_ne (tgt := 60) dX5_readImpulse_55 (by decide) (fun i55 => ?_) (fun i55 => ?_)
          · refine e_aload_n dX5_readImpulse_60 rfl rfl ?_
            refine rS_g5 wF_X5_79 dX5_readImpulse_61 ?_
            refine e_istore_n dX5_readImpulse_64 rfl (Nat.le_of_ble_eq_true rfl) ?_
            refine e_aload_n dX5_readImpulse_65 rfl rfl ?_
            refine e_invV (mcY := 0) (msY := 0) (ct_X5_skipSpaces hO f1.2.1) vX5_skipSpaces wM_X5_63 (sy_at G b _ h 2 (by decide)) rfl dX5_readImpulse_66 rfl rfl (Nat.le_of_ble_eq_true rfl) (Nat.le_of_ble_eq_true rfl) ?_
            rintro _ _ ⟨rfl, rfl⟩
            refine e_aload_n dX5_readImpulse_69 rfl rfl ?_
            refine rS_g4 wF_X5_39 dX5_readImpulse_70 ?_
            refine e_istore dX5_readImpulse_73 (Nat.le_of_ble_eq_true rfl) ?_
            refine e_aload_n dX5_readImpulse_75 rfl rfl ?_
            refine e_sipush (v := 9999) dX5_readImpulse_76 (by decide) ?_
            refine e_invV (mcY := 0) (msY := 0) (ct_rG hO hs1.2 w9999 (by decide) (by decide)) vX5_readSigned wM_X5_162 (sy_at G b _ h 2 (by decide)) rfl dX5_readImpulse_79 rfl rfl (Nat.le_of_ble_eq_true rfl) (Nat.le_of_ble_eq_true rfl) ?_
            rintro c a hc
            rcases hc with ⟨r2, rfl, rfl⟩ | ⟨r2, rfl, hf⟩
            · have f2 := pS_0 (m := 9999) tbB hs1.2 (by decide) r2
              generalize hE : pS (tB (S.2.1 0) n) n 9999 (sk (tB (S.2.1 0) n) n C.2.1) = E at *
              refine e_if_ne (tgt := 87) dX5_readImpulse_82 (by decide) (fun i82 => ?_) (fun i82 => ?_)
              · refine e_aload_n dX5_readImpulse_87 rfl rfl ?_
                refine rS_g5 wF_X5_79 dX5_readImpulse_88 ?_
                refine e_if_ne (tgt := 103) dX5_readImpulse_91 (by decide) (fun i91 => ?_) (fun i91 => ?_)
                · have u0 : ¬ E.2.2 = 0 := fun q2 => i91 ((of0 (by omega) (by omega)).mpr q2)
                  refine e_aload_n dX5_readImpulse_103 rfl rfl ?_
                  refine rS_g6 hO wF_X5_35 dX5_readImpulse_104 ?_
                  refine ev_as (sy_as G b _ h 1 (by decide)) (ch_g0_6 (c := sc b 1) wF_X5_180 dX5_readImpulse_107 (ev_as (sy_as G b _ h 1 (by decide)).symm ?_))
                  refine e_iload_n dX5_readImpulse_110 rfl rfl ?_
                  refine e_iload_n dX5_readImpulse_111 rfl rfl ?_
                  refine e_aload_n dX5_readImpulse_112 rfl rfl ?_
                  refine rS_g5 wF_X5_79 dX5_readImpulse_113 ?_
                  refine ev_as (sy_as G b _ h 1 (by decide)) ?_
                  refine e_invV (mcY := 0) (msY := 0) (ct_X2_insert (c := sc b 1) (σ := S.2.2.2 1) hd.2.2.1 (by have := hd.2.2.1.1; have e : sIn (S.2.2.2 1) = ((S.2.2.2 1).1 5).toInt.toNat := rfl; omega)) vX2_insert wM_X5_189 (ch_at G (sc b 1) _ (sy G b _ h) 8 (by decide)) rfl dX5_readImpulse_116 rfl rfl (Nat.le_of_ble_eq_true rfl) (Nat.le_of_ble_eq_true rfl) ?_
                  rintro _ _ ⟨rfl, rfl⟩
                  refine ev_as (sy_chset G b _ h 1 _ (by decide)) ?_
                  rw [rS_C]
                  refine e_iconst (v := 1) dX5_readImpulse_119 (by decide) ?_
                  exact e_zret (ty := .boolean) rfl rfl dX5_readImpulse_120 (by unfold pIm; rw [if_pos i12b, hA]; exact oP_ok _ ((pb_ok r0).trans (by rw [hC]; exact (pb_ok r1).trans (by rw [hE]; exact (pb_ok r2).trans (if_neg u0)))) rfl)
                · have u0 : E.2.2 = 0 := (of0 (by omega) (by omega)).mp i91
                  refine e_aload_n dX5_readImpulse_94 rfl rfl ?_
                  refine e_bipush (v := (-3)) dX5_readImpulse_95 (by decide) ?_
                  refine e_iload dX5_readImpulse_97 rfl ?_
                  refine e_invV (mcY := 0) (msY := 0) (ct_X5_fail) vX5_fail wM_X5_72 (sy_at G b _ h 2 (by decide)) rfl dX5_readImpulse_99 rfl rfl (Nat.le_of_ble_eq_true rfl) (Nat.le_of_ble_eq_true rfl) ?_
                  rintro _ _ ⟨rfl, rfl⟩
                  exact e_zret (ty := .boolean) rfl rfl dX5_readImpulse_102 (by unfold pIm; rw [if_pos i12b, hA]; exact oP_no ((pb_ok r0).trans (by rw [hC]; exact (pb_ok r1).trans (by rw [hE]; exact (pb_ok r2).trans (if_pos u0)))) (by decide) (FR_of G b S h _ _ _ _ 3 (by decide +kernel)))
              · first | exact absurd i82 (by decide) | exact absurd rfl i82
            · generalize hE : pS (tB (S.2.1 0) n) n 9999 (sk (tB (S.2.1 0) n) n C.2.1) = E at *
              refine e_if_ne (tgt := 87) dX5_readImpulse_82 (by decide) (fun i82 => ?_) (fun i82 => ?_)
              · first | exact absurd i82 (by decide) | exact absurd rfl i82
              · refine e_iconst (v := 0) dX5_readImpulse_85 (by decide) ?_
                exact e_zret (ty := .boolean) rfl rfl dX5_readImpulse_86 (by unfold pIm; rw [if_pos i12b, hA]; exact oP_no ((pb_ok r0).trans (by rw [hC]; exact (pb_ok r1).trans (by rw [hE]; exact pb_no r2))) r2 hf)
          · first | exact absurd i55 (by decide) | exact absurd rfl i55
        · generalize hC : pN (tB (S.2.1 0) n) n 0 (sM (S.2.2.2 1) - 1) A.2.1 = C at *
          refine e_if_ne (tgt := 60) dX5_readImpulse_55 (by decide) (fun i55 => ?_) (fun i55 => ?_)
          · first | exact absurd i55 (by decide) | exact absurd rfl i55
          · refine e_iconst (v := 0) dX5_readImpulse_58 (by decide) ?_
            exact e_zret (ty := .boolean) rfl rfl dX5_readImpulse_59 (by unfold pIm; rw [if_pos i12b, hA]; exact oP_no ((pb_ok r0).trans (by rw [hC]; exact pb_no r1)) r1 hf)
      · first | exact absurd i31 (by decide) | exact absurd rfl i31
    · refine e_if_ne (tgt := 36) dX5_readImpulse_31 (by decide) (fun i31 => ?_) (fun i31 => ?_)
      · first | exact absurd i31 (by decide) | exact absurd rfl i31
      · refine e_iconst (v := 0) dX5_readImpulse_34 (by decide) ?_
        exact e_zret (ty := .boolean) rfl rfl dX5_readImpulse_35 (by unfold pIm; rw [if_pos i12b]; exact oP_no (pb_no r0) r0 hf)
  · have i12b : ¬ ((S.2.2.2 1).1 5).toInt < 16 := by have i12c : (16 : Int32).toInt ≤ ((S.2.2.2 1).1 5).toInt := i12; omega
    refine e_aload_n dX5_readImpulse_15 rfl rfl ?_
    refine e_bipush (v := (-5)) dX5_readImpulse_16 (by decide) ?_
    refine e_iload_n dX5_readImpulse_18 rfl rfl ?_
    refine e_invV (mcY := 0) (msY := 0) (ct_X5_fail) vX5_fail wM_X5_72 (sy_at G b _ h 2 (by decide)) rfl dX5_readImpulse_19 rfl rfl (Nat.le_of_ble_eq_true rfl) (Nat.le_of_ble_eq_true rfl) ?_
    rintro _ _ ⟨rfl, rfl⟩
    exact e_zret (ty := .boolean) rfl rfl dX5_readImpulse_22 (by unfold pIm; rw [if_neg i12b]; exact oP_no rfl (by decide) (FR_of G b S h _ _ _ _ 5 (by decide +kernel)))
theorem pPl_sk {B : Nat → Int32} {n : Nat} {M : Int} {pl : Nat → Int32} {p : Nat} (hp : p ≤ n) : pPl B n M pl (sk B n p) = pPl B n M pl p := by
  unfold pPl pN
  rw [sk_sk B hp]
theorem pSr_sk {B : Nat → Int32} {n : Nat} {M : Int} {pl : Nat → Int32} {p : Nat} (hp : p ≤ n) : pSr B n M pl (sk B n p) = pSr B n M pl p := by
  unfold pSr pN
  rw [sk_sk B hp]
set_option maxRecDepth 20000 in
theorem ct_X5_readStatement (hO : rOk b S n) (hd : sInv (S.2.2.2 1)) (hp : p ≤ n) (hsk : sk (tB (S.2.1 0) n) n p = p) : ev_Ct G l mX5_readStatement 7 0 0 [.ref (b + 2)] (sy G b (rS S p v) h) (fun c a => oP G b S h (pStm (tB (S.2.1 0) n) n (sM (S.2.2.2 1)) ((S.2.2.2 1).1 5).toInt (S.1 9) (S.2.1 1) (S.2.1 2) p) c a) (fun _ _ => False) := by
  refine ev_Ct.of (by decide +kernel) (Nat.le_of_ble_eq_true rfl) ?_
  have hM : 1 ≤ sM (S.2.2.2 1) ∧ sM (S.2.2.2 1) ≤ 12 := hd.1
  have hM3 : sM (S.2.2.2 1) = ((S.2.2.2 1).1 0).toInt := rfl
  have z0 := ar_0
  have z1 := ar_1
  have hn2 := hO.2.1
  have hM4 : ((S.2.2.2 1).1 0 - 1).toInt = sM (S.2.2.2 1) - 1 := by rw [ar_sub (by omega) (by omega)]; omega
  refine e_aload_n dX5_readStatement_0 rfl rfl ?_
  refine rS_g4 wF_X5_39 dX5_readStatement_1 ?_
  refine e_istore_n dX5_readStatement_4 rfl (Nat.le_of_ble_eq_true rfl) ?_
  refine e_aload_n dX5_readStatement_5 rfl rfl ?_
  refine e_ldcS (j := 2) (tx := "mass") dX5_readStatement_6 (by decide +kernel) ?_
  refine e_invV (mcY := 0) (msY := 0) (ct_X5_takeWord (j := 2) hO hp (by decide)) vX5_takeWord wM_X5_68 (sy_at G b _ h 2 (by decide)) rfl dX5_readStatement_8 rfl rfl (Nat.le_of_ble_eq_true rfl) (Nat.le_of_ble_eq_true rfl) ?_
  rintro c a hc
  rcases hc with ⟨t2, rfl, rfl⟩ | ⟨t2, rfl, rfl⟩
  · rw [hsk] at t2
    rw [hsk]
    have g2 : wB (tB (S.2.1 0) n) 2 p = true := wB_iff.mpr t2
    have h2 := wAt_n tbB t2 (by decide)
    change p + 4 ≤ n at h2
    have e : pStm (tB (S.2.1 0) n) n (sM (S.2.2.2 1)) ((S.2.2.2 1).1 5).toInt (S.1 9) (S.2.1 1) (S.2.1 2) p = pWt (tB (S.2.1 0) n) n (sM (S.2.2.2 1)) (p + 4) := by unfold pStm; rw [g2]; rfl
    refine e_if_eq (tgt := 19) dX5_readStatement_11 (by decide) (fun i11 => ?_) (fun i11 => ?_)
    · first | exact absurd i11 (by decide) | exact absurd rfl i11
    · refine e_aload_n dX5_readStatement_14 rfl rfl ?_
      refine e_invV (mcY := 0) (msY := 0) (ct_X5_readWeight (p := p + 4) hO hd h2) vX5_readWeight wM_X5_90 (sy_at G b _ h 2 (by decide)) rfl dX5_readStatement_15 rfl rfl (Nat.le_of_ble_eq_true rfl) (Nat.le_of_ble_eq_true rfl) ?_
      rintro c a hc
      rcases hc with ⟨r0, rfl, x, rfl⟩ | ⟨r0, rfl, hf⟩
      · exact e_zret (ty := .boolean) rfl rfl dX5_readStatement_18 (by rw [e]; first | exact Or.inl (by exact ⟨r0, rfl, x, rfl⟩) | exact Or.inr (by exact ⟨r0, rfl, hf⟩))
      · exact e_zret (ty := .boolean) rfl rfl dX5_readStatement_18 (by rw [e]; first | exact Or.inl (by exact ⟨r0, rfl, x, rfl⟩) | exact Or.inr (by exact ⟨r0, rfl, hf⟩))
  · rw [hsk] at t2
    rw [hsk]
    have g2 : wB (tB (S.2.1 0) n) 2 p = false := by rw [← Bool.not_eq_true]; exact fun q2 => t2 (wB_iff.mp q2)
    refine e_if_eq (tgt := 19) dX5_readStatement_11 (by decide) (fun i11 => ?_) (fun i11 => ?_)
    · refine e_aload_n dX5_readStatement_19 rfl rfl ?_
      refine e_ldcS (j := 3) (tx := "masses") dX5_readStatement_20 (by decide +kernel) ?_
      refine e_invV (mcY := 0) (msY := 0) (ct_X5_takeWord (j := 3) hO hp (by decide)) vX5_takeWord wM_X5_68 (sy_at G b _ h 2 (by decide)) rfl dX5_readStatement_22 rfl rfl (Nat.le_of_ble_eq_true rfl) (Nat.le_of_ble_eq_true rfl) ?_
      rintro c a hc
      rcases hc with ⟨t3, rfl, rfl⟩ | ⟨t3, rfl, rfl⟩
      · rw [hsk] at t3
        rw [hsk]
        have g3 : wB (tB (S.2.1 0) n) 3 p = true := wB_iff.mpr t3
        have h3 := wAt_n tbB t3 (by decide)
        change p + 6 ≤ n at h3
        have e : pStm (tB (S.2.1 0) n) n (sM (S.2.2.2 1)) ((S.2.2.2 1).1 5).toInt (S.1 9) (S.2.1 1) (S.2.1 2) p = pAW (tB (S.2.1 0) n) n (p + 6) := by unfold pStm; rw [g2, g3]; rfl
        refine e_if_eq (tgt := 33) dX5_readStatement_25 (by decide) (fun i25 => ?_) (fun i25 => ?_)
        · first | exact absurd i25 (by decide) | exact absurd rfl i25
        · refine e_aload_n dX5_readStatement_28 rfl rfl ?_
          refine e_invV (mcY := 0) (msY := 0) (ct_X5_readAllWeights (p := p + 6) hO hd h3) vX5_readAllWeights wM_X5_95 (sy_at G b _ h 2 (by decide)) rfl dX5_readStatement_29 rfl rfl (Nat.le_of_ble_eq_true rfl) (Nat.le_of_ble_eq_true rfl) ?_
          rintro c a hc
          rcases hc with ⟨r0, rfl, x, rfl⟩ | ⟨r0, rfl, hf⟩
          · exact e_zret (ty := .boolean) rfl rfl dX5_readStatement_32 (by rw [e]; first | exact Or.inl (by exact ⟨r0, rfl, x, rfl⟩) | exact Or.inr (by exact ⟨r0, rfl, hf⟩))
          · exact e_zret (ty := .boolean) rfl rfl dX5_readStatement_32 (by rw [e]; first | exact Or.inl (by exact ⟨r0, rfl, x, rfl⟩) | exact Or.inr (by exact ⟨r0, rfl, hf⟩))
      · rw [hsk] at t3
        rw [hsk]
        have g3 : wB (tB (S.2.1 0) n) 3 p = false := by rw [← Bool.not_eq_true]; exact fun q2 => t3 (wB_iff.mp q2)
        refine e_if_eq (tgt := 33) dX5_readStatement_25 (by decide) (fun i25 => ?_) (fun i25 => ?_)
        · refine e_aload_n dX5_readStatement_33 rfl rfl ?_
          refine e_ldcS (j := 4) (tx := "spring") dX5_readStatement_34 (by decide +kernel) ?_
          refine e_invV (mcY := 0) (msY := 0) (ct_X5_takeWord (j := 4) hO hp (by decide)) vX5_takeWord wM_X5_68 (sy_at G b _ h 2 (by decide)) rfl dX5_readStatement_36 rfl rfl (Nat.le_of_ble_eq_true rfl) (Nat.le_of_ble_eq_true rfl) ?_
          rintro c a hc
          rcases hc with ⟨t4, rfl, rfl⟩ | ⟨t4, rfl, rfl⟩
          · rw [hsk] at t4
            rw [hsk]
            have g4 : wB (tB (S.2.1 0) n) 4 p = true := wB_iff.mpr t4
            have h4 := wAt_n tbB t4 (by decide)
            change p + 6 ≤ n at h4
            have e : pStm (tB (S.2.1 0) n) n (sM (S.2.2.2 1)) ((S.2.2.2 1).1 5).toInt (S.1 9) (S.2.1 1) (S.2.1 2) p = pSp (tB (S.2.1 0) n) n (sM (S.2.2.2 1)) (p + 6) := by unfold pStm; rw [g2, g3, g4]; rfl
            refine e_if_eq (tgt := 47) dX5_readStatement_39 (by decide) (fun i39 => ?_) (fun i39 => ?_)
            · first | exact absurd i39 (by decide) | exact absurd rfl i39
            · refine e_aload_n dX5_readStatement_42 rfl rfl ?_
              refine e_invV (mcY := 0) (msY := 0) (ct_X5_readSpring (p := p + 6) hO hd h4) vX5_readSpring wM_X5_100 (sy_at G b _ h 2 (by decide)) rfl dX5_readStatement_43 rfl rfl (Nat.le_of_ble_eq_true rfl) (Nat.le_of_ble_eq_true rfl) ?_
              rintro c a hc
              rcases hc with ⟨r0, rfl, x, rfl⟩ | ⟨r0, rfl, hf⟩
              · exact e_zret (ty := .boolean) rfl rfl dX5_readStatement_46 (by rw [e]; first | exact Or.inl (by exact ⟨r0, rfl, x, rfl⟩) | exact Or.inr (by exact ⟨r0, rfl, hf⟩))
              · exact e_zret (ty := .boolean) rfl rfl dX5_readStatement_46 (by rw [e]; first | exact Or.inl (by exact ⟨r0, rfl, x, rfl⟩) | exact Or.inr (by exact ⟨r0, rfl, hf⟩))
          · rw [hsk] at t4
            rw [hsk]
            have g4 : wB (tB (S.2.1 0) n) 4 p = false := by rw [← Bool.not_eq_true]; exact fun q2 => t4 (wB_iff.mp q2)
            refine e_if_eq (tgt := 47) dX5_readStatement_39 (by decide) (fun i39 => ?_) (fun i39 => ?_)
            · refine e_aload_n dX5_readStatement_47 rfl rfl ?_
              refine e_ldcS (j := 6) (tx := "springs") dX5_readStatement_48 (by decide +kernel) ?_
              refine e_invV (mcY := 0) (msY := 0) (ct_X5_takeWord (j := 6) hO hp (by decide)) vX5_takeWord wM_X5_68 (sy_at G b _ h 2 (by decide)) rfl dX5_readStatement_50 rfl rfl (Nat.le_of_ble_eq_true rfl) (Nat.le_of_ble_eq_true rfl) ?_
              rintro c a hc
              rcases hc with ⟨t6, rfl, rfl⟩ | ⟨t6, rfl, rfl⟩
              · rw [hsk] at t6
                rw [hsk]
                have g6 : wB (tB (S.2.1 0) n) 6 p = true := wB_iff.mpr t6
                have h6 := wAt_n tbB t6 (by decide)
                change p + 7 ≤ n at h6
                have e : pStm (tB (S.2.1 0) n) n (sM (S.2.2.2 1)) ((S.2.2.2 1).1 5).toInt (S.1 9) (S.2.1 1) (S.2.1 2) p = pAS (tB (S.2.1 0) n) n (p + 7) := by unfold pStm; rw [g2, g3, g4, g6]; rfl
                refine e_if_eq (tgt := 61) dX5_readStatement_53 (by decide) (fun i53 => ?_) (fun i53 => ?_)
                · first | exact absurd i53 (by decide) | exact absurd rfl i53
                · refine e_aload_n dX5_readStatement_56 rfl rfl ?_
                  refine e_invV (mcY := 0) (msY := 0) (ct_X5_readAllStiffnesses (p := p + 7) hO hd h6) vX5_readAllStiffnesses wM_X5_105 (sy_at G b _ h 2 (by decide)) rfl dX5_readStatement_57 rfl rfl (Nat.le_of_ble_eq_true rfl) (Nat.le_of_ble_eq_true rfl) ?_
                  rintro c a hc
                  rcases hc with ⟨r0, rfl, x, rfl⟩ | ⟨r0, rfl, hf⟩
                  · exact e_zret (ty := .boolean) rfl rfl dX5_readStatement_60 (by rw [e]; first | exact Or.inl (by exact ⟨r0, rfl, x, rfl⟩) | exact Or.inr (by exact ⟨r0, rfl, hf⟩))
                  · exact e_zret (ty := .boolean) rfl rfl dX5_readStatement_60 (by rw [e]; first | exact Or.inl (by exact ⟨r0, rfl, x, rfl⟩) | exact Or.inr (by exact ⟨r0, rfl, hf⟩))
              · rw [hsk] at t6
                rw [hsk]
                have g6 : wB (tB (S.2.1 0) n) 6 p = false := by rw [← Bool.not_eq_true]; exact fun q2 => t6 (wB_iff.mp q2)
                refine e_if_eq (tgt := 61) dX5_readStatement_53 (by decide) (fun i53 => ?_) (fun i53 => ?_)
                · refine e_aload_n dX5_readStatement_61 rfl rfl ?_
                  refine e_ldcS (j := 7) (tx := "damp") dX5_readStatement_62 (by decide +kernel) ?_
                  refine e_invV (mcY := 0) (msY := 0) (ct_X5_takeWord (j := 7) hO hp (by decide)) vX5_takeWord wM_X5_68 (sy_at G b _ h 2 (by decide)) rfl dX5_readStatement_64 rfl rfl (Nat.le_of_ble_eq_true rfl) (Nat.le_of_ble_eq_true rfl) ?_
                  rintro c a hc
                  rcases hc with ⟨t7, rfl, rfl⟩ | ⟨t7, rfl, rfl⟩
                  · rw [hsk] at t7
                    rw [hsk]
                    have g7 : wB (tB (S.2.1 0) n) 7 p = true := wB_iff.mpr t7
                    have h7 := wAt_n tbB t7 (by decide)
                    change p + 4 ≤ n at h7
                    have e : pStm (tB (S.2.1 0) n) n (sM (S.2.2.2 1)) ((S.2.2.2 1).1 5).toInt (S.1 9) (S.2.1 1) (S.2.1 2) p = pDm (tB (S.2.1 0) n) n (S.1 9) p (p + 4) := by unfold pStm; rw [g2, g3, g4, g6, g7]; rfl
                    refine e_if_eq (tgt := 76) dX5_readStatement_67 (by decide) (fun i67 => ?_) (fun i67 => ?_)
                    · first | exact absurd i67 (by decide) | exact absurd rfl i67
                    · refine e_aload_n dX5_readStatement_70 rfl rfl ?_
                      refine e_iload_n dX5_readStatement_71 rfl rfl ?_
                      refine e_invV (mcY := 0) (msY := 0) (ct_X5_readDamping (p := p + 4) hO hd h7) vX5_readDamping wM_X5_110 (sy_at G b _ h 2 (by decide)) rfl dX5_readStatement_72 rfl rfl (Nat.le_of_ble_eq_true rfl) (Nat.le_of_ble_eq_true rfl) ?_
                      rintro c a hc
                      rcases hc with ⟨r0, rfl, x, rfl⟩ | ⟨r0, rfl, hf⟩
                      · exact e_zret (ty := .boolean) rfl rfl dX5_readStatement_75 (by rw [e]; first | exact Or.inl (by exact ⟨r0, rfl, x, rfl⟩) | exact Or.inr (by exact ⟨r0, rfl, hf⟩))
                      · exact e_zret (ty := .boolean) rfl rfl dX5_readStatement_75 (by rw [e]; first | exact Or.inl (by exact ⟨r0, rfl, x, rfl⟩) | exact Or.inr (by exact ⟨r0, rfl, hf⟩))
                  · rw [hsk] at t7
                    rw [hsk]
                    have g7 : wB (tB (S.2.1 0) n) 7 p = false := by rw [← Bool.not_eq_true]; exact fun q2 => t7 (wB_iff.mp q2)
                    refine e_if_eq (tgt := 76) dX5_readStatement_67 (by decide) (fun i67 => ?_) (fun i67 => ?_)
                    · refine e_aload_n dX5_readStatement_76 rfl rfl ?_
                      refine e_ldcS (j := 8) (tx := "pluck") dX5_readStatement_77 (by decide +kernel) ?_
                      refine e_invV (mcY := 0) (msY := 0) (ct_X5_takeWord (j := 8) hO hp (by decide)) vX5_takeWord wM_X5_68 (sy_at G b _ h 2 (by decide)) rfl dX5_readStatement_79 rfl rfl (Nat.le_of_ble_eq_true rfl) (Nat.le_of_ble_eq_true rfl) ?_
                      rintro c a hc
                      rcases hc with ⟨t8, rfl, rfl⟩ | ⟨t8, rfl, rfl⟩
                      · rw [hsk] at t8
                        rw [hsk]
                        have g8 : wB (tB (S.2.1 0) n) 8 p = true := wB_iff.mpr t8
                        have h8 := wAt_n tbB t8 (by decide)
                        change p + 5 ≤ n at h8
                        have e : pStm (tB (S.2.1 0) n) n (sM (S.2.2.2 1)) ((S.2.2.2 1).1 5).toInt (S.1 9) (S.2.1 1) (S.2.1 2) p = pPl (tB (S.2.1 0) n) n (sM (S.2.2.2 1)) (S.2.1 1) (p + 5) := by unfold pStm; rw [g2, g3, g4, g6, g7, g8]; rfl
                        refine e_if_eq (tgt := 90) dX5_readStatement_82 (by decide) (fun i82 => ?_) (fun i82 => ?_)
                        · first | exact absurd i82 (by decide) | exact absurd rfl i82
                        · refine e_aload_n dX5_readStatement_85 rfl rfl ?_
                          refine e_invV (mcY := 0) (msY := 0) (ct_X5_readPluck (p := p + 5) hO hd h8) vX5_readPluck wM_X5_116 (sy_at G b _ h 2 (by decide)) rfl dX5_readStatement_86 rfl rfl (Nat.le_of_ble_eq_true rfl) (Nat.le_of_ble_eq_true rfl) ?_
                          rintro c a hc
                          rw [pPl_sk h8] at hc
                          rcases hc with ⟨r0, rfl, x, rfl⟩ | ⟨r0, rfl, hf⟩
                          · exact e_zret (ty := .boolean) rfl rfl dX5_readStatement_89 (by rw [e]; first | exact Or.inl (by exact ⟨r0, rfl, x, rfl⟩) | exact Or.inr (by exact ⟨r0, rfl, hf⟩))
                          · exact e_zret (ty := .boolean) rfl rfl dX5_readStatement_89 (by rw [e]; first | exact Or.inl (by exact ⟨r0, rfl, x, rfl⟩) | exact Or.inr (by exact ⟨r0, rfl, hf⟩))
                      · rw [hsk] at t8
                        rw [hsk]
                        have g8 : wB (tB (S.2.1 0) n) 8 p = false := by rw [← Bool.not_eq_true]; exact fun q2 => t8 (wB_iff.mp q2)
                        refine e_if_eq (tgt := 90) dX5_readStatement_82 (by decide) (fun i82 => ?_) (fun i82 => ?_)
                        · refine e_aload_n dX5_readStatement_90 rfl rfl ?_
                          refine e_ldcS (j := 9) (tx := "strike") dX5_readStatement_91 (by decide +kernel) ?_
                          refine e_invV (mcY := 0) (msY := 0) (ct_X5_takeWord (j := 9) hO hp (by decide)) vX5_takeWord wM_X5_68 (sy_at G b _ h 2 (by decide)) rfl dX5_readStatement_93 rfl rfl (Nat.le_of_ble_eq_true rfl) (Nat.le_of_ble_eq_true rfl) ?_
                          rintro c a hc
                          rcases hc with ⟨t9, rfl, rfl⟩ | ⟨t9, rfl, rfl⟩
                          · rw [hsk] at t9
                            rw [hsk]
                            have g9 : wB (tB (S.2.1 0) n) 9 p = true := wB_iff.mpr t9
                            have h9 := wAt_n tbB t9 (by decide)
                            change p + 6 ≤ n at h9
                            have e : pStm (tB (S.2.1 0) n) n (sM (S.2.2.2 1)) ((S.2.2.2 1).1 5).toInt (S.1 9) (S.2.1 1) (S.2.1 2) p = pSr (tB (S.2.1 0) n) n (sM (S.2.2.2 1)) (S.2.1 2) (p + 6) := by unfold pStm; rw [g2, g3, g4, g6, g7, g8, g9]; rfl
                            refine e_if_eq (tgt := 104) dX5_readStatement_96 (by decide) (fun i96 => ?_) (fun i96 => ?_)
                            · first | exact absurd i96 (by decide) | exact absurd rfl i96
                            · refine e_aload_n dX5_readStatement_99 rfl rfl ?_
                              refine e_invV (mcY := 0) (msY := 0) (ct_X5_readStrike (p := p + 6) hO hd h9) vX5_readStrike wM_X5_121 (sy_at G b _ h 2 (by decide)) rfl dX5_readStatement_100 rfl rfl (Nat.le_of_ble_eq_true rfl) (Nat.le_of_ble_eq_true rfl) ?_
                              rintro c a hc
                              rw [pSr_sk h9] at hc
                              rcases hc with ⟨r0, rfl, x, rfl⟩ | ⟨r0, rfl, hf⟩
                              · exact e_zret (ty := .boolean) rfl rfl dX5_readStatement_103 (by rw [e]; first | exact Or.inl (by exact ⟨r0, rfl, x, rfl⟩) | exact Or.inr (by exact ⟨r0, rfl, hf⟩))
                              · exact e_zret (ty := .boolean) rfl rfl dX5_readStatement_103 (by rw [e]; first | exact Or.inl (by exact ⟨r0, rfl, x, rfl⟩) | exact Or.inr (by exact ⟨r0, rfl, hf⟩))
                          · rw [hsk] at t9
                            rw [hsk]
                            have g9 : wB (tB (S.2.1 0) n) 9 p = false := by rw [← Bool.not_eq_true]; exact fun q2 => t9 (wB_iff.mp q2)
                            refine e_if_eq (tgt := 104) dX5_readStatement_96 (by decide) (fun i96 => ?_) (fun i96 => ?_)
                            · refine e_aload_n dX5_readStatement_104 rfl rfl ?_
                              refine e_ldcS (j := 10) (tx := "end") dX5_readStatement_105 (by decide +kernel) ?_
                              refine e_invV (mcY := 0) (msY := 0) (ct_X5_takeWord (j := 10) hO hp (by decide)) vX5_takeWord wM_X5_68 (sy_at G b _ h 2 (by decide)) rfl dX5_readStatement_107 rfl rfl (Nat.le_of_ble_eq_true rfl) (Nat.le_of_ble_eq_true rfl) ?_
                              rintro c a hc
                              rcases hc with ⟨t10, rfl, rfl⟩ | ⟨t10, rfl, rfl⟩
                              · rw [hsk] at t10
                                rw [hsk]
                                have g10 : wB (tB (S.2.1 0) n) 10 p = true := wB_iff.mpr t10
                                have h10 := wAt_n tbB t10 (by decide)
                                change p + 3 ≤ n at h10
                                have e : pStm (tB (S.2.1 0) n) n (sM (S.2.2.2 1)) ((S.2.2.2 1).1 5).toInt (S.1 9) (S.2.1 1) (S.2.1 2) p = pEn (tB (S.2.1 0) n) n (p + 3) := by unfold pStm; rw [g2, g3, g4, g6, g7, g8, g9, g10]; rfl
                                refine e_if_eq (tgt := 118) dX5_readStatement_110 (by decide) (fun i110 => ?_) (fun i110 => ?_)
                                · first | exact absurd i110 (by decide) | exact absurd rfl i110
                                · refine e_aload_n dX5_readStatement_113 rfl rfl ?_
                                  refine e_invV (mcY := 0) (msY := 0) (ct_X5_readEnd (p := p + 3) hO hd h10) vX5_readEnd wM_X5_126 (sy_at G b _ h 2 (by decide)) rfl dX5_readStatement_114 rfl rfl (Nat.le_of_ble_eq_true rfl) (Nat.le_of_ble_eq_true rfl) ?_
                                  rintro c a hc
                                  rcases hc with ⟨r0, rfl, x, rfl⟩ | ⟨r0, rfl, hf⟩
                                  · exact e_zret (ty := .boolean) rfl rfl dX5_readStatement_117 (by rw [e]; first | exact Or.inl (by exact ⟨r0, rfl, x, rfl⟩) | exact Or.inr (by exact ⟨r0, rfl, hf⟩))
                                  · exact e_zret (ty := .boolean) rfl rfl dX5_readStatement_117 (by rw [e]; first | exact Or.inl (by exact ⟨r0, rfl, x, rfl⟩) | exact Or.inr (by exact ⟨r0, rfl, hf⟩))
                              · rw [hsk] at t10
                                rw [hsk]
                                have g10 : wB (tB (S.2.1 0) n) 10 p = false := by rw [← Bool.not_eq_true]; exact fun q2 => t10 (wB_iff.mp q2)
                                refine e_if_eq (tgt := 118) dX5_readStatement_110 (by decide) (fun i110 => ?_) (fun i110 => ?_)
                                · refine e_aload_n dX5_readStatement_118 rfl rfl ?_
                                  refine e_ldcS (j := 13) (tx := "impulse") dX5_readStatement_119 (by decide +kernel) ?_
                                  refine e_invV (mcY := 0) (msY := 0) (ct_X5_takeWord (j := 13) hO hp (by decide)) vX5_takeWord wM_X5_68 (sy_at G b _ h 2 (by decide)) rfl dX5_readStatement_121 rfl rfl (Nat.le_of_ble_eq_true rfl) (Nat.le_of_ble_eq_true rfl) ?_
                                  rintro c a hc
                                  rcases hc with ⟨t13, rfl, rfl⟩ | ⟨t13, rfl, rfl⟩
                                  · rw [hsk] at t13
                                    rw [hsk]
                                    have g13 : wB (tB (S.2.1 0) n) 13 p = true := wB_iff.mpr t13
                                    have h13 := wAt_n tbB t13 (by decide)
                                    change p + 7 ≤ n at h13
                                    have e : pStm (tB (S.2.1 0) n) n (sM (S.2.2.2 1)) ((S.2.2.2 1).1 5).toInt (S.1 9) (S.2.1 1) (S.2.1 2) p = pIm (tB (S.2.1 0) n) n (sM (S.2.2.2 1)) ((S.2.2.2 1).1 5).toInt p (p + 7) := by unfold pStm; rw [g2, g3, g4, g6, g7, g8, g9, g10, g13]; rfl
                                    refine e_if_eq (tgt := 133) dX5_readStatement_124 (by decide) (fun i124 => ?_) (fun i124 => ?_)
                                    · first | exact absurd i124 (by decide) | exact absurd rfl i124
                                    · refine e_aload_n dX5_readStatement_127 rfl rfl ?_
                                      refine e_iload_n dX5_readStatement_128 rfl rfl ?_
                                      refine e_invV (mcY := 0) (msY := 0) (ct_X5_readImpulse (p := p + 7) hO hd h13) vX5_readImpulse wM_X5_131 (sy_at G b _ h 2 (by decide)) rfl dX5_readStatement_129 rfl rfl (Nat.le_of_ble_eq_true rfl) (Nat.le_of_ble_eq_true rfl) ?_
                                      rintro c a hc
                                      rcases hc with ⟨r0, rfl, x, rfl⟩ | ⟨r0, rfl, hf⟩
                                      · exact e_zret (ty := .boolean) rfl rfl dX5_readStatement_132 (by rw [e]; first | exact Or.inl (by exact ⟨r0, rfl, x, rfl⟩) | exact Or.inr (by exact ⟨r0, rfl, hf⟩))
                                      · exact e_zret (ty := .boolean) rfl rfl dX5_readStatement_132 (by rw [e]; first | exact Or.inl (by exact ⟨r0, rfl, x, rfl⟩) | exact Or.inr (by exact ⟨r0, rfl, hf⟩))
                                  · rw [hsk] at t13
                                    rw [hsk]
                                    have g13 : wB (tB (S.2.1 0) n) 13 p = false := by rw [← Bool.not_eq_true]; exact fun q2 => t13 (wB_iff.mp q2)
                                    refine e_if_eq (tgt := 133) dX5_readStatement_124 (by decide) (fun i124 => ?_) (fun i124 => ?_)
                                    · refine e_aload_n dX5_readStatement_133 rfl rfl ?_
                                      refine e_bipush (v := (-2)) dX5_readStatement_134 (by decide) ?_
                                      refine e_iload_n dX5_readStatement_136 rfl rfl ?_
                                      refine e_invV (mcY := 0) (msY := 0) (ct_X5_fail) vX5_fail wM_X5_72 (sy_at G b _ h 2 (by decide)) rfl dX5_readStatement_137 rfl rfl (Nat.le_of_ble_eq_true rfl) (Nat.le_of_ble_eq_true rfl) ?_
                                      rintro _ _ ⟨rfl, rfl⟩
                                      exact e_zret (ty := .boolean) rfl rfl dX5_readStatement_140 (by unfold pStm; rw [g2, g3, g4, g6, g7, g8, g9, g10, g13]; exact oP_no rfl (by decide) (FR_of G b S h _ _ _ _ 2 (by decide +kernel)))
                                    · first | exact absurd i124 (by decide) | exact absurd rfl i124
                                · first | exact absurd i110 (by decide) | exact absurd rfl i110
                            · first | exact absurd i96 (by decide) | exact absurd rfl i96
                        · first | exact absurd i82 (by decide) | exact absurd rfl i82
                    · first | exact absurd i67 (by decide) | exact absurd rfl i67
                · first | exact absurd i53 (by decide) | exact absurd rfl i53
            · first | exact absurd i39 (by decide) | exact absurd rfl i39
        · first | exact absurd i25 (by decide) | exact absurd rfl i25
    · first | exact absurd i11 (by decide) | exact absurd rfl i11
end RD6
