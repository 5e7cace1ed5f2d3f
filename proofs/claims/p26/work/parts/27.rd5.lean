/-! the reader: more statements -/
theorem lim2 (τ : CS) (k : Nat) (u : Int32) : cs_A τ 4 (ev_u ((cs_A τ 4 (ev_u (τ.2.2 4) k 0)).2.2 4) k u) = cs_A τ 4 (ev_u (τ.2.2 4) k u) := by
  have e : (cs_A τ 4 (ev_u (τ.2.2 4) k 0)).2.2 4 = ev_u (τ.2.2 4) k 0 := by
    show ev_u τ.2.2 4 (ev_u (τ.2.2 4) k 0) 4 = _
    exact ev_u_self _ _ _
  rw [e]
  congr 1
  funext i
  unfold ev_u
  split <;> rfl
section RD5
variable {G : ev_G} {l : Launch} {M : ev_M} {J : ev_K} {pc k m idx : Nat} {L : List (Option Value)} {st : List Value} {b n p q j : Nat} {S : SS} {h : ev_H} {x y z v : Int32} {lo hi : Int}
theorem rS_d (S : SS) (p : Nat) (v : Int32) : ss_I (rS S p v) 9 1 = rS (ss_I S 9 1) p v := by
  unfold rS ss_I
  congr 1
  funext j
  unfold ev_u
  by_cases c : j = 9
  · subst c; rfl
  · simp [c]
theorem rS_p7 (hw : Cond.fieldLink M.1.cls idx "SpringChain$SetupReader" "isDampTold" "Z" ∈ ev_ws) (hd : decode M.2.1 pc = .ok (.putfield idx, 3)) (k0 : ev_V G l M J (pc + 3) L st (sy G b (rS (ss_I S 9 1) p v) h) k m) : ev_V G l M J pc L (.int 1 :: .ref (b + 2) :: st) (sy G b (rS S p v) h) k m := sy_p5_7_1 hw hd (by rw [rS_d]; exact k0)
set_option maxRecDepth 20000 in
theorem ct_X5_isFirst1 (v0 : 0 ≤ v.toInt) (v1 : v.toInt < 12) : ev_Ct G l mX5_isFirst 1 0 0 [.ref (b + 2), .ref (b + 3), .int (Int32.ofNat q)] (sy G b (rS S p v) h) (fun c a => (S.2.1 1 v.toInt.toNat = 0 ∧ c = some (.int 1) ∧ a = sy G b (rS (ss_R S 1 (ev_u (S.2.1 1) v.toInt.toNat 1)) p v) h) ∨ (S.2.1 1 v.toInt.toNat ≠ 0 ∧ c = some (.int 0) ∧ FR G b S h 4 q a)) (fun _ _ => False) := by
  refine ev_Ct.of (by decide +kernel) (Nat.le_of_ble_eq_true rfl) ?_
  have w12 : (12 : Int32).toInt = 12 := by decide +kernel
  refine e_aload_n dX5_isFirst_0 rfl rfl ?_
  refine rS_g5 wF_X5_79 dX5_isFirst_1 ?_
  refine e_if_lt (tgt := 16) dX5_isFirst_4 (by decide) (fun i4 => ?_) (fun i4 => ?_)
  · omega
  · refine e_aload_n dX5_isFirst_7 rfl rfl ?_
    refine rS_g5 wF_X5_79 dX5_isFirst_8 ?_
    refine e_aload_n dX5_isFirst_11 rfl rfl ?_
    refine sy_n3 (v := 12) (by decide +kernel) dX5_isFirst_12 ?_
    refine e_icmp_lt (tgt := 18) dX5_isFirst_13 (by decide) (fun i13 => ?_) (fun i13 => ?_)
    · refine e_aload_n dX5_isFirst_18 rfl rfl ?_
      refine e_aload_n dX5_isFirst_19 rfl rfl ?_
      refine rS_g5 wF_X5_79 dX5_isFirst_20 ?_
      refine sy_l3 (by omega) (by omega) dX5_isFirst_23 ?_
      refine e_if_eq (tgt := 35) dX5_isFirst_24 (by decide) (fun i24 => ?_) (fun i24 => ?_)
      · refine e_aload_n dX5_isFirst_35 rfl rfl ?_
        refine e_aload_n dX5_isFirst_36 rfl rfl ?_
        refine rS_g5 wF_X5_79 dX5_isFirst_37 ?_
        refine e_iconst (v := 1) dX5_isFirst_40 (by decide) ?_
        refine sy_s3 (by omega) (by omega) dX5_isFirst_41 ?_
        refine e_iconst (v := 1) dX5_isFirst_42 (by decide) ?_
        exact e_zret (ty := .boolean) rfl rfl dX5_isFirst_43 (by exact Or.inl ⟨i24, rfl, rfl⟩)
      · refine e_aload_n dX5_isFirst_27 rfl rfl ?_
        refine e_bipush (v := (-4)) dX5_isFirst_28 (by decide) ?_
        refine e_iload_n dX5_isFirst_30 rfl rfl ?_
        refine e_invV (mcY := 0) (msY := 0) (ct_X5_fail) vX5_fail wM_X5_72 (sy_at G b _ h 2 (by decide)) rfl dX5_isFirst_31 rfl rfl (Nat.le_of_ble_eq_true rfl) (Nat.le_of_ble_eq_true rfl) ?_
        rintro _ _ ⟨rfl, rfl⟩
        exact e_zret (ty := .boolean) rfl rfl dX5_isFirst_34 (by exact Or.inr ⟨i24, rfl, FR_of G b S h _ _ _ _ 4 (by decide +kernel)⟩)
    · omega
set_option maxRecDepth 20000 in
theorem ct_X5_isFirst2 (v0 : 0 ≤ v.toInt) (v1 : v.toInt < 12) : ev_Ct G l mX5_isFirst 1 0 0 [.ref (b + 2), .ref (b + 4), .int (Int32.ofNat q)] (sy G b (rS S p v) h) (fun c a => (S.2.1 2 v.toInt.toNat = 0 ∧ c = some (.int 1) ∧ a = sy G b (rS (ss_R S 2 (ev_u (S.2.1 2) v.toInt.toNat 1)) p v) h) ∨ (S.2.1 2 v.toInt.toNat ≠ 0 ∧ c = some (.int 0) ∧ FR G b S h 4 q a)) (fun _ _ => False) := by
  refine ev_Ct.of (by decide +kernel) (Nat.le_of_ble_eq_true rfl) ?_
  have w12 : (12 : Int32).toInt = 12 := by decide +kernel
  refine e_aload_n dX5_isFirst_0 rfl rfl ?_
  refine rS_g5 wF_X5_79 dX5_isFirst_1 ?_
  refine e_if_lt (tgt := 16) dX5_isFirst_4 (by decide) (fun i4 => ?_) (fun i4 => ?_)
  · omega
  · refine e_aload_n dX5_isFirst_7 rfl rfl ?_
    refine rS_g5 wF_X5_79 dX5_isFirst_8 ?_
    refine e_aload_n dX5_isFirst_11 rfl rfl ?_
    refine sy_n4 (v := 12) (by decide +kernel) dX5_isFirst_12 ?_
    refine e_icmp_lt (tgt := 18) dX5_isFirst_13 (by decide) (fun i13 => ?_) (fun i13 => ?_)
    · refine e_aload_n dX5_isFirst_18 rfl rfl ?_
      refine e_aload_n dX5_isFirst_19 rfl rfl ?_
      refine rS_g5 wF_X5_79 dX5_isFirst_20 ?_
      refine sy_l4 (by omega) (by omega) dX5_isFirst_23 ?_
      refine e_if_eq (tgt := 35) dX5_isFirst_24 (by decide) (fun i24 => ?_) (fun i24 => ?_)
      · refine e_aload_n dX5_isFirst_35 rfl rfl ?_
        refine e_aload_n dX5_isFirst_36 rfl rfl ?_
        refine rS_g5 wF_X5_79 dX5_isFirst_37 ?_
        refine e_iconst (v := 1) dX5_isFirst_40 (by decide) ?_
        refine sy_s4 (by omega) (by omega) dX5_isFirst_41 ?_
        refine e_iconst (v := 1) dX5_isFirst_42 (by decide) ?_
        exact e_zret (ty := .boolean) rfl rfl dX5_isFirst_43 (by exact Or.inl ⟨i24, rfl, rfl⟩)
      · refine e_aload_n dX5_isFirst_27 rfl rfl ?_
        refine e_bipush (v := (-4)) dX5_isFirst_28 (by decide) ?_
        refine e_iload_n dX5_isFirst_30 rfl rfl ?_
        refine e_invV (mcY := 0) (msY := 0) (ct_X5_fail) vX5_fail wM_X5_72 (sy_at G b _ h 2 (by decide)) rfl dX5_isFirst_31 rfl rfl (Nat.le_of_ble_eq_true rfl) (Nat.le_of_ble_eq_true rfl) ?_
        rintro _ _ ⟨rfl, rfl⟩
        exact e_zret (ty := .boolean) rfl rfl dX5_isFirst_34 (by exact Or.inr ⟨i24, rfl, FR_of G b S h _ _ _ _ 4 (by decide +kernel)⟩)
    · omega
set_option maxRecDepth 20000 in
theorem ct_X5_readSpring (hO : rOk b S n) (hd : sInv (S.2.2.2 1)) (hp : p ≤ n) : ev_Ct G l mX5_readSpring 6 0 0 [.ref (b + 2)] (sy G b (rS S p v) h) (fun c a => oP G b S h (pSp (tB (S.2.1 0) n) n (sM (S.2.2.2 1)) p) c a) (fun _ _ => False) := by
  refine ev_Ct.of (by decide +kernel) (Nat.le_of_ble_eq_true rfl) ?_
  have hM : 1 ≤ sM (S.2.2.2 1) ∧ sM (S.2.2.2 1) ≤ 12 := hd.1
  have hM3 : sM (S.2.2.2 1) = ((S.2.2.2 1).1 0).toInt := rfl
  have z0 := ar_0
  have z1 := ar_1
  have hn2 := hO.2.1
  have hM4 : ((S.2.2.2 1).1 0 - 1).toInt = sM (S.2.2.2 1) - 1 := by rw [ar_sub (by omega) (by omega)]; omega
  have w999 : (999 : Int32).toInt = 999 := by decide +kernel
  have w99999 : (99999 : Int32).toInt = 99999 := by decide +kernel
  refine e_aload_n dX5_readSpring_0 rfl rfl ?_
  refine e_iconst (v := 0) dX5_readSpring_1 (by decide) ?_
  refine e_aload_n dX5_readSpring_2 rfl rfl ?_
  refine rS_g6 hO wF_X5_35 dX5_readSpring_3 ?_
  refine ev_as (sy_as G b _ h 1 (by decide)) (ch_g0_0 (c := sc b 1) wF_X5_134 dX5_readSpring_6 (ev_as (sy_as G b _ h 1 (by decide)).symm ?_))
  refine e_invV (mcY := 0) (msY := 0) (ct_rN hO hp (lo := 0) (hi := (sM (S.2.2.2 1))) z0 rfl (by omega)) vX5_readNumber wM_X5_76 (sy_at G b _ h 2 (by decide)) rfl dX5_readSpring_9 rfl rfl (Nat.le_of_ble_eq_true rfl) (Nat.le_of_ble_eq_true rfl) ?_
  rintro c a hc
  rcases hc with ⟨r0, rfl, rfl⟩ | ⟨r0, rfl, hf⟩
  · have fr0 := pN_0 (lo := 0) (hi := (sM (S.2.2.2 1))) tbB hp r0
    have g0 : (Int32.ofInt (pN (tB (S.2.1 0) n) n 0 (sM (S.2.2.2 1)) p).2.2).toInt = (pN (tB (S.2.1 0) n) n 0 (sM (S.2.2.2 1)) p).2.2 := ar_ofI (by omega) (by omega)
    generalize hA : (pN (tB (S.2.1 0) n) n 0 (sM (S.2.2.2 1)) p) = A at *
    refine e_if_ne (tgt := 17) dX5_readSpring_12 (by decide) (fun i12 => ?_) (fun i12 => ?_)
    · refine e_aload_n dX5_readSpring_17 rfl rfl ?_
      refine rS_g5 wF_X5_79 dX5_readSpring_18 ?_
      refine e_istore_n dX5_readSpring_21 rfl (Nat.le_of_ble_eq_true rfl) ?_
      refine e_aload_n dX5_readSpring_22 rfl rfl ?_
      refine e_iconst (v := 0) dX5_readSpring_23 (by decide) ?_
      refine e_sipush (v := 999) dX5_readSpring_24 (by decide) ?_
      refine e_invV (mcY := 0) (msY := 0) (ct_rN hO fr0.2.1 (lo := 0) (hi := 999) z0 w999 (by omega)) vX5_readNumber wM_X5_76 (sy_at G b _ h 2 (by decide)) rfl dX5_readSpring_27 rfl rfl (Nat.le_of_ble_eq_true rfl) (Nat.le_of_ble_eq_true rfl) ?_
      rintro c a hc
      rcases hc with ⟨r1, rfl, rfl⟩ | ⟨r1, rfl, hf⟩
      · have fr1 := pN_0 (lo := 0) (hi := 999) tbB fr0.2.1 r1
        generalize hC : pN (tB (S.2.1 0) n) n 0 999 A.2.1 = C at *
        refine e_if_ne (tgt := 35) dX5_readSpring_30 (by decide) (fun i30 => ?_) (fun i30 => ?_)
        · refine e_aload_n dX5_readSpring_35 rfl rfl ?_
          refine rS_g6 hO wF_X5_35 dX5_readSpring_36 ?_
          refine e_iload_n dX5_readSpring_39 rfl rfl ?_
          refine e_aload_n dX5_readSpring_40 rfl rfl ?_
          refine rS_g5 wF_X5_79 dX5_readSpring_41 ?_
          refine ev_as (sy_as G b _ h 1 (by decide)) ?_
          refine e_invV (mcY := 0) (msY := 0) (ct_X0_setStiffness (c := sc b 1) (σ := S.2.2.2 1) (by omega) (by omega) hd.1) vX0_setStiffness wM_X5_143 (ch_at G (sc b 1) _ (sy G b _ h) 0 (by decide)) rfl dX5_readSpring_44 rfl rfl (Nat.le_of_ble_eq_true rfl) (Nat.le_of_ble_eq_true rfl) ?_
          rintro _ _ ⟨rfl, rfl⟩
          refine ev_as (sy_chset G b _ h 1 _ (by decide)) ?_
          rw [rS_C]
          refine e_aload_n dX5_readSpring_47 rfl rfl ?_
          refine rS_g6 hO wF_X5_35 dX5_readSpring_48 ?_
          refine e_iload_n dX5_readSpring_51 rfl rfl ?_
          refine e_iconst (v := 0) dX5_readSpring_52 (by decide) ?_
          refine ev_as (sy_as G b _ h 1 (by decide)) ?_
          refine e_invV (mcY := 0) (msY := 0) (ct_X0_setLimit (c := sc b 1) (σ := cs_A (S.2.2.2 1) 3 (ev_u ((S.2.2.2 1).2.2 3) (Int32.ofInt A.2.2).toInt.toNat (Int32.ofInt C.2.2))) (by omega) (by show (Int32.ofInt A.2.2).toInt ≤ sM (S.2.2.2 1); omega) hd.1) vX0_setLimit wM_X5_146 (ch_at G (sc b 1) _ (sy G b _ h) 0 (by decide)) rfl dX5_readSpring_53 rfl rfl (Nat.le_of_ble_eq_true rfl) (Nat.le_of_ble_eq_true rfl) ?_
          rintro _ _ ⟨rfl, rfl⟩
          refine ev_as (sy_chset G b _ h 1 _ (by decide)) ?_
          rw [rS_C]
          rw [ss_C_C]
          refine e_aload_n dX5_readSpring_56 rfl rfl ?_
          refine e_ldcS (j := 5) (tx := "limit") dX5_readSpring_57 (by decide +kernel) ?_
          refine e_invV (mcY := 0) (msY := 0) (ct_X5_takeWord (S := ss_C S 1 _) (j := 5) hO fr1.2.1 (by decide)) vX5_takeWord wM_X5_68 (sy_at G b _ h 2 (by decide)) rfl dX5_readSpring_59 rfl rfl (Nat.le_of_ble_eq_true rfl) (Nat.le_of_ble_eq_true rfl) ?_
          rintro c a hc
          rcases hc with ⟨t0, rfl, rfl⟩ | ⟨t0, rfl, rfl⟩
          · have g5 : wB (tB (S.2.1 0) n) 5 (sk (tB (S.2.1 0) n) n C.2.1) = true := wB_iff.mpr t0
            have h5 := wAt_n tbB t0 (by decide)
            change sk (tB (S.2.1 0) n) n C.2.1 + 5 ≤ n at h5
            refine e_if_eq (tgt := 89) dX5_readSpring_62 (by decide) (fun i62 => ?_) (fun i62 => ?_)
            · first | exact absurd i62 (by decide) | exact absurd rfl i62
            · refine e_aload_n dX5_readSpring_65 rfl rfl ?_
              refine e_iconst (v := 0) dX5_readSpring_66 (by decide) ?_
              refine e_ldc dX5_readSpring_67 wK_X5_151 ?_
              refine e_invV (mcY := 0) (msY := 0) (ct_rN (S := ss_C S 1 _) (p := sk (tB (S.2.1 0) n) n C.2.1 + 5) hO h5 (lo := 0) (hi := 99999) z0 w99999 (by omega)) vX5_readNumber wM_X5_76 (sy_at G b _ h 2 (by decide)) rfl dX5_readSpring_69 rfl rfl (Nat.le_of_ble_eq_true rfl) (Nat.le_of_ble_eq_true rfl) ?_
              rintro c a hc
              rcases hc with ⟨r2, rfl, rfl⟩ | ⟨r2, rfl, hf⟩
              · refine e_if_ne (tgt := 77) dX5_readSpring_72 (by decide) (fun i72 => ?_) (fun i72 => ?_)
                · refine e_aload_n dX5_readSpring_77 rfl rfl ?_
                  refine rS_g6 hO wF_X5_35 dX5_readSpring_78 ?_
                  refine e_iload_n dX5_readSpring_81 rfl rfl ?_
                  refine e_aload_n dX5_readSpring_82 rfl rfl ?_
                  refine rS_g5 wF_X5_79 dX5_readSpring_83 ?_
                  refine ev_as (sy_as G b _ h 1 (by decide)) ?_
                  refine e_invV (mcY := 0) (msY := 0) (ct_X0_setLimit (c := sc b 1) (σ := cs_A (cs_A (S.2.2.2 1) 3 (ev_u ((S.2.2.2 1).2.2 3) (Int32.ofInt A.2.2).toInt.toNat (Int32.ofInt C.2.2))) 4 (ev_u ((cs_A (S.2.2.2 1) 3 (ev_u ((S.2.2.2 1).2.2 3) (Int32.ofInt A.2.2).toInt.toNat (Int32.ofInt C.2.2))).2.2 4) (Int32.ofInt A.2.2).toInt.toNat 0)) (by omega) (by show (Int32.ofInt A.2.2).toInt ≤ sM (S.2.2.2 1); omega) hd.1) vX0_setLimit wM_X5_146 (ch_at G (sc b 1) _ (sy G b _ h) 0 (by decide)) rfl dX5_readSpring_86 rfl rfl (Nat.le_of_ble_eq_true rfl) (Nat.le_of_ble_eq_true rfl) ?_
                  rintro _ _ ⟨rfl, rfl⟩
                  refine ev_as (sy_chset G b _ h 1 _ (by decide)) ?_
                  rw [rS_C]
                  rw [ss_C_C, cs_A_A]
                  refine e_iconst (v := 1) dX5_readSpring_89 (by decide) ?_
                  exact e_zret (ty := .boolean) rfl rfl dX5_readSpring_90 (by
                        unfold pSp; rw [hA]
                        first
                          | exact oP_ok _ ((pb_ok r0).trans (by rw [hC]; exact (pb_ok r1).trans (by rw [g5, cond_true]; exact pb_ok r2))) (by rw [lim2, g0]; rfl)
                          | exact oP_ok _ ((pb_ok r0).trans (by rw [hC]; exact (pb_ok r1).trans (by rw [g5]; rfl))) (by rw [g0]; rfl))
                · first | exact absurd i72 (by decide) | exact absurd rfl i72
              · refine e_if_ne (tgt := 77) dX5_readSpring_72 (by decide) (fun i72 => ?_) (fun i72 => ?_)
                · first | exact absurd i72 (by decide) | exact absurd rfl i72
                · refine e_iconst (v := 0) dX5_readSpring_75 (by decide) ?_
                  exact e_zret (ty := .boolean) rfl rfl dX5_readSpring_76 (by unfold pSp; rw [hA]; exact oP_no ((pb_ok r0).trans (by rw [hC]; exact (pb_ok r1).trans (by rw [g5, cond_true]; exact pb_no r2))) r2 (FR_C hf))
          · have g5 : wB (tB (S.2.1 0) n) 5 (sk (tB (S.2.1 0) n) n C.2.1) = false := by rw [← Bool.not_eq_true]; exact fun q2 => t0 (wB_iff.mp q2)
            refine e_if_eq (tgt := 89) dX5_readSpring_62 (by decide) (fun i62 => ?_) (fun i62 => ?_)
            · refine e_iconst (v := 1) dX5_readSpring_89 (by decide) ?_
              exact e_zret (ty := .boolean) rfl rfl dX5_readSpring_90 (by
                    unfold pSp; rw [hA]
                    first
                      | exact oP_ok _ ((pb_ok r0).trans (by rw [hC]; exact (pb_ok r1).trans (by rw [g5, cond_true]; exact pb_ok r2))) (by rw [lim2, g0]; rfl)
                      | exact oP_ok _ ((pb_ok r0).trans (by rw [hC]; exact (pb_ok r1).trans (by rw [g5]; rfl))) (by rw [g0]; rfl))
            · first | exact absurd i62 (by decide) | exact absurd rfl i62
        · first | exact absurd i30 (by decide) | exact absurd rfl i30
      · generalize hC : pN (tB (S.2.1 0) n) n 0 999 A.2.1 = C at *
        refine e_if_ne (tgt := 35) dX5_readSpring_30 (by decide) (fun i30 => ?_) (fun i30 => ?_)
        · first | exact absurd i30 (by decide) | exact absurd rfl i30
        · refine e_iconst (v := 0) dX5_readSpring_33 (by decide) ?_
          exact e_zret (ty := .boolean) rfl rfl dX5_readSpring_34 (by unfold pSp; rw [hA]; exact oP_no ((pb_ok r0).trans (by rw [hC]; exact pb_no r1)) r1 hf)
    · first | exact absurd i12 (by decide) | exact absurd rfl i12
  · refine e_if_ne (tgt := 17) dX5_readSpring_12 (by decide) (fun i12 => ?_) (fun i12 => ?_)
    · first | exact absurd i12 (by decide) | exact absurd rfl i12
    · refine e_iconst (v := 0) dX5_readSpring_15 (by decide) ?_
      exact e_zret (ty := .boolean) rfl rfl dX5_readSpring_16 (by unfold pSp; exact oP_no (pb_no r0) r0 hf)
set_option maxRecDepth 20000 in
theorem ct_X5_readDamping (hO : rOk b S n) (hd : sInv (S.2.2.2 1)) (hp : p ≤ n) : ev_Ct G l mX5_readDamping 5 0 0 [.ref (b + 2), .int (Int32.ofNat q)] (sy G b (rS S p v) h) (fun c a => oP G b S h (pDm (tB (S.2.1 0) n) n (S.1 9) q p) c a) (fun _ _ => False) := by
  refine ev_Ct.of (by decide +kernel) (Nat.le_of_ble_eq_true rfl) ?_
  have hM : 1 ≤ sM (S.2.2.2 1) ∧ sM (S.2.2.2 1) ≤ 12 := hd.1
  have hM3 : sM (S.2.2.2 1) = ((S.2.2.2 1).1 0).toInt := rfl
  have z0 := ar_0
  have z1 := ar_1
  have hn2 := hO.2.1
  have hM4 : ((S.2.2.2 1).1 0 - 1).toInt = sM (S.2.2.2 1) - 1 := by rw [ar_sub (by omega) (by omega)]; omega
  have w999 : (999 : Int32).toInt = 999 := by decide +kernel
  refine e_aload_n dX5_readDamping_0 rfl rfl ?_
  refine rS_g7 wF_X5_45 dX5_readDamping_1 ?_
  refine e_if_eq (tgt := 15) dX5_readDamping_4 (by decide) (fun i4 => ?_) (fun i4 => ?_)
  · refine e_aload_n dX5_readDamping_15 rfl rfl ?_
    refine e_iconst (v := 1) dX5_readDamping_16 (by decide) ?_
    refine rS_p7 wF_X5_45 dX5_readDamping_17 ?_
    refine e_aload_n dX5_readDamping_20 rfl rfl ?_
    refine e_iconst (v := 0) dX5_readDamping_21 (by decide) ?_
    refine e_sipush (v := 999) dX5_readDamping_22 (by decide) ?_
    refine e_invV (mcY := 0) (msY := 0) (ct_rN (S := ss_I S 9 1) hO hp (lo := 0) (hi := 999) z0 w999 (by omega)) vX5_readNumber wM_X5_76 (sy_at G b _ h 2 (by decide)) rfl dX5_readDamping_25 rfl rfl (Nat.le_of_ble_eq_true rfl) (Nat.le_of_ble_eq_true rfl) ?_
    rintro c a hc
    rcases hc with ⟨r0, rfl, rfl⟩ | ⟨r0, rfl, hf⟩
    · refine e_if_ne (tgt := 33) dX5_readDamping_28 (by decide) (fun i28 => ?_) (fun i28 => ?_)
      · refine e_aload_n dX5_readDamping_33 rfl rfl ?_
        refine rS_g6 hO wF_X5_35 dX5_readDamping_34 ?_
        refine e_aload_n dX5_readDamping_37 rfl rfl ?_
        refine rS_g5 wF_X5_79 dX5_readDamping_38 ?_
        refine ev_as (sy_as G b _ h 1 (by decide)) (ch_p0_2 (c := sc b 1) wF_X5_155 dX5_readDamping_41 (ev_as (sy_chset G b _ h 1 _ (by decide)) ?_))
        refine e_iconst (v := 1) dX5_readDamping_44 (by decide) ?_
        exact e_zret (ty := .boolean) rfl rfl dX5_readDamping_45 (by unfold pDm; rw [if_pos i4]; exact oP_ok _ (pb_ok r0) rfl)
      · first | exact absurd i28 (by decide) | exact absurd rfl i28
    · refine e_if_ne (tgt := 33) dX5_readDamping_28 (by decide) (fun i28 => ?_) (fun i28 => ?_)
      · first | exact absurd i28 (by decide) | exact absurd rfl i28
      · refine e_iconst (v := 0) dX5_readDamping_31 (by decide) ?_
        exact e_zret (ty := .boolean) rfl rfl dX5_readDamping_32 (by unfold pDm; rw [if_pos i4]; exact oP_no (pb_no r0) r0 (FR_I (by decide) hf))
  · refine e_aload_n dX5_readDamping_7 rfl rfl ?_
    refine e_bipush (v := (-2)) dX5_readDamping_8 (by decide) ?_
    refine e_iload_n dX5_readDamping_10 rfl rfl ?_
    refine e_invV (mcY := 0) (msY := 0) (ct_X5_fail) vX5_fail wM_X5_72 (sy_at G b _ h 2 (by decide)) rfl dX5_readDamping_11 rfl rfl (Nat.le_of_ble_eq_true rfl) (Nat.le_of_ble_eq_true rfl) ?_
    rintro _ _ ⟨rfl, rfl⟩
    exact e_zret (ty := .boolean) rfl rfl dX5_readDamping_14 (by unfold pDm; rw [if_neg i4]; exact oP_no rfl (by decide) (FR_of G b S h _ _ _ _ 2 (by decide +kernel)))
set_option maxRecDepth 20000 in
theorem ct_X5_readPluck (hO : rOk b S n) (hd : sInv (S.2.2.2 1)) (hp : p ≤ n) : ev_Ct G l mX5_readPluck 6 0 0 [.ref (b + 2)] (sy G b (rS S p v) h) (fun c a => oP G b S h (pPl (tB (S.2.1 0) n) n (sM (S.2.2.2 1)) (S.2.1 1) (sk (tB (S.2.1 0) n) n p)) c a) (fun _ _ => False) := by
  refine ev_Ct.of (by decide +kernel) (Nat.le_of_ble_eq_true rfl) ?_
  have hM : 1 ≤ sM (S.2.2.2 1) ∧ sM (S.2.2.2 1) ≤ 12 := hd.1
  have hM3 : sM (S.2.2.2 1) = ((S.2.2.2 1).1 0).toInt := rfl
  have z0 := ar_0
  have z1 := ar_1
  have hn2 := hO.2.1
  have hM4 : ((S.2.2.2 1).1 0 - 1).toInt = sM (S.2.2.2 1) - 1 := by rw [ar_sub (by omega) (by omega)]; omega
  have w10000 : (10000 : Int32).toInt = 10000 := by decide +kernel
  have hs1 := sk_rng (tB (S.2.1 0) n) hp
  refine e_aload_n dX5_readPluck_0 rfl rfl ?_
  refine e_invV (mcY := 0) (msY := 0) (ct_X5_skipSpaces hO hp) vX5_skipSpaces wM_X5_63 (sy_at G b _ h 2 (by decide)) rfl dX5_readPluck_1 rfl rfl (Nat.le_of_ble_eq_true rfl) (Nat.le_of_ble_eq_true rfl) ?_
  rintro _ _ ⟨rfl, rfl⟩
  refine e_aload_n dX5_readPluck_4 rfl rfl ?_
  refine rS_g4 wF_X5_39 dX5_readPluck_5 ?_
  refine e_istore_n dX5_readPluck_8 rfl (Nat.le_of_ble_eq_true rfl) ?_
  refine e_aload_n dX5_readPluck_9 rfl rfl ?_
  refine e_iconst (v := 0) dX5_readPluck_10 (by decide) ?_
  refine e_aload_n dX5_readPluck_11 rfl rfl ?_
  refine rS_g6 hO wF_X5_35 dX5_readPluck_12 ?_
  refine ev_as (sy_as G b _ h 1 (by decide)) (ch_g0_0 (c := sc b 1) wF_X5_134 dX5_readPluck_15 (ev_as (sy_as G b _ h 1 (by decide)).symm ?_))
  refine e_iconst (v := 1) dX5_readPluck_18 (by decide) ?_
  refine e_isub dX5_readPluck_19 ?_
  refine e_invV (mcY := 0) (msY := 0) (ct_rN hO hs1.2 (lo := 0) (hi := sM (S.2.2.2 1) - 1) z0 hM4 (by omega)) vX5_readNumber wM_X5_76 (sy_at G b _ h 2 (by decide)) rfl dX5_readPluck_20 rfl rfl (Nat.le_of_ble_eq_true rfl) (Nat.le_of_ble_eq_true rfl) ?_
  rintro c a hc
  rcases hc with ⟨r0, rfl, rfl⟩ | ⟨r0, rfl, hf⟩
  · have f0 := pN_0 (lo := 0) (hi := sM (S.2.2.2 1) - 1) tbB hs1.2 r0
    have g0 : (Int32.ofInt (pN (tB (S.2.1 0) n) n 0 (sM (S.2.2.2 1) - 1) (sk (tB (S.2.1 0) n) n p)).2.2).toInt = (pN (tB (S.2.1 0) n) n 0 (sM (S.2.2.2 1) - 1) (sk (tB (S.2.1 0) n) n p)).2.2 := ar_ofI (by omega) (by omega)
    generalize hA : (pN (tB (S.2.1 0) n) n 0 (sM (S.2.2.2 1) - 1) (sk (tB (S.2.1 0) n) n p)) = A at *
    refine e_if_eq (tgt := 38) dX5_readPluck_23 (by decide) (fun i23 => ?_) (fun i23 => ?_)
    · first | exact absurd i23 (by decide) | exact absurd rfl i23
    · refine e_aload_n dX5_readPluck_26 rfl rfl ?_
      refine e_aload_n dX5_readPluck_27 rfl rfl ?_
      refine rS_g8 wF_X5_9 dX5_readPluck_28 ?_
      refine e_iload_n dX5_readPluck_31 rfl rfl ?_
      refine e_invV (mcY := 0) (msY := 0) (ct_X5_isFirst1 (q := sk (tB (S.2.1 0) n) n p) (by omega) (by omega)) vX5_isFirst wM_X5_158 (sy_at G b _ h 2 (by decide)) rfl dX5_readPluck_32 rfl rfl (Nat.le_of_ble_eq_true rfl) (Nat.le_of_ble_eq_true rfl) ?_
      rintro c a hc
      rcases hc with ⟨d0, rfl, rfl⟩ | ⟨d0, rfl, hf⟩
      · rw [g0] at d0
        refine e_if_ne (tgt := 40) dX5_readPluck_35 (by decide) (fun i35 => ?_) (fun i35 => ?_)
        · refine e_aload_n dX5_readPluck_40 rfl rfl ?_
          refine rS_g5 wF_X5_79 dX5_readPluck_41 ?_
          refine e_istore_n dX5_readPluck_44 rfl (Nat.le_of_ble_eq_true rfl) ?_
          refine e_aload_n dX5_readPluck_45 rfl rfl ?_
          refine e_sipush (v := 10000) dX5_readPluck_46 (by decide) ?_
          refine e_invV (mcY := 0) (msY := 0) (ct_rG (S := ss_R S 1 _) hO f0.2.1 w10000 (by decide) (by decide)) vX5_readSigned wM_X5_162 (sy_at G b _ h 2 (by decide)) rfl dX5_readPluck_49 rfl rfl (Nat.le_of_ble_eq_true rfl) (Nat.le_of_ble_eq_true rfl) ?_
          rintro c a hc
          rcases hc with ⟨r1, rfl, rfl⟩ | ⟨r1, rfl, hf⟩
          · refine e_if_ne (tgt := 57) dX5_readPluck_52 (by decide) (fun i52 => ?_) (fun i52 => ?_)
            · refine e_aload_n dX5_readPluck_57 rfl rfl ?_
              refine rS_g6 hO wF_X5_35 dX5_readPluck_58 ?_
              refine e_iload_n dX5_readPluck_61 rfl rfl ?_
              refine e_aload_n dX5_readPluck_62 rfl rfl ?_
              refine rS_g5 wF_X5_79 dX5_readPluck_63 ?_
              refine ev_as (sy_as G b _ h 1 (by decide)) ?_
              refine e_invV (mcY := 0) (msY := 0) (ct_X0_displace (c := sc b 1) (σ := S.2.2.2 1) (by omega) (by omega) hd.1) vX0_displace wM_X5_165 (ch_at G (sc b 1) _ (sy G b _ h) 0 (by decide)) rfl dX5_readPluck_66 rfl rfl (Nat.le_of_ble_eq_true rfl) (Nat.le_of_ble_eq_true rfl) ?_
              rintro _ _ ⟨rfl, rfl⟩
              refine ev_as (sy_chset G b _ h 1 _ (by decide)) ?_
              rw [rS_C]
              refine e_iconst (v := 1) dX5_readPluck_69 (by decide) ?_
              exact e_zret (ty := .boolean) rfl rfl dX5_readPluck_70 (by
                    unfold pPl
                    first
                      | exact oP_no (pb_no r0) r0 hf
                      | (rw [hA]; exact oP_no ((pb_ok r0).trans (if_neg d0)) (by decide) (by rw [sk_sk _ hp]; exact hf))
                      | (rw [hA]; exact oP_no ((pb_ok r0).trans ((if_pos d0).trans (pb_no r1))) r1 (FR_R (by decide) hf))
                      | (rw [hA]; exact oP_ok _ ((pb_ok r0).trans ((if_pos d0).trans (pb_ok r1))) (by rw [g0]; rfl)))
            · first | exact absurd i52 (by decide) | exact absurd rfl i52
          · refine e_if_ne (tgt := 57) dX5_readPluck_52 (by decide) (fun i52 => ?_) (fun i52 => ?_)
            · first | exact absurd i52 (by decide) | exact absurd rfl i52
            · refine e_iconst (v := 0) dX5_readPluck_55 (by decide) ?_
              exact e_zret (ty := .boolean) rfl rfl dX5_readPluck_56 (by
                    unfold pPl
                    first
                      | exact oP_no (pb_no r0) r0 hf
                      | (rw [hA]; exact oP_no ((pb_ok r0).trans (if_neg d0)) (by decide) (by rw [sk_sk _ hp]; exact hf))
                      | (rw [hA]; exact oP_no ((pb_ok r0).trans ((if_pos d0).trans (pb_no r1))) r1 (FR_R (by decide) hf))
                      | (rw [hA]; exact oP_ok _ ((pb_ok r0).trans ((if_pos d0).trans (pb_ok r1))) (by rw [g0]; rfl)))
        · first | exact absurd i35 (by decide) | exact absurd rfl i35
      · rw [g0] at d0
        refine e_if_ne (tgt := 40) dX5_readPluck_35 (by decide) (fun i35 => ?_) (fun i35 => ?_)
        · first | exact absurd i35 (by decide) | exact absurd rfl i35
        · refine e_iconst (v := 0) dX5_readPluck_38 (by decide) ?_
          exact e_zret (ty := .boolean) rfl rfl dX5_readPluck_39 (by
                unfold pPl
                first
                  | exact oP_no (pb_no r0) r0 hf
                  | (rw [hA]; exact oP_no ((pb_ok r0).trans (if_neg d0)) (by decide) (by rw [sk_sk _ hp]; exact hf))
                  | (rw [hA]; exact oP_no ((pb_ok r0).trans ((if_pos d0).trans (pb_no r1))) r1 (FR_R (by decide) hf))
                  | (rw [hA]; exact oP_ok _ ((pb_ok r0).trans ((if_pos d0).trans (pb_ok r1))) (by rw [g0]; rfl)))
  · refine e_if_eq (tgt := 38) dX5_readPluck_23 (by decide) (fun i23 => ?_) (fun i23 => ?_)
    · refine e_iconst (v := 0) dX5_readPluck_38 (by decide) ?_
      exact e_zret (ty := .boolean) rfl rfl dX5_readPluck_39 (by
            unfold pPl
            first
              | exact oP_no (pb_no r0) r0 hf
              | (rw [hA]; exact oP_no ((pb_ok r0).trans (if_neg d0)) (by decide) (by rw [sk_sk _ hp]; exact hf))
              | (rw [hA]; exact oP_no ((pb_ok r0).trans ((if_pos d0).trans (pb_no r1))) r1 (FR_R (by decide) hf))
              | (rw [hA]; exact oP_ok _ ((pb_ok r0).trans ((if_pos d0).trans (pb_ok r1))) (by rw [g0]; rfl)))
    · first | exact absurd i23 (by decide) | exact absurd rfl i23
set_option maxRecDepth 20000 in
theorem ct_X5_readStrike (hO : rOk b S n) (hd : sInv (S.2.2.2 1)) (hp : p ≤ n) : ev_Ct G l mX5_readStrike 6 0 0 [.ref (b + 2)] (sy G b (rS S p v) h) (fun c a => oP G b S h (pSr (tB (S.2.1 0) n) n (sM (S.2.2.2 1)) (S.2.1 2) (sk (tB (S.2.1 0) n) n p)) c a) (fun _ _ => False) := by
  refine ev_Ct.of (by decide +kernel) (Nat.le_of_ble_eq_true rfl) ?_
  have hM : 1 ≤ sM (S.2.2.2 1) ∧ sM (S.2.2.2 1) ≤ 12 := hd.1
  have hM3 : sM (S.2.2.2 1) = ((S.2.2.2 1).1 0).toInt := rfl
  have z0 := ar_0
  have z1 := ar_1
  have hn2 := hO.2.1
  have hM4 : ((S.2.2.2 1).1 0 - 1).toInt = sM (S.2.2.2 1) - 1 := by rw [ar_sub (by omega) (by omega)]; omega
  have w100000 : (100000 : Int32).toInt = 100000 := by decide +kernel
  have hs1 := sk_rng (tB (S.2.1 0) n) hp
  refine e_aload_n dX5_readStrike_0 rfl rfl ?_
  refine e_invV (mcY := 0) (msY := 0) (ct_X5_skipSpaces hO hp) vX5_skipSpaces wM_X5_63 (sy_at G b _ h 2 (by decide)) rfl dX5_readStrike_1 rfl rfl (Nat.le_of_ble_eq_true rfl) (Nat.le_of_ble_eq_true rfl) ?_
  rintro _ _ ⟨rfl, rfl⟩
  refine e_aload_n dX5_readStrike_4 rfl rfl ?_
  refine rS_g4 wF_X5_39 dX5_readStrike_5 ?_
  refine e_istore_n dX5_readStrike_8 rfl (Nat.le_of_ble_eq_true rfl) ?_
  refine e_aload_n dX5_readStrike_9 rfl rfl ?_
  refine e_iconst (v := 0) dX5_readStrike_10 (by decide) ?_
  refine e_aload_n dX5_readStrike_11 rfl rfl ?_
  refine rS_g6 hO wF_X5_35 dX5_readStrike_12 ?_
  refine ev_as (sy_as G b _ h 1 (by decide)) (ch_g0_0 (c := sc b 1) wF_X5_134 dX5_readStrike_15 (ev_as (sy_as G b _ h 1 (by decide)).symm ?_))
  refine e_iconst (v := 1) dX5_readStrike_18 (by decide) ?_
  refine e_isub dX5_readStrike_19 ?_
  refine e_invV (mcY := 0) (msY := 0) (ct_rN hO hs1.2 (lo := 0) (hi := sM (S.2.2.2 1) - 1) z0 hM4 (by omega)) vX5_readNumber wM_X5_76 (sy_at G b _ h 2 (by decide)) rfl dX5_readStrike_20 rfl rfl (Nat.le_of_ble_eq_true rfl) (Nat.le_of_ble_eq_true rfl) ?_
  rintro c a hc
  rcases hc with ⟨r0, rfl, rfl⟩ | ⟨r0, rfl, hf⟩
  · have f0 := pN_0 (lo := 0) (hi := sM (S.2.2.2 1) - 1) tbB hs1.2 r0
    have g0 : (Int32.ofInt (pN (tB (S.2.1 0) n) n 0 (sM (S.2.2.2 1) - 1) (sk (tB (S.2.1 0) n) n p)).2.2).toInt = (pN (tB (S.2.1 0) n) n 0 (sM (S.2.2.2 1) - 1) (sk (tB (S.2.1 0) n) n p)).2.2 := ar_ofI (by omega) (by omega)
    generalize hA : (pN (tB (S.2.1 0) n) n 0 (sM (S.2.2.2 1) - 1) (sk (tB (S.2.1 0) n) n p)) = A at *
    refine e_if_eq (tgt := 38) dX5_readStrike_23 (by decide) (fun i23 => ?_) (fun i23 => ?_)
    · first | exact absurd i23 (by decide) | exact absurd rfl i23
    · refine e_aload_n dX5_readStrike_26 rfl rfl ?_
      refine e_aload_n dX5_readStrike_27 rfl rfl ?_
      refine rS_g9 wF_X5_15 dX5_readStrike_28 ?_
      refine e_iload_n dX5_readStrike_31 rfl rfl ?_
      refine e_invV (mcY := 0) (msY := 0) (ct_X5_isFirst2 (q := sk (tB (S.2.1 0) n) n p) (by omega) (by omega)) vX5_isFirst wM_X5_158 (sy_at G b _ h 2 (by decide)) rfl dX5_readStrike_32 rfl rfl (Nat.le_of_ble_eq_true rfl) (Nat.le_of_ble_eq_true rfl) ?_
      rintro c a hc
      rcases hc with ⟨d0, rfl, rfl⟩ | ⟨d0, rfl, hf⟩
      · rw [g0] at d0
        refine e_if_ne (tgt := 40) dX5_readStrike_35 (by decide) (fun i35 => ?_) (fun i35 => ?_)
        · refine e_aload_n dX5_readStrike_40 rfl rfl ?_
          refine rS_g5 wF_X5_79 dX5_readStrike_41 ?_
          refine e_istore_n dX5_readStrike_44 rfl (Nat.le_of_ble_eq_true rfl) ?_
          refine e_aload_n dX5_readStrike_45 rfl rfl ?_
          refine e_ldc dX5_readStrike_46 wK_X5_168 ?_
          refine e_invV (mcY := 0) (msY := 0) (ct_rG (S := ss_R S 2 _) hO f0.2.1 w100000 (by decide) (by decide)) vX5_readSigned wM_X5_162 (sy_at G b _ h 2 (by decide)) rfl dX5_readStrike_48 rfl rfl (Nat.le_of_ble_eq_true rfl) (Nat.le_of_ble_eq_true rfl) ?_
          rintro c a hc
          rcases hc with ⟨r1, rfl, rfl⟩ | ⟨r1, rfl, hf⟩
          · refine e_if_ne (tgt := 56) dX5_readStrike_51 (by decide) (fun i51 => ?_) (fun i51 => ?_)
            · refine e_aload_n dX5_readStrike_56 rfl rfl ?_
              refine rS_g6 hO wF_X5_35 dX5_readStrike_57 ?_
              refine e_iload_n dX5_readStrike_60 rfl rfl ?_
              refine e_aload_n dX5_readStrike_61 rfl rfl ?_
              refine rS_g5 wF_X5_79 dX5_readStrike_62 ?_
              refine ev_as (sy_as G b _ h 1 (by decide)) ?_
              refine e_invV (mcY := 0) (msY := 0) (ct_X0_hit (c := sc b 1) (σ := S.2.2.2 1) (by omega) (by omega) hd.1) vX0_hit wM_X5_169 (ch_at G (sc b 1) _ (sy G b _ h) 0 (by decide)) rfl dX5_readStrike_65 rfl rfl (Nat.le_of_ble_eq_true rfl) (Nat.le_of_ble_eq_true rfl) ?_
              rintro _ _ ⟨rfl, rfl⟩
              refine ev_as (sy_chset G b _ h 1 _ (by decide)) ?_
              rw [rS_C]
              refine e_iconst (v := 1) dX5_readStrike_68 (by decide) ?_
              exact e_zret (ty := .boolean) rfl rfl dX5_readStrike_69 (by
                    unfold pSr
                    first
                      | exact oP_no (pb_no r0) r0 hf
                      | (rw [hA]; exact oP_no ((pb_ok r0).trans (if_neg d0)) (by decide) (by rw [sk_sk _ hp]; exact hf))
                      | (rw [hA]; exact oP_no ((pb_ok r0).trans ((if_pos d0).trans (pb_no r1))) r1 (FR_R (by decide) hf))
                      | (rw [hA]; exact oP_ok _ ((pb_ok r0).trans ((if_pos d0).trans (pb_ok r1))) (by rw [g0]; rfl)))
            · first | exact absurd i51 (by decide) | exact absurd rfl i51
          · refine e_if_ne (tgt := 56) dX5_readStrike_51 (by decide) (fun i51 => ?_) (fun i51 => ?_)
            · first | exact absurd i51 (by decide) | exact absurd rfl i51
            · refine e_iconst (v := 0) dX5_readStrike_54 (by decide) ?_
              exact e_zret (ty := .boolean) rfl rfl dX5_readStrike_55 (by
                    unfold pSr
                    first
                      | exact oP_no (pb_no r0) r0 hf
                      | (rw [hA]; exact oP_no ((pb_ok r0).trans (if_neg d0)) (by decide) (by rw [sk_sk _ hp]; exact hf))
                      | (rw [hA]; exact oP_no ((pb_ok r0).trans ((if_pos d0).trans (pb_no r1))) r1 (FR_R (by decide) hf))
                      | (rw [hA]; exact oP_ok _ ((pb_ok r0).trans ((if_pos d0).trans (pb_ok r1))) (by rw [g0]; rfl)))
        · first | exact absurd i35 (by decide) | exact absurd rfl i35
      · rw [g0] at d0
        refine e_if_ne (tgt := 40) dX5_readStrike_35 (by decide) (fun i35 => ?_) (fun i35 => ?_)
        · first | exact absurd i35 (by decide) | exact absurd rfl i35
        · refine e_iconst (v := 0) dX5_readStrike_38 (by decide) ?_
          exact e_zret (ty := .boolean) rfl rfl dX5_readStrike_39 (by
                unfold pSr
                first
                  | exact oP_no (pb_no r0) r0 hf
                  | (rw [hA]; exact oP_no ((pb_ok r0).trans (if_neg d0)) (by decide) (by rw [sk_sk _ hp]; exact hf))
                  | (rw [hA]; exact oP_no ((pb_ok r0).trans ((if_pos d0).trans (pb_no r1))) r1 (FR_R (by decide) hf))
                  | (rw [hA]; exact oP_ok _ ((pb_ok r0).trans ((if_pos d0).trans (pb_ok r1))) (by rw [g0]; rfl)))
  · refine e_if_eq (tgt := 38) dX5_readStrike_23 (by decide) (fun i23 => ?_) (fun i23 => ?_)
    · refine e_iconst (v := 0) dX5_readStrike_38 (by decide) ?_
      exact e_zret (ty := .boolean) rfl rfl dX5_readStrike_39 (by
            unfold pSr
            first
              | exact oP_no (pb_no r0) r0 hf
              | (rw [hA]; exact oP_no ((pb_ok r0).trans (if_neg d0)) (by decide) (by rw [sk_sk _ hp]; exact hf))
              | (rw [hA]; exact oP_no ((pb_ok r0).trans ((if_pos d0).trans (pb_no r1))) r1 (FR_R (by decide) hf))
              | (rw [hA]; exact oP_ok _ ((pb_ok r0).trans ((if_pos d0).trans (pb_ok r1))) (by rw [g0]; rfl)))
    · first | exact absurd i23 (by decide) | exact absurd rfl i23
end RD5
