/-! the model's changes: strikes, impulses, ticks; undo -/
section M9
variable {G : ev_G} {l : Launch} {c j w : Nat} {μ : MS} {S : SS} {h : ev_H} {x y z : Int32} {T : Int}
set_option maxRecDepth 20000 in
theorem ct_X7_strike (hS : RS T S μ) : ev_Ct G l mX7_strike 4 0 0 [.ref c, .int x, .int y] (mo G c μ h) (fun v a => ((0 ≤ x.toInt ∧ x.toInt < sM (S.2.2.2 0)) ∧ (-100000 ≤ y.toInt ∧ y.toInt ≤ 100000) ∧ v = some (.int ((sHit (S.2.2.2 0) x.toInt.toNat y).2.2 2 x.toInt.toNat)) ∧ ∃ μ₁ : MS, RS (T) (ss_C (sKeep S) 0 (sHit (S.2.2.2 0) x.toInt.toNat y)) μ₁ ∧ μ₁.1 0 = 0 ∧ a = mo G c μ₁ h) ∨ (¬ (0 ≤ x.toInt ∧ x.toInt < sM (S.2.2.2 0)) ∧ v = some (.int 0) ∧ a = mo G c (ms_I μ 0 1) h) ∨ ((0 ≤ x.toInt ∧ x.toInt < sM (S.2.2.2 0)) ∧ ¬ (-100000 ≤ y.toInt ∧ y.toInt ≤ 100000) ∧ v = some (.int 0) ∧ a = mo G c (ms_I μ 0 2) h)) (fun _ _ => False) := by
  refine ev_Ct.of (by decide +kernel) (Nat.le_of_ble_eq_true rfl) ?_
  have hK := hS.1
  have hR := hS.1.1
  have hv := hS.1.2.1
  have hb := hS.1.2.2.1
  have hH := hS.2.1
  have hmn := hv.1.nat
  have hmu : ((S.2.2.2 0).1 0).toInt = sM (S.2.2.2 0) := rfl
  have z0 := ar_0
  have z1 := ar_1
  have z12 : (12 : Int32).toInt = ((12 : Nat) : Int) := ar_12
  have z48 : (48 : Int32).toInt = ((48 : Nat) : Int) := by decide +kernel
  have w2 : (2 : Int32).toInt = ((2 : Nat) : Int) := by decide +kernel
  have hK0 : KR T (S.2.2.2 0) ((ms_I μ 0 0).2.1 0) := hK
  have hH0 : RH T S (ms_I μ 0 0) := hH.rows (ms_I_ne _ _ (by decide)) (fun _ _ _ => rfl)
  have w100000 : (100000 : Int32).toInt = 100000 := by decide +kernel
  have wm100000 : (-100000 : Int32).toInt = -100000 := by decide +kernel
  have w8 : (100000000 : Int32).toInt = 100000000 := by decide +kernel
  have wL : (100000000 : Int64).toInt = 100000000 := by decide +kernel
  have n9 : (9 : Int32).toInt.toNat = 9 := by decide +kernel
  have w9 : (9 : Int32).toInt = 9 := by decide +kernel
  have eLim : mWi (((S.2.2.2 0).2.2 2 x.toInt.toNat).toInt64 + y.toInt64) 100000000 = (sLim (((S.2.2.2 0).2.2 2 x.toInt.toNat).toInt64 + y.toInt64) 100000000).toInt64 := mWi_lim (b := 100000000) (by rw [w8]; decide) (by rw [wL, w8])
  have hl := sLim_b (x := ((S.2.2.2 0).2.2 2 x.toInt.toNat).toInt64 + y.toInt64) (b := 100000000) (by rw [w8]; decide)
  rw [w8] at hl
  have eHit : (sHit (S.2.2.2 0) x.toInt.toNat y).2.2 2 x.toInt.toNat = sLim (((S.2.2.2 0).2.2 2 x.toInt.toNat).toInt64 + y.toInt64) 100000000 := ev_u_self _ _ _
  rw [eHit]
  have hKh : x.toInt.toNat < sNm (S.2.2.2 0) → _ := fun q => KR.hit (y := y) hK (j := x.toInt.toNat) q
  generalize sLim (((S.2.2.2 0).2.2 2 x.toInt.toNat).toInt64 + y.toInt64) 100000000 = Lm at eLim hl hKh ⊢
  refine e_aload_n dX7_strike_0 rfl rfl ?_
  refine e_iconst (v := 0) dX7_strike_1 (by decide) ?_
  refine mo_p0 wF_X7_39 dX7_strike_2 ?_
  refine e_aload_n dX7_strike_5 rfl rfl ?_
  refine e_iload_n dX7_strike_6 rfl rfl ?_
  refine e_invV (mcY := 0) (msY := 0) (ct_X7_noMass (μ := ms_I μ 0 0) (ms_I_get μ 0 0) hR hv) vX7_noMass wM_X7_272 (mo_at G c _ h 0 (by decide)) rfl dX7_strike_7 rfl rfl (Nat.le_of_ble_eq_true rfl) (Nat.le_of_ble_eq_true rfl) ?_
  rintro _ _ hc
  rcases hc.symm with ⟨hnm, rfl, rfl⟩ | ⟨hnm, rfl, rfl⟩
  · rw [ms_I_I]
    refine e_if_ne (tgt := 37) dX7_strike_10 (by decide) (fun c10 => ?_) (fun c10 => ?_)
    · refine e_iconst (v := 0) dX7_strike_37 (by decide) ?_
      exact e_iret rfl dX7_strike_38 (by
          first
            | exact Or.inr (Or.inl ⟨fun q => by omega, rfl, rfl⟩)
            | exact Or.inr (Or.inr ⟨by omega, fun q => by omega, rfl, rfl⟩))
    · first | exact absurd c10 (by decide) | exact absurd rfl c10
  · refine e_if_ne (tgt := 37) dX7_strike_10 (by decide) (fun c10 => ?_) (fun c10 => ?_)
    · first | exact absurd c10 (by decide) | exact absurd rfl c10
    · refine e_aload_n dX7_strike_13 rfl rfl ?_
      refine e_iload_n dX7_strike_14 rfl rfl ?_
      refine e_ldc dX7_strike_15 wK_X7_124 ?_
      refine e_ldc dX7_strike_17 wK_X7_125 ?_
      refine e_invS (mcY := 0) (msY := 0) (ct_X7_in) vX7_in wM_X7_65 dX7_strike_19 rfl rfl (Nat.le_of_ble_eq_true rfl) (Nat.le_of_ble_eq_true rfl) ?_
      rintro _ _ hc
      rcases hc with ⟨hin, rfl, rfl⟩ | ⟨hin, rfl, rfl⟩
      · refine e_if_ne (tgt := 29) dX7_strike_22 (by decide) (fun c22 => ?_) (fun c22 => ?_)
        · refine e_iconst (v := 0) dX7_strike_29 (by decide) ?_
          refine e_iconst (v := 2) dX7_strike_30 (by decide) ?_
          refine e_invV (mcY := 0) (msY := 0) (ct_X7_fails0 (ms_I_get μ 0 0)) vX7_fails wM_X7_183 (mo_at G c _ h 0 (by decide)) rfl dX7_strike_31 rfl rfl (Nat.le_of_ble_eq_true rfl) (Nat.le_of_ble_eq_true rfl) ?_
          rintro _ _ ⟨rfl, rfl⟩
          refine e_if_eq (tgt := 39) dX7_strike_34 (by decide) (fun c34 => ?_) (fun c34 => ?_)
          · refine e_aload_n dX7_strike_39 rfl rfl ?_
            refine e_invV (mcY := 0) (msY := 0) (ct_X7_remember (T := T) (S := S) hK0 hH0) vX7_remember wM_X7_192 (mo_at G c _ h 0 (by decide)) rfl dX7_strike_40 rfl rfl (Nat.le_of_ble_eq_true rfl) (Nat.le_of_ble_eq_true rfl) ?_
            rintro _ _ ⟨rfl, μ₁, r1, r2, r3, r4, rfl⟩
            have hR1 : RD (S.2.2.2 0) (μ₁.2.1 0) := by rw [r4]; exact hR
            refine e_aload_n dX7_strike_43 rfl rfl ?_
            refine e_iload_n dX7_strike_44 rfl rfl ?_
            refine e_iconst (v := 2) dX7_strike_45 (by decide) ?_
            refine e_invV (mcY := 0) (msY := 0) (ct_of (σ := S.2.2.2 0) (j := x.toInt.toNat) (w := 2) hR1 hv (by omega) w2 (by omega) (by decide)) vX7_of wM_X7_201 (mo_at G c _ h 0 (by decide)) rfl dX7_strike_46 rfl rfl (Nat.le_of_ble_eq_true rfl) (Nat.le_of_ble_eq_true rfl) ?_
            rintro _ _ ⟨rfl, rfl⟩
            refine e_lstore_n dX7_strike_49 rfl (Nat.le_of_ble_eq_true rfl) ?_
            refine e_lload_n dX7_strike_50 rfl rfl ?_
            refine e_iload_n dX7_strike_51 rfl rfl ?_
            refine e_i2l dX7_strike_52 ?_
            refine e_ladd dX7_strike_53 ?_
            refine e_ldc2 dX7_strike_54 wK_X7_233 ?_
            refine e_invS (mcY := 0) (msY := 0) (ct_X7_within) vX7_within wM_X7_235 dX7_strike_57 rfl rfl (Nat.le_of_ble_eq_true rfl) (Nat.le_of_ble_eq_true rfl) ?_
            rintro _ _ ⟨rfl, rfl⟩
            rw [eLim]
            refine e_lstore dX7_strike_60 (Nat.le_of_ble_eq_true rfl) ?_
            refine e_aload_n dX7_strike_62 rfl rfl ?_
            refine e_iload_n dX7_strike_63 rfl rfl ?_
            refine e_iconst (v := 2) dX7_strike_64 (by decide) ?_
            refine e_lload dX7_strike_65 rfl ?_
            refine e_invV (mcY := 0) (msY := 0) (ct_X7_set (j := x.toInt.toNat) (w := 2) (by omega) w2 (by omega) (by decide)) vX7_set wM_X7_221 (mo_at G c _ h 0 (by decide)) rfl dX7_strike_67 rfl rfl (Nat.le_of_ble_eq_true rfl) (Nat.le_of_ble_eq_true rfl) ?_
            rintro _ _ ⟨rfl, rfl⟩
            refine e_aload_n dX7_strike_70 rfl rfl ?_
            refine mo_g8 wF_X7_17 dX7_strike_71 ?_
            refine e_bipush (v := 9) dX7_strike_74 (by decide) ?_
            refine e_dup2 dX7_strike_76 rfl rfl ?_
            refine mo_l2 (by omega) (by omega) dX7_strike_77 ?_
            refine e_lload dX7_strike_78 rfl ?_
            refine e_lload_n dX7_strike_80 rfl rfl ?_
            refine e_lsub dX7_strike_81 ?_
            refine e_ladd dX7_strike_82 ?_
            refine mo_s2 (by omega) (by omega) dX7_strike_83 ?_
            refine e_lload dX7_strike_84 rfl ?_
            refine e_l2i dX7_strike_86 ?_
            exact e_iret rfl dX7_strike_87 (by
                have hj : x.toInt.toNat < sNm (S.2.2.2 0) := by omega
                have hmb := hS.1.2.2.2.1 x.toInt.toNat hj
                refine Or.inl ⟨by omega, by omega, by rw [ar_6432], _, ?_, ?_, rfl⟩
                · refine RS.chg (S := S) ?_ (r1.rows rfl (fun i a1 a2 => ?_)) ⟨(r2 1 (by decide)).trans ((ms_I_ne _ _ (by decide)).trans hS.2.2.1.1), hS.2.2.1.2.1, ?_⟩ ((r2 6 (by decide)).trans ((ms_I_ne _ _ (by decide)).trans hS.2.2.2))
                  · have q := hKh hj
                    simp only [ms_L_get, ms_L_L, n9, r4]
                    rw [ev_u_ne (k := 12 + 3 * x.toInt.toNat + 2) (j := 9) _ _ (by omega), ← ar_64sub (by omega) (by omega), show (ms_I μ 0 0).2.1 0 9 = (S.2.2.2 0).2.1 2 from hR.2.1.1 2 (by decide)]
                    exact q
                  · rw [ms_L_ne _ _ (by omega), ms_L_ne _ _ (by omega)]
                  · show ∀ k, _ → μ₁.2.2 k = _
                    rw [r3]; exact hS.2.2.1.2.2
                · exact (r2 0 (by decide)).trans (ms_I_get _ _ _))
          · first | exact absurd c34 (by decide) | exact absurd rfl c34
        · first | exact absurd c22 (by decide) | exact absurd rfl c22
      · refine e_if_ne (tgt := 29) dX7_strike_22 (by decide) (fun c22 => ?_) (fun c22 => ?_)
        · first | exact absurd c22 (by decide) | exact absurd rfl c22
        · refine e_iconst (v := 1) dX7_strike_25 (by decide) ?_
          refine e_goto (tgt := 30) dX7_strike_26 (by decide) ?_
          refine e_iconst (v := 2) dX7_strike_30 (by decide) ?_
          refine e_invV (mcY := 0) (msY := 0) (ct_X7_fails1 (ms_I_get μ 0 0) (by decide : (2 : Int32) ≠ 0)) vX7_fails wM_X7_183 (mo_at G c _ h 0 (by decide)) rfl dX7_strike_31 rfl rfl (Nat.le_of_ble_eq_true rfl) (Nat.le_of_ble_eq_true rfl) ?_
          rintro _ _ ⟨rfl, rfl⟩
          rw [ms_I_I]
          refine e_if_eq (tgt := 39) dX7_strike_34 (by decide) (fun c34 => ?_) (fun c34 => ?_)
          · first | exact absurd c34 (by decide) | exact absurd rfl c34
          · refine e_iconst (v := 0) dX7_strike_37 (by decide) ?_
            exact e_iret rfl dX7_strike_38 (by
                first
                  | exact Or.inr (Or.inl ⟨fun q => by omega, rfl, rfl⟩)
                  | exact Or.inr (Or.inr ⟨by omega, fun q => by omega, rfl, rfl⟩))
set_option maxRecDepth 20000 in
theorem ct_X7_addImpulse {q nn : Nat} (hq : q < 11) (hn : ((μ.2.1 q 5).toInt32).toInt = (nn : Int)) (hn16 : nn < 16) : ev_Ct G l mX7_addImpulse 1 0 0 [.ref (mr c q), .int x, .int y, .int z] (mo G c μ h) (fun v a => v = none ∧ a = mo G c (ms_L μ q (ev_u (ev_u (ev_u (ev_u (μ.2.1 q) (87 + 3 * nn) x.toInt64) (87 + 3 * nn + 1) y.toInt64) (87 + 3 * nn + 2) z.toInt64) 5 (μ.2.1 q 5 + 1))) h) (fun _ _ => False) := by
  refine ev_Ct.of (by decide +kernel) (Nat.le_of_ble_eq_true rfl) ?_
  have z1 := ar_1
  have w2 : (2 : Int32).toInt = 2 := by decide +kernel
  have w5 : (5 : Int32).toInt = 5 := by decide +kernel
  have n5 : (5 : Int32).toInt.toNat = 5 := by decide +kernel
  have z87 : (87 : Int32).toInt = ((87 : Nat) : Int) := by decide +kernel
  have f5 : (μ.2.1 q (5 : Int32).toInt.toNat).toInt32 = (μ.2.1 q 5).toInt32 := by rw [n5]
  have ea : ((87 : Int32) + 3 * (μ.2.1 q 5).toInt32).toInt = ((87 + 3 * nn : Nat) : Int) := ar_ix3 z87 hn (by omega) (by omega)
  have ea1 : ((87 : Int32) + 3 * (μ.2.1 q 5).toInt32 + 1).toInt = ((87 + 3 * nn + 1 : Nat) : Int) := by rw [ar_add (by omega) (by omega), z1]; omega
  have ea2 : ((87 : Int32) + 3 * (μ.2.1 q 5).toInt32 + 2).toInt = ((87 + 3 * nn + 2 : Nat) : Int) := by rw [ar_add (by omega) (by omega), w2]; omega
  refine e_bipush (v := 87) dX7_addImpulse_0 (by decide) ?_
  refine e_iconst (v := 3) dX7_addImpulse_2 (by decide) ?_
  refine e_aload_n dX7_addImpulse_3 rfl rfl ?_
  refine e_iconst (v := 5) dX7_addImpulse_4 (by decide) ?_
  refine mo_lr (q) hq (by omega) (by omega) dX7_addImpulse_5 ?_
  refine e_l2i dX7_addImpulse_6 ?_
  rw [f5]
  refine e_imul dX7_addImpulse_7 ?_
  refine e_iadd dX7_addImpulse_8 ?_
  refine e_istore dX7_addImpulse_9 (Nat.le_of_ble_eq_true rfl) ?_
  refine e_aload_n dX7_addImpulse_11 rfl rfl ?_
  refine e_iload dX7_addImpulse_12 rfl ?_
  refine e_iload_n dX7_addImpulse_14 rfl rfl ?_
  refine e_i2l dX7_addImpulse_15 ?_
  refine mo_sr (q) hq (by rw [ea]; omega) (by rw [ea]; omega) dX7_addImpulse_16 ?_
  refine e_aload_n dX7_addImpulse_17 rfl rfl ?_
  refine e_iload dX7_addImpulse_18 rfl ?_
  refine e_iconst (v := 1) dX7_addImpulse_20 (by decide) ?_
  refine e_iadd dX7_addImpulse_21 ?_
  refine e_iload_n dX7_addImpulse_22 rfl rfl ?_
  refine e_i2l dX7_addImpulse_23 ?_
  refine mo_sr (q) hq (by rw [ea1]; omega) (by rw [ea1]; omega) dX7_addImpulse_24 ?_
  refine e_aload_n dX7_addImpulse_25 rfl rfl ?_
  refine e_iload dX7_addImpulse_26 rfl ?_
  refine e_iconst (v := 2) dX7_addImpulse_28 (by decide) ?_
  refine e_iadd dX7_addImpulse_29 ?_
  refine e_iload_n dX7_addImpulse_30 rfl rfl ?_
  refine e_i2l dX7_addImpulse_31 ?_
  refine mo_sr (q) hq (by rw [ea2]; omega) (by rw [ea2]; omega) dX7_addImpulse_32 ?_
  refine e_aload_n dX7_addImpulse_33 rfl rfl ?_
  refine e_iconst (v := 5) dX7_addImpulse_34 (by decide) ?_
  refine e_dup2 dX7_addImpulse_35 rfl rfl ?_
  refine mo_lr (q) hq (by omega) (by omega) dX7_addImpulse_36 ?_
  refine e_lconst (v := 1) dX7_addImpulse_37 (by decide) ?_
  refine e_ladd dX7_addImpulse_38 ?_
  refine mo_sr (q) hq (by omega) (by omega) dX7_addImpulse_39 ?_
  exact e_vret rfl dX7_addImpulse_40 (⟨rfl, by
      simp only [ms_L_get, ms_L_L, n5, ar_nat ea, ar_nat ea1, ar_nat ea2]
      rw [ev_u_ne (k := 87 + 3 * nn + 2) (j := 5) _ _ (by omega), ev_u_ne (k := 87 + 3 * nn + 1) (j := 5) _ _ (by omega), ev_u_ne (k := 87 + 3 * nn) (j := 5) _ _ (by omega)]⟩)
set_option maxRecDepth 20000 in
theorem ct_X7_impulse (hS : RS T S μ) : ev_Ct G l mX7_impulse 3 0 0 [.ref c, .int x, .int y, .int z] (mo G c μ h) (fun v a => ((0 ≤ y.toInt ∧ y.toInt < sM (S.2.2.2 0)) ∧ ((((S.2.2.2 0).1 1).toInt ≤ x.toInt ∧ x.toInt ≤ 9999) ∧ (-9999 ≤ z.toInt ∧ z.toInt ≤ 9999) ∧ z ≠ 0) ∧ (sIn (S.2.2.2 0) < 16) ∧ v = some (.int ((S.2.2.2 0).1 5 + 1)) ∧ ∃ μ₁ : MS, RS (T) (ss_C (sKeep S) 0 (sIns (S.2.2.2 0) x y z)) μ₁ ∧ μ₁.1 0 = 0 ∧ a = mo G c μ₁ h) ∨ (¬ (0 ≤ y.toInt ∧ y.toInt < sM (S.2.2.2 0)) ∧ v = some (.int 0) ∧ a = mo G c (ms_I μ 0 1) h) ∨ ((0 ≤ y.toInt ∧ y.toInt < sM (S.2.2.2 0)) ∧ ¬ ((((S.2.2.2 0).1 1).toInt ≤ x.toInt ∧ x.toInt ≤ 9999) ∧ (-9999 ≤ z.toInt ∧ z.toInt ≤ 9999) ∧ z ≠ 0) ∧ v = some (.int 0) ∧ a = mo G c (ms_I μ 0 2) h) ∨ ((0 ≤ y.toInt ∧ y.toInt < sM (S.2.2.2 0)) ∧ ((((S.2.2.2 0).1 1).toInt ≤ x.toInt ∧ x.toInt ≤ 9999) ∧ (-9999 ≤ z.toInt ∧ z.toInt ≤ 9999) ∧ z ≠ 0) ∧ ¬ (sIn (S.2.2.2 0) < 16) ∧ v = some (.int 0) ∧ a = mo G c (ms_I μ 0 3) h)) (fun _ _ => False) := by
  refine ev_Ct.of (by decide +kernel) (Nat.le_of_ble_eq_true rfl) ?_
  have hK := hS.1
  have hR := hS.1.1
  have hv := hS.1.2.1
  have hb := hS.1.2.2.1
  have hH := hS.2.1
  have hmn := hv.1.nat
  have hmu : ((S.2.2.2 0).1 0).toInt = sM (S.2.2.2 0) := rfl
  have z0 := ar_0
  have z1 := ar_1
  have z12 : (12 : Int32).toInt = ((12 : Nat) : Int) := ar_12
  have z48 : (48 : Int32).toInt = ((48 : Nat) : Int) := by decide +kernel
  have w2 : (2 : Int32).toInt = ((2 : Nat) : Int) := by decide +kernel
  have hK0 : KR T (S.2.2.2 0) ((ms_I μ 0 0).2.1 0) := hK
  have hH0 : RH T S (ms_I μ 0 0) := hH.rows (ms_I_ne _ _ (by decide)) (fun _ _ _ => rfl)
  have w9999 : (9999 : Int32).toInt = 9999 := by decide +kernel
  have wm9999 : (-9999 : Int32).toInt = -9999 := by decide +kernel
  have w5 : (5 : Int32).toInt = 5 := by decide +kernel
  have n5 : (5 : Int32).toInt.toNat = 5 := by decide +kernel
  have hin := hv.2.2.1.nat
  have f0 : ((ms_I μ 0 0).2.1 0 (0 : Int32).toInt.toNat).toInt32 = (S.2.2.2 0).1 1 := by rw [z0]; show (μ.2.1 0 0).toInt32 = _; rw [hR.1.1, ar_6432]
  have f5 : (ms_I μ 0 0).2.1 0 (5 : Int32).toInt.toNat = ((S.2.2.2 0).1 5).toInt64 := by rw [w5]; exact hR.1.2.2.2.2.2.1
  have w16 : (16 : Int64).toInt = 16 := by decide +kernel
  have hR0 : RD (S.2.2.2 0) ((ms_I μ 0 0).2.1 0) := hR
  refine e_aload_n dX7_impulse_0 rfl rfl ?_
  refine e_iconst (v := 0) dX7_impulse_1 (by decide) ?_
  refine mo_p0 wF_X7_39 dX7_impulse_2 ?_
  refine e_aload_n dX7_impulse_5 rfl rfl ?_
  refine e_iload_n dX7_impulse_6 rfl rfl ?_
  refine e_invV (mcY := 0) (msY := 0) (ct_X7_noMass (μ := ms_I μ 0 0) (ms_I_get μ 0 0) hR hv) vX7_noMass wM_X7_272 (mo_at G c _ h 0 (by decide)) rfl dX7_impulse_7 rfl rfl (Nat.le_of_ble_eq_true rfl) (Nat.le_of_ble_eq_true rfl) ?_
  rintro _ _ hc
  rcases hc.symm with ⟨hnm, rfl, rfl⟩ | ⟨hnm, rfl, rfl⟩
  · rw [ms_I_I]
    refine e_if_ne (tgt := 86) dX7_impulse_10 (by decide) (fun c10 => ?_) (fun c10 => ?_)
    · refine e_iconst (v := 0) dX7_impulse_86 (by decide) ?_
      exact e_iret rfl dX7_impulse_87 (by
          first
            | exact Or.inr (Or.inl ⟨fun q => by omega, rfl, rfl⟩)
            | exact Or.inr (Or.inr (Or.inl ⟨by omega, fun q => by have := q.1; have := q.2.1; omega, rfl, rfl⟩))
            | exact Or.inr (Or.inr (Or.inl ⟨by omega, fun q => q.2.2 hi3, rfl, rfl⟩))
            | exact Or.inr (Or.inr (Or.inr ⟨by omega, ⟨by omega, by omega, hi3⟩, hi4, rfl, rfl⟩)))
    · first | exact absurd c10 (by decide) | exact absurd rfl c10
  · refine e_if_ne (tgt := 86) dX7_impulse_10 (by decide) (fun c10 => ?_) (fun c10 => ?_)
    · first | exact absurd c10 (by decide) | exact absurd rfl c10
    · refine e_aload_n dX7_impulse_13 rfl rfl ?_
      refine e_iload_n dX7_impulse_14 rfl rfl ?_
      refine e_aload_n dX7_impulse_15 rfl rfl ?_
      refine mo_g8 wF_X7_17 dX7_impulse_16 ?_
      refine e_iconst (v := 0) dX7_impulse_19 (by decide) ?_
      refine mo_l2 (by omega) (by omega) dX7_impulse_20 ?_
      refine e_l2i dX7_impulse_21 ?_
      rw [f0]
      refine e_sipush (v := 9999) dX7_impulse_22 (by decide) ?_
      refine e_invS (mcY := 0) (msY := 0) (ct_X7_in) vX7_in wM_X7_65 dX7_impulse_25 rfl rfl (Nat.le_of_ble_eq_true rfl) (Nat.le_of_ble_eq_true rfl) ?_
      rintro _ _ hc
      rcases hc with ⟨hi1, rfl, rfl⟩ | ⟨hi1, rfl, rfl⟩
      · refine e_if_eq (tgt := 48) dX7_impulse_28 (by decide) (fun c28 => ?_) (fun c28 => ?_)
        · first | exact absurd c28 (by decide) | exact absurd rfl c28
        · refine e_iload_n dX7_impulse_31 rfl rfl ?_
          refine e_sipush (v := (-9999)) dX7_impulse_32 (by decide) ?_
          refine e_sipush (v := 9999) dX7_impulse_35 (by decide) ?_
          refine e_invS (mcY := 0) (msY := 0) (ct_X7_in) vX7_in wM_X7_65 dX7_impulse_38 rfl rfl (Nat.le_of_ble_eq_true rfl) (Nat.le_of_ble_eq_true rfl) ?_
          rintro _ _ hc
          rcases hc with ⟨hi2, rfl, rfl⟩ | ⟨hi2, rfl, rfl⟩
          · refine e_if_eq (tgt := 48) dX7_impulse_41 (by decide) (fun c41 => ?_) (fun c41 => ?_)
            · first | exact absurd c41 (by decide) | exact absurd rfl c41
            · refine e_iload_n dX7_impulse_44 rfl rfl ?_
              refine e_if_ne (tgt := 52) dX7_impulse_45 (by decide) (fun c45 => ?_) (fun c45 => ?_)
              · have hi3 : z ≠ 0 := c45
                refine e_iconst (v := 0) dX7_impulse_52 (by decide) ?_
                refine e_iconst (v := 2) dX7_impulse_53 (by decide) ?_
                refine e_invV (mcY := 0) (msY := 0) (ct_X7_fails0 (ms_I_get μ 0 0)) vX7_fails wM_X7_183 (mo_at G c _ h 0 (by decide)) rfl dX7_impulse_54 rfl rfl (Nat.le_of_ble_eq_true rfl) (Nat.le_of_ble_eq_true rfl) ?_
                rintro _ _ ⟨rfl, rfl⟩
                refine e_if_ne (tgt := 86) dX7_impulse_57 (by decide) (fun c57 => ?_) (fun c57 => ?_)
                · first | exact absurd c57 (by decide) | exact absurd rfl c57
                · refine e_aload_n dX7_impulse_60 rfl rfl ?_
                  refine e_aload_n dX7_impulse_61 rfl rfl ?_
                  refine mo_g8 wF_X7_17 dX7_impulse_62 ?_
                  refine e_iconst (v := 5) dX7_impulse_65 (by decide) ?_
                  refine mo_l2 (by omega) (by omega) dX7_impulse_66 ?_
                  rw [f5]
                  refine e_ldc2 dX7_impulse_67 wK_X7_130 ?_
                  refine e_lcmp dX7_impulse_70 ?_
                  refine e_if_ne (tgt := 78) dX7_impulse_71 (by decide) (fun c71 => ?_) (fun c71 => ?_)
                  · have hi4 : sIn (S.2.2.2 0) < 16 := by have q : ¬ ((S.2.2.2 0).1 5).toInt = 16 := fun q => c71 (ar_lcmp0.mpr (ar_eqL (by rw [ar_64, q, w16]))); omega
                    refine e_iconst (v := 0) dX7_impulse_78 (by decide) ?_
                    refine e_iconst (v := 3) dX7_impulse_79 (by decide) ?_
                    refine e_invV (mcY := 0) (msY := 0) (ct_X7_fails0 (ms_I_get μ 0 0)) vX7_fails wM_X7_183 (mo_at G c _ h 0 (by decide)) rfl dX7_impulse_80 rfl rfl (Nat.le_of_ble_eq_true rfl) (Nat.le_of_ble_eq_true rfl) ?_
                    rintro _ _ ⟨rfl, rfl⟩
                    refine e_if_eq (tgt := 88) dX7_impulse_83 (by decide) (fun c83 => ?_) (fun c83 => ?_)
                    · refine e_aload_n dX7_impulse_88 rfl rfl ?_
                      refine e_invV (mcY := 0) (msY := 0) (ct_X7_remember (T := T) (S := S) hK0 hH0) vX7_remember wM_X7_192 (mo_at G c _ h 0 (by decide)) rfl dX7_impulse_89 rfl rfl (Nat.le_of_ble_eq_true rfl) (Nat.le_of_ble_eq_true rfl) ?_
                      rintro _ _ ⟨rfl, μ₁, r1, r2, r3, r4, rfl⟩
                      have hR1 : RD (S.2.2.2 0) (μ₁.2.1 0) := by rw [r4]; exact hR
                      have hn5 : ((μ₁.2.1 0 5).toInt32).toInt = (sIn (S.2.2.2 0) : Int) := by rw [hR1.1.2.2.2.2.2.1, ar_6432]; exact hin.1.symm
                      refine e_aload_n dX7_impulse_92 rfl rfl ?_
                      refine mo_g8 wF_X7_17 dX7_impulse_93 ?_
                      refine e_iload_n dX7_impulse_96 rfl rfl ?_
                      refine e_iload_n dX7_impulse_97 rfl rfl ?_
                      refine e_iload_n dX7_impulse_98 rfl rfl ?_
                      refine e_invS (mcY := 0) (msY := 0) (ct_X7_addImpulse (q := 0) (nn := sIn (S.2.2.2 0)) (by decide) hn5 (by omega)) vX7_addImpulse wM_X7_132 dX7_impulse_99 rfl rfl (Nat.le_of_ble_eq_true rfl) (Nat.le_of_ble_eq_true rfl) ?_
                      rintro _ _ ⟨rfl, rfl⟩
                      refine e_aload_n dX7_impulse_102 rfl rfl ?_
                      refine mo_g8 wF_X7_17 dX7_impulse_103 ?_
                      refine e_iconst (v := 5) dX7_impulse_106 (by decide) ?_
                      refine mo_l2 (by omega) (by omega) dX7_impulse_107 ?_
                      refine e_l2i dX7_impulse_108 ?_
                      exact e_iret rfl dX7_impulse_109 (by
                          refine Or.inl ⟨by omega, ⟨by omega, by omega, hi3⟩, hi4, ?_, _, ?_, ?_, rfl⟩
                          · rw [ms_L_get, n5, ev_u_self, hR1.1.2.2.2.2.2.1, show (1 : Int64) = (1 : Int32).toInt64 by decide +kernel, ← ar_64add (by omega) (by omega), ar_6432]
                          · refine RS.chg (S := S) (KR.ins (δ := μ.2.1 0) hK hi4 (by omega) (by omega) (by omega) (by omega) (by omega) (by omega) ?_ ?_ ?_ ?_ ?_) (r1.rows rfl (fun i a1 a2 => ms_L_ne _ _ (by omega))) ⟨(r2 1 (by decide)).trans ((ms_I_ne _ _ (by decide)).trans hS.2.2.1.1), hS.2.2.1.2.1, ?_⟩ ((r2 6 (by decide)).trans ((ms_I_ne _ _ (by decide)).trans hS.2.2.2))
                            · rw [ms_L_get, ev_u_ne _ _ (by omega), ev_u_ne _ _ (by omega), ev_u_ne _ _ (by omega), ev_u_self]
                            · rw [ms_L_get, ev_u_ne _ _ (by omega), ev_u_ne _ _ (by omega), ev_u_self]
                            · rw [ms_L_get, ev_u_ne _ _ (by omega), ev_u_self]
                            · rw [ms_L_get, ev_u_self, hR1.1.2.2.2.2.2.1, show (1 : Int64) = (1 : Int32).toInt64 by decide +kernel, ← ar_64add (by omega) (by omega)]
                            · intro q a1 a2
                              rw [ms_L_get, ev_u_ne _ _ a1, ev_u_ne _ _ (by omega), ev_u_ne _ _ (by omega), ev_u_ne _ _ (by omega), r4]
                              rfl
                            · show ∀ k, _ → μ₁.2.2 k = _
                              rw [r3]; exact hS.2.2.1.2.2
                          · exact (r2 0 (by decide)).trans (ms_I_get _ _ _))
                    · first | exact absurd c83 (by decide) | exact absurd rfl c83
                  · have hi4 : ¬ sIn (S.2.2.2 0) < 16 := by have q := congrArg Int64.toInt (ar_lcmp0.mp c71); rw [ar_64, w16] at q; omega
                    refine e_iconst (v := 1) dX7_impulse_74 (by decide) ?_
                    refine e_goto (tgt := 79) dX7_impulse_75 (by decide) ?_
                    refine e_iconst (v := 3) dX7_impulse_79 (by decide) ?_
                    refine e_invV (mcY := 0) (msY := 0) (ct_X7_fails1 (ms_I_get μ 0 0) (by decide : (3 : Int32) ≠ 0)) vX7_fails wM_X7_183 (mo_at G c _ h 0 (by decide)) rfl dX7_impulse_80 rfl rfl (Nat.le_of_ble_eq_true rfl) (Nat.le_of_ble_eq_true rfl) ?_
                    rintro _ _ ⟨rfl, rfl⟩
                    rw [ms_I_I]
                    refine e_if_eq (tgt := 88) dX7_impulse_83 (by decide) (fun c83 => ?_) (fun c83 => ?_)
                    · first | exact absurd c83 (by decide) | exact absurd rfl c83
                    · refine e_iconst (v := 0) dX7_impulse_86 (by decide) ?_
                      exact e_iret rfl dX7_impulse_87 (by
                          first
                            | exact Or.inr (Or.inl ⟨fun q => by omega, rfl, rfl⟩)
                            | exact Or.inr (Or.inr (Or.inl ⟨by omega, fun q => by have := q.1; have := q.2.1; omega, rfl, rfl⟩))
                            | exact Or.inr (Or.inr (Or.inl ⟨by omega, fun q => q.2.2 hi3, rfl, rfl⟩))
                            | exact Or.inr (Or.inr (Or.inr ⟨by omega, ⟨by omega, by omega, hi3⟩, hi4, rfl, rfl⟩)))
              · have hi3 : z = 0 := c45
                refine e_iconst (v := 1) dX7_impulse_48 (by decide) ?_
                refine e_goto (tgt := 53) dX7_impulse_49 (by decide) ?_
                refine e_iconst (v := 2) dX7_impulse_53 (by decide) ?_
                refine e_invV (mcY := 0) (msY := 0) (ct_X7_fails1 (ms_I_get μ 0 0) (by decide : (2 : Int32) ≠ 0)) vX7_fails wM_X7_183 (mo_at G c _ h 0 (by decide)) rfl dX7_impulse_54 rfl rfl (Nat.le_of_ble_eq_true rfl) (Nat.le_of_ble_eq_true rfl) ?_
                rintro _ _ ⟨rfl, rfl⟩
                rw [ms_I_I]
                refine e_if_ne (tgt := 86) dX7_impulse_57 (by decide) (fun c57 => ?_) (fun c57 => ?_)
                · refine e_iconst (v := 0) dX7_impulse_86 (by decide) ?_
                  exact e_iret rfl dX7_impulse_87 (by
                      first
                        | exact Or.inr (Or.inl ⟨fun q => by omega, rfl, rfl⟩)
                        | exact Or.inr (Or.inr (Or.inl ⟨by omega, fun q => by have := q.1; have := q.2.1; omega, rfl, rfl⟩))
                        | exact Or.inr (Or.inr (Or.inl ⟨by omega, fun q => q.2.2 hi3, rfl, rfl⟩))
                        | exact Or.inr (Or.inr (Or.inr ⟨by omega, ⟨by omega, by omega, hi3⟩, hi4, rfl, rfl⟩)))
                · first | exact absurd c57 (by decide) | exact absurd rfl c57
          · refine e_if_eq (tgt := 48) dX7_impulse_41 (by decide) (fun c41 => ?_) (fun c41 => ?_)
            · refine e_iconst (v := 1) dX7_impulse_48 (by decide) ?_
              refine e_goto (tgt := 53) dX7_impulse_49 (by decide) ?_
              refine e_iconst (v := 2) dX7_impulse_53 (by decide) ?_
              refine e_invV (mcY := 0) (msY := 0) (ct_X7_fails1 (ms_I_get μ 0 0) (by decide : (2 : Int32) ≠ 0)) vX7_fails wM_X7_183 (mo_at G c _ h 0 (by decide)) rfl dX7_impulse_54 rfl rfl (Nat.le_of_ble_eq_true rfl) (Nat.le_of_ble_eq_true rfl) ?_
              rintro _ _ ⟨rfl, rfl⟩
              rw [ms_I_I]
              refine e_if_ne (tgt := 86) dX7_impulse_57 (by decide) (fun c57 => ?_) (fun c57 => ?_)
              · refine e_iconst (v := 0) dX7_impulse_86 (by decide) ?_
                exact e_iret rfl dX7_impulse_87 (by
                    first
                      | exact Or.inr (Or.inl ⟨fun q => by omega, rfl, rfl⟩)
                      | exact Or.inr (Or.inr (Or.inl ⟨by omega, fun q => by have := q.1; have := q.2.1; omega, rfl, rfl⟩))
                      | exact Or.inr (Or.inr (Or.inl ⟨by omega, fun q => q.2.2 hi3, rfl, rfl⟩))
                      | exact Or.inr (Or.inr (Or.inr ⟨by omega, ⟨by omega, by omega, hi3⟩, hi4, rfl, rfl⟩)))
              · first | exact absurd c57 (by decide) | exact absurd rfl c57
            · first | exact absurd c41 (by decide) | exact absurd rfl c41
      · refine e_if_eq (tgt := 48) dX7_impulse_28 (by decide) (fun c28 => ?_) (fun c28 => ?_)
        · refine e_iconst (v := 1) dX7_impulse_48 (by decide) ?_
          refine e_goto (tgt := 53) dX7_impulse_49 (by decide) ?_
          refine e_iconst (v := 2) dX7_impulse_53 (by decide) ?_
          refine e_invV (mcY := 0) (msY := 0) (ct_X7_fails1 (ms_I_get μ 0 0) (by decide : (2 : Int32) ≠ 0)) vX7_fails wM_X7_183 (mo_at G c _ h 0 (by decide)) rfl dX7_impulse_54 rfl rfl (Nat.le_of_ble_eq_true rfl) (Nat.le_of_ble_eq_true rfl) ?_
          rintro _ _ ⟨rfl, rfl⟩
          rw [ms_I_I]
          refine e_if_ne (tgt := 86) dX7_impulse_57 (by decide) (fun c57 => ?_) (fun c57 => ?_)
          · refine e_iconst (v := 0) dX7_impulse_86 (by decide) ?_
            exact e_iret rfl dX7_impulse_87 (by
                first
                  | exact Or.inr (Or.inl ⟨fun q => by omega, rfl, rfl⟩)
                  | exact Or.inr (Or.inr (Or.inl ⟨by omega, fun q => by have := q.1; have := q.2.1; omega, rfl, rfl⟩))
                  | exact Or.inr (Or.inr (Or.inl ⟨by omega, fun q => q.2.2 hi3, rfl, rfl⟩))
                  | exact Or.inr (Or.inr (Or.inr ⟨by omega, ⟨by omega, by omega, hi3⟩, hi4, rfl, rfl⟩)))
          · first | exact absurd c57 (by decide) | exact absurd rfl c57
        · first | exact absurd c28 (by decide) | exact absurd rfl c28
set_option maxRecDepth 20000 in
theorem lp_mpass {J : ev_K} {k n : Nat} (hJ : 6 ≤ J.2.2.1) {σ : CS} {U : SS} (hT : T < 2147000000) {d : Nat} {yd : Int32} (hyd : yd.toInt = (d : Int)) (hd : d ≤ 50) (hk : ∀ (y : Int32) (ν : MS), y = sBrks σ d → KR (T + (d : Int)) (tickN d σ) (ν.2.1 0) → RH T U ν → ν.1 = μ.1 → ν.2.2 = μ.2.2 → ev_V G l mX7_pass J 56 [some (.ref c), some (.int yd), some (.int y)] [] (mo G c ν h) k n) : ∀ (r i : Nat) (x : Int32) (y : Int32) (ν : MS), r + i = d → x.toInt = (i : Int) → y = sBrks σ i → KR (T + (i : Int)) (tickN i σ) (ν.2.1 0) → RH T U ν → ν.1 = μ.1 → ν.2.2 = μ.2.2 → ev_V G l mX7_pass J 38 [some (.ref c), some (.int yd), some (.int y), some (.int x)] [] (mo G c ν h) k n := by
  intro r
  induction r using Nat.strongRecOn with
  | ind r ih =>
    intro i x y ν
    intro hr hx hy hk1 hh1 e1 e2
    have hn : x.toInt.toNat = i := ar_nat hx
    refine e_iload_n dX7_pass_38 rfl rfl ?_
    refine e_iload_n dX7_pass_39 rfl rfl ?_
    refine e_icmp_ge (tgt := 56) dX7_pass_40 (by decide) (fun c40 => ?_) (fun c40 => ?_)
    · obtain rfl : i = d := by omega
      exact ev_lc (hk y ν hy hk1 hh1 e1 e2) ⟨rfl, rfl, rfl, trivial⟩
    · refine e_iload_n dX7_pass_43 rfl rfl ?_
      refine e_aload_n dX7_pass_44 rfl rfl ?_
      refine e_invV (mcY := 0) (msY := 0) (ct_X7_tick (σ := tickN i σ) (T := T + (i : Int)) hk1.1 hk1.2.1 hk1.2.2 (by omega)) vX7_tick wM_X7_288 (mo_at G c _ h 0 (by decide)) rfl dX7_pass_45 rfl rfl (Nat.le_of_ble_eq_true rfl) (Nat.le_trans (Nat.le_of_ble_eq_true rfl) hJ) ?_
      rintro _ _ ⟨rfl, F, δ, hRt, rfl⟩
      refine e_iadd dX7_pass_48 ?_
      refine e_istore_n dX7_pass_49 rfl (Nat.le_of_ble_eq_true rfl) ?_
      refine e_iinc dX7_pass_50 rfl rfl (Nat.le_of_ble_eq_true rfl) ?_
      refine e_goto (tgt := 38) dX7_pass_53 (by decide) ?_
      refine ih (r - 1) (by omega) (i + 1) _ _ _ (by omega) (ar_inc hx (by omega)) ?_ ?_ ?_ ?_ ?_
      · rw [hy]; rfl
      · rw [ms_L_get, show T + ((i + 1 : Nat) : Int) = T + (i : Int) + 1 by omega]
        exact hk1.tick (by omega) hRt
      · exact hh1.rows rfl (fun q a1 a2 => by rw [ms_L_ne _ _ (by omega), ms_L_ne _ _ (by omega)])
      · exact e1
      · exact e2
set_option maxRecDepth 20000 in
theorem ct_X7_pass (hS : RS T S μ) (hT : T < 2147000000) : ev_Ct G l mX7_pass 7 0 0 [.ref c, .int x] (mo G c μ h) (fun v a => ((1 ≤ x.toInt ∧ x.toInt ≤ 50) ∧ v = some (.int (sBrks (S.2.2.2 0) x.toInt.toNat)) ∧ ∃ μ₁ : MS, RS (T + 50) (ss_C (sKeep S) 0 (tickN x.toInt.toNat (S.2.2.2 0))) μ₁ ∧ μ₁.1 0 = 0 ∧ a = mo G c μ₁ h) ∨ (¬ (1 ≤ x.toInt ∧ x.toInt ≤ 50) ∧ v = some (.int 0) ∧ a = mo G c (ms_I μ 0 1) h)) (fun _ _ => False) := by
  refine ev_Ct.of (by decide +kernel) (Nat.le_of_ble_eq_true rfl) ?_
  have hK := hS.1
  have hR := hS.1.1
  have hv := hS.1.2.1
  have hb := hS.1.2.2.1
  have hH := hS.2.1
  have hmn := hv.1.nat
  have hmu : ((S.2.2.2 0).1 0).toInt = sM (S.2.2.2 0) := rfl
  have z0 := ar_0
  have z1 := ar_1
  have z12 : (12 : Int32).toInt = ((12 : Nat) : Int) := ar_12
  have z48 : (48 : Int32).toInt = ((48 : Nat) : Int) := by decide +kernel
  have w2 : (2 : Int32).toInt = ((2 : Nat) : Int) := by decide +kernel
  have hK0 : KR T (S.2.2.2 0) ((ms_I μ 0 0).2.1 0) := hK
  have hH0 : RH T S (ms_I μ 0 0) := hH.rows (ms_I_ne _ _ (by decide)) (fun _ _ _ => rfl)
  have w50 : (50 : Int32).toInt = 50 := by decide +kernel
  refine e_aload_n dX7_pass_0 rfl rfl ?_
  refine e_iconst (v := 0) dX7_pass_1 (by decide) ?_
  refine mo_p0 wF_X7_39 dX7_pass_2 ?_
  refine e_aload_n dX7_pass_5 rfl rfl ?_
  refine e_iload_n dX7_pass_6 rfl rfl ?_
  refine e_iconst (v := 1) dX7_pass_7 (by decide) ?_
  refine e_bipush (v := 50) dX7_pass_8 (by decide) ?_
  refine e_invS (mcY := 0) (msY := 0) (ct_X7_in) vX7_in wM_X7_65 dX7_pass_10 rfl rfl (Nat.le_of_ble_eq_true rfl) (Nat.le_of_ble_eq_true rfl) ?_
  rintro _ _ hc
  rcases hc with ⟨hin, rfl, rfl⟩ | ⟨hin, rfl, rfl⟩
  · refine e_if_ne (tgt := 20) dX7_pass_13 (by decide) (fun c13 => ?_) (fun c13 => ?_)
    · refine e_iconst (v := 0) dX7_pass_20 (by decide) ?_
      refine e_iconst (v := 1) dX7_pass_21 (by decide) ?_
      refine e_invV (mcY := 0) (msY := 0) (ct_X7_fails0 (ms_I_get μ 0 0)) vX7_fails wM_X7_183 (mo_at G c _ h 0 (by decide)) rfl dX7_pass_22 rfl rfl (Nat.le_of_ble_eq_true rfl) (Nat.le_of_ble_eq_true rfl) ?_
      rintro _ _ ⟨rfl, rfl⟩
      refine e_if_eq (tgt := 30) dX7_pass_25 (by decide) (fun c25 => ?_) (fun c25 => ?_)
      · refine e_aload_n dX7_pass_30 rfl rfl ?_
        refine e_invV (mcY := 0) (msY := 0) (ct_X7_remember (T := T) (S := S) hK0 hH0) vX7_remember wM_X7_192 (mo_at G c _ h 0 (by decide)) rfl dX7_pass_31 rfl rfl (Nat.le_of_ble_eq_true rfl) (Nat.le_of_ble_eq_true rfl) ?_
        rintro _ _ ⟨rfl, μ₁, r1, r2, r3, r4, rfl⟩
        refine e_iconst (v := 0) dX7_pass_34 (by decide) ?_
        refine e_istore_n dX7_pass_35 rfl (Nat.le_of_ble_eq_true rfl) ?_
        refine e_iconst (v := 0) dX7_pass_36 (by decide) ?_
        refine e_istore_n dX7_pass_37 rfl (Nat.le_of_ble_eq_true rfl) ?_
        refine ev_loc (L' := [some (.ref c), some (.int x), some (.int 0), some (.int 0)]) ⟨rfl, rfl, rfl, rfl, trivial⟩ ?_
        refine lp_mpass (μ := μ₁) (σ := S.2.2.2 0) (U := sKeep S) (T := T) (Nat.le_of_ble_eq_true rfl) hT (d := x.toInt.toNat) (by omega) (by omega) (fun y ν hy hk1 hh1 e1 e2 => ?_) x.toInt.toNat 0 _ _ _ (by omega) ar_0 rfl (by rw [r4]; show KR (T + 0) _ _; rw [Int.add_zero]; exact hK) r1 rfl rfl
        subst hy
        refine e_iload_n dX7_pass_56 rfl rfl (e_iret rfl dX7_pass_57 ?_)
        refine Or.inl ⟨by omega, rfl, ν, RS.chg (S := S) (hk1.up (by omega)) (hh1.up (by omega)) ⟨?_, hS.2.2.1.2.1, ?_⟩ ?_, ?_, rfl⟩
        · rw [e1]; exact (r2 1 (by decide)).trans ((ms_I_ne _ _ (by decide)).trans hS.2.2.1.1)
        · rw [e2, r3]; exact hS.2.2.1.2.2
        · rw [e1]; exact (r2 6 (by decide)).trans ((ms_I_ne _ _ (by decide)).trans hS.2.2.2)
        · rw [e1]; exact (r2 0 (by decide)).trans (ms_I_get _ _ _)
      · first | exact absurd c25 (by decide) | exact absurd rfl c25
    · first | exact absurd c13 (by decide) | exact absurd rfl c13
  · refine e_if_ne (tgt := 20) dX7_pass_13 (by decide) (fun c13 => ?_) (fun c13 => ?_)
    · first | exact absurd c13 (by decide) | exact absurd rfl c13
    · refine e_iconst (v := 1) dX7_pass_16 (by decide) ?_
      refine e_goto (tgt := 21) dX7_pass_17 (by decide) ?_
      refine e_iconst (v := 1) dX7_pass_21 (by decide) ?_
      refine e_invV (mcY := 0) (msY := 0) (ct_X7_fails1 (ms_I_get μ 0 0) (by decide : (1 : Int32) ≠ 0)) vX7_fails wM_X7_183 (mo_at G c _ h 0 (by decide)) rfl dX7_pass_22 rfl rfl (Nat.le_of_ble_eq_true rfl) (Nat.le_of_ble_eq_true rfl) ?_
      rintro _ _ ⟨rfl, rfl⟩
      rw [ms_I_I]
      refine e_if_eq (tgt := 30) dX7_pass_25 (by decide) (fun c25 => ?_) (fun c25 => ?_)
      · first | exact absurd c25 (by decide) | exact absurd rfl c25
      · refine e_iconst (v := 0) dX7_pass_28 (by decide) ?_
        exact e_iret rfl dX7_pass_29 (Or.inr ⟨fun q => by omega, rfl, rfl⟩)
set_option maxRecDepth 20000 in
theorem ct_X7_undo (hS : RS T S μ) : ev_Ct G l mX7_undo 2 0 0 [.ref c] (mo G c μ h) (fun v a => (S.1 2 = 0 ∧ v = some (.int (-1)) ∧ a = mo G c (ms_I μ 0 0) h) ∨ (S.1 2 ≠ 0 ∧ v = some (.int (S.1 2 - 1)) ∧ ∃ μ₁ : MS, RS (T) (sBack S) μ₁ ∧ μ₁.1 0 = 0 ∧ a = mo G c μ₁ h)) (fun _ _ => False) := by
  refine ev_Ct.of (by decide +kernel) (Nat.le_of_ble_eq_true rfl) ?_
  have hK := hS.1
  have hR := hS.1.1
  have hv := hS.1.2.1
  have hb := hS.1.2.2.1
  have hH := hS.2.1
  have hmn := hv.1.nat
  have hmu : ((S.2.2.2 0).1 0).toInt = sM (S.2.2.2 0) := rfl
  have z0 := ar_0
  have z1 := ar_1
  have z12 : (12 : Int32).toInt = ((12 : Nat) : Int) := ar_12
  have z48 : (48 : Int32).toInt = ((48 : Nat) : Int) := by decide +kernel
  have w2 : (2 : Int32).toInt = ((2 : Nat) : Int) := by decide +kernel
  have hK0 : KR T (S.2.2.2 0) ((ms_I μ 0 0).2.1 0) := hK
  have hH0 : RH T S (ms_I μ 0 0) := hH.rows (ms_I_ne _ _ (by decide)) (fun _ _ _ => rfl)
  have hc := hH.1.1
  have e7 : (ms_I μ 0 0).1 7 = S.1 2 := (ms_I_ne _ _ (by decide)).trans hH.2.1
  have hc1 : S.1 2 ≠ 0 → ((ms_I μ 0 0).1 7 - 1).toInt = (S.1 2).toInt - 1 ∧ 1 ≤ (S.1 2).toInt := fun q => by
    have q2 : (S.1 2).toInt ≠ 0 := fun q3 => q (ar_eq (q3.trans ar_0.symm))
    rw [e7, ar_sub (by omega) (by omega), z1]
    exact ⟨rfl, by omega⟩
  refine e_aload_n dX7_undo_0 rfl rfl ?_
  refine e_iconst (v := 0) dX7_undo_1 (by decide) ?_
  refine mo_p0 wF_X7_39 dX7_undo_2 ?_
  refine e_aload_n dX7_undo_5 rfl rfl ?_
  refine mo_g12 wF_X7_294 dX7_undo_6 ?_
  refine e_if_ne (tgt := 14) dX7_undo_9 (by decide) (fun c9 => ?_) (fun c9 => ?_)
  · have d9 : S.1 2 ≠ 0 := fun q => c9 (e7.trans q)
    obtain ⟨hc2, hc3⟩ := hc1 d9
    refine e_aload_n dX7_undo_14 rfl rfl ?_
    refine e_dup dX7_undo_15 rfl ?_
    refine mo_g12 wF_X7_294 dX7_undo_16 ?_
    refine e_iconst (v := 1) dX7_undo_19 (by decide) ?_
    refine e_isub dX7_undo_20 ?_
    refine mo_p12 wF_X7_294 dX7_undo_21 ?_
    refine e_aload_n dX7_undo_24 rfl rfl ?_
    refine mo_g11 wF_X7_29 dX7_undo_25 ?_
    refine e_aload_n dX7_undo_28 rfl rfl ?_
    refine mo_g12 wF_X7_294 dX7_undo_29 ?_
    refine mo_l5 (by show 0 ≤ ((ms_I μ 0 0).1 7 - 1).toInt; omega) (by show ((ms_I μ 0 0).1 7 - 1).toInt < 8; omega) dX7_undo_32 ?_
    refine e_aload_n dX7_undo_33 rfl rfl ?_
    refine mo_g8 wF_X7_17 dX7_undo_34 ?_
    refine e_invS (mcY := 0) (msY := 0) (ct_X7_copy (q := 3 + ((ms_I μ 0 0).1 7 - 1).toInt.toNat) (t := 0) (by omega) (by decide) (by omega)) vX7_copy wM_X7_195 dX7_undo_37 rfl rfl (Nat.le_of_ble_eq_true rfl) (Nat.le_of_ble_eq_true rfl) ?_
    rintro _ _ ⟨rfl, rfl⟩
    refine e_aload_n dX7_undo_40 rfl rfl ?_
    refine mo_g12 wF_X7_294 dX7_undo_41 ?_
    exact e_iret rfl dX7_undo_44 (by
        refine Or.inr ⟨d9, ?_, _, ?_, ?_, rfl⟩
        · show some (Value.int (ev_u (ms_I μ 0 0).1 7 ((ms_I μ 0 0).1 7 - 1) 7)) = _
          rw [ev_u_self, e7]
        · refine RS.back hS (by omega) ?_ (fun p hp => ?_) (fun i a1 a2 => ?_) rfl ?_ ?_
          · show (ev_u (ms_I μ 0 0).1 7 ((ms_I μ 0 0).1 7 - 1) 7).toInt = _
            rw [ev_u_self, hc2]
          · rw [ms_L_get, fillL_lt _ _ hp]
            show μ.2.1 (3 + ((ms_I μ 0 0).1 7 - 1).toInt.toNat) p = _
            rw [hc2, show 3 + ((S.1 2).toInt - 1).toNat = 2 + (S.1 2).toInt.toNat by omega]
          · exact ms_L_ne _ _ (by omega)
          · show ev_u (ms_I μ 0 0).1 7 ((ms_I μ 0 0).1 7 - 1) 1 = _
            rw [ev_u_ne _ _ (by decide), ms_I_ne _ _ (by decide)]
          · show ev_u (ms_I μ 0 0).1 7 ((ms_I μ 0 0).1 7 - 1) 6 = _
            rw [ev_u_ne _ _ (by decide), ms_I_ne _ _ (by decide)]
        · show ev_u (ms_I μ 0 0).1 7 ((ms_I μ 0 0).1 7 - 1) 0 = _
          rw [ev_u_ne _ _ (by decide), ms_I_get])
  · have d9 : S.1 2 = 0 := e7.symm.trans c9
    refine e_iconst (v := (-1)) dX7_undo_12 (by decide) ?_
    exact e_iret rfl dX7_undo_13 (Or.inl ⟨d9, rfl, rfl⟩)
end M9
