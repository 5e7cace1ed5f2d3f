/-! changes, what is foretold, the checksum, append -/
section Y3
variable {G : ev_G} {l : Launch} {b : Nat} {S : SS} {h : ev_H} {x y z w : Int32}
theorem sM_noteF (σ : CS) (p : Int32) : ∀ f k, sM (sNoteF σ p f k) = sM σ
  | 0, _ => rfl
  | f + 1, k => by
    unfold sNoteF
    split
    · rfl
    · split
      · rfl
      · exact sM_noteF σ p f (k + 1)
theorem sM_GI (σ : CS) : sM (sGI σ) = sM σ := by
  have hk := sGiv_keep σ (sDue σ (σ.1 1))
  show (ev_u (sGiv σ (sDue σ (σ.1 1))).1 5 ((sGiv σ (sDue σ (σ.1 1))).1 5 - Int32.ofNat (sDue σ (σ.1 1))) 0).toInt = _
  rw [ev_u_ne _ _ (by decide), hk.1]
  rfl
theorem sM_DM (σ : CS) : sM (sDM σ) = sM σ := rfl
theorem sM_LM (σ : CS) : sM (sLM σ) = sM σ := rfl
theorem sM_SM (σ : CS) : sM (sSM σ) = sM σ := rfl
theorem sM_BS (σ : CS) : sM (sBS σ) = sM σ := rfl
theorem sM_TP (σ : CS) : sM (sTP σ) = sM σ := rfl
theorem sM_time (σ : CS) (t : Int32) : sM (cs_I σ 1 t) = sM σ := rfl
theorem sM_T2 (σ : CS) : sM (sT2 σ) = sM σ := by unfold sT2 sT1; rw [sM_SM, sM_LM, sM_DM, sM_GI, sM_TP]
theorem sM_tick (σ : CS) : sM (sTick σ) = sM σ := by unfold sTick sNote; rw [sM_time, sM_noteF]; unfold sT3; rw [sM_BS, sM_T2]
theorem sM_tickN (σ : CS) : ∀ n, sM (tickN n σ) = sM σ
  | 0 => rfl
  | n + 1 => (sM_tick _).trans (sM_tickN σ n)
set_option maxRecDepth 20000 in
theorem ct_X6_pluck (hl0 : l.stackTraces = false) (hq : h.2 = none) (hh : hOk S) (hv : sInv (S.2.2.2 0)) : ev_Ct G l mX6_pluck 8 2 12 [.ref b, .int x, .int y] (sy G b S h) (fun v a => (v = some (.int ((S.2.2.2 0).2.2 1 x.toInt.toNat)) ∧ a = sy G b (ss_C (sKeep S) 0 (cs_A (S.2.2.2 0) 1 (ev_u ((S.2.2.2 0).2.2 1) x.toInt.toNat y))) h) ∧ (0 ≤ x.toInt ∧ x.toInt < sM (S.2.2.2 0)) ∧ (-10000 ≤ y.toInt ∧ y.toInt ≤ 10000)) (fun E a => ((E = xI ∧ a = sy G b S h) ∧ ¬ (0 ≤ x.toInt ∧ x.toInt < sM (S.2.2.2 0))) ∨ ((E = xA ∧ a = sy G b S h) ∧ (0 ≤ x.toInt ∧ x.toInt < sM (S.2.2.2 0)) ∧ ¬ (-10000 ≤ y.toInt ∧ y.toInt ≤ 10000))) := by
  refine ev_Ct.of (by decide +kernel) (Nat.le_of_ble_eq_true rfl) ?_
  have wm10000 : (-10000 : Int32).toInt = -10000 := by decide +kernel
  have w10000 : (10000 : Int32).toInt = 10000 := by decide +kernel
  refine e_aload_n dX6_pluck_0 rfl rfl ?_
  refine e_iload_n dX6_pluck_1 rfl rfl ?_
  refine e_invVX (mcY := 1) (msY := 6) (ct_X6_requireMass hl0 hq) vX6_requireMass wM_X6_78 (sy_at G b _ h 0 (by decide)) rfl dX6_pluck_2 rfl rfl (Nat.le_of_ble_eq_true rfl) (Nat.le_of_ble_eq_true rfl) rfl rfl (fun E c q => Or.inl q) ?_
  rintro _ _ ⟨⟨rfl, rfl⟩, m1, m2⟩
  refine e_iload_n dX6_pluck_5 rfl rfl ?_
  refine e_sipush (v := (-10000)) dX6_pluck_6 (by decide) ?_
  refine e_sipush (v := 10000) dX6_pluck_9 (by decide) ?_
  refine e_invSX (mcY := 1) (msY := 6) (ct_X6_requireWithin hl0 (q := sy G b S h) hq) vX6_requireWithin wM_X6_48 dX6_pluck_12 rfl rfl (Nat.le_of_ble_eq_true rfl) (Nat.le_of_ble_eq_true rfl) rfl rfl (fun E c q => Or.inr ⟨q.1, ⟨m1, m2⟩, by have := q.2; omega⟩) ?_
  rintro _ _ ⟨⟨rfl, rfl⟩, g1, g2⟩
  refine e_aload_n dX6_pluck_15 rfl rfl ?_
  refine sy_g6_4 wF_X6_33 dX6_pluck_16 ?_
  refine e_aload_n dX6_pluck_19 rfl rfl ?_
  refine sy_g6_2 wF_X6_23 dX6_pluck_20 ?_
  refine e_invV (mcY := 0) (msY := 0) (ct_X1_keep hh) vX1_keep wM_X6_60 (sy_at G b _ h 35 (by decide)) rfl dX6_pluck_23 rfl rfl (Nat.le_of_ble_eq_true rfl) (Nat.le_of_ble_eq_true rfl) ?_
  rintro _ _ ⟨rfl, rfl⟩
  have k0 := sKeep_0 S
  refine e_aload_n dX6_pluck_26 rfl rfl ?_
  refine sy_g6_2 wF_X6_23 dX6_pluck_27 ?_
  refine e_iload_n dX6_pluck_30 rfl rfl ?_
  refine ev_as (sy_as G b _ h 0 (by decide)) ?_
  refine e_invV (mcY := 0) (msY := 0) (ct_X0_displacementOf (c := sc b 0) m1 (by rw [k0]; exact m2) (by rw [k0]; exact hv.1)) vX0_displacementOf wM_X6_119 (ch_at G (sc b 0) _ (sy G b _ h) 0 (by decide)) rfl dX6_pluck_31 rfl rfl (Nat.le_of_ble_eq_true rfl) (Nat.le_of_ble_eq_true rfl) ?_
  rintro _ _ ⟨rfl, rfl⟩
  refine ev_as (sy_as G b _ h 0 (by decide)).symm ?_
  refine e_istore_n dX6_pluck_34 rfl (Nat.le_of_ble_eq_true rfl) ?_
  refine e_aload_n dX6_pluck_35 rfl rfl ?_
  refine sy_g6_2 wF_X6_23 dX6_pluck_36 ?_
  refine e_iload_n dX6_pluck_39 rfl rfl ?_
  refine e_iload_n dX6_pluck_40 rfl rfl ?_
  refine ev_as (sy_as G b _ h 0 (by decide)) ?_
  refine e_invV (mcY := 0) (msY := 0) (ct_X0_displace (c := sc b 0) m1 (by rw [k0]; exact m2) (by rw [k0]; exact hv.1)) vX0_displace wM_X6_146 (ch_at G (sc b 0) _ (sy G b _ h) 0 (by decide)) rfl dX6_pluck_41 rfl rfl (Nat.le_of_ble_eq_true rfl) (Nat.le_of_ble_eq_true rfl) ?_
  rintro _ _ ⟨rfl, rfl⟩
  refine ev_as (sy_chset G b _ h 0 _ (by decide)) ?_
  refine e_iload_n dX6_pluck_44 rfl rfl ?_
  exact e_iret rfl dX6_pluck_45 (⟨⟨by rw [k0], by rw [k0]⟩, ⟨m1, m2⟩, by omega, by omega⟩)
set_option maxRecDepth 20000 in
theorem ct_X6_strike (hl0 : l.stackTraces = false) (hq : h.2 = none) (hh : hOk S) (hv : sInv (S.2.2.2 0)) : ev_Ct G l mX6_strike 8 2 12 [.ref b, .int x, .int y] (sy G b S h) (fun v a => (v = some (.int ((sHit (S.2.2.2 0) x.toInt.toNat y).2.2 2 x.toInt.toNat)) ∧ a = sy G b (ss_C (sKeep S) 0 (sHit (S.2.2.2 0) x.toInt.toNat y)) h) ∧ (0 ≤ x.toInt ∧ x.toInt < sM (S.2.2.2 0)) ∧ (-100000 ≤ y.toInt ∧ y.toInt ≤ 100000)) (fun E a => ((E = xI ∧ a = sy G b S h) ∧ ¬ (0 ≤ x.toInt ∧ x.toInt < sM (S.2.2.2 0))) ∨ ((E = xA ∧ a = sy G b S h) ∧ (0 ≤ x.toInt ∧ x.toInt < sM (S.2.2.2 0)) ∧ ¬ (-100000 ≤ y.toInt ∧ y.toInt ≤ 100000))) := by
  refine ev_Ct.of (by decide +kernel) (Nat.le_of_ble_eq_true rfl) ?_
  have wm100000 : (-100000 : Int32).toInt = -100000 := by decide +kernel
  have w100000 : (100000 : Int32).toInt = 100000 := by decide +kernel
  refine e_aload_n dX6_strike_0 rfl rfl ?_
  refine e_iload_n dX6_strike_1 rfl rfl ?_
  refine e_invVX (mcY := 1) (msY := 6) (ct_X6_requireMass hl0 hq) vX6_requireMass wM_X6_78 (sy_at G b _ h 0 (by decide)) rfl dX6_strike_2 rfl rfl (Nat.le_of_ble_eq_true rfl) (Nat.le_of_ble_eq_true rfl) rfl rfl (fun E c q => Or.inl q) ?_
  rintro _ _ ⟨⟨rfl, rfl⟩, m1, m2⟩
  refine e_iload_n dX6_strike_5 rfl rfl ?_
  refine e_ldc dX6_strike_6 wK_X6_149 ?_
  refine e_ldc dX6_strike_8 wK_X6_150 ?_
  refine e_invSX (mcY := 1) (msY := 6) (ct_X6_requireWithin hl0 (q := sy G b S h) hq) vX6_requireWithin wM_X6_48 dX6_strike_10 rfl rfl (Nat.le_of_ble_eq_true rfl) (Nat.le_of_ble_eq_true rfl) rfl rfl (fun E c q => Or.inr ⟨q.1, ⟨m1, m2⟩, by have := q.2; omega⟩) ?_
  rintro _ _ ⟨⟨rfl, rfl⟩, g1, g2⟩
  refine e_aload_n dX6_strike_13 rfl rfl ?_
  refine sy_g6_4 wF_X6_33 dX6_strike_14 ?_
  refine e_aload_n dX6_strike_17 rfl rfl ?_
  refine sy_g6_2 wF_X6_23 dX6_strike_18 ?_
  refine e_invV (mcY := 0) (msY := 0) (ct_X1_keep hh) vX1_keep wM_X6_60 (sy_at G b _ h 35 (by decide)) rfl dX6_strike_21 rfl rfl (Nat.le_of_ble_eq_true rfl) (Nat.le_of_ble_eq_true rfl) ?_
  rintro _ _ ⟨rfl, rfl⟩
  have k0 := sKeep_0 S
  refine e_aload_n dX6_strike_24 rfl rfl ?_
  refine sy_g6_2 wF_X6_23 dX6_strike_25 ?_
  refine e_iload_n dX6_strike_28 rfl rfl ?_
  refine e_iload_n dX6_strike_29 rfl rfl ?_
  refine ev_as (sy_as G b _ h 0 (by decide)) ?_
  refine e_invV (mcY := 0) (msY := 0) (ct_X0_hit (c := sc b 0) m1 (by rw [k0]; exact m2) (by rw [k0]; exact hv.1)) vX0_hit wM_X6_151 (ch_at G (sc b 0) _ (sy G b _ h) 0 (by decide)) rfl dX6_strike_30 rfl rfl (Nat.le_of_ble_eq_true rfl) (Nat.le_of_ble_eq_true rfl) ?_
  rintro _ _ ⟨rfl, rfl⟩
  refine ev_as (sy_chset G b _ h 0 _ (by decide)) ?_
  refine e_aload_n dX6_strike_33 rfl rfl ?_
  refine sy_g6_2 wF_X6_23 dX6_strike_34 ?_
  refine e_iload_n dX6_strike_37 rfl rfl ?_
  refine ev_as (sy_as G b _ h 0 (by decide)) ?_
  refine e_invV (mcY := 0) (msY := 0) (ct_X0_momentumOf (c := sc b 0) m1 (by rw [ss_C_at, k0]; exact m2) (by rw [ss_C_at, k0]; exact hv.1)) vX0_momentumOf wM_X6_130 (ch_at G (sc b 0) _ (sy G b _ h) 0 (by decide)) rfl dX6_strike_38 rfl rfl (Nat.le_of_ble_eq_true rfl) (Nat.le_of_ble_eq_true rfl) ?_
  rintro _ _ ⟨rfl, rfl⟩
  refine ev_as (sy_as G b _ h 0 (by decide)).symm ?_
  exact e_iret rfl dX6_strike_41 (⟨⟨by rw [ss_C_at, k0], by rw [k0]⟩, ⟨m1, m2⟩, by omega, by omega⟩)
set_option maxRecDepth 20000 in
theorem ct_X6_stiffen (hl0 : l.stackTraces = false) (hq : h.2 = none) (hh : hOk S) (hv : sInv (S.2.2.2 0)) : ev_Ct G l mX6_stiffen 8 2 12 [.ref b, .int x, .int y] (sy G b S h) (fun v a => (v = some (.int ((S.2.2.2 0).2.2 3 x.toInt.toNat)) ∧ a = sy G b (ss_C (sKeep S) 0 (cs_A (S.2.2.2 0) 3 (ev_u ((S.2.2.2 0).2.2 3) x.toInt.toNat y))) h) ∧ (0 ≤ x.toInt ∧ x.toInt ≤ sM (S.2.2.2 0)) ∧ (0 ≤ y.toInt ∧ y.toInt ≤ 999)) (fun E a => ((E = xI ∧ a = sy G b S h) ∧ ¬ (0 ≤ x.toInt ∧ x.toInt ≤ sM (S.2.2.2 0))) ∨ ((E = xA ∧ a = sy G b S h) ∧ (0 ≤ x.toInt ∧ x.toInt ≤ sM (S.2.2.2 0)) ∧ ¬ (0 ≤ y.toInt ∧ y.toInt ≤ 999))) := by
  refine ev_Ct.of (by decide +kernel) (Nat.le_of_ble_eq_true rfl) ?_
  have w0 : (0 : Int32).toInt = 0 := by decide +kernel
  have w999 : (999 : Int32).toInt = 999 := by decide +kernel
  refine e_aload_n dX6_stiffen_0 rfl rfl ?_
  refine e_iload_n dX6_stiffen_1 rfl rfl ?_
  refine e_invVX (mcY := 1) (msY := 6) (ct_X6_requireSpring hl0 hq) vX6_requireSpring wM_X6_85 (sy_at G b _ h 0 (by decide)) rfl dX6_stiffen_2 rfl rfl (Nat.le_of_ble_eq_true rfl) (Nat.le_of_ble_eq_true rfl) rfl rfl (fun E c q => Or.inl q) ?_
  rintro _ _ ⟨⟨rfl, rfl⟩, m1, m2⟩
  refine e_iload_n dX6_stiffen_5 rfl rfl ?_
  refine e_iconst (v := 0) dX6_stiffen_6 (by decide) ?_
  refine e_sipush (v := 999) dX6_stiffen_7 (by decide) ?_
  refine e_invSX (mcY := 1) (msY := 6) (ct_X6_requireWithin hl0 (q := sy G b S h) hq) vX6_requireWithin wM_X6_48 dX6_stiffen_10 rfl rfl (Nat.le_of_ble_eq_true rfl) (Nat.le_of_ble_eq_true rfl) rfl rfl (fun E c q => Or.inr ⟨q.1, ⟨m1, m2⟩, by have := q.2; omega⟩) ?_
  rintro _ _ ⟨⟨rfl, rfl⟩, g1, g2⟩
  refine e_aload_n dX6_stiffen_13 rfl rfl ?_
  refine sy_g6_4 wF_X6_33 dX6_stiffen_14 ?_
  refine e_aload_n dX6_stiffen_17 rfl rfl ?_
  refine sy_g6_2 wF_X6_23 dX6_stiffen_18 ?_
  refine e_invV (mcY := 0) (msY := 0) (ct_X1_keep hh) vX1_keep wM_X6_60 (sy_at G b _ h 35 (by decide)) rfl dX6_stiffen_21 rfl rfl (Nat.le_of_ble_eq_true rfl) (Nat.le_of_ble_eq_true rfl) ?_
  rintro _ _ ⟨rfl, rfl⟩
  have k0 := sKeep_0 S
  refine e_aload_n dX6_stiffen_24 rfl rfl ?_
  refine sy_g6_2 wF_X6_23 dX6_stiffen_25 ?_
  refine e_iload_n dX6_stiffen_28 rfl rfl ?_
  refine ev_as (sy_as G b _ h 0 (by decide)) ?_
  refine e_invV (mcY := 0) (msY := 0) (ct_X0_stiffnessOf (c := sc b 0) m1 (by rw [k0]; exact m2) (by rw [k0]; exact hv.1)) vX0_stiffnessOf wM_X6_172 (ch_at G (sc b 0) _ (sy G b _ h) 0 (by decide)) rfl dX6_stiffen_29 rfl rfl (Nat.le_of_ble_eq_true rfl) (Nat.le_of_ble_eq_true rfl) ?_
  rintro _ _ ⟨rfl, rfl⟩
  refine ev_as (sy_as G b _ h 0 (by decide)).symm ?_
  refine e_istore_n dX6_stiffen_32 rfl (Nat.le_of_ble_eq_true rfl) ?_
  refine e_aload_n dX6_stiffen_33 rfl rfl ?_
  refine sy_g6_2 wF_X6_23 dX6_stiffen_34 ?_
  refine e_iload_n dX6_stiffen_37 rfl rfl ?_
  refine e_iload_n dX6_stiffen_38 rfl rfl ?_
  refine ev_as (sy_as G b _ h 0 (by decide)) ?_
  refine e_invV (mcY := 0) (msY := 0) (ct_X0_setStiffness (c := sc b 0) m1 (by rw [k0]; exact m2) (by rw [k0]; exact hv.1)) vX0_setStiffness wM_X6_175 (ch_at G (sc b 0) _ (sy G b _ h) 0 (by decide)) rfl dX6_stiffen_39 rfl rfl (Nat.le_of_ble_eq_true rfl) (Nat.le_of_ble_eq_true rfl) ?_
  rintro _ _ ⟨rfl, rfl⟩
  refine ev_as (sy_chset G b _ h 0 _ (by decide)) ?_
  refine e_iload_n dX6_stiffen_42 rfl rfl ?_
  exact e_iret rfl dX6_stiffen_43 (⟨⟨by rw [k0], by rw [k0]⟩, ⟨m1, m2⟩, by omega, by omega⟩)
set_option maxRecDepth 20000 in
theorem ct_X6_mend (hl0 : l.stackTraces = false) (hq : h.2 = none) (hh : hOk S) (hv : sInv (S.2.2.2 0)) : ev_Ct G l mX6_mend 8 2 12 [.ref b, .int x] (sy G b S h) (fun v a => (v = some (.int (acc32 0 (sBrk (cs_A (S.2.2.2 0) 5 (ev_u ((S.2.2.2 0).2.2 5) x.toInt.toNat 0))) (sNm (S.2.2.2 0) + 1))) ∧ a = sy G b (ss_C (sKeep S) 0 (cs_A (S.2.2.2 0) 5 (ev_u ((S.2.2.2 0).2.2 5) x.toInt.toNat 0))) h) ∧ (0 ≤ x.toInt ∧ x.toInt ≤ sM (S.2.2.2 0)) ∧ ((S.2.2.2 0).2.2 5 x.toInt.toNat ≠ 0)) (fun E a => ((E = xI ∧ a = sy G b S h) ∧ ¬ (0 ≤ x.toInt ∧ x.toInt ≤ sM (S.2.2.2 0))) ∨ ((E = xS ∧ a = sy G b S h) ∧ (0 ≤ x.toInt ∧ x.toInt ≤ sM (S.2.2.2 0)) ∧ ¬ ((S.2.2.2 0).2.2 5 x.toInt.toNat ≠ 0))) := by
  refine ev_Ct.of (by decide +kernel) (Nat.le_of_ble_eq_true rfl) ?_
  refine e_aload_n dX6_mend_0 rfl rfl ?_
  refine e_iload_n dX6_mend_1 rfl rfl ?_
  refine e_invVX (mcY := 1) (msY := 6) (ct_X6_requireSpring hl0 hq) vX6_requireSpring wM_X6_85 (sy_at G b _ h 0 (by decide)) rfl dX6_mend_2 rfl rfl (Nat.le_of_ble_eq_true rfl) (Nat.le_of_ble_eq_true rfl) rfl rfl (fun E c q => Or.inl q) ?_
  rintro _ _ ⟨⟨rfl, rfl⟩, m1, m2⟩
  refine e_aload_n dX6_mend_5 rfl rfl ?_
  refine sy_g6_2 wF_X6_23 dX6_mend_6 ?_
  refine e_iload_n dX6_mend_9 rfl rfl ?_
  refine ev_as (sy_as G b _ h 0 (by decide)) ?_
  refine e_invV (mcY := 0) (msY := 0) (ct_X0_isBroken (c := sc b 0) m1 m2 hv.1) vX0_isBroken wM_X6_178 (ch_at G (sc b 0) _ (sy G b _ h) 0 (by decide)) rfl dX6_mend_10 rfl rfl (Nat.le_of_ble_eq_true rfl) (Nat.le_of_ble_eq_true rfl) ?_
  rintro _ _ ⟨rfl, rfl⟩
  refine ev_as (sy_as G b _ h 0 (by decide)).symm ?_
  refine e_if_ne (tgt := 26) dX6_mend_13 (by decide) (fun c13 => ?_) (fun c13 => ?_)
  · rw [ar_ite0] at c13
    refine e_aload_n dX6_mend_26 rfl rfl ?_
    refine sy_g6_4 wF_X6_33 dX6_mend_27 ?_
    refine e_aload_n dX6_mend_30 rfl rfl ?_
    refine sy_g6_2 wF_X6_23 dX6_mend_31 ?_
    refine e_invV (mcY := 0) (msY := 0) (ct_X1_keep hh) vX1_keep wM_X6_60 (sy_at G b _ h 35 (by decide)) rfl dX6_mend_34 rfl rfl (Nat.le_of_ble_eq_true rfl) (Nat.le_of_ble_eq_true rfl) ?_
    rintro _ _ ⟨rfl, rfl⟩
    have k0 := sKeep_0 S
    refine e_aload_n dX6_mend_37 rfl rfl ?_
    refine sy_g6_2 wF_X6_23 dX6_mend_38 ?_
    refine e_iload_n dX6_mend_41 rfl rfl ?_
    refine e_iconst (v := 0) dX6_mend_42 (by decide) ?_
    refine ev_as (sy_as G b _ h 0 (by decide)) ?_
    refine e_invV (mcY := 0) (msY := 0) (ct_X0_setBroken (c := sc b 0) (y := 0) m1 (by rw [k0]; exact m2) (by rw [k0]; exact hv.1)) vX0_setBroken wM_X6_184 (ch_at G (sc b 0) _ (sy G b _ h) 0 (by decide)) rfl dX6_mend_43 rfl rfl (Nat.le_of_ble_eq_true rfl) (Nat.le_of_ble_eq_true rfl) ?_
    rintro _ _ ⟨rfl, rfl⟩
    refine ev_as (sy_chset G b _ h 0 _ (by decide)) ?_
    rw [show vp_nar .boolean 0 = 0 by decide +kernel]
    refine e_aload_n dX6_mend_46 rfl rfl ?_
    refine sy_g6_2 wF_X6_23 dX6_mend_47 ?_
    refine ev_as (sy_as G b _ h 0 (by decide)) ?_
    refine e_invV (mcY := 0) (msY := 0) (ct_X0_countBroken (c := sc b 0) (by rw [ss_C_at, k0]; exact hv.1)) vX0_countBroken wM_X6_133 (ch_at G (sc b 0) _ (sy G b _ h) 0 (by decide)) rfl dX6_mend_50 rfl rfl (Nat.le_of_ble_eq_true rfl) (Nat.le_of_ble_eq_true rfl) ?_
    rintro _ _ ⟨rfl, rfl⟩
    refine ev_as (sy_as G b _ h 0 (by decide)).symm ?_
    exact e_iret rfl dX6_mend_53 (⟨⟨by rw [ss_C_at, k0]; rfl, by rw [k0]⟩, ⟨m1, m2⟩, c13⟩)
  · rw [ar_ite0] at c13
    exact e_throwS (E := "java/lang/IllegalStateException") (tx := "the spring is whole") (j := 19) hl0 (by decide +kernel) thr_n wL_X6_164 wN_java_lang_IllegalStateException (by decide +kernel) thr_168 thr_g168 dX6_mend_16 dX6_mend_19 dX6_mend_20 dX6_mend_22 dX6_mend_25 rfl rfl (Nat.le_of_ble_eq_true rfl) (Nat.le_of_ble_eq_true rfl) (Or.inr ⟨⟨rfl, Prod.ext rfl hq.symm⟩, ⟨m1, m2⟩, by simpa using c13⟩)
set_option maxRecDepth 20000 in
theorem ct_X6_move (hl0 : l.stackTraces = false) (hq : h.2 = none) (hh : hOk S) (hv : sInv (S.2.2.2 0)) : ev_Ct G l mX6_move 8 1 6 [.ref b, .int x, .int y] (sy G b S h) (fun v a => (v = some (.int (if x = 0 then (S.2.2.2 0).1 3 else (S.2.2.2 0).1 4)) ∧ a = sy G b (ss_C (sKeep S) 0 (if x = 0 then cs_I (S.2.2.2 0) 3 y else cs_I (S.2.2.2 0) 4 y)) h) ∧ (-100000 ≤ y.toInt ∧ y.toInt ≤ 100000)) (fun E a => (E = xA ∧ a = sy G b S h) ∧ ¬ (-100000 ≤ y.toInt ∧ y.toInt ≤ 100000)) := by
  refine ev_Ct.of (by decide +kernel) (Nat.le_of_ble_eq_true rfl) ?_
  have wm100000 : (-100000 : Int32).toInt = -100000 := by decide +kernel
  have w100000 : (100000 : Int32).toInt = 100000 := by decide +kernel
  refine e_iload_n dX6_move_0 rfl rfl ?_
  refine e_ldc dX6_move_1 wK_X6_149 ?_
  refine e_ldc dX6_move_3 wK_X6_150 ?_
  refine e_invSX (mcY := 1) (msY := 6) (ct_X6_requireWithin hl0 (q := sy G b S h) hq) vX6_requireWithin wM_X6_48 dX6_move_5 rfl rfl (Nat.le_of_ble_eq_true rfl) (Nat.le_of_ble_eq_true rfl) rfl rfl (fun E c q => ⟨q.1, by have := q.2; omega⟩) ?_
  rintro _ _ ⟨⟨rfl, rfl⟩, g1, g2⟩
  refine e_aload_n dX6_move_8 rfl rfl ?_
  refine sy_g6_4 wF_X6_33 dX6_move_9 ?_
  refine e_aload_n dX6_move_12 rfl rfl ?_
  refine sy_g6_2 wF_X6_23 dX6_move_13 ?_
  refine e_invV (mcY := 0) (msY := 0) (ct_X1_keep hh) vX1_keep wM_X6_60 (sy_at G b _ h 35 (by decide)) rfl dX6_move_16 rfl rfl (Nat.le_of_ble_eq_true rfl) (Nat.le_of_ble_eq_true rfl) ?_
  rintro _ _ ⟨rfl, rfl⟩
  have k0 := sKeep_0 S
  refine e_iload_n dX6_move_19 rfl rfl ?_
  refine e_if_eq (tgt := 33) dX6_move_20 (by decide) (fun c20 => ?_) (fun c20 => ?_)
  · refine e_aload_n dX6_move_33 rfl rfl ?_
    refine sy_g6_2 wF_X6_23 dX6_move_34 ?_
    refine ev_as (sy_as G b _ h 0 (by decide)) (ch_g0_3 (c := sc b 0) wF_X6_191 dX6_move_37 (ev_as (sy_as G b _ h 0 (by decide)).symm ?_))
    refine e_istore_n dX6_move_40 rfl (Nat.le_of_ble_eq_true rfl) ?_
    refine e_aload_n dX6_move_41 rfl rfl ?_
    refine sy_g6_2 wF_X6_23 dX6_move_42 ?_
    refine e_iload_n dX6_move_45 rfl rfl ?_
    refine e_iload_n dX6_move_46 rfl rfl ?_
    refine ev_as (sy_as G b _ h 0 (by decide)) ?_
    refine e_invV (mcY := 0) (msY := 0) (ct_X0_setEnd (c := sc b 0)) vX0_setEnd wM_X6_194 (ch_at G (sc b 0) _ (sy G b _ h) 0 (by decide)) rfl dX6_move_47 rfl rfl (Nat.le_of_ble_eq_true rfl) (Nat.le_of_ble_eq_true rfl) ?_
    rintro _ _ ⟨rfl, rfl⟩
    refine ev_as (sy_chset G b _ h 0 _ (by decide)) ?_
    refine e_iload_n dX6_move_50 rfl rfl ?_
    exact e_iret rfl dX6_move_51 (⟨⟨by rw [k0]; first | rw [if_pos c20] | rw [if_neg c20], by rw [k0]⟩, by omega, by omega⟩)
  · refine e_aload_n dX6_move_23 rfl rfl ?_
    refine sy_g6_2 wF_X6_23 dX6_move_24 ?_
    refine ev_as (sy_as G b _ h 0 (by decide)) (ch_g0_4 (c := sc b 0) wF_X6_188 dX6_move_27 (ev_as (sy_as G b _ h 0 (by decide)).symm ?_))
    refine e_goto (tgt := 40) dX6_move_30 (by decide) ?_
    refine e_istore_n dX6_move_40 rfl (Nat.le_of_ble_eq_true rfl) ?_
    refine e_aload_n dX6_move_41 rfl rfl ?_
    refine sy_g6_2 wF_X6_23 dX6_move_42 ?_
    refine e_iload_n dX6_move_45 rfl rfl ?_
    refine e_iload_n dX6_move_46 rfl rfl ?_
    refine ev_as (sy_as G b _ h 0 (by decide)) ?_
    refine e_invV (mcY := 0) (msY := 0) (ct_X0_setEnd (c := sc b 0)) vX0_setEnd wM_X6_194 (ch_at G (sc b 0) _ (sy G b _ h) 0 (by decide)) rfl dX6_move_47 rfl rfl (Nat.le_of_ble_eq_true rfl) (Nat.le_of_ble_eq_true rfl) ?_
    rintro _ _ ⟨rfl, rfl⟩
    refine ev_as (sy_chset G b _ h 0 _ (by decide)) ?_
    refine e_iload_n dX6_move_50 rfl rfl ?_
    exact e_iret rfl dX6_move_51 (⟨⟨by rw [k0]; first | rw [if_pos c20] | rw [if_neg c20], by rw [k0]⟩, by omega, by omega⟩)
set_option maxRecDepth 20000 in
theorem ct_X6_impulse (hl0 : l.stackTraces = false) (hq : h.2 = none) (hh : hOk S) (hv : sInv (S.2.2.2 0)) : ev_Ct G l mX6_impulse 8 4 24 [.ref b, .int x, .int y, .int z] (sy G b S h) (fun v a => (v = some (.int ((S.2.2.2 0).1 5 + 1)) ∧ a = sy G b (ss_C (sKeep S) 0 (sIns (S.2.2.2 0) x y z)) h) ∧ (0 ≤ y.toInt ∧ y.toInt < sM (S.2.2.2 0)) ∧ ((((S.2.2.2 0).1 1).toInt ≤ x.toInt ∧ x.toInt ≤ 9999) ∧ (-9999 ≤ z.toInt ∧ z.toInt ≤ 9999) ∧ z ≠ 0) ∧ sIn (S.2.2.2 0) < 16) (fun E a => ((E = xI ∧ a = sy G b S h) ∧ ¬ (0 ≤ y.toInt ∧ y.toInt < sM (S.2.2.2 0))) ∨ ((E = xA ∧ a = sy G b S h) ∧ (0 ≤ y.toInt ∧ y.toInt < sM (S.2.2.2 0)) ∧ ¬ ((((S.2.2.2 0).1 1).toInt ≤ x.toInt ∧ x.toInt ≤ 9999) ∧ (-9999 ≤ z.toInt ∧ z.toInt ≤ 9999) ∧ z ≠ 0)) ∨ ((E = xS ∧ a = sy G b S h) ∧ (0 ≤ y.toInt ∧ y.toInt < sM (S.2.2.2 0)) ∧ ((((S.2.2.2 0).1 1).toInt ≤ x.toInt ∧ x.toInt ≤ 9999) ∧ (-9999 ≤ z.toInt ∧ z.toInt ≤ 9999) ∧ z ≠ 0) ∧ ¬ sIn (S.2.2.2 0) < 16)) := by
  refine ev_Ct.of (by decide +kernel) (Nat.le_of_ble_eq_true rfl) ?_
  have wm9999 : (-9999 : Int32).toInt = -9999 := by decide +kernel
  have w9999 : (9999 : Int32).toInt = 9999 := by decide +kernel
  have a16 := ar_16
  have hin := hv.2.2.1.nat
  refine e_aload_n dX6_impulse_0 rfl rfl ?_
  refine e_iload_n dX6_impulse_1 rfl rfl ?_
  refine e_invVX (mcY := 1) (msY := 6) (ct_X6_requireMass hl0 hq) vX6_requireMass wM_X6_78 (sy_at G b _ h 0 (by decide)) rfl dX6_impulse_2 rfl rfl (Nat.le_of_ble_eq_true rfl) (Nat.le_of_ble_eq_true rfl) rfl rfl (fun E c q => Or.inl q) ?_
  rintro _ _ ⟨⟨rfl, rfl⟩, m1, m2⟩
  refine e_iload_n dX6_impulse_5 rfl rfl ?_
  refine e_aload_n dX6_impulse_6 rfl rfl ?_
  refine sy_g6_2 wF_X6_23 dX6_impulse_7 ?_
  refine ev_as (sy_as G b _ h 0 (by decide)) (ch_g0_1 (c := sc b 0) wF_X6_154 dX6_impulse_10 (ev_as (sy_as G b _ h 0 (by decide)).symm ?_))
  refine e_sipush (v := 9999) dX6_impulse_13 (by decide) ?_
  refine e_invSX (mcY := 1) (msY := 6) (ct_X6_requireWithin hl0 (q := sy G b S h) hq) vX6_requireWithin wM_X6_48 dX6_impulse_16 rfl rfl (Nat.le_of_ble_eq_true rfl) (Nat.le_of_ble_eq_true rfl) rfl rfl (fun E c q => Or.inr (Or.inl ⟨q.1, ⟨m1, m2⟩, fun r => q.2 ⟨by have := r.1; omega, by have := r.1; omega⟩⟩)) ?_
  rintro _ _ ⟨⟨rfl, rfl⟩, g1, g2⟩
  refine e_iload_n dX6_impulse_19 rfl rfl ?_
  refine e_sipush (v := (-9999)) dX6_impulse_20 (by decide) ?_
  refine e_sipush (v := 9999) dX6_impulse_23 (by decide) ?_
  refine e_invSX (mcY := 1) (msY := 6) (ct_X6_requireWithin hl0 (q := sy G b S h) hq) vX6_requireWithin wM_X6_48 dX6_impulse_26 rfl rfl (Nat.le_of_ble_eq_true rfl) (Nat.le_of_ble_eq_true rfl) rfl rfl (fun E c q => Or.inr (Or.inl ⟨q.1, ⟨m1, m2⟩, fun r => q.2 ⟨by have := r.2.1; omega, by have := r.2.1; omega⟩⟩)) ?_
  rintro _ _ ⟨⟨rfl, rfl⟩, e1, e2⟩
  refine e_iload_n dX6_impulse_29 rfl rfl ?_
  refine e_if_ne (tgt := 43) dX6_impulse_30 (by decide) (fun c30 => ?_) (fun c30 => ?_)
  · refine e_aload_n dX6_impulse_43 rfl rfl ?_
    refine sy_g6_2 wF_X6_23 dX6_impulse_44 ?_
    refine ev_as (sy_as G b _ h 0 (by decide)) (ch_g0_6 (c := sc b 0) wF_X6_107 dX6_impulse_47 (ev_as (sy_as G b _ h 0 (by decide)).symm ?_))
    refine ev_as (sy_as G b _ h 0 (by decide)) (ch_g2_0 (c := sc b 0) wF_X6_111 dX6_impulse_50 (ev_as (sy_as G b _ h 0 (by decide)).symm ?_))
    refine e_bipush (v := 16) dX6_impulse_53 (by decide) ?_
    refine e_icmp_lt (tgt := 68) dX6_impulse_55 (by decide) (fun c55 => ?_) (fun c55 => ?_)
    · have hlt : sIn (S.2.2.2 0) < 16 := by have c55b : ((S.2.2.2 0).1 5).toInt < (16 : Int32).toInt := c55; omega
      refine e_aload_n dX6_impulse_68 rfl rfl ?_
      refine sy_g6_4 wF_X6_33 dX6_impulse_69 ?_
      refine e_aload_n dX6_impulse_72 rfl rfl ?_
      refine sy_g6_2 wF_X6_23 dX6_impulse_73 ?_
      refine e_invV (mcY := 0) (msY := 0) (ct_X1_keep hh) vX1_keep wM_X6_60 (sy_at G b _ h 35 (by decide)) rfl dX6_impulse_76 rfl rfl (Nat.le_of_ble_eq_true rfl) (Nat.le_of_ble_eq_true rfl) ?_
      rintro _ _ ⟨rfl, rfl⟩
      have k0 := sKeep_0 S
      refine e_aload_n dX6_impulse_79 rfl rfl ?_
      refine sy_g6_2 wF_X6_23 dX6_impulse_80 ?_
      refine ev_as (sy_as G b _ h 0 (by decide)) (ch_g0_6 (c := sc b 0) wF_X6_107 dX6_impulse_83 (ev_as (sy_as G b _ h 0 (by decide)).symm ?_))
      refine e_iload_n dX6_impulse_86 rfl rfl ?_
      refine e_iload_n dX6_impulse_87 rfl rfl ?_
      refine e_iload_n dX6_impulse_88 rfl rfl ?_
      refine ev_as (sy_as G b _ h 0 (by decide)) ?_
      refine e_invV (mcY := 0) (msY := 0) (ct_X2_insert (c := sc b 0) (by rw [k0]; exact hv.2.2.1) (by rw [k0]; omega)) vX2_insert wM_X6_169 (ch_at G (sc b 0) _ (sy G b _ h) 8 (by decide)) rfl dX6_impulse_89 rfl rfl (Nat.le_of_ble_eq_true rfl) (Nat.le_of_ble_eq_true rfl) ?_
      rintro _ _ ⟨rfl, rfl⟩
      refine ev_as (sy_chset G b _ h 0 _ (by decide)) ?_
      refine e_aload_n dX6_impulse_92 rfl rfl ?_
      refine sy_g6_2 wF_X6_23 dX6_impulse_93 ?_
      refine ev_as (sy_as G b _ h 0 (by decide)) (ch_g0_6 (c := sc b 0) wF_X6_107 dX6_impulse_96 (ev_as (sy_as G b _ h 0 (by decide)).symm ?_))
      refine ev_as (sy_as G b _ h 0 (by decide)) (ch_g2_0 (c := sc b 0) wF_X6_111 dX6_impulse_99 (ev_as (sy_as G b _ h 0 (by decide)).symm ?_))
      exact e_iret rfl dX6_impulse_102 (⟨⟨by rw [ss_C_at, k0]; rfl, by rw [k0]⟩, ⟨m1, m2⟩, ⟨⟨by omega, by omega⟩, ⟨by omega, by omega⟩, c30⟩, hlt⟩)
    · exact e_throwS (E := "java/lang/IllegalStateException") (tx := "16 impulses wait") (j := 17) hl0 (by decide +kernel) thr_n wL_X6_164 wN_java_lang_IllegalStateException (by decide +kernel) thr_168 thr_g168 dX6_impulse_58 dX6_impulse_61 dX6_impulse_62 dX6_impulse_64 dX6_impulse_67 rfl rfl (Nat.le_of_ble_eq_true rfl) (Nat.le_of_ble_eq_true rfl) (Or.inr (Or.inr ⟨⟨rfl, Prod.ext rfl hq.symm⟩, ⟨m1, m2⟩, ⟨⟨by omega, by omega⟩, ⟨by omega, by omega⟩, c30⟩, fun r => by have c55b : (16 : Int32).toInt ≤ ((S.2.2.2 0).1 5).toInt := c55; omega⟩))
  · exact e_throwS (E := "java/lang/IllegalArgumentException") (tx := "an impulse of strength 0") (j := 16) hl0 (by decide +kernel) thr_n wL_X6_157 wN_java_lang_IllegalArgumentException (by decide +kernel) thr_161 thr_g161 dX6_impulse_33 dX6_impulse_36 dX6_impulse_37 dX6_impulse_39 dX6_impulse_42 rfl rfl (Nat.le_of_ble_eq_true rfl) (Nat.le_of_ble_eq_true rfl) (Or.inr (Or.inl ⟨⟨rfl, Prod.ext rfl hq.symm⟩, ⟨m1, m2⟩, fun r => r.2.2 c30⟩))
set_option maxRecDepth 20000 in
theorem ct_X6_undo (hh : hOk S) : ev_Ct G l mX6_undo 6 0 0 [.ref b] (sy G b S h) (fun v a => ((S.1 2 = 0 ∧ v = some (.int (-1)) ∧ a = sy G b S h) ∨ (S.1 2 ≠ 0 ∧ v = some (.int (S.1 2 - 1)) ∧ a = sy G b (sBack S) h))) (fun _ _ => False) := by
  refine ev_Ct.of (by decide +kernel) (Nat.le_of_ble_eq_true rfl) ?_
  refine e_aload_n dX6_undo_0 rfl rfl ?_
  refine sy_g6_4 wF_X6_33 dX6_undo_1 ?_
  refine sy_g1_0 wF_X6_198 dX6_undo_4 ?_
  refine e_if_ne (tgt := 12) dX6_undo_7 (by decide) (fun c7 => ?_) (fun c7 => ?_)
  · refine e_aload_n dX6_undo_12 rfl rfl ?_
    refine sy_g6_4 wF_X6_33 dX6_undo_13 ?_
    refine e_aload_n dX6_undo_16 rfl rfl ?_
    refine sy_g6_2 wF_X6_23 dX6_undo_17 ?_
    refine e_invV (mcY := 0) (msY := 0) (ct_X1_takeBack hh (by have := hh.1.1; have := ar_0; exact Classical.byContradiction (fun q => c7 (ar_eq (by omega))))) vX1_takeBack wM_X6_199 (sy_at G b _ h 35 (by decide)) rfl dX6_undo_20 rfl rfl (Nat.le_of_ble_eq_true rfl) (Nat.le_of_ble_eq_true rfl) ?_
    rintro _ _ ⟨rfl, rfl⟩
    refine e_aload_n dX6_undo_23 rfl rfl ?_
    refine sy_g6_4 wF_X6_33 dX6_undo_24 ?_
    refine sy_g1_0 wF_X6_198 dX6_undo_27 ?_
    exact e_iret rfl dX6_undo_30 (Or.inr ⟨c7, rfl, rfl⟩)
  · refine e_iconst (v := (-1)) dX6_undo_10 (by decide) ?_
    exact e_iret rfl dX6_undo_11 (Or.inl ⟨c7, rfl, rfl⟩)
/-- what is left of the draft when what is foretold begins -/
abbrev sDr (S : SS) : CS := sBec (S.2.2.2 1) (S.2.2.2 0)
set_option maxRecDepth 20000 in
theorem lp_foretold {J : ev_K} {k n : Nat} (hJ : 8 ≤ J.2.2.1) (hvd : sInv (sDr S)) (y : Int32) (m : Int32) (d : Nat) (hy : y.toInt = (d : Int)) (hd : d ≤ 200) (m1 : 0 ≤ m.toInt) (m2 : m.toInt < sM (S.2.2.2 0)) (w : Int32) (hk : ev_V G l mX6_foretold J 74 [some (.ref b), none, some (.int m), some (.int w), some (.int (sGr (sDr S) m.toInt.toNat d))] [] (sy G b (ss_C S 1 (tickN d (sDr S))) h) k n) : ∀ (r i : Nat) (x : Int32) (z : Int32), r + i = d → x.toInt = (i : Int) → z = sGr (sDr S) m.toInt.toNat i → ev_V G l mX6_foretold J 36 [some (.ref b), some (.int y), some (.int m), some (.int w), some (.int z), some (.int x)] [] (sy G b (ss_C S 1 (tickN i (sDr S))) h) k n := by
  intro r
  induction r using Nat.strongRecOn with
  | ind r ih =>
    intro i x z
    intro hr hx hz
    have hn : x.toInt.toNat = i := ar_nat hx
    have hvi := sInv_tickN hvd i
    have hvi1 := sInv_tickN hvd (i + 1)
    have hsm : sM (tickN (i + 1) (sDr S)) = sM (S.2.2.2 0) := sM_tickN _ (i + 1)
    refine e_iload dX6_foretold_36 rfl ?_
    refine e_iload_n dX6_foretold_38 rfl rfl ?_
    refine e_icmp_ge (tgt := 74) dX6_foretold_39 (by decide) (fun c39 => ?_) (fun c39 => ?_)
    · have hi : i = d := by omega
      subst hi
      subst hz
      exact ev_lc hk ⟨rfl, rfl, rfl, rfl, trivial⟩
    · refine e_aload_n dX6_foretold_42 rfl rfl ?_
      refine sy_g6_3 wF_X6_27 dX6_foretold_43 ?_
      refine ev_as (sy_as G b _ h 1 (by decide)) ?_
      refine e_invV (mcY := 0) (msY := 0) (ct_X0_tick (c := sc b 1) (σ := (ss_C S 1 (tickN i (sDr S))).2.2.2 1) hvi) vX0_tick wM_X6_115 (ch_at G (sc b 1) _ (sy G b _ h) 0 (by decide)) rfl dX6_foretold_46 rfl rfl (Nat.le_of_ble_eq_true rfl) (Nat.le_trans (Nat.le_of_ble_eq_true rfl) hJ) ?_
      rintro _ _ ⟨rfl, rfl⟩
      refine ev_as (sy_chset G b _ h 1 _ (by decide)) ?_
      refine e_pop dX6_foretold_49 rfl ?_
      refine e_iload dX6_foretold_50 rfl ?_
      refine e_aload_n dX6_foretold_52 rfl rfl ?_
      refine sy_g6_3 wF_X6_27 dX6_foretold_53 ?_
      refine e_iload_n dX6_foretold_56 rfl rfl ?_
      refine ev_as (sy_as G b _ h 1 (by decide)) ?_
      refine e_invV (mcY := 0) (msY := 0) (ct_X0_displacementOf (c := sc b 1) (σ := (ss_C (ss_C S 1 (tickN i (sDr S))) 1 (sTick ((ss_C S 1 (tickN i (sDr S))).2.2.2 1))).2.2.2 1) m1 (by rw [ss_C_at]; show m.toInt < sM (tickN (i + 1) (sDr S)); omega) (by rw [ss_C_at]; exact hvi1.1)) vX0_displacementOf wM_X6_119 (ch_at G (sc b 1) _ (sy G b _ h) 0 (by decide)) rfl dX6_foretold_57 rfl rfl (Nat.le_of_ble_eq_true rfl) (Nat.le_trans (Nat.le_of_ble_eq_true rfl) hJ) ?_
      rintro _ _ ⟨rfl, rfl⟩
      refine ev_as (sy_as G b _ h 1 (by decide)).symm ?_
      refine e_mabs wM_X6_122 (Nat.le_of_ble_eq_true rfl) (Nat.le_trans (Nat.le_of_ble_eq_true rfl) hJ) dX6_foretold_60 ?_
      refine e_mmax wM_X6_127 (Nat.le_of_ble_eq_true rfl) (Nat.le_trans (Nat.le_of_ble_eq_true rfl) hJ) dX6_foretold_63 ?_
      refine e_istore dX6_foretold_66 (Nat.le_of_ble_eq_true rfl) ?_
      refine e_iinc dX6_foretold_68 rfl rfl (Nat.le_of_ble_eq_true rfl) ?_
      refine e_goto (tgt := 36) dX6_foretold_71 (by decide) ?_
      refine ev_as ?_ (ih (r - 1) (by omega) (i + 1) _ _ (by omega) (ar_inc hx (by omega)) ?_)
      · rw [ss_C_C]; rfl
      · rw [hz]; rfl
set_option maxRecDepth 20000 in
theorem ct_X6_foretold (hl0 : l.stackTraces = false) (hq : h.2 = none) (hvd : sInv (sDr S)) : ev_Ct G l mX6_foretold 9 3 18 [.ref b, .int x, .int y, .int z] (sy G b S h) (fun v a => (v = some (.int (match z.toInt.toNat with | 0 => (tickN x.toInt.toNat (sDr S)).2.2 1 y.toInt.toNat | 1 => (tickN x.toInt.toNat (sDr S)).2.2 2 y.toInt.toNat | 2 => sGr (sDr S) y.toInt.toNat x.toInt.toNat | 3 => acc32 0 (sBrk (tickN x.toInt.toNat (sDr S))) (sNm (tickN x.toInt.toNat (sDr S)) + 1) | _ => sNod (tickN x.toInt.toNat (sDr S)))) ∧ ∃ τ, a = sy G b (ss_C S 1 τ) h) ∧ (0 ≤ y.toInt ∧ y.toInt < sM (S.2.2.2 0)) ∧ ((1 ≤ x.toInt ∧ x.toInt ≤ 200) ∧ (0 ≤ z.toInt ∧ z.toInt ≤ 4))) (fun E a => ((E = xI ∧ a = sy G b S h) ∧ ¬ (0 ≤ y.toInt ∧ y.toInt < sM (S.2.2.2 0))) ∨ ((E = xA ∧ a = sy G b S h) ∧ (0 ≤ y.toInt ∧ y.toInt < sM (S.2.2.2 0)) ∧ ¬ ((1 ≤ x.toInt ∧ x.toInt ≤ 200) ∧ (0 ≤ z.toInt ∧ z.toInt ≤ 4)))) := by
  refine ev_Ct.of (by decide +kernel) (Nat.le_of_ble_eq_true rfl) ?_
  have w0 : (0 : Int32).toInt = 0 := by decide +kernel
  have w1 : (1 : Int32).toInt = 1 := by decide +kernel
  have w4 : (4 : Int32).toInt = 4 := by decide +kernel
  have w200 : (200 : Int32).toInt = 200 := by decide +kernel
  refine e_aload_n dX6_foretold_0 rfl rfl ?_
  refine e_iload_n dX6_foretold_1 rfl rfl ?_
  refine e_invVX (mcY := 1) (msY := 6) (ct_X6_requireMass hl0 hq) vX6_requireMass wM_X6_78 (sy_at G b _ h 0 (by decide)) rfl dX6_foretold_2 rfl rfl (Nat.le_of_ble_eq_true rfl) (Nat.le_of_ble_eq_true rfl) rfl rfl (fun E c q => Or.inl q) ?_
  rintro _ _ ⟨⟨rfl, rfl⟩, m1, m2⟩
  refine e_iload_n dX6_foretold_5 rfl rfl ?_
  refine e_iconst (v := 1) dX6_foretold_6 (by decide) ?_
  refine e_sipush (v := 200) dX6_foretold_7 (by decide) ?_
  refine e_invSX (mcY := 1) (msY := 6) (ct_X6_requireWithin hl0 (q := sy G b S h) hq) vX6_requireWithin wM_X6_48 dX6_foretold_10 rfl rfl (Nat.le_of_ble_eq_true rfl) (Nat.le_of_ble_eq_true rfl) rfl rfl (fun E c q => Or.inr ⟨q.1, ⟨m1, m2⟩, fun r => q.2 ⟨by have := r.1; omega, by have := r.1; omega⟩⟩) ?_
  rintro _ _ ⟨⟨rfl, rfl⟩, g1, g2⟩
  refine e_iload_n dX6_foretold_13 rfl rfl ?_
  refine e_iconst (v := 0) dX6_foretold_14 (by decide) ?_
  refine e_iconst (v := 4) dX6_foretold_15 (by decide) ?_
  refine e_invSX (mcY := 1) (msY := 6) (ct_X6_requireWithin hl0 (q := sy G b S h) hq) vX6_requireWithin wM_X6_48 dX6_foretold_16 rfl rfl (Nat.le_of_ble_eq_true rfl) (Nat.le_of_ble_eq_true rfl) rfl rfl (fun E c q => Or.inr ⟨q.1, ⟨m1, m2⟩, fun r => q.2 ⟨by have := r.2; omega, by have := r.2; omega⟩⟩) ?_
  rintro _ _ ⟨⟨rfl, rfl⟩, e1, e2⟩
  refine e_aload_n dX6_foretold_19 rfl rfl ?_
  refine sy_g6_3 wF_X6_27 dX6_foretold_20 ?_
  refine e_aload_n dX6_foretold_23 rfl rfl ?_
  refine sy_g6_2 wF_X6_23 dX6_foretold_24 ?_
  refine ev_as (sy_as2 G b _ h 1 0 (by decide) (by decide)) ?_
  refine e_invV (mcY := 0) (msY := 0) (ct_X0_become (c := sc b 1) (e := sc b 0) (sc_apart b 1 0 (by decide) (by decide) (by decide))) vX0_become wM_X6_64 (ch_at G (sc b 1) _ (ch G (sc b 0) _ (sy G b _ h)) 0 (by decide)) rfl dX6_foretold_27 rfl rfl (Nat.le_of_ble_eq_true rfl) (Nat.le_of_ble_eq_true rfl) ?_
  rintro _ _ ⟨rfl, rfl⟩
  refine ev_as (sy_ch2 G b _ h 1 0 _ (by decide) (by decide)) ?_
  refine e_iconst (v := 0) dX6_foretold_30 (by decide) ?_
  refine e_istore dX6_foretold_31 (Nat.le_of_ble_eq_true rfl) ?_
  refine e_iconst (v := 0) dX6_foretold_33 (by decide) ?_
  refine e_istore dX6_foretold_34 (Nat.le_of_ble_eq_true rfl) ?_
  refine ev_loc (L' := [some (.ref b), some (.int x), some (.int y), some (.int z), some (.int 0), some (.int 0)]) ⟨rfl, rfl, rfl, rfl, rfl, rfl, trivial⟩ ?_
  refine lp_foretold (Nat.le_of_ble_eq_true rfl) hvd x y x.toInt.toNat (by omega) (by omega) m1 m2 z ?_ x.toInt.toNat 0 _ _ (by omega) ar_0 rfl
  have hsm : sM (tickN x.toInt.toNat (sDr S)) = sM (S.2.2.2 0) := sM_tickN _ _
  have hvx := sInv_tickN hvd x.toInt.toNat
  refine e_iload_n dX6_foretold_74 rfl rfl ?_
  rcases (show z.toInt = 0 ∨ z.toInt = 1 ∨ z.toInt = 2 ∨ z.toInt = 3 ∨ z.toInt = 4 by omega) with hsw | hsw | hsw | hsw | hsw
  · refine e_tableIn (off := 29) (tgt := 104) dX6_foretold_75 (by omega) (by omega) (by rw [hsw]; rfl) (by decide) ?_
    refine e_aload_n dX6_foretold_104 rfl rfl ?_
    refine sy_g6_3 wF_X6_27 dX6_foretold_105 ?_
    refine e_iload_n dX6_foretold_108 rfl rfl ?_
    refine ev_as (sy_as G b _ h 1 (by decide)) ?_
    refine e_invV (mcY := 0) (msY := 0) (ct_X0_displacementOf (c := sc b 1) (σ := (ss_C S 1 (tickN x.toInt.toNat (sDr S))).2.2.2 1) m1 (by rw [ss_C_at]; omega) (by rw [ss_C_at]; exact hvx.1)) vX0_displacementOf wM_X6_119 (ch_at G (sc b 1) _ (sy G b _ h) 0 (by decide)) rfl dX6_foretold_109 rfl rfl (Nat.le_of_ble_eq_true rfl) (Nat.le_of_ble_eq_true rfl) ?_
    rintro _ _ ⟨rfl, rfl⟩
    refine ev_as (sy_as G b _ h 1 (by decide)).symm ?_
    exact e_iret rfl dX6_foretold_112 (by exact ⟨⟨by rw [hsw]; first | rfl | (rw [ss_C_at]; rfl), _, rfl⟩, ⟨m1, m2⟩, ⟨by omega, by omega⟩, by omega, by omega⟩)
  · refine e_tableIn (off := 38) (tgt := 113) dX6_foretold_75 (by omega) (by omega) (by rw [hsw]; rfl) (by decide) ?_
    refine e_aload_n dX6_foretold_113 rfl rfl ?_
    refine sy_g6_3 wF_X6_27 dX6_foretold_114 ?_
    refine e_iload_n dX6_foretold_117 rfl rfl ?_
    refine ev_as (sy_as G b _ h 1 (by decide)) ?_
    refine e_invV (mcY := 0) (msY := 0) (ct_X0_momentumOf (c := sc b 1) (σ := (ss_C S 1 (tickN x.toInt.toNat (sDr S))).2.2.2 1) m1 (by rw [ss_C_at]; omega) (by rw [ss_C_at]; exact hvx.1)) vX0_momentumOf wM_X6_130 (ch_at G (sc b 1) _ (sy G b _ h) 0 (by decide)) rfl dX6_foretold_118 rfl rfl (Nat.le_of_ble_eq_true rfl) (Nat.le_of_ble_eq_true rfl) ?_
    rintro _ _ ⟨rfl, rfl⟩
    refine ev_as (sy_as G b _ h 1 (by decide)).symm ?_
    exact e_iret rfl dX6_foretold_121 (by exact ⟨⟨by rw [hsw]; first | rfl | (rw [ss_C_at]; rfl), _, rfl⟩, ⟨m1, m2⟩, ⟨by omega, by omega⟩, by omega, by omega⟩)
  · refine e_tableIn (off := 47) (tgt := 122) dX6_foretold_75 (by omega) (by omega) (by rw [hsw]; rfl) (by decide) ?_
    refine e_iload dX6_foretold_122 rfl ?_
    exact e_iret rfl dX6_foretold_124 (by exact ⟨⟨by rw [hsw]; first | rfl | (rw [ss_C_at]; rfl), _, rfl⟩, ⟨m1, m2⟩, ⟨by omega, by omega⟩, by omega, by omega⟩)
  · refine e_tableIn (off := 50) (tgt := 125) dX6_foretold_75 (by omega) (by omega) (by rw [hsw]; rfl) (by decide) ?_
    refine e_aload_n dX6_foretold_125 rfl rfl ?_
    refine sy_g6_3 wF_X6_27 dX6_foretold_126 ?_
    refine ev_as (sy_as G b _ h 1 (by decide)) ?_
    refine e_invV (mcY := 0) (msY := 0) (ct_X0_countBroken (c := sc b 1) (σ := (ss_C S 1 (tickN x.toInt.toNat (sDr S))).2.2.2 1) (by rw [ss_C_at]; exact hvx.1)) vX0_countBroken wM_X6_133 (ch_at G (sc b 1) _ (sy G b _ h) 0 (by decide)) rfl dX6_foretold_129 rfl rfl (Nat.le_of_ble_eq_true rfl) (Nat.le_of_ble_eq_true rfl) ?_
    rintro _ _ ⟨rfl, rfl⟩
    refine ev_as (sy_as G b _ h 1 (by decide)).symm ?_
    exact e_iret rfl dX6_foretold_132 (by exact ⟨⟨by rw [hsw]; first | rfl | (rw [ss_C_at]; rfl), _, rfl⟩, ⟨m1, m2⟩, ⟨by omega, by omega⟩, by omega, by omega⟩)
  · refine e_tableOut (tgt := 133) dX6_foretold_75 (by omega) (by decide) ?_
    refine e_aload_n dX6_foretold_133 rfl rfl ?_
    refine sy_g6_3 wF_X6_27 dX6_foretold_134 ?_
    refine ev_as (sy_as G b _ h 1 (by decide)) ?_
    refine e_invV (mcY := 0) (msY := 0) (ct_X0_countNodes (c := sc b 1) (σ := (ss_C S 1 (tickN x.toInt.toNat (sDr S))).2.2.2 1) (by rw [ss_C_at]; exact hvx.1)) vX0_countNodes wM_X6_136 (ch_at G (sc b 1) _ (sy G b _ h) 0 (by decide)) rfl dX6_foretold_137 rfl rfl (Nat.le_of_ble_eq_true rfl) (Nat.le_of_ble_eq_true rfl) ?_
    rintro _ _ ⟨rfl, rfl⟩
    refine ev_as (sy_as G b _ h 1 (by decide)).symm ?_
    exact e_iret rfl dX6_foretold_140 (by exact ⟨⟨by rw [hsw]; first | rfl | (rw [ss_C_at]; rfl), _, rfl⟩, ⟨m1, m2⟩, ⟨by omega, by omega⟩, by omega, by omega⟩)
end Y3
