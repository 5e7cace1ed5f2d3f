/-! the model's calls that change nothing -/
section M6
variable {G : ev_G} {l : Launch} {c j w : Nat} {μ : MS} {σ : CS} {h : ev_H} {x y z : Int32} {T : Int}
set_option maxRecDepth 20000 in
theorem ct_X7_noMass (h0 : μ.1 0 = 0) (hR : RD σ (μ.2.1 0)) (hv : sInv σ) : ev_Ct G l mX7_noMass 2 0 0 [.ref c, .int x] (mo G c μ h) (fun v a => ((0 ≤ x.toInt ∧ x.toInt < sM σ) ∧ v = some (.int 0) ∧ a = mo G c μ h) ∨ (¬ (0 ≤ x.toInt ∧ x.toInt < sM σ) ∧ v = some (.int 1) ∧ a = mo G c (ms_I μ 0 1) h)) (fun _ _ => False) := by
  refine ev_Ct.of (by decide +kernel) (Nat.le_of_ble_eq_true rfl) ?_
  have hmn := hv.1.nat
  have hmu : (σ.1 0).toInt = sM σ := rfl
  have z0 := ar_0
  have z1 := ar_1
  have zL : (0 : Int64).toInt = 0 := by decide +kernel
  have zc : (0 : Int32).toInt64 = 0 := by decide +kernel
  have em : (σ.1 0 - 1).toInt = sM σ - 1 := by rw [ar_sub (by omega) (by omega), z1, hmu]
  refine e_aload_n dX7_noMass_0 rfl rfl ?_
  refine e_iload_n dX7_noMass_1 rfl rfl ?_
  refine e_iconst (v := 0) dX7_noMass_2 (by decide) ?_
  refine e_aload_n dX7_noMass_3 rfl rfl ?_
  refine e_invV (mcY := 0) (msY := 0) (ct_X7_masses hR) vX7_masses wM_X7_199 (mo_at G c _ h 0 (by decide)) rfl dX7_noMass_4 rfl rfl (Nat.le_of_ble_eq_true rfl) (Nat.le_of_ble_eq_true rfl) ?_
  rintro _ _ ⟨rfl, rfl⟩
  refine e_iconst (v := 1) dX7_noMass_7 (by decide) ?_
  refine e_isub dX7_noMass_8 ?_
  refine e_invS (mcY := 0) (msY := 0) (ct_X7_in) vX7_in wM_X7_65 dX7_noMass_9 rfl rfl (Nat.le_of_ble_eq_true rfl) (Nat.le_of_ble_eq_true rfl) ?_
  rintro _ _ hc
  rcases hc with ⟨hin, rfl, rfl⟩ | ⟨hin, rfl, rfl⟩
  · refine e_if_ne (tgt := 19) dX7_noMass_12 (by decide) (fun c12 => ?_) (fun c12 => ?_)
    · refine e_iconst (v := 0) dX7_noMass_19 (by decide) ?_
      refine e_iconst (v := 1) dX7_noMass_20 (by decide) ?_
      refine e_invV (mcY := 0) (msY := 0) (ct_X7_fails0 h0) vX7_fails wM_X7_183 (mo_at G c _ h 0 (by decide)) rfl dX7_noMass_21 rfl rfl (Nat.le_of_ble_eq_true rfl) (Nat.le_of_ble_eq_true rfl) ?_
      rintro _ _ ⟨rfl, rfl⟩
      exact e_zret (ty := .boolean) rfl rfl dX7_noMass_24 (by first | exact Or.inl ⟨by omega, rfl, rfl⟩ | exact Or.inr ⟨fun q => by omega, rfl, rfl⟩)
    · first | exact absurd c12 (by decide) | exact absurd rfl c12
  · refine e_if_ne (tgt := 19) dX7_noMass_12 (by decide) (fun c12 => ?_) (fun c12 => ?_)
    · first | exact absurd c12 (by decide) | exact absurd rfl c12
    · refine e_iconst (v := 1) dX7_noMass_15 (by decide) ?_
      refine e_goto (tgt := 20) dX7_noMass_16 (by decide) ?_
      refine e_iconst (v := 1) dX7_noMass_20 (by decide) ?_
      refine e_invV (mcY := 0) (msY := 0) (ct_X7_fails1 h0 (by decide : (1 : Int32) ≠ 0)) vX7_fails wM_X7_183 (mo_at G c _ h 0 (by decide)) rfl dX7_noMass_21 rfl rfl (Nat.le_of_ble_eq_true rfl) (Nat.le_of_ble_eq_true rfl) ?_
      rintro _ _ ⟨rfl, rfl⟩
      exact e_zret (ty := .boolean) rfl rfl dX7_noMass_24 (by first | exact Or.inl ⟨by omega, rfl, rfl⟩ | exact Or.inr ⟨fun q => by omega, rfl, rfl⟩)
set_option maxRecDepth 20000 in
theorem ct_X7_noSpring (h0 : μ.1 0 = 0) (hR : RD σ (μ.2.1 0)) (hv : sInv σ) : ev_Ct G l mX7_noSpring 2 0 0 [.ref c, .int x] (mo G c μ h) (fun v a => ((0 ≤ x.toInt ∧ x.toInt ≤ sM σ) ∧ v = some (.int 0) ∧ a = mo G c μ h) ∨ (¬ (0 ≤ x.toInt ∧ x.toInt ≤ sM σ) ∧ v = some (.int 1) ∧ a = mo G c (ms_I μ 0 1) h)) (fun _ _ => False) := by
  refine ev_Ct.of (by decide +kernel) (Nat.le_of_ble_eq_true rfl) ?_
  have hmn := hv.1.nat
  have hmu : (σ.1 0).toInt = sM σ := rfl
  have z0 := ar_0
  have z1 := ar_1
  have zL : (0 : Int64).toInt = 0 := by decide +kernel
  have zc : (0 : Int32).toInt64 = 0 := by decide +kernel
  have em : (σ.1 0 - 1).toInt = sM σ - 1 := by rw [ar_sub (by omega) (by omega), z1, hmu]
  refine e_aload_n dX7_noSpring_0 rfl rfl ?_
  refine e_iload_n dX7_noSpring_1 rfl rfl ?_
  refine e_iconst (v := 0) dX7_noSpring_2 (by decide) ?_
  refine e_aload_n dX7_noSpring_3 rfl rfl ?_
  refine e_invV (mcY := 0) (msY := 0) (ct_X7_masses hR) vX7_masses wM_X7_199 (mo_at G c _ h 0 (by decide)) rfl dX7_noSpring_4 rfl rfl (Nat.le_of_ble_eq_true rfl) (Nat.le_of_ble_eq_true rfl) ?_
  rintro _ _ ⟨rfl, rfl⟩
  refine e_invS (mcY := 0) (msY := 0) (ct_X7_in) vX7_in wM_X7_65 dX7_noSpring_7 rfl rfl (Nat.le_of_ble_eq_true rfl) (Nat.le_of_ble_eq_true rfl) ?_
  rintro _ _ hc
  rcases hc with ⟨hin, rfl, rfl⟩ | ⟨hin, rfl, rfl⟩
  · refine e_if_ne (tgt := 17) dX7_noSpring_10 (by decide) (fun c10 => ?_) (fun c10 => ?_)
    · refine e_iconst (v := 0) dX7_noSpring_17 (by decide) ?_
      refine e_iconst (v := 1) dX7_noSpring_18 (by decide) ?_
      refine e_invV (mcY := 0) (msY := 0) (ct_X7_fails0 h0) vX7_fails wM_X7_183 (mo_at G c _ h 0 (by decide)) rfl dX7_noSpring_19 rfl rfl (Nat.le_of_ble_eq_true rfl) (Nat.le_of_ble_eq_true rfl) ?_
      rintro _ _ ⟨rfl, rfl⟩
      exact e_zret (ty := .boolean) rfl rfl dX7_noSpring_22 (by first | exact Or.inl ⟨by omega, rfl, rfl⟩ | exact Or.inr ⟨fun q => by omega, rfl, rfl⟩)
    · first | exact absurd c10 (by decide) | exact absurd rfl c10
  · refine e_if_ne (tgt := 17) dX7_noSpring_10 (by decide) (fun c10 => ?_) (fun c10 => ?_)
    · first | exact absurd c10 (by decide) | exact absurd rfl c10
    · refine e_iconst (v := 1) dX7_noSpring_13 (by decide) ?_
      refine e_goto (tgt := 18) dX7_noSpring_14 (by decide) ?_
      refine e_iconst (v := 1) dX7_noSpring_18 (by decide) ?_
      refine e_invV (mcY := 0) (msY := 0) (ct_X7_fails1 h0 (by decide : (1 : Int32) ≠ 0)) vX7_fails wM_X7_183 (mo_at G c _ h 0 (by decide)) rfl dX7_noSpring_19 rfl rfl (Nat.le_of_ble_eq_true rfl) (Nat.le_of_ble_eq_true rfl) ?_
      rintro _ _ ⟨rfl, rfl⟩
      exact e_zret (ty := .boolean) rfl rfl dX7_noSpring_22 (by first | exact Or.inl ⟨by omega, rfl, rfl⟩ | exact Or.inr ⟨fun q => by omega, rfl, rfl⟩)
set_option maxRecDepth 20000 in
theorem ct_X7_errorOffset  : ev_Ct G l mX7_errorOffset 1 0 0 [.ref c] (mo G c μ h) (fun v a => v = some (.int (μ.1 6)) ∧ a = mo G c (ms_I μ 0 0) h) (fun _ _ => False) := by
  refine ev_Ct.of (by decide +kernel) (Nat.le_of_ble_eq_true rfl) ?_
  refine e_aload_n dX7_errorOffset_0 rfl rfl ?_
  refine e_iconst (v := 0) dX7_errorOffset_1 (by decide) ?_
  refine mo_p0 wF_X7_39 dX7_errorOffset_2 ?_
  refine e_aload_n dX7_errorOffset_5 rfl rfl ?_
  refine mo_g7 wF_X7_13 dX7_errorOffset_6 ?_
  exact e_iret rfl dX7_errorOffset_9 (⟨by rw [ms_I_ne _ _ (by decide)], rfl⟩)
set_option maxRecDepth 20000 in
theorem ct_X7_state (hR : RD σ (μ.2.1 0)) (hv : sInv σ) (hb : RBs σ) : ev_Ct G l mX7_state 5 0 0 [.ref c, .int x] (mo G c μ h) (fun v a => ((0 ≤ x.toInt ∧ x.toInt ≤ 11) ∧ v = some (.int (sTell σ x.toInt.toNat)) ∧ a = mo G c (ms_I μ 0 0) h) ∨ (¬ (0 ≤ x.toInt ∧ x.toInt ≤ 11) ∧ v = some (.int 0) ∧ a = mo G c (ms_I μ 0 1) h)) (fun _ _ => False) := by
  refine ev_Ct.of (by decide +kernel) (Nat.le_of_ble_eq_true rfl) ?_
  have hmn := hv.1.nat
  have hmu : (σ.1 0).toInt = sM σ := rfl
  have z0 := ar_0
  have z1 := ar_1
  have zL : (0 : Int64).toInt = 0 := by decide +kernel
  have zc : (0 : Int32).toInt64 = 0 := by decide +kernel
  have w11 : (11 : Int32).toInt = 11 := by decide +kernel
  refine e_aload_n dX7_state_0 rfl rfl ?_
  refine e_iconst (v := 0) dX7_state_1 (by decide) ?_
  refine mo_p0 wF_X7_39 dX7_state_2 ?_
  refine e_aload_n dX7_state_5 rfl rfl ?_
  refine e_iload_n dX7_state_6 rfl rfl ?_
  refine e_iconst (v := 0) dX7_state_7 (by decide) ?_
  refine e_bipush (v := 11) dX7_state_8 (by decide) ?_
  refine e_invS (mcY := 0) (msY := 0) (ct_X7_in) vX7_in wM_X7_65 dX7_state_10 rfl rfl (Nat.le_of_ble_eq_true rfl) (Nat.le_of_ble_eq_true rfl) ?_
  rintro _ _ hc
  rcases hc with ⟨hin, rfl, rfl⟩ | ⟨hin, rfl, rfl⟩
  · refine e_if_ne (tgt := 20) dX7_state_13 (by decide) (fun c13 => ?_) (fun c13 => ?_)
    · refine e_iconst (v := 0) dX7_state_20 (by decide) ?_
      refine e_iconst (v := 1) dX7_state_21 (by decide) ?_
      refine e_invV (mcY := 0) (msY := 0) (ct_X7_fails0 (ms_I_get μ 0 0)) vX7_fails wM_X7_183 (mo_at G c _ h 0 (by decide)) rfl dX7_state_22 rfl rfl (Nat.le_of_ble_eq_true rfl) (Nat.le_of_ble_eq_true rfl) ?_
      rintro _ _ ⟨rfl, rfl⟩
      refine e_if_eq (tgt := 32) dX7_state_25 (by decide) (fun c25 => ?_) (fun c25 => ?_)
      · refine e_aload_n dX7_state_32 rfl rfl ?_
        refine e_iload_n dX7_state_33 rfl rfl ?_
        refine e_invV (mcY := 0) (msY := 0) (ct_X7_told (μ := ms_I μ 0 0) hR hv hb (by omega) (by omega)) vX7_told wM_X7_262 (mo_at G c _ h 0 (by decide)) rfl dX7_state_34 rfl rfl (Nat.le_of_ble_eq_true rfl) (Nat.le_of_ble_eq_true rfl) ?_
        rintro _ _ ⟨rfl, rfl⟩
        exact e_iret rfl dX7_state_37 (by first | exact Or.inl ⟨by omega, rfl, rfl⟩ | exact Or.inr ⟨fun q => by omega, rfl, rfl⟩)
      · first | exact absurd c25 (by decide) | exact absurd rfl c25
    · first | exact absurd c13 (by decide) | exact absurd rfl c13
  · refine e_if_ne (tgt := 20) dX7_state_13 (by decide) (fun c13 => ?_) (fun c13 => ?_)
    · first | exact absurd c13 (by decide) | exact absurd rfl c13
    · refine e_iconst (v := 1) dX7_state_16 (by decide) ?_
      refine e_goto (tgt := 21) dX7_state_17 (by decide) ?_
      refine e_iconst (v := 1) dX7_state_21 (by decide) ?_
      refine e_invV (mcY := 0) (msY := 0) (ct_X7_fails1 (ms_I_get μ 0 0) (by decide : (1 : Int32) ≠ 0)) vX7_fails wM_X7_183 (mo_at G c _ h 0 (by decide)) rfl dX7_state_22 rfl rfl (Nat.le_of_ble_eq_true rfl) (Nat.le_of_ble_eq_true rfl) ?_
      rintro _ _ ⟨rfl, rfl⟩
      rw [ms_I_I]
      refine e_if_eq (tgt := 32) dX7_state_25 (by decide) (fun c25 => ?_) (fun c25 => ?_)
      · first | exact absurd c25 (by decide) | exact absurd rfl c25
      · refine e_iconst (v := 0) dX7_state_28 (by decide) ?_
        refine e_goto (tgt := 37) dX7_state_29 (by decide) ?_
        exact e_iret rfl dX7_state_37 (by first | exact Or.inl ⟨by omega, rfl, rfl⟩ | exact Or.inr ⟨fun q => by omega, rfl, rfl⟩)
set_option maxRecDepth 20000 in
theorem ct_X7_account (hR : RD σ (μ.2.1 0)) (hv : sInv σ) (hb : RBs σ) : ev_Ct G l mX7_account 6 0 0 [.ref c, .int x] (mo G c μ h) (fun v a => ((0 ≤ x.toInt ∧ x.toInt ≤ 7) ∧ v = some (.long (sAcc σ x.toInt.toNat)) ∧ a = mo G c (ms_I μ 0 0) h) ∨ (¬ (0 ≤ x.toInt ∧ x.toInt ≤ 7) ∧ v = some (.long 0) ∧ a = mo G c (ms_I μ 0 1) h)) (fun _ _ => False) := by
  refine ev_Ct.of (by decide +kernel) (Nat.le_of_ble_eq_true rfl) ?_
  have hmn := hv.1.nat
  have hmu : (σ.1 0).toInt = sM σ := rfl
  have z0 := ar_0
  have z1 := ar_1
  have zL : (0 : Int64).toInt = 0 := by decide +kernel
  have zc : (0 : Int32).toInt64 = 0 := by decide +kernel
  have w7 : (7 : Int32).toInt = 7 := by decide +kernel
  refine e_aload_n dX7_account_0 rfl rfl ?_
  refine e_iconst (v := 0) dX7_account_1 (by decide) ?_
  refine mo_p0 wF_X7_39 dX7_account_2 ?_
  refine e_aload_n dX7_account_5 rfl rfl ?_
  refine e_iload_n dX7_account_6 rfl rfl ?_
  refine e_iconst (v := 0) dX7_account_7 (by decide) ?_
  refine e_bipush (v := 7) dX7_account_8 (by decide) ?_
  refine e_invS (mcY := 0) (msY := 0) (ct_X7_in) vX7_in wM_X7_65 dX7_account_10 rfl rfl (Nat.le_of_ble_eq_true rfl) (Nat.le_of_ble_eq_true rfl) ?_
  rintro _ _ hc
  rcases hc with ⟨hin, rfl, rfl⟩ | ⟨hin, rfl, rfl⟩
  · refine e_if_ne (tgt := 20) dX7_account_13 (by decide) (fun c13 => ?_) (fun c13 => ?_)
    · refine e_iconst (v := 0) dX7_account_20 (by decide) ?_
      refine e_iconst (v := 1) dX7_account_21 (by decide) ?_
      refine e_invV (mcY := 0) (msY := 0) (ct_X7_fails0 (ms_I_get μ 0 0)) vX7_fails wM_X7_183 (mo_at G c _ h 0 (by decide)) rfl dX7_account_22 rfl rfl (Nat.le_of_ble_eq_true rfl) (Nat.le_of_ble_eq_true rfl) ?_
      rintro _ _ ⟨rfl, rfl⟩
      refine e_if_eq (tgt := 32) dX7_account_25 (by decide) (fun c25 => ?_) (fun c25 => ?_)
      · refine e_aload_n dX7_account_32 rfl rfl ?_
        refine e_iload_n dX7_account_33 rfl rfl ?_
        refine e_invV (mcY := 0) (msY := 0) (ct_X7_toldAccount (μ := ms_I μ 0 0) hR hv hb (by omega) (by omega)) vX7_toldAccount wM_X7_269 (mo_at G c _ h 0 (by decide)) rfl dX7_account_34 rfl rfl (Nat.le_of_ble_eq_true rfl) (Nat.le_of_ble_eq_true rfl) ?_
        rintro _ _ ⟨rfl, rfl⟩
        exact e_lret rfl dX7_account_37 (by first | exact Or.inl ⟨by omega, rfl, rfl⟩ | exact Or.inr ⟨fun q => by omega, rfl, rfl⟩)
      · first | exact absurd c25 (by decide) | exact absurd rfl c25
    · first | exact absurd c13 (by decide) | exact absurd rfl c13
  · refine e_if_ne (tgt := 20) dX7_account_13 (by decide) (fun c13 => ?_) (fun c13 => ?_)
    · first | exact absurd c13 (by decide) | exact absurd rfl c13
    · refine e_iconst (v := 1) dX7_account_16 (by decide) ?_
      refine e_goto (tgt := 21) dX7_account_17 (by decide) ?_
      refine e_iconst (v := 1) dX7_account_21 (by decide) ?_
      refine e_invV (mcY := 0) (msY := 0) (ct_X7_fails1 (ms_I_get μ 0 0) (by decide : (1 : Int32) ≠ 0)) vX7_fails wM_X7_183 (mo_at G c _ h 0 (by decide)) rfl dX7_account_22 rfl rfl (Nat.le_of_ble_eq_true rfl) (Nat.le_of_ble_eq_true rfl) ?_
      rintro _ _ ⟨rfl, rfl⟩
      rw [ms_I_I]
      refine e_if_eq (tgt := 32) dX7_account_25 (by decide) (fun c25 => ?_) (fun c25 => ?_)
      · first | exact absurd c25 (by decide) | exact absurd rfl c25
      · refine e_lconst (v := 0) dX7_account_28 (by decide) ?_
        refine e_goto (tgt := 37) dX7_account_29 (by decide) ?_
        exact e_lret rfl dX7_account_37 (by first | exact Or.inl ⟨by omega, rfl, rfl⟩ | exact Or.inr ⟨fun q => by omega, rfl, rfl⟩)
set_option maxRecDepth 20000 in
theorem ct_X7_mass (hR : RD σ (μ.2.1 0)) (hv : sInv σ) : ev_Ct G l mX7_mass 3 0 0 [.ref c, .int x, .int y] (mo G c μ h) (fun v a => ((0 ≤ x.toInt ∧ x.toInt < sM σ) ∧ (0 ≤ y.toInt ∧ y.toInt ≤ 3) ∧ v = some (.int (sTellM σ x.toInt.toNat y.toInt.toNat)) ∧ a = mo G c (ms_I μ 0 0) h) ∨ (¬ (0 ≤ x.toInt ∧ x.toInt < sM σ) ∧ v = some (.int 0) ∧ a = mo G c (ms_I μ 0 1) h) ∨ ((0 ≤ x.toInt ∧ x.toInt < sM σ) ∧ ¬ (0 ≤ y.toInt ∧ y.toInt ≤ 3) ∧ v = some (.int 0) ∧ a = mo G c (ms_I μ 0 2) h)) (fun _ _ => False) := by
  refine ev_Ct.of (by decide +kernel) (Nat.le_of_ble_eq_true rfl) ?_
  have hmn := hv.1.nat
  have hmu : (σ.1 0).toInt = sM σ := rfl
  have z0 := ar_0
  have z1 := ar_1
  have zL : (0 : Int64).toInt = 0 := by decide +kernel
  have zc : (0 : Int32).toInt64 = 0 := by decide +kernel
  have w3 : (3 : Int32).toInt = 3 := by decide +kernel
  refine e_aload_n dX7_mass_0 rfl rfl ?_
  refine e_iconst (v := 0) dX7_mass_1 (by decide) ?_
  refine mo_p0 wF_X7_39 dX7_mass_2 ?_
  refine e_aload_n dX7_mass_5 rfl rfl ?_
  refine e_iload_n dX7_mass_6 rfl rfl ?_
  refine e_invV (mcY := 0) (msY := 0) (ct_X7_noMass (μ := ms_I μ 0 0) (ms_I_get μ 0 0) hR hv) vX7_noMass wM_X7_272 (mo_at G c _ h 0 (by decide)) rfl dX7_mass_7 rfl rfl (Nat.le_of_ble_eq_true rfl) (Nat.le_of_ble_eq_true rfl) ?_
  rintro _ _ hc
  rcases hc.symm with ⟨hnm, rfl, rfl⟩ | ⟨hnm, rfl, rfl⟩
  · rw [ms_I_I]
    refine e_if_ne (tgt := 35) dX7_mass_10 (by decide) (fun c10 => ?_) (fun c10 => ?_)
    · refine e_iconst (v := 0) dX7_mass_35 (by decide) ?_
      refine e_goto (tgt := 45) dX7_mass_36 (by decide) ?_
      exact e_iret rfl dX7_mass_45 (by first | exact Or.inl ⟨by omega, by omega, rfl, rfl⟩ | exact Or.inr (Or.inl ⟨fun q => by omega, rfl, rfl⟩) | exact Or.inr (Or.inr ⟨by omega, fun q => by omega, rfl, rfl⟩))
    · first | exact absurd c10 (by decide) | exact absurd rfl c10
  · refine e_if_ne (tgt := 35) dX7_mass_10 (by decide) (fun c10 => ?_) (fun c10 => ?_)
    · first | exact absurd c10 (by decide) | exact absurd rfl c10
    · refine e_aload_n dX7_mass_13 rfl rfl ?_
      refine e_iload_n dX7_mass_14 rfl rfl ?_
      refine e_iconst (v := 0) dX7_mass_15 (by decide) ?_
      refine e_iconst (v := 3) dX7_mass_16 (by decide) ?_
      refine e_invS (mcY := 0) (msY := 0) (ct_X7_in) vX7_in wM_X7_65 dX7_mass_17 rfl rfl (Nat.le_of_ble_eq_true rfl) (Nat.le_of_ble_eq_true rfl) ?_
      rintro _ _ hc
      rcases hc with ⟨hin, rfl, rfl⟩ | ⟨hin, rfl, rfl⟩
      · refine e_if_ne (tgt := 27) dX7_mass_20 (by decide) (fun c20 => ?_) (fun c20 => ?_)
        · refine e_iconst (v := 0) dX7_mass_27 (by decide) ?_
          refine e_iconst (v := 2) dX7_mass_28 (by decide) ?_
          refine e_invV (mcY := 0) (msY := 0) (ct_X7_fails0 (ms_I_get μ 0 0)) vX7_fails wM_X7_183 (mo_at G c _ h 0 (by decide)) rfl dX7_mass_29 rfl rfl (Nat.le_of_ble_eq_true rfl) (Nat.le_of_ble_eq_true rfl) ?_
          rintro _ _ ⟨rfl, rfl⟩
          refine e_if_eq (tgt := 39) dX7_mass_32 (by decide) (fun c32 => ?_) (fun c32 => ?_)
          · refine e_aload_n dX7_mass_39 rfl rfl ?_
            refine e_iload_n dX7_mass_40 rfl rfl ?_
            refine e_iload_n dX7_mass_41 rfl rfl ?_
            refine e_invV (mcY := 0) (msY := 0) (ct_X7_toldMass (μ := ms_I μ 0 0) (j := x.toInt.toNat) hR hv (by omega) (by omega) (by omega) (by omega)) vX7_toldMass wM_X7_275 (mo_at G c _ h 0 (by decide)) rfl dX7_mass_42 rfl rfl (Nat.le_of_ble_eq_true rfl) (Nat.le_of_ble_eq_true rfl) ?_
            rintro _ _ ⟨rfl, rfl⟩
            exact e_iret rfl dX7_mass_45 (by first | exact Or.inl ⟨by omega, by omega, rfl, rfl⟩ | exact Or.inr (Or.inl ⟨fun q => by omega, rfl, rfl⟩) | exact Or.inr (Or.inr ⟨by omega, fun q => by omega, rfl, rfl⟩))
          · first | exact absurd c32 (by decide) | exact absurd rfl c32
        · first | exact absurd c20 (by decide) | exact absurd rfl c20
      · refine e_if_ne (tgt := 27) dX7_mass_20 (by decide) (fun c20 => ?_) (fun c20 => ?_)
        · first | exact absurd c20 (by decide) | exact absurd rfl c20
        · refine e_iconst (v := 1) dX7_mass_23 (by decide) ?_
          refine e_goto (tgt := 28) dX7_mass_24 (by decide) ?_
          refine e_iconst (v := 2) dX7_mass_28 (by decide) ?_
          refine e_invV (mcY := 0) (msY := 0) (ct_X7_fails1 (ms_I_get μ 0 0) (by decide : (2 : Int32) ≠ 0)) vX7_fails wM_X7_183 (mo_at G c _ h 0 (by decide)) rfl dX7_mass_29 rfl rfl (Nat.le_of_ble_eq_true rfl) (Nat.le_of_ble_eq_true rfl) ?_
          rintro _ _ ⟨rfl, rfl⟩
          rw [ms_I_I]
          refine e_if_eq (tgt := 39) dX7_mass_32 (by decide) (fun c32 => ?_) (fun c32 => ?_)
          · first | exact absurd c32 (by decide) | exact absurd rfl c32
          · refine e_iconst (v := 0) dX7_mass_35 (by decide) ?_
            refine e_goto (tgt := 45) dX7_mass_36 (by decide) ?_
            exact e_iret rfl dX7_mass_45 (by first | exact Or.inl ⟨by omega, by omega, rfl, rfl⟩ | exact Or.inr (Or.inl ⟨fun q => by omega, rfl, rfl⟩) | exact Or.inr (Or.inr ⟨by omega, fun q => by omega, rfl, rfl⟩))
set_option maxRecDepth 20000 in
theorem ct_X7_spring (hR : RD σ (μ.2.1 0)) (hv : sInv σ) (hb : RBs σ) : ev_Ct G l mX7_spring 6 0 0 [.ref c, .int x, .int y] (mo G c μ h) (fun v a => ((0 ≤ x.toInt ∧ x.toInt ≤ sM σ) ∧ (0 ≤ y.toInt ∧ y.toInt ≤ 4) ∧ v = some (.int (sTellS σ x.toInt.toNat y.toInt.toNat)) ∧ a = mo G c (ms_I μ 0 0) h) ∨ (¬ (0 ≤ x.toInt ∧ x.toInt ≤ sM σ) ∧ v = some (.int 0) ∧ a = mo G c (ms_I μ 0 1) h) ∨ ((0 ≤ x.toInt ∧ x.toInt ≤ sM σ) ∧ ¬ (0 ≤ y.toInt ∧ y.toInt ≤ 4) ∧ v = some (.int 0) ∧ a = mo G c (ms_I μ 0 2) h)) (fun _ _ => False) := by
  refine ev_Ct.of (by decide +kernel) (Nat.le_of_ble_eq_true rfl) ?_
  have hmn := hv.1.nat
  have hmu : (σ.1 0).toInt = sM σ := rfl
  have z0 := ar_0
  have z1 := ar_1
  have zL : (0 : Int64).toInt = 0 := by decide +kernel
  have zc : (0 : Int32).toInt64 = 0 := by decide +kernel
  have w4 : (4 : Int32).toInt = 4 := by decide +kernel
  refine e_aload_n dX7_spring_0 rfl rfl ?_
  refine e_iconst (v := 0) dX7_spring_1 (by decide) ?_
  refine mo_p0 wF_X7_39 dX7_spring_2 ?_
  refine e_aload_n dX7_spring_5 rfl rfl ?_
  refine e_iload_n dX7_spring_6 rfl rfl ?_
  refine e_invV (mcY := 0) (msY := 0) (ct_X7_noSpring (μ := ms_I μ 0 0) (ms_I_get μ 0 0) hR hv) vX7_noSpring wM_X7_278 (mo_at G c _ h 0 (by decide)) rfl dX7_spring_7 rfl rfl (Nat.le_of_ble_eq_true rfl) (Nat.le_of_ble_eq_true rfl) ?_
  rintro _ _ hc
  rcases hc.symm with ⟨hnm, rfl, rfl⟩ | ⟨hnm, rfl, rfl⟩
  · rw [ms_I_I]
    refine e_if_ne (tgt := 35) dX7_spring_10 (by decide) (fun c10 => ?_) (fun c10 => ?_)
    · refine e_iconst (v := 0) dX7_spring_35 (by decide) ?_
      refine e_goto (tgt := 45) dX7_spring_36 (by decide) ?_
      exact e_iret rfl dX7_spring_45 (by first | exact Or.inl ⟨by omega, by omega, rfl, rfl⟩ | exact Or.inr (Or.inl ⟨fun q => by omega, rfl, rfl⟩) | exact Or.inr (Or.inr ⟨by omega, fun q => by omega, rfl, rfl⟩))
    · first | exact absurd c10 (by decide) | exact absurd rfl c10
  · refine e_if_ne (tgt := 35) dX7_spring_10 (by decide) (fun c10 => ?_) (fun c10 => ?_)
    · first | exact absurd c10 (by decide) | exact absurd rfl c10
    · refine e_aload_n dX7_spring_13 rfl rfl ?_
      refine e_iload_n dX7_spring_14 rfl rfl ?_
      refine e_iconst (v := 0) dX7_spring_15 (by decide) ?_
      refine e_iconst (v := 4) dX7_spring_16 (by decide) ?_
      refine e_invS (mcY := 0) (msY := 0) (ct_X7_in) vX7_in wM_X7_65 dX7_spring_17 rfl rfl (Nat.le_of_ble_eq_true rfl) (Nat.le_of_ble_eq_true rfl) ?_
      rintro _ _ hc
      rcases hc with ⟨hin, rfl, rfl⟩ | ⟨hin, rfl, rfl⟩
      · refine e_if_ne (tgt := 27) dX7_spring_20 (by decide) (fun c20 => ?_) (fun c20 => ?_)
        · refine e_iconst (v := 0) dX7_spring_27 (by decide) ?_
          refine e_iconst (v := 2) dX7_spring_28 (by decide) ?_
          refine e_invV (mcY := 0) (msY := 0) (ct_X7_fails0 (ms_I_get μ 0 0)) vX7_fails wM_X7_183 (mo_at G c _ h 0 (by decide)) rfl dX7_spring_29 rfl rfl (Nat.le_of_ble_eq_true rfl) (Nat.le_of_ble_eq_true rfl) ?_
          rintro _ _ ⟨rfl, rfl⟩
          refine e_if_eq (tgt := 39) dX7_spring_32 (by decide) (fun c32 => ?_) (fun c32 => ?_)
          · refine e_aload_n dX7_spring_39 rfl rfl ?_
            refine e_iload_n dX7_spring_40 rfl rfl ?_
            refine e_iload_n dX7_spring_41 rfl rfl ?_
            refine e_invV (mcY := 0) (msY := 0) (ct_X7_toldSpring (μ := ms_I μ 0 0) (j := x.toInt.toNat) hR hv hb (by omega) (by omega) (by omega) (by omega)) vX7_toldSpring wM_X7_281 (mo_at G c _ h 0 (by decide)) rfl dX7_spring_42 rfl rfl (Nat.le_of_ble_eq_true rfl) (Nat.le_of_ble_eq_true rfl) ?_
            rintro _ _ ⟨rfl, rfl⟩
            exact e_iret rfl dX7_spring_45 (by first | exact Or.inl ⟨by omega, by omega, rfl, rfl⟩ | exact Or.inr (Or.inl ⟨fun q => by omega, rfl, rfl⟩) | exact Or.inr (Or.inr ⟨by omega, fun q => by omega, rfl, rfl⟩))
          · first | exact absurd c32 (by decide) | exact absurd rfl c32
        · first | exact absurd c20 (by decide) | exact absurd rfl c20
      · refine e_if_ne (tgt := 27) dX7_spring_20 (by decide) (fun c20 => ?_) (fun c20 => ?_)
        · first | exact absurd c20 (by decide) | exact absurd rfl c20
        · refine e_iconst (v := 1) dX7_spring_23 (by decide) ?_
          refine e_goto (tgt := 28) dX7_spring_24 (by decide) ?_
          refine e_iconst (v := 2) dX7_spring_28 (by decide) ?_
          refine e_invV (mcY := 0) (msY := 0) (ct_X7_fails1 (ms_I_get μ 0 0) (by decide : (2 : Int32) ≠ 0)) vX7_fails wM_X7_183 (mo_at G c _ h 0 (by decide)) rfl dX7_spring_29 rfl rfl (Nat.le_of_ble_eq_true rfl) (Nat.le_of_ble_eq_true rfl) ?_
          rintro _ _ ⟨rfl, rfl⟩
          rw [ms_I_I]
          refine e_if_eq (tgt := 39) dX7_spring_32 (by decide) (fun c32 => ?_) (fun c32 => ?_)
          · first | exact absurd c32 (by decide) | exact absurd rfl c32
          · refine e_iconst (v := 0) dX7_spring_35 (by decide) ?_
            refine e_goto (tgt := 45) dX7_spring_36 (by decide) ?_
            exact e_iret rfl dX7_spring_45 (by first | exact Or.inl ⟨by omega, by omega, rfl, rfl⟩ | exact Or.inr (Or.inl ⟨fun q => by omega, rfl, rfl⟩) | exact Or.inr (Or.inr ⟨by omega, fun q => by omega, rfl, rfl⟩))
set_option maxRecDepth 20000 in
theorem ct_X7_noted (hR : RD σ (μ.2.1 0)) (hv : sInv σ) : ev_Ct G l mX7_noted 2 0 0 [.ref c, .int x, .int y] (mo G c μ h) (fun v a => ((0 ≤ x.toInt ∧ x.toInt < (σ.1 6).toInt) ∧ (0 ≤ y.toInt ∧ y.toInt ≤ 1) ∧ v = some (.int (if y = 0 then σ.2.2 10 x.toInt.toNat else σ.2.2 11 x.toInt.toNat)) ∧ a = mo G c (ms_I μ 0 0) h) ∨ (¬ (0 ≤ x.toInt ∧ x.toInt < (σ.1 6).toInt) ∧ v = some (.int 0) ∧ a = mo G c (ms_I μ 0 1) h) ∨ ((0 ≤ x.toInt ∧ x.toInt < (σ.1 6).toInt) ∧ ¬ (0 ≤ y.toInt ∧ y.toInt ≤ 1) ∧ v = some (.int 0) ∧ a = mo G c (ms_I μ 0 2) h)) (fun _ _ => False) := by
  refine ev_Ct.of (by decide +kernel) (Nat.le_of_ble_eq_true rfl) ?_
  have hmn := hv.1.nat
  have hmu : (σ.1 0).toInt = sM σ := rfl
  have z0 := ar_0
  have z1 := ar_1
  have zL : (0 : Int64).toInt = 0 := by decide +kernel
  have zc : (0 : Int32).toInt64 = 0 := by decide +kernel
  have w6 : (6 : Int32).toInt = 6 := by decide +kernel
  have z135 : (135 : Int32).toInt = ((135 : Nat) : Int) := by decide +kernel
  have hp := hv.2.2.2.2
  have hpn : (sPn σ : Int) = (σ.1 6).toInt := by unfold sPn; omega
  have f6 : ((ms_I μ 0 0).2.1 0 (6 : Int32).toInt.toNat).toInt32 = σ.1 6 := by rw [w6]; show (μ.2.1 0 6).toInt32 = _; rw [hR.1.2.2.2.2.2.2, ar_6432]
  have e6 : (σ.1 6 - 1).toInt = (σ.1 6).toInt - 1 := by rw [ar_sub (by omega) (by omega), z1]
  refine e_aload_n dX7_noted_0 rfl rfl ?_
  refine e_iconst (v := 0) dX7_noted_1 (by decide) ?_
  refine mo_p0 wF_X7_39 dX7_noted_2 ?_
  refine e_aload_n dX7_noted_5 rfl rfl ?_
  refine e_iload_n dX7_noted_6 rfl rfl ?_
  refine e_iconst (v := 0) dX7_noted_7 (by decide) ?_
  refine e_aload_n dX7_noted_8 rfl rfl ?_
  refine mo_g8 wF_X7_17 dX7_noted_9 ?_
  refine e_bipush (v := 6) dX7_noted_12 (by decide) ?_
  refine mo_l2 (by omega) (by omega) dX7_noted_14 ?_
  refine e_l2i dX7_noted_15 ?_
  rw [f6]
  refine e_iconst (v := 1) dX7_noted_16 (by decide) ?_
  refine e_isub dX7_noted_17 ?_
  refine e_invS (mcY := 0) (msY := 0) (ct_X7_in) vX7_in wM_X7_65 dX7_noted_18 rfl rfl (Nat.le_of_ble_eq_true rfl) (Nat.le_of_ble_eq_true rfl) ?_
  rintro _ _ hc
  rcases hc with ⟨hn1, rfl, rfl⟩ | ⟨hn1, rfl, rfl⟩
  · refine e_if_ne (tgt := 28) dX7_noted_21 (by decide) (fun c21 => ?_) (fun c21 => ?_)
    · refine e_iconst (v := 0) dX7_noted_28 (by decide) ?_
      refine e_iconst (v := 1) dX7_noted_29 (by decide) ?_
      refine e_invV (mcY := 0) (msY := 0) (ct_X7_fails0 (ms_I_get μ 0 0)) vX7_fails wM_X7_183 (mo_at G c _ h 0 (by decide)) rfl dX7_noted_30 rfl rfl (Nat.le_of_ble_eq_true rfl) (Nat.le_of_ble_eq_true rfl) ?_
      rintro _ _ ⟨rfl, rfl⟩
      refine e_if_ne (tgt := 58) dX7_noted_33 (by decide) (fun c33 => ?_) (fun c33 => ?_)
      · first | exact absurd c33 (by decide) | exact absurd rfl c33
      · refine e_aload_n dX7_noted_36 rfl rfl ?_
        refine e_iload_n dX7_noted_37 rfl rfl ?_
        refine e_iconst (v := 0) dX7_noted_38 (by decide) ?_
        refine e_iconst (v := 1) dX7_noted_39 (by decide) ?_
        refine e_invS (mcY := 0) (msY := 0) (ct_X7_in) vX7_in wM_X7_65 dX7_noted_40 rfl rfl (Nat.le_of_ble_eq_true rfl) (Nat.le_of_ble_eq_true rfl) ?_
        rintro _ _ hc
        rcases hc with ⟨hin, rfl, rfl⟩ | ⟨hin, rfl, rfl⟩
        · refine e_if_ne (tgt := 50) dX7_noted_43 (by decide) (fun c43 => ?_) (fun c43 => ?_)
          · refine e_iconst (v := 0) dX7_noted_50 (by decide) ?_
            refine e_iconst (v := 2) dX7_noted_51 (by decide) ?_
            refine e_invV (mcY := 0) (msY := 0) (ct_X7_fails0 (ms_I_get μ 0 0)) vX7_fails wM_X7_183 (mo_at G c _ h 0 (by decide)) rfl dX7_noted_52 rfl rfl (Nat.le_of_ble_eq_true rfl) (Nat.le_of_ble_eq_true rfl) ?_
            rintro _ _ ⟨rfl, rfl⟩
            refine e_if_eq (tgt := 62) dX7_noted_55 (by decide) (fun c55 => ?_) (fun c55 => ?_)
            · have ea : ((135 : Int32) + 2 * x + y).toInt = ((135 + 2 * x.toInt.toNat + y.toInt.toNat : Nat) : Int) := by rw [ar_add (by rw [ar_ix2 z135 (show x.toInt = (x.toInt.toNat : Int) by omega) (by omega) (by omega)]; omega) (by rw [ar_ix2 z135 (show x.toInt = (x.toInt.toNat : Int) by omega) (by omega) (by omega)]; omega), ar_ix2 z135 (show x.toInt = (x.toInt.toNat : Int) by omega) (by omega) (by omega)]; omega
              refine e_aload_n dX7_noted_62 rfl rfl ?_
              refine mo_g8 wF_X7_17 dX7_noted_63 ?_
              refine e_sipush (v := 135) dX7_noted_66 (by decide) ?_
              refine e_iconst (v := 2) dX7_noted_69 (by decide) ?_
              refine e_iload_n dX7_noted_70 rfl rfl ?_
              refine e_imul dX7_noted_71 ?_
              refine e_iadd dX7_noted_72 ?_
              refine e_iload_n dX7_noted_73 rfl rfl ?_
              refine e_iadd dX7_noted_74 ?_
              refine mo_l2 (by rw [ea]; omega) (by rw [ea]; omega) dX7_noted_75 ?_
              refine e_l2i dX7_noted_76 ?_
              exact e_iret rfl dX7_noted_77 (by
                  first
                    | (refine Or.inl ⟨by omega, by omega, ?_, rfl⟩
                       rw [ar_nat ea]
                       have q := hR.2.2.1 y.toInt.toNat x.toInt.toNat (by omega) (by omega)
                       show some (Value.int (μ.2.1 0 (135 + 2 * x.toInt.toNat + y.toInt.toNat)).toInt32) = _
                       rw [q, ar_6432]
                       rcases (show y.toInt = 0 ∨ y.toInt = 1 by omega) with e | e
                       · rw [if_pos (ar_eq (e.trans z0.symm)), e]; rfl
                       · rw [if_neg (fun c => by rw [c] at e; omega), e]; rfl)
                    | exact Or.inr (Or.inl ⟨fun q => by omega, rfl, rfl⟩)
                    | exact Or.inr (Or.inr ⟨by omega, fun q => by omega, rfl, rfl⟩))
            · first | exact absurd c55 (by decide) | exact absurd rfl c55
          · first | exact absurd c43 (by decide) | exact absurd rfl c43
        · refine e_if_ne (tgt := 50) dX7_noted_43 (by decide) (fun c43 => ?_) (fun c43 => ?_)
          · first | exact absurd c43 (by decide) | exact absurd rfl c43
          · refine e_iconst (v := 1) dX7_noted_46 (by decide) ?_
            refine e_goto (tgt := 51) dX7_noted_47 (by decide) ?_
            refine e_iconst (v := 2) dX7_noted_51 (by decide) ?_
            refine e_invV (mcY := 0) (msY := 0) (ct_X7_fails1 (ms_I_get μ 0 0) (by decide : (2 : Int32) ≠ 0)) vX7_fails wM_X7_183 (mo_at G c _ h 0 (by decide)) rfl dX7_noted_52 rfl rfl (Nat.le_of_ble_eq_true rfl) (Nat.le_of_ble_eq_true rfl) ?_
            rintro _ _ ⟨rfl, rfl⟩
            rw [ms_I_I]
            refine e_if_eq (tgt := 62) dX7_noted_55 (by decide) (fun c55 => ?_) (fun c55 => ?_)
            · first | exact absurd c55 (by decide) | exact absurd rfl c55
            · refine e_iconst (v := 0) dX7_noted_58 (by decide) ?_
              refine e_goto (tgt := 77) dX7_noted_59 (by decide) ?_
              exact e_iret rfl dX7_noted_77 (by
                  first
                    | (refine Or.inl ⟨by omega, by omega, ?_, rfl⟩
                       rw [ar_nat ea]
                       have q := hR.2.2.1 y.toInt.toNat x.toInt.toNat (by omega) (by omega)
                       show some (Value.int (μ.2.1 0 (135 + 2 * x.toInt.toNat + y.toInt.toNat)).toInt32) = _
                       rw [q, ar_6432]
                       rcases (show y.toInt = 0 ∨ y.toInt = 1 by omega) with e | e
                       · rw [if_pos (ar_eq (e.trans z0.symm)), e]; rfl
                       · rw [if_neg (fun c => by rw [c] at e; omega), e]; rfl)
                    | exact Or.inr (Or.inl ⟨fun q => by omega, rfl, rfl⟩)
                    | exact Or.inr (Or.inr ⟨by omega, fun q => by omega, rfl, rfl⟩))
    · first | exact absurd c21 (by decide) | exact absurd rfl c21
  · refine e_if_ne (tgt := 28) dX7_noted_21 (by decide) (fun c21 => ?_) (fun c21 => ?_)
    · first | exact absurd c21 (by decide) | exact absurd rfl c21
    · refine e_iconst (v := 1) dX7_noted_24 (by decide) ?_
      refine e_goto (tgt := 29) dX7_noted_25 (by decide) ?_
      refine e_iconst (v := 1) dX7_noted_29 (by decide) ?_
      refine e_invV (mcY := 0) (msY := 0) (ct_X7_fails1 (ms_I_get μ 0 0) (by decide : (1 : Int32) ≠ 0)) vX7_fails wM_X7_183 (mo_at G c _ h 0 (by decide)) rfl dX7_noted_30 rfl rfl (Nat.le_of_ble_eq_true rfl) (Nat.le_of_ble_eq_true rfl) ?_
      rintro _ _ ⟨rfl, rfl⟩
      rw [ms_I_I]
      refine e_if_ne (tgt := 58) dX7_noted_33 (by decide) (fun c33 => ?_) (fun c33 => ?_)
      · refine e_iconst (v := 0) dX7_noted_58 (by decide) ?_
        refine e_goto (tgt := 77) dX7_noted_59 (by decide) ?_
        exact e_iret rfl dX7_noted_77 (by
            first
              | (refine Or.inl ⟨by omega, by omega, ?_, rfl⟩
                 rw [ar_nat ea]
                 have q := hR.2.2.1 y.toInt.toNat x.toInt.toNat (by omega) (by omega)
                 show some (Value.int (μ.2.1 0 (135 + 2 * x.toInt.toNat + y.toInt.toNat)).toInt32) = _
                 rw [q, ar_6432]
                 rcases (show y.toInt = 0 ∨ y.toInt = 1 by omega) with e | e
                 · rw [if_pos (ar_eq (e.trans z0.symm)), e]; rfl
                 · rw [if_neg (fun c => by rw [c] at e; omega), e]; rfl)
              | exact Or.inr (Or.inl ⟨fun q => by omega, rfl, rfl⟩)
              | exact Or.inr (Or.inr ⟨by omega, fun q => by omega, rfl, rfl⟩))
      · first | exact absurd c33 (by decide) | exact absurd rfl c33
set_option maxRecDepth 20000 in
theorem ct_X7_isAhead {m : Nat → TI} {N : Nat} (hl : ivL m N (μ.2.1 0)) (hN : N ≤ 16) (hx : x.toInt = (j : Int)) (hy : y.toInt = (w : Int)) (hj : j < N) (hw : w < N) : ev_Ct G l mX7_isAhead 1 0 0 [.ref c, .int x, .int y] (mo G c μ h) (fun v a => v = some (.int (bif aheB m j w then 1 else 0)) ∧ a = mo G c μ h) (fun _ _ => False) := by
  refine ev_Ct.of (by decide +kernel) (Nat.le_of_ble_eq_true rfl) ?_
  have z87 : (87 : Int32).toInt = ((87 : Nat) : Int) := by decide +kernel
  have z1 := ar_1
  have ea : ((87 : Int32) + 3 * x).toInt = ((87 + 3 * j : Nat) : Int) := ar_ix3 z87 hx (by omega) (by omega)
  have eb : ((87 : Int32) + 3 * y).toInt = ((87 + 3 * w : Nat) : Int) := ar_ix3 z87 hy (by omega) (by omega)
  have ea1 : ((87 : Int32) + 3 * x + 1).toInt = ((87 + 3 * j + 1 : Nat) : Int) := by rw [ar_add (by omega) (by omega), z1]; omega
  have eb1 : ((87 : Int32) + 3 * y + 1).toInt = ((87 + 3 * w + 1 : Nat) : Int) := by rw [ar_add (by omega) (by omega), z1]; omega
  obtain ⟨p0, p1, -⟩ := hl j hj
  obtain ⟨q0, q1, -⟩ := hl w hw
  rw [← ar_nat ea] at p0
  rw [← ar_nat eb] at q0
  rw [← ar_nat ea1] at p1
  rw [← ar_nat eb1] at q1
  refine e_bipush (v := 87) dX7_isAhead_0 (by decide) ?_
  refine e_iconst (v := 3) dX7_isAhead_2 (by decide) ?_
  refine e_iload_n dX7_isAhead_3 rfl rfl ?_
  refine e_imul dX7_isAhead_4 ?_
  refine e_iadd dX7_isAhead_5 ?_
  refine e_istore_n dX7_isAhead_6 rfl (Nat.le_of_ble_eq_true rfl) ?_
  refine e_bipush (v := 87) dX7_isAhead_7 (by decide) ?_
  refine e_iconst (v := 3) dX7_isAhead_9 (by decide) ?_
  refine e_iload_n dX7_isAhead_10 rfl rfl ?_
  refine e_imul dX7_isAhead_11 ?_
  refine e_iadd dX7_isAhead_12 ?_
  refine e_istore dX7_isAhead_13 (Nat.le_of_ble_eq_true rfl) ?_
  refine e_aload_n dX7_isAhead_15 rfl rfl ?_
  refine mo_g8 wF_X7_17 dX7_isAhead_16 ?_
  refine e_iload_n dX7_isAhead_19 rfl rfl ?_
  refine mo_l2 (by rw [ea]; omega) (by rw [ea]; omega) dX7_isAhead_20 ?_
  rw [p0]
  refine e_aload_n dX7_isAhead_21 rfl rfl ?_
  refine mo_g8 wF_X7_17 dX7_isAhead_22 ?_
  refine e_iload dX7_isAhead_25 rfl ?_
  refine mo_l2 (by rw [eb]; omega) (by rw [eb]; omega) dX7_isAhead_27 ?_
  rw [q0]
  refine e_lcmp dX7_isAhead_28 ?_
  refine e_if_eq (tgt := 57) dX7_isAhead_29 (by decide) (fun c29 => ?_) (fun c29 => ?_)
  · have d29 : (m j).1 = (m w).1 := ar_64i (ar_lcmp0.mp c29)
    refine e_aload_n dX7_isAhead_57 rfl rfl ?_
    refine mo_g8 wF_X7_17 dX7_isAhead_58 ?_
    refine e_iload_n dX7_isAhead_61 rfl rfl ?_
    refine e_iconst (v := 1) dX7_isAhead_62 (by decide) ?_
    refine e_iadd dX7_isAhead_63 ?_
    refine mo_l2 (by rw [ea1]; omega) (by rw [ea1]; omega) dX7_isAhead_64 ?_
    rw [p1]
    refine e_aload_n dX7_isAhead_65 rfl rfl ?_
    refine mo_g8 wF_X7_17 dX7_isAhead_66 ?_
    refine e_iload dX7_isAhead_69 rfl ?_
    refine e_iconst (v := 1) dX7_isAhead_71 (by decide) ?_
    refine e_iadd dX7_isAhead_72 ?_
    refine mo_l2 (by rw [eb1]; omega) (by rw [eb1]; omega) dX7_isAhead_73 ?_
    rw [q1]
    refine e_lcmp dX7_isAhead_74 ?_
    refine e_if_eq (tgt := 107) dX7_isAhead_75 (by decide) (fun c75 => ?_) (fun c75 => ?_)
    · have d75 : (m j).2.1 = (m w).2.1 := ar_64i (ar_lcmp0.mp c75)
      refine e_iload_n dX7_isAhead_107 rfl rfl ?_
      refine e_iload_n dX7_isAhead_108 rfl rfl ?_
      refine e_icmp_ge (tgt := 116) dX7_isAhead_109 (by decide) (fun c109 => ?_) (fun c109 => ?_)
      · refine e_iconst (v := 0) dX7_isAhead_116 (by decide) ?_
        exact e_zret (ty := .boolean) rfl rfl dX7_isAhead_117 (by
            have t1 : (m j).1 = (m w).1 ↔ (m j).1.toInt = (m w).1.toInt := ⟨fun q => by rw [q], ar_eq⟩
            have t2 : (m j).2.1 = (m w).2.1 ↔ (m j).2.1.toInt = (m w).2.1.toInt := ⟨fun q => by rw [q], ar_eq⟩
            refine ⟨?_, rfl⟩
            congr 2
            first
              | (have h : aheB m j w = true := by
                   unfold aheB
                   rw [Bool.or_eq_true, Bool.and_eq_true, tLatB_iff, Bool.not_eq_true', tLatB_no, decide_eq_true_iff]
                   unfold tLat
                   rw [eq_comm (a := (m w).1)]
                   simp only [t1, t2] at *
                   omega
                 rw [h]; rfl)
              | (have h : aheB m j w = false := by
                   rw [← Bool.not_eq_true]
                   unfold aheB
                   rw [Bool.or_eq_true, Bool.and_eq_true, tLatB_iff, Bool.not_eq_true', tLatB_no, decide_eq_true_iff]
                   unfold tLat
                   rw [eq_comm (a := (m w).1)]
                   simp only [t1, t2] at *
                   omega
                 rw [h]; rfl))
      · refine e_iconst (v := 1) dX7_isAhead_112 (by decide) ?_
        refine e_goto (tgt := 117) dX7_isAhead_113 (by decide) ?_
        exact e_zret (ty := .boolean) rfl rfl dX7_isAhead_117 (by
            have t1 : (m j).1 = (m w).1 ↔ (m j).1.toInt = (m w).1.toInt := ⟨fun q => by rw [q], ar_eq⟩
            have t2 : (m j).2.1 = (m w).2.1 ↔ (m j).2.1.toInt = (m w).2.1.toInt := ⟨fun q => by rw [q], ar_eq⟩
            refine ⟨?_, rfl⟩
            congr 2
            first
              | (have h : aheB m j w = true := by
                   unfold aheB
                   rw [Bool.or_eq_true, Bool.and_eq_true, tLatB_iff, Bool.not_eq_true', tLatB_no, decide_eq_true_iff]
                   unfold tLat
                   rw [eq_comm (a := (m w).1)]
                   simp only [t1, t2] at *
                   omega
                 rw [h]; rfl)
              | (have h : aheB m j w = false := by
                   rw [← Bool.not_eq_true]
                   unfold aheB
                   rw [Bool.or_eq_true, Bool.and_eq_true, tLatB_iff, Bool.not_eq_true', tLatB_no, decide_eq_true_iff]
                   unfold tLat
                   rw [eq_comm (a := (m w).1)]
                   simp only [t1, t2] at *
                   omega
                 rw [h]; rfl))
    · have d75 : ¬ (m j).2.1 = (m w).2.1 := fun q => c75 (ar_lcmp0.mpr (by rw [q]))
      refine e_aload_n dX7_isAhead_78 rfl rfl ?_
      refine mo_g8 wF_X7_17 dX7_isAhead_79 ?_
      refine e_iload_n dX7_isAhead_82 rfl rfl ?_
      refine e_iconst (v := 1) dX7_isAhead_83 (by decide) ?_
      refine e_iadd dX7_isAhead_84 ?_
      refine mo_l2 (by rw [ea1]; omega) (by rw [ea1]; omega) dX7_isAhead_85 ?_
      rw [p1]
      refine e_aload_n dX7_isAhead_86 rfl rfl ?_
      refine mo_g8 wF_X7_17 dX7_isAhead_87 ?_
      refine e_iload dX7_isAhead_90 rfl ?_
      refine e_iconst (v := 1) dX7_isAhead_92 (by decide) ?_
      refine e_iadd dX7_isAhead_93 ?_
      refine mo_l2 (by rw [eb1]; omega) (by rw [eb1]; omega) dX7_isAhead_94 ?_
      rw [q1]
      refine e_lcmp dX7_isAhead_95 ?_
      refine e_if_ge (tgt := 103) dX7_isAhead_96 (by decide) (fun c96 => ?_) (fun c96 => ?_)
      · have d96 := ar_lc_ge c96
        rw [ar_64, ar_64] at d96
        refine e_iconst (v := 0) dX7_isAhead_103 (by decide) ?_
        refine e_goto (tgt := 117) dX7_isAhead_104 (by decide) ?_
        exact e_zret (ty := .boolean) rfl rfl dX7_isAhead_117 (by
            have t1 : (m j).1 = (m w).1 ↔ (m j).1.toInt = (m w).1.toInt := ⟨fun q => by rw [q], ar_eq⟩
            have t2 : (m j).2.1 = (m w).2.1 ↔ (m j).2.1.toInt = (m w).2.1.toInt := ⟨fun q => by rw [q], ar_eq⟩
            refine ⟨?_, rfl⟩
            congr 2
            first
              | (have h : aheB m j w = true := by
                   unfold aheB
                   rw [Bool.or_eq_true, Bool.and_eq_true, tLatB_iff, Bool.not_eq_true', tLatB_no, decide_eq_true_iff]
                   unfold tLat
                   rw [eq_comm (a := (m w).1)]
                   simp only [t1, t2] at *
                   omega
                 rw [h]; rfl)
              | (have h : aheB m j w = false := by
                   rw [← Bool.not_eq_true]
                   unfold aheB
                   rw [Bool.or_eq_true, Bool.and_eq_true, tLatB_iff, Bool.not_eq_true', tLatB_no, decide_eq_true_iff]
                   unfold tLat
                   rw [eq_comm (a := (m w).1)]
                   simp only [t1, t2] at *
                   omega
                 rw [h]; rfl))
      · have d96 := ar_lc_lt c96
        rw [ar_64, ar_64] at d96
        refine e_iconst (v := 1) dX7_isAhead_99 (by decide) ?_
        refine e_goto (tgt := 117) dX7_isAhead_100 (by decide) ?_
        exact e_zret (ty := .boolean) rfl rfl dX7_isAhead_117 (by
            have t1 : (m j).1 = (m w).1 ↔ (m j).1.toInt = (m w).1.toInt := ⟨fun q => by rw [q], ar_eq⟩
            have t2 : (m j).2.1 = (m w).2.1 ↔ (m j).2.1.toInt = (m w).2.1.toInt := ⟨fun q => by rw [q], ar_eq⟩
            refine ⟨?_, rfl⟩
            congr 2
            first
              | (have h : aheB m j w = true := by
                   unfold aheB
                   rw [Bool.or_eq_true, Bool.and_eq_true, tLatB_iff, Bool.not_eq_true', tLatB_no, decide_eq_true_iff]
                   unfold tLat
                   rw [eq_comm (a := (m w).1)]
                   simp only [t1, t2] at *
                   omega
                 rw [h]; rfl)
              | (have h : aheB m j w = false := by
                   rw [← Bool.not_eq_true]
                   unfold aheB
                   rw [Bool.or_eq_true, Bool.and_eq_true, tLatB_iff, Bool.not_eq_true', tLatB_no, decide_eq_true_iff]
                   unfold tLat
                   rw [eq_comm (a := (m w).1)]
                   simp only [t1, t2] at *
                   omega
                 rw [h]; rfl))
  · have d29 : ¬ (m j).1 = (m w).1 := fun q => c29 (ar_lcmp0.mpr (by rw [q]))
    refine e_aload_n dX7_isAhead_32 rfl rfl ?_
    refine mo_g8 wF_X7_17 dX7_isAhead_33 ?_
    refine e_iload_n dX7_isAhead_36 rfl rfl ?_
    refine mo_l2 (by rw [ea]; omega) (by rw [ea]; omega) dX7_isAhead_37 ?_
    rw [p0]
    refine e_aload_n dX7_isAhead_38 rfl rfl ?_
    refine mo_g8 wF_X7_17 dX7_isAhead_39 ?_
    refine e_iload dX7_isAhead_42 rfl ?_
    refine mo_l2 (by rw [eb]; omega) (by rw [eb]; omega) dX7_isAhead_44 ?_
    rw [q0]
    refine e_lcmp dX7_isAhead_45 ?_
    refine e_if_ge (tgt := 53) dX7_isAhead_46 (by decide) (fun c46 => ?_) (fun c46 => ?_)
    · have d46 := ar_lc_ge c46
      rw [ar_64, ar_64] at d46
      refine e_iconst (v := 0) dX7_isAhead_53 (by decide) ?_
      refine e_goto (tgt := 117) dX7_isAhead_54 (by decide) ?_
      exact e_zret (ty := .boolean) rfl rfl dX7_isAhead_117 (by
          have t1 : (m j).1 = (m w).1 ↔ (m j).1.toInt = (m w).1.toInt := ⟨fun q => by rw [q], ar_eq⟩
          have t2 : (m j).2.1 = (m w).2.1 ↔ (m j).2.1.toInt = (m w).2.1.toInt := ⟨fun q => by rw [q], ar_eq⟩
          refine ⟨?_, rfl⟩
          congr 2
          first
            | (have h : aheB m j w = true := by
                 unfold aheB
                 rw [Bool.or_eq_true, Bool.and_eq_true, tLatB_iff, Bool.not_eq_true', tLatB_no, decide_eq_true_iff]
                 unfold tLat
                 rw [eq_comm (a := (m w).1)]
                 simp only [t1, t2] at *
                 omega
               rw [h]; rfl)
            | (have h : aheB m j w = false := by
                 rw [← Bool.not_eq_true]
                 unfold aheB
                 rw [Bool.or_eq_true, Bool.and_eq_true, tLatB_iff, Bool.not_eq_true', tLatB_no, decide_eq_true_iff]
                 unfold tLat
                 rw [eq_comm (a := (m w).1)]
                 simp only [t1, t2] at *
                 omega
               rw [h]; rfl))
    · have d46 := ar_lc_lt c46
      rw [ar_64, ar_64] at d46
      refine e_iconst (v := 1) dX7_isAhead_49 (by decide) ?_
      refine e_goto (tgt := 117) dX7_isAhead_50 (by decide) ?_
      exact e_zret (ty := .boolean) rfl rfl dX7_isAhead_117 (by
          have t1 : (m j).1 = (m w).1 ↔ (m j).1.toInt = (m w).1.toInt := ⟨fun q => by rw [q], ar_eq⟩
          have t2 : (m j).2.1 = (m w).2.1 ↔ (m j).2.1.toInt = (m w).2.1.toInt := ⟨fun q => by rw [q], ar_eq⟩
          refine ⟨?_, rfl⟩
          congr 2
          first
            | (have h : aheB m j w = true := by
                 unfold aheB
                 rw [Bool.or_eq_true, Bool.and_eq_true, tLatB_iff, Bool.not_eq_true', tLatB_no, decide_eq_true_iff]
                 unfold tLat
                 rw [eq_comm (a := (m w).1)]
                 simp only [t1, t2] at *
                 omega
               rw [h]; rfl)
            | (have h : aheB m j w = false := by
                 rw [← Bool.not_eq_true]
                 unfold aheB
                 rw [Bool.or_eq_true, Bool.and_eq_true, tLatB_iff, Bool.not_eq_true', tLatB_no, decide_eq_true_iff]
                 unfold tLat
                 rw [eq_comm (a := (m w).1)]
                 simp only [t1, t2] at *
                 omega
               rw [h]; rfl))
end M6
