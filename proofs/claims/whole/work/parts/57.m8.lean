/-! the model's changes -/
section M8
variable {G : ev_G} {l : Launch} {c j w : Nat} {μ : MS} {S : SS} {h : ev_H} {x y z : Int32} {T : Int}
set_option maxRecDepth 20000 in
theorem lp_mrem {J : ev_K} {k n : Nat} (hJ : 2 ≤ J.2.2.1)  (hk : ∀ ν : MS, ν.1 = μ.1 → ν.2.2 = μ.2.2 → (∀ q, q < 3 ∨ 10 ≤ q → ν.2.1 q = μ.2.1 q) → (∀ q, 1 ≤ q → q < 8 → ∀ p, p < 199 → ν.2.1 (2 + q) p = μ.2.1 (3 + q) p) → ev_V G l mX7_remember J 40 [some (.ref c)] [] (mo G c ν h) k n) : ∀ (r i : Nat) (x : Int32) (ν : MS), r + i = 8 → x.toInt = (i : Int) → 1 ≤ i → ν.1 = μ.1 → ν.2.2 = μ.2.2 → (∀ q, q < 3 ∨ 2 + i ≤ q → ν.2.1 q = μ.2.1 q) → (∀ q, 1 ≤ q → q < i → ∀ p, p < 199 → ν.2.1 (2 + q) p = μ.2.1 (3 + q) p) → ev_V G l mX7_remember J 11 [some (.ref c), some (.int x)] [] (mo G c ν h) k n := by
  intro r
  induction r using Nat.strongRecOn with
  | ind r ih =>
    intro i x ν
    intro hr hx hi1 e1 e2 e3 e4
    have hn : x.toInt.toNat = i := ar_nat hx
    have z1 := ar_1
    have w8 : (8 : Int32).toInt = 8 := by decide +kernel
    have ex : 1 ≤ i → (x - 1).toInt = ((i - 1 : Nat) : Int) := fun q => by rw [ar_sub (by omega) (by omega)]; omega
    refine e_iload_n dX7_remember_11 rfl rfl ?_
    refine e_bipush (v := 8) dX7_remember_12 (by decide) ?_
    refine e_icmp_ge (tgt := 40) dX7_remember_14 (by decide) (fun c14 => ?_) (fun c14 => ?_)
    · obtain rfl : i = 8 := by omega
      exact ev_lc (hk ν e1 e2 e3 e4) ⟨rfl, trivial⟩
    · have ex := ex hi1
      have q1 : 3 + x.toInt.toNat = 3 + i := by rw [hn]
      have q2 : 3 + (x - 1).toInt.toNat = 2 + i := by rw [ar_nat ex]; omega
      refine e_aload_n dX7_remember_17 rfl rfl ?_
      refine mo_g11 wF_X7_29 dX7_remember_18 ?_
      refine e_iload_n dX7_remember_21 rfl rfl ?_
      refine mo_l5 (by omega) (by omega) dX7_remember_22 ?_
      refine e_aload_n dX7_remember_23 rfl rfl ?_
      refine mo_g11 wF_X7_29 dX7_remember_24 ?_
      refine e_iload_n dX7_remember_27 rfl rfl ?_
      refine e_iconst (v := 1) dX7_remember_28 (by decide) ?_
      refine e_isub dX7_remember_29 ?_
      refine mo_l5 (by omega) (by omega) dX7_remember_30 ?_
      refine e_invS (mcY := 0) (msY := 0) (ct_X7_copy (q := 3 + x.toInt.toNat) (t := 3 + (x - 1).toInt.toNat) (by omega) (by omega) (by omega)) vX7_copy wM_X7_195 dX7_remember_31 rfl rfl (Nat.le_of_ble_eq_true rfl) (Nat.le_trans (Nat.le_of_ble_eq_true rfl) hJ) ?_
      rintro _ _ ⟨rfl, rfl⟩
      rw [q1, q2]
      refine e_iinc dX7_remember_34 rfl rfl (Nat.le_of_ble_eq_true rfl) ?_
      refine e_goto (tgt := 11) dX7_remember_37 (by decide) ?_
      refine ih (r - 1) (by omega) (i + 1) _ _ (by omega) (ar_inc hx (by omega)) (by omega) e1 e2 (fun q hq => ?_) (fun q a1 a2 p hp => ?_)
      · rw [ms_L_ne _ _ (by omega)]; exact e3 q (by omega)
      · by_cases e : q = i
        · rw [e, ms_L_get, fillL_lt _ _ hp, e3 _ (by omega)]
        · rw [ms_L_ne _ _ (by omega)]; exact e4 q a1 (by omega) p hp
set_option maxRecDepth 20000 in
theorem ct_X7_rememberL (hK : KR T (S.2.2.2 0) (μ.2.1 0)) (hH : RH T S μ) : ev_Ct G l mX7_remember 2 0 0 [.ref c] (mo G c μ h) (fun v a => v = none ∧ ∃ μ₁ : MS, RH T (sKeep S) μ₁ ∧ (∀ k, k ≠ 7 → μ₁.1 k = μ.1 k) ∧ μ₁.2.2 = μ.2.2 ∧ μ₁.2.1 0 = μ.2.1 0 ∧ μ₁.2.1 1 = μ.2.1 1 ∧ a = mo G c μ₁ h) (fun _ _ => False) := by
  refine ev_Ct.of (by decide +kernel) (Nat.le_of_ble_eq_true rfl) ?_
  have hh := hH.1
  have h7 := hH.2.1
  have z1 := ar_1
  have w8 : (8 : Int32).toInt = 8 := by decide +kernel
  have w7 : (7 : Int32).toInt = 7 := by decide +kernel
  have hc := hh.1
  refine e_aload_n dX7_remember_0 rfl rfl ?_
  refine mo_g12 wF_X7_294 dX7_remember_1 ?_
  refine e_bipush (v := 8) dX7_remember_4 (by decide) ?_
  refine e_icmp_ne (tgt := 50) dX7_remember_6 (by decide) (fun c6 => ?_) (fun c6 => ?_)
  · have d6 : (S.1 2).toInt < 8 := by have q : ¬ (S.1 2).toInt = 8 := fun q => c6 (ar_eq (by rw [h7, q, w8])); omega
    have e7 : (μ.1 7).toInt.toNat = (S.1 2).toInt.toNat := by rw [h7]
    refine e_aload_n dX7_remember_50 rfl rfl ?_
    refine mo_g8 wF_X7_17 dX7_remember_51 ?_
    refine e_aload_n dX7_remember_54 rfl rfl ?_
    refine mo_g11 wF_X7_29 dX7_remember_55 ?_
    refine e_aload_n dX7_remember_58 rfl rfl ?_
    refine mo_g12 wF_X7_294 dX7_remember_59 ?_
    refine mo_l5 (by rw [h7]; omega) (by rw [h7]; omega) dX7_remember_62 ?_
    refine e_invS (mcY := 0) (msY := 0) (ct_X7_copy (q := 0) (t := 3 + (μ.1 7).toInt.toNat) (by decide) (by omega) (by omega)) vX7_copy wM_X7_195 dX7_remember_63 rfl rfl (Nat.le_of_ble_eq_true rfl) (Nat.le_of_ble_eq_true rfl) ?_
    rintro _ _ ⟨rfl, rfl⟩
    refine e_aload_n dX7_remember_66 rfl rfl ?_
    refine e_dup dX7_remember_67 rfl ?_
    refine mo_g12 wF_X7_294 dX7_remember_68 ?_
    refine e_iconst (v := 1) dX7_remember_71 (by decide) ?_
    refine e_iadd dX7_remember_72 ?_
    refine mo_p12 wF_X7_294 dX7_remember_73 ?_
    exact e_vret rfl dX7_remember_76 (by
        refine ⟨rfl, _, ?_, ?_, ?_, ?_, ?_, rfl⟩
        · refine RH.keep hH hK ?_ (fun p hp => ?_) (fun _ i a1 a2 => ?_) (fun q => absurd d6 q)
          · rw [ms_I_get, if_pos d6]
            show (μ.1 7 + 1).toInt = _
            rw [h7, ar_add (by omega) (by omega), z1]
          · rw [if_pos d6]
            show ev_u μ.2.1 (3 + (μ.1 7).toInt.toNat) _ (3 + (S.1 2).toInt.toNat) p = _
            rw [e7, ev_u_self, fillL_lt _ _ hp]
          · exact ev_u_ne _ _ (by omega)
        · exact fun k hk => ms_I_ne _ _ hk
        · rfl
        · exact ev_u_ne _ _ (by omega)
        · exact ev_u_ne _ _ (by omega))
  · have d6 : ¬ (S.1 2).toInt < 8 := by rw [← h7, c6, w8]; omega
    refine e_iconst (v := 1) dX7_remember_9 (by decide) ?_
    refine e_istore_n dX7_remember_10 rfl (Nat.le_of_ble_eq_true rfl) ?_
    refine ev_loc (L' := [some (.ref c), some (.int 1)]) ⟨rfl, rfl, trivial⟩ ?_
    refine lp_mrem (μ := μ) (Nat.le_refl _) (fun ν e1 e2 e3 e4 => ?_) 7 1 1 _ (by omega) ar_1 (Nat.le_refl _) rfl rfl (fun _ _ => rfl) (fun q a1 a2 => absurd a2 (by omega))
    have v7 : (ν.1 7 - 1).toInt = 7 := by rw [e1, h7, ar_sub (by omega) (by omega), z1]; omega
    have v7n : (ν.1 7 - 1).toInt.toNat = 7 := by rw [v7]; rfl
    refine e_aload_n dX7_remember_40 rfl rfl ?_
    refine e_dup dX7_remember_41 rfl ?_
    refine mo_g12 wF_X7_294 dX7_remember_42 ?_
    refine e_iconst (v := 1) dX7_remember_45 (by decide) ?_
    refine e_isub dX7_remember_46 ?_
    refine mo_p12 wF_X7_294 dX7_remember_47 ?_
    refine e_aload_n dX7_remember_50 rfl rfl ?_
    refine mo_g8 wF_X7_17 dX7_remember_51 ?_
    refine e_aload_n dX7_remember_54 rfl rfl ?_
    refine mo_g11 wF_X7_29 dX7_remember_55 ?_
    refine e_aload_n dX7_remember_58 rfl rfl ?_
    refine mo_g12 wF_X7_294 dX7_remember_59 ?_
    refine mo_l5 (by show 0 ≤ (ν.1 7 - 1).toInt; omega) (by show (ν.1 7 - 1).toInt < 8; omega) dX7_remember_62 ?_
    refine e_invS (mcY := 0) (msY := 0) (ct_X7_copy (q := 0) (t := 3 + (ν.1 7 - 1).toInt.toNat) (by decide) (by omega) (by omega)) vX7_copy wM_X7_195 dX7_remember_63 rfl rfl (Nat.le_of_ble_eq_true rfl) (Nat.le_of_ble_eq_true rfl) ?_
    rintro _ _ ⟨rfl, rfl⟩
    refine e_aload_n dX7_remember_66 rfl rfl ?_
    refine e_dup dX7_remember_67 rfl ?_
    refine mo_g12 wF_X7_294 dX7_remember_68 ?_
    refine e_iconst (v := 1) dX7_remember_71 (by decide) ?_
    refine e_iadd dX7_remember_72 ?_
    refine mo_p12 wF_X7_294 dX7_remember_73 ?_
    exact e_vret rfl dX7_remember_76 (by
        refine ⟨rfl, _, ?_, fun k hk => ?_, ?_, ?_, ?_, rfl⟩
        · refine RH.keep hH hK ?_ (fun p hp => ?_) (fun q => absurd q d6) (fun _ i a1 a2 p hp => ?_)
          · rw [if_neg d6]
            show (ev_u (ev_u ν.1 7 (ν.1 7 - 1)) 7 (ev_u ν.1 7 (ν.1 7 - 1) 7 + 1) 7).toInt = _
            rw [ev_u_self, ev_u_self, ar_add (by omega) (by omega), z1, v7]; rfl
          · rw [if_neg d6]
            show ev_u ν.2.1 (3 + (ν.1 7 - 1).toInt.toNat) _ 10 p = _
            rw [v7n, show 3 + 7 = 10 from rfl, ev_u_self, fillL_lt _ _ hp]
            exact congrFun (e3 0 (Or.inl (by decide))) p
          · show ev_u ν.2.1 (3 + (ν.1 7 - 1).toInt.toNat) _ i p = _
            rw [v7n, ev_u_ne _ _ (by omega)]
            have q := e4 (i - 2) (by omega) (by omega) p hp
            rw [show 2 + (i - 2) = i by omega, show 3 + (i - 2) = i + 1 by omega] at q
            exact q
        · show ev_u (ev_u ν.1 7 _) 7 _ k = _
          rw [ev_u_ne _ _ hk, ev_u_ne _ _ hk, e1]
        · exact e2
        · show ev_u ν.2.1 (3 + (ν.1 7 - 1).toInt.toNat) _ 0 = _
          rw [ev_u_ne _ _ (by omega)]
          exact e3 0 (Or.inl (by decide))
        · show ev_u ν.2.1 (3 + (ν.1 7 - 1).toInt.toNat) _ 1 = _
          rw [ev_u_ne _ _ (by omega)]
          exact e3 1 (Or.inl (by decide)))
theorem ct_X7_remember (hK : KR T (S.2.2.2 0) (μ.2.1 0)) (hH : RH T S μ) : ev_Ct G l mX7_remember 2 0 0 [.ref c] (mo G c μ h) (fun v a => v = none ∧ ∃ μ₁ : MS, RH T (sKeep S) μ₁ ∧ (∀ k, k ≠ 7 → μ₁.1 k = μ.1 k) ∧ μ₁.2.2 = μ.2.2 ∧ μ₁.2.1 0 = μ.2.1 0 ∧ a = mo G c μ₁ h) (fun _ _ => False) := (ct_X7_rememberL hK hH).mono (fun v a q => by obtain ⟨q1, μ₁, q2, q3, q4, q5, -, q7⟩ := q; exact ⟨q1, μ₁, q2, q3, q4, q5, q7⟩) (fun _ _ q => q)
set_option maxRecDepth 20000 in
theorem ct_X7_put (hK : KR T (S.2.2.2 0) (μ.2.1 0)) (hH : RH T S μ) (hx : x.toInt = (j : Int)) (hj : j < 199) : ev_Ct G l mX7_put 3 0 0 [.ref c, .int x, .int y] (mo G c μ h) (fun v a => v = some (.int (μ.2.1 0 j).toInt32) ∧ ∃ μ₁ : MS, RH T (sKeep S) μ₁ ∧ (∀ k, k ≠ 7 → μ₁.1 k = μ.1 k) ∧ μ₁.2.2 = μ.2.2 ∧ μ₁.2.1 0 = ev_u (μ.2.1 0) j y.toInt64 ∧ a = mo G c μ₁ h) (fun _ _ => False) := by
  refine ev_Ct.of (by decide +kernel) (Nat.le_of_ble_eq_true rfl) ?_
  have hn := ar_nat hx
  refine e_aload_n dX7_put_0 rfl rfl ?_
  refine e_invV (mcY := 0) (msY := 0) (ct_X7_remember hK hH) vX7_remember wM_X7_192 (mo_at G c _ h 0 (by decide)) rfl dX7_put_1 rfl rfl (Nat.le_of_ble_eq_true rfl) (Nat.le_of_ble_eq_true rfl) ?_
  rintro _ _ ⟨rfl, μ₁, r1, r2, r3, r4, rfl⟩
  refine e_aload_n dX7_put_4 rfl rfl ?_
  refine mo_g8 wF_X7_17 dX7_put_5 ?_
  refine e_iload_n dX7_put_8 rfl rfl ?_
  refine mo_l2 (by omega) (by omega) dX7_put_9 ?_
  refine e_l2i dX7_put_10 ?_
  refine e_istore_n dX7_put_11 rfl (Nat.le_of_ble_eq_true rfl) ?_
  refine e_aload_n dX7_put_12 rfl rfl ?_
  refine mo_g8 wF_X7_17 dX7_put_13 ?_
  refine e_iload_n dX7_put_16 rfl rfl ?_
  refine e_iload_n dX7_put_17 rfl rfl ?_
  refine e_i2l dX7_put_18 ?_
  refine mo_s2 (by omega) (by omega) dX7_put_19 ?_
  refine e_iload_n dX7_put_20 rfl rfl ?_
  exact e_iret rfl dX7_put_21 (by
      refine ⟨by rw [hn, r4], _, ?_, ?_, ?_, ?_, rfl⟩
      · exact r1.rows rfl (fun i a1 a2 => ms_L_ne _ _ (by omega))
      · exact r2
      · exact r3
      · rw [ms_L_get, hn, r4])
set_option maxRecDepth 20000 in
theorem ct_X7_pluck (hS : RS T S μ) : ev_Ct G l mX7_pluck 4 0 0 [.ref c, .int x, .int y] (mo G c μ h) (fun v a => ((0 ≤ x.toInt ∧ x.toInt < sM (S.2.2.2 0)) ∧ (-10000 ≤ y.toInt ∧ y.toInt ≤ 10000) ∧ v = some (.int ((S.2.2.2 0).2.2 1 x.toInt.toNat)) ∧ ∃ μ₁ : MS, RS (T) (ss_C (sKeep S) 0 (cs_A (S.2.2.2 0) 1 (ev_u ((S.2.2.2 0).2.2 1) x.toInt.toNat y))) μ₁ ∧ μ₁.1 0 = 0 ∧ a = mo G c μ₁ h) ∨ (¬ (0 ≤ x.toInt ∧ x.toInt < sM (S.2.2.2 0)) ∧ v = some (.int 0) ∧ a = mo G c (ms_I μ 0 1) h) ∨ ((0 ≤ x.toInt ∧ x.toInt < sM (S.2.2.2 0)) ∧ ¬ (-10000 ≤ y.toInt ∧ y.toInt ≤ 10000) ∧ v = some (.int 0) ∧ a = mo G c (ms_I μ 0 2) h)) (fun _ _ => False) := by
  refine ev_Ct.of (by decide +kernel) (Nat.le_of_ble_eq_true rfl) ?_
  have hK := hS.1
  have hR := hS.1.1
  have hv := hS.1.2.1
  have hb := hS.1.2.2.1
  have hH := hS.2.1
  have hmn := hv.1.nat
  have hmu : ((S.2.2.2 0).1 0).toInt = sM (S.2.2.2 0) := rfl
  have z0 := ar_0
  have z1 := ar_1
  have z12 : (12 : Int32).toInt = ((12 : Nat) : Int) := ar_12
  have z48 : (48 : Int32).toInt = ((48 : Nat) : Int) := by decide +kernel
  have w2 : (2 : Int32).toInt = ((2 : Nat) : Int) := by decide +kernel
  have hK0 : KR T (S.2.2.2 0) ((ms_I μ 0 0).2.1 0) := hK
  have hH0 : RH T S (ms_I μ 0 0) := hH.rows (ms_I_ne _ _ (by decide)) (fun _ _ _ => rfl)
  have w10000 : (10000 : Int32).toInt = 10000 := by decide +kernel
  have wm10000 : (-10000 : Int32).toInt = -10000 := by decide +kernel
  refine e_aload_n dX7_pluck_0 rfl rfl ?_
  refine e_iconst (v := 0) dX7_pluck_1 (by decide) ?_
  refine mo_p0 wF_X7_39 dX7_pluck_2 ?_
  refine e_aload_n dX7_pluck_5 rfl rfl ?_
  refine e_iload_n dX7_pluck_6 rfl rfl ?_
  refine e_invV (mcY := 0) (msY := 0) (ct_X7_noMass (μ := ms_I μ 0 0) (ms_I_get μ 0 0) hR hv) vX7_noMass wM_X7_272 (mo_at G c _ h 0 (by decide)) rfl dX7_pluck_7 rfl rfl (Nat.le_of_ble_eq_true rfl) (Nat.le_of_ble_eq_true rfl) ?_
  rintro _ _ hc
  rcases hc.symm with ⟨hnm, rfl, rfl⟩ | ⟨hnm, rfl, rfl⟩
  · rw [ms_I_I]
    refine e_if_ne (tgt := 39) dX7_pluck_10 (by decide) (fun c10 => ?_) (fun c10 => ?_)
    · refine e_iconst (v := 0) dX7_pluck_39 (by decide) ?_
      refine e_goto (tgt := 56) dX7_pluck_40 (by decide) ?_
      exact e_iret rfl dX7_pluck_56 (by
          first
            | exact Or.inl ⟨by omega, by omega, by rw [show (ms_I μ 0 0).2.1 0 (12 + 3 * x.toInt.toNat + 1) = _ from hR.2.1.2.1 1 x.toInt.toNat (by decide) (by omega), ar_6432], _, RS.chg (by rw [r4]; exact KR.pluck hK (by omega) (by omega) (by omega)) r1 ⟨(r2 1 (by decide)).trans ((ms_I_ne _ _ (by decide)).trans hS.2.2.1.1), hS.2.2.1.2.1, by rw [r3]; exact hS.2.2.1.2.2⟩ ((r2 6 (by decide)).trans ((ms_I_ne _ _ (by decide)).trans hS.2.2.2)), (r2 0 (by decide)).trans (ms_I_get _ _ _), rfl⟩
            | exact Or.inr (Or.inl ⟨fun q => by omega, rfl, rfl⟩)
            | exact Or.inr (Or.inr ⟨by omega, fun q => by omega, rfl, rfl⟩))
    · first | exact absurd c10 (by decide) | exact absurd rfl c10
  · refine e_if_ne (tgt := 39) dX7_pluck_10 (by decide) (fun c10 => ?_) (fun c10 => ?_)
    · first | exact absurd c10 (by decide) | exact absurd rfl c10
    · refine e_aload_n dX7_pluck_13 rfl rfl ?_
      refine e_iload_n dX7_pluck_14 rfl rfl ?_
      refine e_sipush (v := (-10000)) dX7_pluck_15 (by decide) ?_
      refine e_sipush (v := 10000) dX7_pluck_18 (by decide) ?_
      refine e_invS (mcY := 0) (msY := 0) (ct_X7_in) vX7_in wM_X7_65 dX7_pluck_21 rfl rfl (Nat.le_of_ble_eq_true rfl) (Nat.le_of_ble_eq_true rfl) ?_
      rintro _ _ hc
      rcases hc with ⟨hin, rfl, rfl⟩ | ⟨hin, rfl, rfl⟩
      · refine e_if_ne (tgt := 31) dX7_pluck_24 (by decide) (fun c24 => ?_) (fun c24 => ?_)
        · refine e_iconst (v := 0) dX7_pluck_31 (by decide) ?_
          refine e_iconst (v := 2) dX7_pluck_32 (by decide) ?_
          refine e_invV (mcY := 0) (msY := 0) (ct_X7_fails0 (ms_I_get μ 0 0)) vX7_fails wM_X7_183 (mo_at G c _ h 0 (by decide)) rfl dX7_pluck_33 rfl rfl (Nat.le_of_ble_eq_true rfl) (Nat.le_of_ble_eq_true rfl) ?_
          rintro _ _ ⟨rfl, rfl⟩
          refine e_if_eq (tgt := 43) dX7_pluck_36 (by decide) (fun c36 => ?_) (fun c36 => ?_)
          · refine e_aload_n dX7_pluck_43 rfl rfl ?_
            refine e_bipush (v := 12) dX7_pluck_44 (by decide) ?_
            refine e_iconst (v := 3) dX7_pluck_46 (by decide) ?_
            refine e_iload_n dX7_pluck_47 rfl rfl ?_
            refine e_imul dX7_pluck_48 ?_
            refine e_iadd dX7_pluck_49 ?_
            refine e_iconst (v := 1) dX7_pluck_50 (by decide) ?_
            refine e_iadd dX7_pluck_51 ?_
            refine e_iload_n dX7_pluck_52 rfl rfl ?_
            refine e_invV (mcY := 0) (msY := 0) (ct_X7_put (T := T) (S := S) (j := 12 + 3 * x.toInt.toNat + 1) hK0 hH0 (ar_ix z12 (show x.toInt = (x.toInt.toNat : Int) by omega) ar_1 (by omega) (by omega) (by omega)) (by omega)) vX7_put wM_X7_297 (mo_at G c _ h 0 (by decide)) rfl dX7_pluck_53 rfl rfl (Nat.le_of_ble_eq_true rfl) (Nat.le_of_ble_eq_true rfl) ?_
            rintro _ _ ⟨rfl, μ₁, r1, r2, r3, r4, rfl⟩
            exact e_iret rfl dX7_pluck_56 (by
                first
                  | exact Or.inl ⟨by omega, by omega, by rw [show (ms_I μ 0 0).2.1 0 (12 + 3 * x.toInt.toNat + 1) = _ from hR.2.1.2.1 1 x.toInt.toNat (by decide) (by omega), ar_6432], _, RS.chg (by rw [r4]; exact KR.pluck hK (by omega) (by omega) (by omega)) r1 ⟨(r2 1 (by decide)).trans ((ms_I_ne _ _ (by decide)).trans hS.2.2.1.1), hS.2.2.1.2.1, by rw [r3]; exact hS.2.2.1.2.2⟩ ((r2 6 (by decide)).trans ((ms_I_ne _ _ (by decide)).trans hS.2.2.2)), (r2 0 (by decide)).trans (ms_I_get _ _ _), rfl⟩
                  | exact Or.inr (Or.inl ⟨fun q => by omega, rfl, rfl⟩)
                  | exact Or.inr (Or.inr ⟨by omega, fun q => by omega, rfl, rfl⟩))
          · first | exact absurd c36 (by decide) | exact absurd rfl c36
        · first | exact absurd c24 (by decide) | exact absurd rfl c24
      · refine e_if_ne (tgt := 31) dX7_pluck_24 (by decide) (fun c24 => ?_) (fun c24 => ?_)
        · first | exact absurd c24 (by decide) | exact absurd rfl c24
        · refine e_iconst (v := 1) dX7_pluck_27 (by decide) ?_
          refine e_goto (tgt := 32) dX7_pluck_28 (by decide) ?_
          refine e_iconst (v := 2) dX7_pluck_32 (by decide) ?_
          refine e_invV (mcY := 0) (msY := 0) (ct_X7_fails1 (ms_I_get μ 0 0) (by decide : (2 : Int32) ≠ 0)) vX7_fails wM_X7_183 (mo_at G c _ h 0 (by decide)) rfl dX7_pluck_33 rfl rfl (Nat.le_of_ble_eq_true rfl) (Nat.le_of_ble_eq_true rfl) ?_
          rintro _ _ ⟨rfl, rfl⟩
          rw [ms_I_I]
          refine e_if_eq (tgt := 43) dX7_pluck_36 (by decide) (fun c36 => ?_) (fun c36 => ?_)
          · first | exact absurd c36 (by decide) | exact absurd rfl c36
          · refine e_iconst (v := 0) dX7_pluck_39 (by decide) ?_
            refine e_goto (tgt := 56) dX7_pluck_40 (by decide) ?_
            exact e_iret rfl dX7_pluck_56 (by
                first
                  | exact Or.inl ⟨by omega, by omega, by rw [show (ms_I μ 0 0).2.1 0 (12 + 3 * x.toInt.toNat + 1) = _ from hR.2.1.2.1 1 x.toInt.toNat (by decide) (by omega), ar_6432], _, RS.chg (by rw [r4]; exact KR.pluck hK (by omega) (by omega) (by omega)) r1 ⟨(r2 1 (by decide)).trans ((ms_I_ne _ _ (by decide)).trans hS.2.2.1.1), hS.2.2.1.2.1, by rw [r3]; exact hS.2.2.1.2.2⟩ ((r2 6 (by decide)).trans ((ms_I_ne _ _ (by decide)).trans hS.2.2.2)), (r2 0 (by decide)).trans (ms_I_get _ _ _), rfl⟩
                  | exact Or.inr (Or.inl ⟨fun q => by omega, rfl, rfl⟩)
                  | exact Or.inr (Or.inr ⟨by omega, fun q => by omega, rfl, rfl⟩))
set_option maxRecDepth 20000 in
theorem ct_X7_stiffen (hS : RS T S μ) : ev_Ct G l mX7_stiffen 4 0 0 [.ref c, .int x, .int y] (mo G c μ h) (fun v a => ((0 ≤ x.toInt ∧ x.toInt ≤ sM (S.2.2.2 0)) ∧ (0 ≤ y.toInt ∧ y.toInt ≤ 999) ∧ v = some (.int ((S.2.2.2 0).2.2 3 x.toInt.toNat)) ∧ ∃ μ₁ : MS, RS (T) (ss_C (sKeep S) 0 (cs_A (S.2.2.2 0) 3 (ev_u ((S.2.2.2 0).2.2 3) x.toInt.toNat y))) μ₁ ∧ μ₁.1 0 = 0 ∧ a = mo G c μ₁ h) ∨ (¬ (0 ≤ x.toInt ∧ x.toInt ≤ sM (S.2.2.2 0)) ∧ v = some (.int 0) ∧ a = mo G c (ms_I μ 0 1) h) ∨ ((0 ≤ x.toInt ∧ x.toInt ≤ sM (S.2.2.2 0)) ∧ ¬ (0 ≤ y.toInt ∧ y.toInt ≤ 999) ∧ v = some (.int 0) ∧ a = mo G c (ms_I μ 0 2) h)) (fun _ _ => False) := by
  refine ev_Ct.of (by decide +kernel) (Nat.le_of_ble_eq_true rfl) ?_
  have hK := hS.1
  have hR := hS.1.1
  have hv := hS.1.2.1
  have hb := hS.1.2.2.1
  have hH := hS.2.1
  have hmn := hv.1.nat
  have hmu : ((S.2.2.2 0).1 0).toInt = sM (S.2.2.2 0) := rfl
  have z0 := ar_0
  have z1 := ar_1
  have z12 : (12 : Int32).toInt = ((12 : Nat) : Int) := ar_12
  have z48 : (48 : Int32).toInt = ((48 : Nat) : Int) := by decide +kernel
  have w2 : (2 : Int32).toInt = ((2 : Nat) : Int) := by decide +kernel
  have hK0 : KR T (S.2.2.2 0) ((ms_I μ 0 0).2.1 0) := hK
  have hH0 : RH T S (ms_I μ 0 0) := hH.rows (ms_I_ne _ _ (by decide)) (fun _ _ _ => rfl)
  have w999 : (999 : Int32).toInt = 999 := by decide +kernel
  refine e_aload_n dX7_stiffen_0 rfl rfl ?_
  refine e_iconst (v := 0) dX7_stiffen_1 (by decide) ?_
  refine mo_p0 wF_X7_39 dX7_stiffen_2 ?_
  refine e_aload_n dX7_stiffen_5 rfl rfl ?_
  refine e_iload_n dX7_stiffen_6 rfl rfl ?_
  refine e_invV (mcY := 0) (msY := 0) (ct_X7_noSpring (μ := ms_I μ 0 0) (ms_I_get μ 0 0) hR hv) vX7_noSpring wM_X7_278 (mo_at G c _ h 0 (by decide)) rfl dX7_stiffen_7 rfl rfl (Nat.le_of_ble_eq_true rfl) (Nat.le_of_ble_eq_true rfl) ?_
  rintro _ _ hc
  rcases hc.symm with ⟨hnm, rfl, rfl⟩ | ⟨hnm, rfl, rfl⟩
  · rw [ms_I_I]
    refine e_if_ne (tgt := 37) dX7_stiffen_10 (by decide) (fun c10 => ?_) (fun c10 => ?_)
    · refine e_iconst (v := 0) dX7_stiffen_37 (by decide) ?_
      refine e_goto (tgt := 54) dX7_stiffen_38 (by decide) ?_
      exact e_iret rfl dX7_stiffen_54 (by
          first
            | exact Or.inl ⟨by omega, by omega, by rw [show (ms_I μ 0 0).2.1 0 (48 + 3 * x.toInt.toNat + 0) = _ from hR.2.1.2.2 0 x.toInt.toNat (by decide) (by omega), ar_6432], _, RS.chg (by rw [r4]; exact KR.stiff hK (by omega) (by omega) (by omega)) r1 ⟨(r2 1 (by decide)).trans ((ms_I_ne _ _ (by decide)).trans hS.2.2.1.1), hS.2.2.1.2.1, by rw [r3]; exact hS.2.2.1.2.2⟩ ((r2 6 (by decide)).trans ((ms_I_ne _ _ (by decide)).trans hS.2.2.2)), (r2 0 (by decide)).trans (ms_I_get _ _ _), rfl⟩
            | exact Or.inr (Or.inl ⟨fun q => by omega, rfl, rfl⟩)
            | exact Or.inr (Or.inr ⟨by omega, fun q => by omega, rfl, rfl⟩))
    · first | exact absurd c10 (by decide) | exact absurd rfl c10
  · refine e_if_ne (tgt := 37) dX7_stiffen_10 (by decide) (fun c10 => ?_) (fun c10 => ?_)
    · first | exact absurd c10 (by decide) | exact absurd rfl c10
    · refine e_aload_n dX7_stiffen_13 rfl rfl ?_
      refine e_iload_n dX7_stiffen_14 rfl rfl ?_
      refine e_iconst (v := 0) dX7_stiffen_15 (by decide) ?_
      refine e_sipush (v := 999) dX7_stiffen_16 (by decide) ?_
      refine e_invS (mcY := 0) (msY := 0) (ct_X7_in) vX7_in wM_X7_65 dX7_stiffen_19 rfl rfl (Nat.le_of_ble_eq_true rfl) (Nat.le_of_ble_eq_true rfl) ?_
      rintro _ _ hc
      rcases hc with ⟨hin, rfl, rfl⟩ | ⟨hin, rfl, rfl⟩
      · refine e_if_ne (tgt := 29) dX7_stiffen_22 (by decide) (fun c22 => ?_) (fun c22 => ?_)
        · refine e_iconst (v := 0) dX7_stiffen_29 (by decide) ?_
          refine e_iconst (v := 2) dX7_stiffen_30 (by decide) ?_
          refine e_invV (mcY := 0) (msY := 0) (ct_X7_fails0 (ms_I_get μ 0 0)) vX7_fails wM_X7_183 (mo_at G c _ h 0 (by decide)) rfl dX7_stiffen_31 rfl rfl (Nat.le_of_ble_eq_true rfl) (Nat.le_of_ble_eq_true rfl) ?_
          rintro _ _ ⟨rfl, rfl⟩
          refine e_if_eq (tgt := 41) dX7_stiffen_34 (by decide) (fun c34 => ?_) (fun c34 => ?_)
          · refine e_aload_n dX7_stiffen_41 rfl rfl ?_
            refine e_bipush (v := 48) dX7_stiffen_42 (by decide) ?_
            refine e_iconst (v := 3) dX7_stiffen_44 (by decide) ?_
            refine e_iload_n dX7_stiffen_45 rfl rfl ?_
            refine e_imul dX7_stiffen_46 ?_
            refine e_iadd dX7_stiffen_47 ?_
            refine e_iconst (v := 0) dX7_stiffen_48 (by decide) ?_
            refine e_iadd dX7_stiffen_49 ?_
            refine e_iload_n dX7_stiffen_50 rfl rfl ?_
            refine e_invV (mcY := 0) (msY := 0) (ct_X7_put (T := T) (S := S) (j := 48 + 3 * x.toInt.toNat + 0) hK0 hH0 (ar_ix z48 (show x.toInt = (x.toInt.toNat : Int) by omega) ar_0 (by omega) (by omega) (by omega)) (by omega)) vX7_put wM_X7_297 (mo_at G c _ h 0 (by decide)) rfl dX7_stiffen_51 rfl rfl (Nat.le_of_ble_eq_true rfl) (Nat.le_of_ble_eq_true rfl) ?_
            rintro _ _ ⟨rfl, μ₁, r1, r2, r3, r4, rfl⟩
            exact e_iret rfl dX7_stiffen_54 (by
                first
                  | exact Or.inl ⟨by omega, by omega, by rw [show (ms_I μ 0 0).2.1 0 (48 + 3 * x.toInt.toNat + 0) = _ from hR.2.1.2.2 0 x.toInt.toNat (by decide) (by omega), ar_6432], _, RS.chg (by rw [r4]; exact KR.stiff hK (by omega) (by omega) (by omega)) r1 ⟨(r2 1 (by decide)).trans ((ms_I_ne _ _ (by decide)).trans hS.2.2.1.1), hS.2.2.1.2.1, by rw [r3]; exact hS.2.2.1.2.2⟩ ((r2 6 (by decide)).trans ((ms_I_ne _ _ (by decide)).trans hS.2.2.2)), (r2 0 (by decide)).trans (ms_I_get _ _ _), rfl⟩
                  | exact Or.inr (Or.inl ⟨fun q => by omega, rfl, rfl⟩)
                  | exact Or.inr (Or.inr ⟨by omega, fun q => by omega, rfl, rfl⟩))
          · first | exact absurd c34 (by decide) | exact absurd rfl c34
        · first | exact absurd c22 (by decide) | exact absurd rfl c22
      · refine e_if_ne (tgt := 29) dX7_stiffen_22 (by decide) (fun c22 => ?_) (fun c22 => ?_)
        · first | exact absurd c22 (by decide) | exact absurd rfl c22
        · refine e_iconst (v := 1) dX7_stiffen_25 (by decide) ?_
          refine e_goto (tgt := 30) dX7_stiffen_26 (by decide) ?_
          refine e_iconst (v := 2) dX7_stiffen_30 (by decide) ?_
          refine e_invV (mcY := 0) (msY := 0) (ct_X7_fails1 (ms_I_get μ 0 0) (by decide : (2 : Int32) ≠ 0)) vX7_fails wM_X7_183 (mo_at G c _ h 0 (by decide)) rfl dX7_stiffen_31 rfl rfl (Nat.le_of_ble_eq_true rfl) (Nat.le_of_ble_eq_true rfl) ?_
          rintro _ _ ⟨rfl, rfl⟩
          rw [ms_I_I]
          refine e_if_eq (tgt := 41) dX7_stiffen_34 (by decide) (fun c34 => ?_) (fun c34 => ?_)
          · first | exact absurd c34 (by decide) | exact absurd rfl c34
          · refine e_iconst (v := 0) dX7_stiffen_37 (by decide) ?_
            refine e_goto (tgt := 54) dX7_stiffen_38 (by decide) ?_
            exact e_iret rfl dX7_stiffen_54 (by
                first
                  | exact Or.inl ⟨by omega, by omega, by rw [show (ms_I μ 0 0).2.1 0 (48 + 3 * x.toInt.toNat + 0) = _ from hR.2.1.2.2 0 x.toInt.toNat (by decide) (by omega), ar_6432], _, RS.chg (by rw [r4]; exact KR.stiff hK (by omega) (by omega) (by omega)) r1 ⟨(r2 1 (by decide)).trans ((ms_I_ne _ _ (by decide)).trans hS.2.2.1.1), hS.2.2.1.2.1, by rw [r3]; exact hS.2.2.1.2.2⟩ ((r2 6 (by decide)).trans ((ms_I_ne _ _ (by decide)).trans hS.2.2.2)), (r2 0 (by decide)).trans (ms_I_get _ _ _), rfl⟩
                  | exact Or.inr (Or.inl ⟨fun q => by omega, rfl, rfl⟩)
                  | exact Or.inr (Or.inr ⟨by omega, fun q => by omega, rfl, rfl⟩))
set_option maxRecDepth 20000 in
theorem ct_X7_mend (hS : RS T S μ) : ev_Ct G l mX7_mend 4 0 0 [.ref c, .int x] (mo G c μ h) (fun v a => ((0 ≤ x.toInt ∧ x.toInt ≤ sM (S.2.2.2 0)) ∧ ((S.2.2.2 0).2.2 5 x.toInt.toNat ≠ 0) ∧ v = some (.int (acc32 0 (sBrk (cs_A (S.2.2.2 0) 5 (ev_u ((S.2.2.2 0).2.2 5) x.toInt.toNat 0))) (sNm (S.2.2.2 0) + 1))) ∧ ∃ μ₁ : MS, RS (T) (ss_C (sKeep S) 0 (cs_A (S.2.2.2 0) 5 (ev_u ((S.2.2.2 0).2.2 5) x.toInt.toNat 0))) μ₁ ∧ μ₁.1 0 = 0 ∧ a = mo G c μ₁ h) ∨ (¬ (0 ≤ x.toInt ∧ x.toInt ≤ sM (S.2.2.2 0)) ∧ v = some (.int 0) ∧ a = mo G c (ms_I μ 0 1) h) ∨ ((0 ≤ x.toInt ∧ x.toInt ≤ sM (S.2.2.2 0)) ∧ ¬ ((S.2.2.2 0).2.2 5 x.toInt.toNat ≠ 0) ∧ v = some (.int 0) ∧ a = mo G c (ms_I μ 0 2) h)) (fun _ _ => False) := by
  refine ev_Ct.of (by decide +kernel) (Nat.le_of_ble_eq_true rfl) ?_
  have hK := hS.1
  have hR := hS.1.1
  have hv := hS.1.2.1
  have hb := hS.1.2.2.1
  have hH := hS.2.1
  have hmn := hv.1.nat
  have hmu : ((S.2.2.2 0).1 0).toInt = sM (S.2.2.2 0) := rfl
  have z0 := ar_0
  have z1 := ar_1
  have z12 : (12 : Int32).toInt = ((12 : Nat) : Int) := ar_12
  have z48 : (48 : Int32).toInt = ((48 : Nat) : Int) := by decide +kernel
  have w2 : (2 : Int32).toInt = ((2 : Nat) : Int) := by decide +kernel
  have hK0 : KR T (S.2.2.2 0) ((ms_I μ 0 0).2.1 0) := hK
  have hH0 : RH T S (ms_I μ 0 0) := hH.rows (ms_I_ne _ _ (by decide)) (fun _ _ _ => rfl)
  refine e_aload_n dX7_mend_0 rfl rfl ?_
  refine e_iconst (v := 0) dX7_mend_1 (by decide) ?_
  refine mo_p0 wF_X7_39 dX7_mend_2 ?_
  refine e_aload_n dX7_mend_5 rfl rfl ?_
  refine e_iload_n dX7_mend_6 rfl rfl ?_
  refine e_invV (mcY := 0) (msY := 0) (ct_X7_noSpring (μ := ms_I μ 0 0) (ms_I_get μ 0 0) hR hv) vX7_noSpring wM_X7_278 (mo_at G c _ h 0 (by decide)) rfl dX7_mend_7 rfl rfl (Nat.le_of_ble_eq_true rfl) (Nat.le_of_ble_eq_true rfl) ?_
  rintro _ _ hc
  rcases hc.symm with ⟨hnm, rfl, rfl⟩ | ⟨hnm, rfl, rfl⟩
  · rw [ms_I_I]
    refine e_if_ne (tgt := 26) dX7_mend_10 (by decide) (fun c10 => ?_) (fun c10 => ?_)
    · refine e_iconst (v := 0) dX7_mend_26 (by decide) ?_
      exact e_iret rfl dX7_mend_27 (by
          first
            | exact Or.inl ⟨by omega, hw, rfl, _, RS.chg (hKn) r1 ⟨(r2 1 (by decide)).trans ((ms_I_ne _ _ (by decide)).trans hS.2.2.1.1), hS.2.2.1.2.1, by rw [r3]; exact hS.2.2.1.2.2⟩ ((r2 6 (by decide)).trans ((ms_I_ne _ _ (by decide)).trans hS.2.2.2)), (r2 0 (by decide)).trans (ms_I_get _ _ _), rfl⟩
            | exact Or.inr (Or.inl ⟨fun q => by omega, rfl, rfl⟩)
            | exact Or.inr (Or.inr ⟨by omega, fun q => q hw, rfl, rfl⟩))
    · first | exact absurd c10 (by decide) | exact absurd rfl c10
  · refine e_if_ne (tgt := 26) dX7_mend_10 (by decide) (fun c10 => ?_) (fun c10 => ?_)
    · first | exact absurd c10 (by decide) | exact absurd rfl c10
    · refine e_aload_n dX7_mend_13 rfl rfl ?_
      refine e_aload_n dX7_mend_14 rfl rfl ?_
      refine e_iload_n dX7_mend_15 rfl rfl ?_
      refine e_invV (mcY := 0) (msY := 0) (ct_X7_isWhole (μ := ms_I μ 0 0) (j := x.toInt.toNat) hR hv (by omega) (by omega)) vX7_isWhole wM_X7_212 (mo_at G c _ h 0 (by decide)) rfl dX7_mend_16 rfl rfl (Nat.le_of_ble_eq_true rfl) (Nat.le_of_ble_eq_true rfl) ?_
      rintro _ _ hc
      rcases hc with ⟨hw, rfl, rfl⟩ | ⟨hw, rfl, rfl⟩
      · refine e_iconst (v := 2) dX7_mend_19 (by decide) ?_
        refine e_invV (mcY := 0) (msY := 0) (ct_X7_fails1 (ms_I_get μ 0 0) (by decide : (2 : Int32) ≠ 0)) vX7_fails wM_X7_183 (mo_at G c _ h 0 (by decide)) rfl dX7_mend_20 rfl rfl (Nat.le_of_ble_eq_true rfl) (Nat.le_of_ble_eq_true rfl) ?_
        rintro _ _ ⟨rfl, rfl⟩
        rw [ms_I_I]
        refine e_if_eq (tgt := 28) dX7_mend_23 (by decide) (fun c23 => ?_) (fun c23 => ?_)
        · first | exact absurd c23 (by decide) | exact absurd rfl c23
        · refine e_iconst (v := 0) dX7_mend_26 (by decide) ?_
          exact e_iret rfl dX7_mend_27 (by
              first
                | exact Or.inl ⟨by omega, hw, rfl, _, RS.chg (hKn) r1 ⟨(r2 1 (by decide)).trans ((ms_I_ne _ _ (by decide)).trans hS.2.2.1.1), hS.2.2.1.2.1, by rw [r3]; exact hS.2.2.1.2.2⟩ ((r2 6 (by decide)).trans ((ms_I_ne _ _ (by decide)).trans hS.2.2.2)), (r2 0 (by decide)).trans (ms_I_get _ _ _), rfl⟩
                | exact Or.inr (Or.inl ⟨fun q => by omega, rfl, rfl⟩)
                | exact Or.inr (Or.inr ⟨by omega, fun q => q hw, rfl, rfl⟩))
      · refine e_iconst (v := 2) dX7_mend_19 (by decide) ?_
        refine e_invV (mcY := 0) (msY := 0) (ct_X7_fails0 (ms_I_get μ 0 0)) vX7_fails wM_X7_183 (mo_at G c _ h 0 (by decide)) rfl dX7_mend_20 rfl rfl (Nat.le_of_ble_eq_true rfl) (Nat.le_of_ble_eq_true rfl) ?_
        rintro _ _ ⟨rfl, rfl⟩
        refine e_if_eq (tgt := 28) dX7_mend_23 (by decide) (fun c23 => ?_) (fun c23 => ?_)
        · refine e_aload_n dX7_mend_28 rfl rfl ?_
          refine e_bipush (v := 48) dX7_mend_29 (by decide) ?_
          refine e_iconst (v := 3) dX7_mend_31 (by decide) ?_
          refine e_iload_n dX7_mend_32 rfl rfl ?_
          refine e_imul dX7_mend_33 ?_
          refine e_iadd dX7_mend_34 ?_
          refine e_iconst (v := 2) dX7_mend_35 (by decide) ?_
          refine e_iadd dX7_mend_36 ?_
          refine e_iconst (v := 0) dX7_mend_37 (by decide) ?_
          refine e_invV (mcY := 0) (msY := 0) (ct_X7_put (T := T) (S := S) (j := 48 + 3 * x.toInt.toNat + 2) hK0 hH0 (ar_ix z48 (show x.toInt = (x.toInt.toNat : Int) by omega) w2 (by omega) (by omega) (by omega)) (by omega)) vX7_put wM_X7_297 (mo_at G c _ h 0 (by decide)) rfl dX7_mend_38 rfl rfl (Nat.le_of_ble_eq_true rfl) (Nat.le_of_ble_eq_true rfl) ?_
          rintro _ _ ⟨rfl, μ₁, r1, r2, r3, r4, rfl⟩
          have hKn : KR T (cs_A (S.2.2.2 0) 5 (ev_u ((S.2.2.2 0).2.2 5) x.toInt.toNat 0)) (μ₁.2.1 0) := by rw [r4]; exact KR.mend hK (by omega)
          refine e_istore_n dX7_mend_41 rfl (Nat.le_of_ble_eq_true rfl) ?_
          refine e_aload_n dX7_mend_42 rfl rfl ?_
          refine e_invV (mcY := 0) (msY := 0) (ct_X7_brokenSprings (σ := cs_A (S.2.2.2 0) 5 (ev_u ((S.2.2.2 0).2.2 5) x.toInt.toNat 0)) hKn.1 hKn.2.1) vX7_brokenSprings wM_X7_250 (mo_at G c _ h 0 (by decide)) rfl dX7_mend_43 rfl rfl (Nat.le_of_ble_eq_true rfl) (Nat.le_of_ble_eq_true rfl) ?_
          rintro _ _ ⟨rfl, rfl⟩
          exact e_iret rfl dX7_mend_46 (by
              first
                | exact Or.inl ⟨by omega, hw, rfl, _, RS.chg (hKn) r1 ⟨(r2 1 (by decide)).trans ((ms_I_ne _ _ (by decide)).trans hS.2.2.1.1), hS.2.2.1.2.1, by rw [r3]; exact hS.2.2.1.2.2⟩ ((r2 6 (by decide)).trans ((ms_I_ne _ _ (by decide)).trans hS.2.2.2)), (r2 0 (by decide)).trans (ms_I_get _ _ _), rfl⟩
                | exact Or.inr (Or.inl ⟨fun q => by omega, rfl, rfl⟩)
                | exact Or.inr (Or.inr ⟨by omega, fun q => q hw, rfl, rfl⟩))
        · first | exact absurd c23 (by decide) | exact absurd rfl c23
set_option maxRecDepth 20000 in
theorem ct_X7_move (hS : RS T S μ) (hx : x = 0 ∨ x = 1) : ev_Ct G l mX7_move 4 0 0 [.ref c, .int x, .int y] (mo G c μ h) (fun v a => ((-100000 ≤ y.toInt ∧ y.toInt ≤ 100000) ∧ v = some (.int (if x = 0 then (S.2.2.2 0).1 3 else (S.2.2.2 0).1 4)) ∧ ∃ μ₁ : MS, RS (T) (ss_C (sKeep S) 0 (if x = 0 then cs_I (S.2.2.2 0) 3 y else cs_I (S.2.2.2 0) 4 y)) μ₁ ∧ μ₁.1 0 = 0 ∧ a = mo G c μ₁ h) ∨ (¬ (-100000 ≤ y.toInt ∧ y.toInt ≤ 100000) ∧ v = some (.int 0) ∧ a = mo G c (ms_I μ 0 1) h)) (fun _ _ => False) := by
  refine ev_Ct.of (by decide +kernel) (Nat.le_of_ble_eq_true rfl) ?_
  have hK := hS.1
  have hR := hS.1.1
  have hv := hS.1.2.1
  have hb := hS.1.2.2.1
  have hH := hS.2.1
  have hmn := hv.1.nat
  have hmu : ((S.2.2.2 0).1 0).toInt = sM (S.2.2.2 0) := rfl
  have z0 := ar_0
  have z1 := ar_1
  have z12 : (12 : Int32).toInt = ((12 : Nat) : Int) := ar_12
  have z48 : (48 : Int32).toInt = ((48 : Nat) : Int) := by decide +kernel
  have w2 : (2 : Int32).toInt = ((2 : Nat) : Int) := by decide +kernel
  have hK0 : KR T (S.2.2.2 0) ((ms_I μ 0 0).2.1 0) := hK
  have hH0 : RH T S (ms_I μ 0 0) := hH.rows (ms_I_ne _ _ (by decide)) (fun _ _ _ => rfl)
  have w100000 : (100000 : Int32).toInt = 100000 := by decide +kernel
  have wm100000 : (-100000 : Int32).toInt = -100000 := by decide +kernel
  have w3 : (3 : Int32).toInt = ((3 : Nat) : Int) := by decide +kernel
  refine e_aload_n dX7_move_0 rfl rfl ?_
  refine e_iconst (v := 0) dX7_move_1 (by decide) ?_
  refine mo_p0 wF_X7_39 dX7_move_2 ?_
  refine e_aload_n dX7_move_5 rfl rfl ?_
  refine e_iload_n dX7_move_6 rfl rfl ?_
  refine e_ldc dX7_move_7 wK_X7_124 ?_
  refine e_ldc dX7_move_9 wK_X7_125 ?_
  refine e_invS (mcY := 0) (msY := 0) (ct_X7_in) vX7_in wM_X7_65 dX7_move_11 rfl rfl (Nat.le_of_ble_eq_true rfl) (Nat.le_of_ble_eq_true rfl) ?_
  rintro _ _ hc
  rcases hc with ⟨hin, rfl, rfl⟩ | ⟨hin, rfl, rfl⟩
  · refine e_if_ne (tgt := 21) dX7_move_14 (by decide) (fun c14 => ?_) (fun c14 => ?_)
    · refine e_iconst (v := 0) dX7_move_21 (by decide) ?_
      refine e_iconst (v := 1) dX7_move_22 (by decide) ?_
      refine e_invV (mcY := 0) (msY := 0) (ct_X7_fails0 (ms_I_get μ 0 0)) vX7_fails wM_X7_183 (mo_at G c _ h 0 (by decide)) rfl dX7_move_23 rfl rfl (Nat.le_of_ble_eq_true rfl) (Nat.le_of_ble_eq_true rfl) ?_
      rintro _ _ ⟨rfl, rfl⟩
      refine e_if_eq (tgt := 33) dX7_move_26 (by decide) (fun c26 => ?_) (fun c26 => ?_)
      · refine e_aload_n dX7_move_33 rfl rfl ?_
        refine e_iload_n dX7_move_34 rfl rfl ?_
        refine e_if_eq (tgt := 42) dX7_move_35 (by decide) (fun c35 => ?_) (fun c35 => ?_)
        · refine e_iconst (v := 2) dX7_move_42 (by decide) ?_
          refine e_iload_n dX7_move_43 rfl rfl ?_
          refine e_invV (mcY := 0) (msY := 0) (ct_X7_put (T := T) (S := S) (j := 2) hK0 hH0 w2 (by omega)) vX7_put wM_X7_297 (mo_at G c _ h 0 (by decide)) rfl dX7_move_44 rfl rfl (Nat.le_of_ble_eq_true rfl) (Nat.le_of_ble_eq_true rfl) ?_
          rintro _ _ ⟨rfl, μ₁, r1, r2, r3, r4, rfl⟩
          exact e_iret rfl dX7_move_47 (by
              first
                | (simp only [if_pos c35]
                   exact Or.inl ⟨by omega, by rw [show (ms_I μ 0 0).2.1 0 2 = _ from hR.1.2.2.1, ar_6432], _, RS.chg (by rw [r4]; exact KR.left hK (by omega) (by omega)) r1 ⟨(r2 1 (by decide)).trans ((ms_I_ne _ _ (by decide)).trans hS.2.2.1.1), hS.2.2.1.2.1, by rw [r3]; exact hS.2.2.1.2.2⟩ ((r2 6 (by decide)).trans ((ms_I_ne _ _ (by decide)).trans hS.2.2.2)), (r2 0 (by decide)).trans (ms_I_get _ _ _), rfl⟩)
                | (simp only [if_neg c35]
                   exact Or.inl ⟨by omega, by rw [show (ms_I μ 0 0).2.1 0 3 = _ from hR.1.2.2.2.1, ar_6432], _, RS.chg (by rw [r4]; exact KR.right hK (by omega) (by omega)) r1 ⟨(r2 1 (by decide)).trans ((ms_I_ne _ _ (by decide)).trans hS.2.2.1.1), hS.2.2.1.2.1, by rw [r3]; exact hS.2.2.1.2.2⟩ ((r2 6 (by decide)).trans ((ms_I_ne _ _ (by decide)).trans hS.2.2.2)), (r2 0 (by decide)).trans (ms_I_get _ _ _), rfl⟩)
                | exact Or.inr ⟨fun q => by omega, rfl, rfl⟩)
        · refine e_iconst (v := 3) dX7_move_38 (by decide) ?_
          refine e_goto (tgt := 43) dX7_move_39 (by decide) ?_
          refine e_iload_n dX7_move_43 rfl rfl ?_
          refine e_invV (mcY := 0) (msY := 0) (ct_X7_put (T := T) (S := S) (j := 3) hK0 hH0 w3 (by omega)) vX7_put wM_X7_297 (mo_at G c _ h 0 (by decide)) rfl dX7_move_44 rfl rfl (Nat.le_of_ble_eq_true rfl) (Nat.le_of_ble_eq_true rfl) ?_
          rintro _ _ ⟨rfl, μ₁, r1, r2, r3, r4, rfl⟩
          exact e_iret rfl dX7_move_47 (by
              first
                | (simp only [if_pos c35]
                   exact Or.inl ⟨by omega, by rw [show (ms_I μ 0 0).2.1 0 2 = _ from hR.1.2.2.1, ar_6432], _, RS.chg (by rw [r4]; exact KR.left hK (by omega) (by omega)) r1 ⟨(r2 1 (by decide)).trans ((ms_I_ne _ _ (by decide)).trans hS.2.2.1.1), hS.2.2.1.2.1, by rw [r3]; exact hS.2.2.1.2.2⟩ ((r2 6 (by decide)).trans ((ms_I_ne _ _ (by decide)).trans hS.2.2.2)), (r2 0 (by decide)).trans (ms_I_get _ _ _), rfl⟩)
                | (simp only [if_neg c35]
                   exact Or.inl ⟨by omega, by rw [show (ms_I μ 0 0).2.1 0 3 = _ from hR.1.2.2.2.1, ar_6432], _, RS.chg (by rw [r4]; exact KR.right hK (by omega) (by omega)) r1 ⟨(r2 1 (by decide)).trans ((ms_I_ne _ _ (by decide)).trans hS.2.2.1.1), hS.2.2.1.2.1, by rw [r3]; exact hS.2.2.1.2.2⟩ ((r2 6 (by decide)).trans ((ms_I_ne _ _ (by decide)).trans hS.2.2.2)), (r2 0 (by decide)).trans (ms_I_get _ _ _), rfl⟩)
                | exact Or.inr ⟨fun q => by omega, rfl, rfl⟩)
      · first | exact absurd c26 (by decide) | exact absurd rfl c26
    · first | exact absurd c14 (by decide) | exact absurd rfl c14
  · refine e_if_ne (tgt := 21) dX7_move_14 (by decide) (fun c14 => ?_) (fun c14 => ?_)
    · first | exact absurd c14 (by decide) | exact absurd rfl c14
    · refine e_iconst (v := 1) dX7_move_17 (by decide) ?_
      refine e_goto (tgt := 22) dX7_move_18 (by decide) ?_
      refine e_iconst (v := 1) dX7_move_22 (by decide) ?_
      refine e_invV (mcY := 0) (msY := 0) (ct_X7_fails1 (ms_I_get μ 0 0) (by decide : (1 : Int32) ≠ 0)) vX7_fails wM_X7_183 (mo_at G c _ h 0 (by decide)) rfl dX7_move_23 rfl rfl (Nat.le_of_ble_eq_true rfl) (Nat.le_of_ble_eq_true rfl) ?_
      rintro _ _ ⟨rfl, rfl⟩
      rw [ms_I_I]
      refine e_if_eq (tgt := 33) dX7_move_26 (by decide) (fun c26 => ?_) (fun c26 => ?_)
      · first | exact absurd c26 (by decide) | exact absurd rfl c26
      · refine e_iconst (v := 0) dX7_move_29 (by decide) ?_
        refine e_goto (tgt := 47) dX7_move_30 (by decide) ?_
        exact e_iret rfl dX7_move_47 (by
            first
              | (simp only [if_pos c35]
                 exact Or.inl ⟨by omega, by rw [show (ms_I μ 0 0).2.1 0 2 = _ from hR.1.2.2.1, ar_6432], _, RS.chg (by rw [r4]; exact KR.left hK (by omega) (by omega)) r1 ⟨(r2 1 (by decide)).trans ((ms_I_ne _ _ (by decide)).trans hS.2.2.1.1), hS.2.2.1.2.1, by rw [r3]; exact hS.2.2.1.2.2⟩ ((r2 6 (by decide)).trans ((ms_I_ne _ _ (by decide)).trans hS.2.2.2)), (r2 0 (by decide)).trans (ms_I_get _ _ _), rfl⟩)
              | (simp only [if_neg c35]
                 exact Or.inl ⟨by omega, by rw [show (ms_I μ 0 0).2.1 0 3 = _ from hR.1.2.2.2.1, ar_6432], _, RS.chg (by rw [r4]; exact KR.right hK (by omega) (by omega)) r1 ⟨(r2 1 (by decide)).trans ((ms_I_ne _ _ (by decide)).trans hS.2.2.1.1), hS.2.2.1.2.1, by rw [r3]; exact hS.2.2.1.2.2⟩ ((r2 6 (by decide)).trans ((ms_I_ne _ _ (by decide)).trans hS.2.2.2)), (r2 0 (by decide)).trans (ms_I_get _ _ _), rfl⟩)
              | exact Or.inr ⟨fun q => by omega, rfl, rfl⟩)
end M8
