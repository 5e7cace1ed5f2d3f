/-! the model: waiting, checksum -/
section M7
variable {G : ev_G} {l : Launch} {c j w : Nat} {μ : MS} {σ : CS} {h : ev_H} {x y z : Int32} {T : Int}
set_option maxRecDepth 20000 in
theorem lp_mwt1 {J : ev_K} {k n : Nat} (hJ : 2 ≤ J.2.2.1) {m : Nat → TI} {N : Nat} (hl : ivL m N (μ.2.1 0)) (hN : N ≤ 16) {nn xk yw xi : Int32} (hnn : nn.toInt = (N : Int)) {i0 : Nat} (hxi : xi.toInt = (i0 : Int)) (hi0 : i0 < N) (hk : ∀ y : Int32, y.toInt = (rankN m i0 N : Int) → ev_V G l mX7_waiting J 109 [some (.ref c), some (.int xk), some (.int yw), some (.int nn), some (.int xi), some (.int y)] [] (mo G c μ h) k n) : ∀ (r i : Nat) (x : Int32) (y : Int32), r + i = N → x.toInt = (i : Int) → y.toInt = (rankN m i0 i : Int) → ev_V G l mX7_waiting J 76 [some (.ref c), some (.int xk), some (.int yw), some (.int nn), some (.int xi), some (.int y), some (.int x)] [] (mo G c μ h) k n := by
  intro r
  induction r using Nat.strongRecOn with
  | ind r ih =>
    intro i x y
    intro hr hx hy
    have hn : x.toInt.toNat = i := ar_nat hx
    have hrk := rankN_le m i0 i
    have z1 := ar_1
    have z0 := ar_0
    refine e_iload dX7_waiting_76 rfl ?_
    refine e_iload_n dX7_waiting_78 rfl rfl ?_
    refine e_icmp_ge (tgt := 109) dX7_waiting_79 (by decide) (fun c79 => ?_) (fun c79 => ?_)
    · obtain rfl : i = N := by omega
      exact ev_lc (hk y hy) ⟨rfl, rfl, rfl, rfl, rfl, rfl, trivial⟩
    · refine e_iload dX7_waiting_82 rfl ?_
      refine e_aload_n dX7_waiting_84 rfl rfl ?_
      refine e_iload dX7_waiting_85 rfl ?_
      refine e_iload dX7_waiting_87 rfl ?_
      refine e_invV (mcY := 0) (msY := 0) (ct_X7_isAhead hl hN hx hxi (by omega) hi0) vX7_isAhead wM_X7_284 (mo_at G c _ h 0 (by decide)) rfl dX7_waiting_89 rfl rfl (Nat.le_of_ble_eq_true rfl) (Nat.le_trans (Nat.le_of_ble_eq_true rfl) hJ) ?_
      rintro _ _ ⟨rfl, rfl⟩
      refine e_if_eq (tgt := 99) dX7_waiting_92 (by decide) (fun c92 => ?_) (fun c92 => ?_)
      · have d92 : aheB m i i0 = false := by cases q : aheB m i i0 with
          | false => rfl
          | true => rw [q] at c92; exact absurd c92 (by decide)
        refine e_iconst (v := 0) dX7_waiting_99 (by decide) ?_
        refine e_iadd dX7_waiting_100 ?_
        refine e_istore dX7_waiting_101 (Nat.le_of_ble_eq_true rfl) ?_
        refine e_iinc dX7_waiting_103 rfl rfl (Nat.le_of_ble_eq_true rfl) ?_
        refine e_goto (tgt := 76) dX7_waiting_106 (by decide) ?_
        refine ih (r - 1) (by omega) (i + 1) _ _ (by omega) (ar_inc hx (by omega)) ?_
        show _ = ((rankN m i0 i + (bif aheB m i i0 then 1 else 0) : Nat) : Int)
        rw [d92]
        first | (rw [cond_true, ar_add (by omega) (by omega), z1]; omega) | (rw [cond_false, ar_add (by omega) (by omega), z0]; omega)
      · have d92 : aheB m i i0 = true := by cases q : aheB m i i0 with
          | true => rfl
          | false => rw [q] at c92; exact absurd rfl c92
        refine e_iconst (v := 1) dX7_waiting_95 (by decide) ?_
        refine e_goto (tgt := 100) dX7_waiting_96 (by decide) ?_
        refine e_iadd dX7_waiting_100 ?_
        refine e_istore dX7_waiting_101 (Nat.le_of_ble_eq_true rfl) ?_
        refine e_iinc dX7_waiting_103 rfl rfl (Nat.le_of_ble_eq_true rfl) ?_
        refine e_goto (tgt := 76) dX7_waiting_106 (by decide) ?_
        refine ih (r - 1) (by omega) (i + 1) _ _ (by omega) (ar_inc hx (by omega)) ?_
        show _ = ((rankN m i0 i + (bif aheB m i i0 then 1 else 0) : Nat) : Int)
        rw [d92]
        first | (rw [cond_true, ar_add (by omega) (by omega), z1]; omega) | (rw [cond_false, ar_add (by omega) (by omega), z0]; omega)
set_option maxRecDepth 20000 in
theorem lp_mwt2 {J : ev_K} {k n : Nat} (hJ : 3 ≤ J.2.2.1) {m F : Nat → TI} {N : Nat} (hl : ivL m N (μ.2.1 0)) (hN : N ≤ 16) {nn xk yw : Int32} (hnn : nn.toInt = (N : Int)) {kk : Nat} (hkk : xk.toInt = (kk : Int)) (hk16 : kk < N) (y0 : 0 ≤ yw.toInt) (y2 : yw.toInt ≤ 2) (hrk : rkOk m F N) (hJ2 : J.2.2.2.2.2.1 (some (.int (if yw.toInt = 0 then (F kk).1 else if yw.toInt = 1 then (F kk).2.1 else (F kk).2.2))) (mo G c μ h)) (hk : J.1 = false) : ∀ (r i : Nat) (x : Int32), r + i = N → x.toInt = (i : Int) → (∀ q, q < i → rankN m q N ≠ kk) → ev_V G l mX7_waiting J 64 [some (.ref c), some (.int xk), some (.int yw), some (.int nn), some (.int x)] [] (mo G c μ h) k n := by
  intro r
  induction r using Nat.strongRecOn with
  | ind r ih =>
    intro i x
    intro hr hx hno
    have hn : x.toInt.toNat = i := ar_nat hx
    refine e_iload dX7_waiting_64 rfl ?_
    refine e_iload_n dX7_waiting_66 rfl rfl ?_
    refine e_icmp_ge (tgt := 137) dX7_waiting_67 (by decide) (fun c67 => ?_) (fun c67 => ?_)
    · obtain rfl : i = N := by omega
      obtain ⟨q, q1, q2⟩ := hrk.2 kk hk16
      exact absurd q2 (hno q q1)
    · refine e_iconst (v := 0) dX7_waiting_70 (by decide) ?_
      refine e_istore dX7_waiting_71 (Nat.le_of_ble_eq_true rfl) ?_
      refine e_iconst (v := 0) dX7_waiting_73 (by decide) ?_
      refine e_istore dX7_waiting_74 (Nat.le_of_ble_eq_true rfl) ?_
      refine ev_loc (L' := [some (.ref c), some (.int xk), some (.int yw), some (.int nn), some (.int x), some (.int 0), some (.int 0)]) ⟨rfl, rfl, rfl, rfl, rfl, rfl, rfl, trivial⟩ ?_
      refine lp_mwt1 (Nat.le_trans (Nat.le_of_ble_eq_true rfl) hJ) hl hN hnn hx (by omega) (fun y hy => ?_) N 0 0 0 (by omega) ar_0 ar_0
      refine e_iload dX7_waiting_109 rfl ?_
      refine e_iload_n dX7_waiting_111 rfl rfl ?_
      refine e_icmp_ne (tgt := 131) dX7_waiting_112 (by decide) (fun c112 => ?_) (fun c112 => ?_)
      · have hne : ¬ rankN m i N = kk := fun q => c112 (ar_eq (by omega))
        refine e_iinc dX7_waiting_131 rfl rfl (Nat.le_of_ble_eq_true rfl) ?_
        refine e_goto (tgt := 64) dX7_waiting_134 (by decide) ?_
        refine ev_loc (L' := [some (.ref c), some (.int xk), some (.int yw), some (.int nn), some (.int _)]) ⟨rfl, rfl, rfl, rfl, rfl, trivial⟩ ?_
        refine ih (r - 1) (by omega) (i + 1) _ (by omega) (ar_inc hx (by omega)) (fun q hq => ?_)
        by_cases e : q = i
        · rw [e]; exact hne
        · exact hno q (by omega)
      · have hd : i < N := by omega
        have hrk2 : rankN m i N = kk := by have := congrArg Int32.toInt c112; omega
        have e87 : ((87 : Int32) + 3 * x + yw).toInt = ((87 + 3 * i + yw.toInt.toNat : Nat) : Int) := ar_ix (by decide +kernel) hx (by omega) (by omega) (by omega) (by omega)
        refine e_aload_n dX7_waiting_115 rfl rfl ?_
        refine mo_g8 wF_X7_17 dX7_waiting_116 ?_
        refine e_bipush (v := 87) dX7_waiting_119 (by decide) ?_
        refine e_iconst (v := 3) dX7_waiting_121 (by decide) ?_
        refine e_iload dX7_waiting_122 rfl ?_
        refine e_imul dX7_waiting_124 ?_
        refine e_iadd dX7_waiting_125 ?_
        refine e_iload_n dX7_waiting_126 rfl rfl ?_
        refine e_iadd dX7_waiting_127 ?_
        refine mo_l2 (by rw [e87]; omega) (by rw [e87]; omega) dX7_waiting_128 ?_
        refine e_l2i dX7_waiting_129 ?_
        exact e_iret rfl dX7_waiting_130 (by
            have hm := (hrk.1 i hd).2
            rw [hrk2] at hm
            rw [hm] at hJ2
            have q := hl i hd
            rw [ar_nat e87]
            have e : (μ.2.1 0 (87 + 3 * i + yw.toInt.toNat)).toInt32 = (if yw.toInt = 0 then (m i).1 else if yw.toInt = 1 then (m i).2.1 else (m i).2.2) := by
              rcases (show yw.toInt = 0 ∨ yw.toInt = 1 ∨ yw.toInt = 2 by omega) with e | e | e
              · rw [if_pos e, e]; show (μ.2.1 0 (87 + 3 * i)).toInt32 = _; rw [q.1, ar_6432]
              · rw [if_neg (by omega), if_pos e, e]; show (μ.2.1 0 (87 + 3 * i + 1)).toInt32 = _; rw [q.2.1, ar_6432]
              · rw [if_neg (by omega), if_neg (by omega), e]; show (μ.2.1 0 (87 + 3 * i + 2)).toInt32 = _; rw [q.2.2, ar_6432]
            rw [e]
            exact hJ2)
set_option maxRecDepth 20000 in
theorem ct_X7_waiting (hR : RD σ (μ.2.1 0)) (hv : sInv σ) : ev_Ct G l mX7_waiting 3 0 0 [.ref c, .int x, .int y] (mo G c μ h) (fun v a => ((0 ≤ x.toInt ∧ x.toInt < (σ.1 5).toInt) ∧ (0 ≤ y.toInt ∧ y.toInt ≤ 2) ∧ v = some (.int (if y.toInt = 0 then σ.2.2 7 x.toInt.toNat else if y.toInt = 1 then σ.2.2 8 x.toInt.toNat else σ.2.2 9 x.toInt.toNat)) ∧ a = mo G c (ms_I μ 0 0) h) ∨ (¬ (0 ≤ x.toInt ∧ x.toInt < (σ.1 5).toInt) ∧ v = some (.int 0) ∧ a = mo G c (ms_I μ 0 1) h) ∨ ((0 ≤ x.toInt ∧ x.toInt < (σ.1 5).toInt) ∧ ¬ (0 ≤ y.toInt ∧ y.toInt ≤ 2) ∧ v = some (.int 0) ∧ a = mo G c (ms_I μ 0 2) h)) (fun _ _ => False) := by
  refine ev_Ct.of (by decide +kernel) (Nat.le_of_ble_eq_true rfl) ?_
  have hmn := hv.1.nat
  have hmu : (σ.1 0).toInt = sM σ := rfl
  have z0 := ar_0
  have z1 := ar_1
  have zL : (0 : Int64).toInt = 0 := by decide +kernel
  have zc : (0 : Int32).toInt64 = 0 := by decide +kernel
  have w2 : (2 : Int32).toInt = 2 := by decide +kernel
  have w5 : (5 : Int32).toInt = 5 := by decide +kernel
  have hin := hv.2.2.1.nat
  have f5 : ((ms_I μ 0 0).2.1 0 (5 : Int32).toInt.toNat).toInt32 = σ.1 5 := by rw [w5]; show (μ.2.1 0 5).toInt32 = _; rw [hR.1.2.2.2.2.2.1, ar_6432]
  have e5 : (σ.1 5 - 1).toInt = (σ.1 5).toInt - 1 := by rw [ar_sub (by omega) (by omega), z1]
  obtain ⟨m, hm1, hm2⟩ := hR.2.2.2
  refine e_aload_n dX7_waiting_0 rfl rfl ?_
  refine e_iconst (v := 0) dX7_waiting_1 (by decide) ?_
  refine mo_p0 wF_X7_39 dX7_waiting_2 ?_
  refine e_aload_n dX7_waiting_5 rfl rfl ?_
  refine mo_g8 wF_X7_17 dX7_waiting_6 ?_
  refine e_iconst (v := 5) dX7_waiting_9 (by decide) ?_
  refine mo_l2 (by omega) (by omega) dX7_waiting_10 ?_
  refine e_l2i dX7_waiting_11 ?_
  rw [f5]
  refine e_istore_n dX7_waiting_12 rfl (Nat.le_of_ble_eq_true rfl) ?_
  refine e_aload_n dX7_waiting_13 rfl rfl ?_
  refine e_iload_n dX7_waiting_14 rfl rfl ?_
  refine e_iconst (v := 0) dX7_waiting_15 (by decide) ?_
  refine e_iload_n dX7_waiting_16 rfl rfl ?_
  refine e_iconst (v := 1) dX7_waiting_17 (by decide) ?_
  refine e_isub dX7_waiting_18 ?_
  refine e_invS (mcY := 0) (msY := 0) (ct_X7_in) vX7_in wM_X7_65 dX7_waiting_19 rfl rfl (Nat.le_of_ble_eq_true rfl) (Nat.le_of_ble_eq_true rfl) ?_
  rintro _ _ hc
  rcases hc with ⟨hn1, rfl, rfl⟩ | ⟨hn1, rfl, rfl⟩
  · refine e_if_ne (tgt := 29) dX7_waiting_22 (by decide) (fun c22 => ?_) (fun c22 => ?_)
    · refine e_iconst (v := 0) dX7_waiting_29 (by decide) ?_
      refine e_iconst (v := 1) dX7_waiting_30 (by decide) ?_
      refine e_invV (mcY := 0) (msY := 0) (ct_X7_fails0 (ms_I_get μ 0 0)) vX7_fails wM_X7_183 (mo_at G c _ h 0 (by decide)) rfl dX7_waiting_31 rfl rfl (Nat.le_of_ble_eq_true rfl) (Nat.le_of_ble_eq_true rfl) ?_
      rintro _ _ ⟨rfl, rfl⟩
      refine e_if_ne (tgt := 59) dX7_waiting_34 (by decide) (fun c34 => ?_) (fun c34 => ?_)
      · first | exact absurd c34 (by decide) | exact absurd rfl c34
      · refine e_aload_n dX7_waiting_37 rfl rfl ?_
        refine e_iload_n dX7_waiting_38 rfl rfl ?_
        refine e_iconst (v := 0) dX7_waiting_39 (by decide) ?_
        refine e_iconst (v := 2) dX7_waiting_40 (by decide) ?_
        refine e_invS (mcY := 0) (msY := 0) (ct_X7_in) vX7_in wM_X7_65 dX7_waiting_41 rfl rfl (Nat.le_of_ble_eq_true rfl) (Nat.le_of_ble_eq_true rfl) ?_
        rintro _ _ hc
        rcases hc with ⟨hin2, rfl, rfl⟩ | ⟨hin2, rfl, rfl⟩
        · refine e_if_ne (tgt := 51) dX7_waiting_44 (by decide) (fun c44 => ?_) (fun c44 => ?_)
          · refine e_iconst (v := 0) dX7_waiting_51 (by decide) ?_
            refine e_iconst (v := 2) dX7_waiting_52 (by decide) ?_
            refine e_invV (mcY := 0) (msY := 0) (ct_X7_fails0 (ms_I_get μ 0 0)) vX7_fails wM_X7_183 (mo_at G c _ h 0 (by decide)) rfl dX7_waiting_53 rfl rfl (Nat.le_of_ble_eq_true rfl) (Nat.le_of_ble_eq_true rfl) ?_
            rintro _ _ ⟨rfl, rfl⟩
            refine e_if_eq (tgt := 61) dX7_waiting_56 (by decide) (fun c56 => ?_) (fun c56 => ?_)
            · refine e_iconst (v := 0) dX7_waiting_61 (by decide) ?_
              refine e_istore dX7_waiting_62 (Nat.le_of_ble_eq_true rfl) ?_
              refine ev_loc (L' := [some (.ref c), some (.int x), some (.int y), some (.int (σ.1 5)), some (.int 0)]) ⟨rfl, rfl, rfl, rfl, rfl, trivial⟩ ?_
              refine lp_mwt2 (μ := ms_I μ 0 0) (F := sTI σ) (Nat.le_refl _) hm1 (by omega) (by omega) (kk := x.toInt.toNat) (by omega) (by omega) (by omega) (by omega) (rk_all _ _ _ hm2) ?_ rfl (sIn σ) 0 0 (by omega) ar_0 (fun q hq => absurd hq (Nat.not_lt_zero _))
              exact Or.inl ⟨by omega, by omega, rfl, rfl⟩
            · first | exact absurd c56 (by decide) | exact absurd rfl c56
          · first | exact absurd c44 (by decide) | exact absurd rfl c44
        · refine e_if_ne (tgt := 51) dX7_waiting_44 (by decide) (fun c44 => ?_) (fun c44 => ?_)
          · first | exact absurd c44 (by decide) | exact absurd rfl c44
          · refine e_iconst (v := 1) dX7_waiting_47 (by decide) ?_
            refine e_goto (tgt := 52) dX7_waiting_48 (by decide) ?_
            refine e_iconst (v := 2) dX7_waiting_52 (by decide) ?_
            refine e_invV (mcY := 0) (msY := 0) (ct_X7_fails1 (ms_I_get μ 0 0) (by decide : (2 : Int32) ≠ 0)) vX7_fails wM_X7_183 (mo_at G c _ h 0 (by decide)) rfl dX7_waiting_53 rfl rfl (Nat.le_of_ble_eq_true rfl) (Nat.le_of_ble_eq_true rfl) ?_
            rintro _ _ ⟨rfl, rfl⟩
            rw [ms_I_I]
            refine e_if_eq (tgt := 61) dX7_waiting_56 (by decide) (fun c56 => ?_) (fun c56 => ?_)
            · first | exact absurd c56 (by decide) | exact absurd rfl c56
            · refine e_iconst (v := 0) dX7_waiting_59 (by decide) ?_
              exact e_iret rfl dX7_waiting_60 (by first | exact Or.inr (Or.inl ⟨fun q => by omega, rfl, rfl⟩) | exact Or.inr (Or.inr ⟨by omega, fun q => by omega, rfl, rfl⟩))
    · first | exact absurd c22 (by decide) | exact absurd rfl c22
  · refine e_if_ne (tgt := 29) dX7_waiting_22 (by decide) (fun c22 => ?_) (fun c22 => ?_)
    · first | exact absurd c22 (by decide) | exact absurd rfl c22
    · refine e_iconst (v := 1) dX7_waiting_25 (by decide) ?_
      refine e_goto (tgt := 30) dX7_waiting_26 (by decide) ?_
      refine e_iconst (v := 1) dX7_waiting_30 (by decide) ?_
      refine e_invV (mcY := 0) (msY := 0) (ct_X7_fails1 (ms_I_get μ 0 0) (by decide : (1 : Int32) ≠ 0)) vX7_fails wM_X7_183 (mo_at G c _ h 0 (by decide)) rfl dX7_waiting_31 rfl rfl (Nat.le_of_ble_eq_true rfl) (Nat.le_of_ble_eq_true rfl) ?_
      rintro _ _ ⟨rfl, rfl⟩
      rw [ms_I_I]
      refine e_if_ne (tgt := 59) dX7_waiting_34 (by decide) (fun c34 => ?_) (fun c34 => ?_)
      · refine e_iconst (v := 0) dX7_waiting_59 (by decide) ?_
        exact e_iret rfl dX7_waiting_60 (by first | exact Or.inr (Or.inl ⟨fun q => by omega, rfl, rfl⟩) | exact Or.inr (Or.inr ⟨by omega, fun q => by omega, rfl, rfl⟩))
      · first | exact absurd c34 (by decide) | exact absurd rfl c34
set_option maxRecDepth 20000 in
theorem lp_mck1 {J : ev_K} {k n : Nat} (hJ : 6 ≤ J.2.2.1) (hR : RD σ (μ.2.1 0)) (hv : sInv σ) (hb : RBs σ) {z : Int64} (hk : ∀ u : Int64, u = ckA z (fun w => (sTell σ w).toInt64) 12 → ev_V G l mX7_checksum J 34 [some (.ref c), some (.long u)] [] (mo G c μ h) k n) : ∀ (r i : Nat) (x : Int32) (u : Int64), r + i = 12 → x.toInt = (i : Int) → u = ckA z (fun w => (sTell σ w).toInt64) i → ev_V G l mX7_checksum J 9 [some (.ref c), some (.long u), none, some (.int x)] [] (mo G c μ h) k n := by
  intro r
  induction r using Nat.strongRecOn with
  | ind r ih =>
    intro i x u
    intro hr hx hu
    have hn : x.toInt.toNat = i := ar_nat hx
    have hmn := hv.1.nat
    have hmu : (σ.1 0).toInt = sM σ := rfl
    have z0 := ar_0
    have z1 := ar_1
    have zL : (0 : Int64).toInt = 0 := by decide +kernel
    have zc : (0 : Int32).toInt64 = 0 := by decide +kernel
    have w8 : (8 : Int32).toInt = 8 := by decide +kernel
    have w12 : (12 : Int32).toInt = 12 := by decide +kernel
    refine e_iload_n dX7_checksum_9 rfl rfl ?_
    refine e_bipush (v := 12) dX7_checksum_10 (by decide) ?_
    refine e_icmp_ge (tgt := 34) dX7_checksum_12 (by decide) (fun c12 => ?_) (fun c12 => ?_)
    · obtain rfl : i = 12 := by omega
      exact ev_lc (hk u hu) ⟨rfl, rfl, trivial⟩
    · refine e_ldc2 dX7_checksum_15 wK_X7_300 ?_
      refine e_lload_n dX7_checksum_18 rfl rfl ?_
      refine e_lmul dX7_checksum_19 ?_
      refine e_aload_n dX7_checksum_20 rfl rfl ?_
      refine e_iload_n dX7_checksum_21 rfl rfl ?_
      refine e_invV (mcY := 0) (msY := 0) (ct_X7_told hR hv hb (by omega) (by omega)) vX7_told wM_X7_262 (mo_at G c _ h 0 (by decide)) rfl dX7_checksum_22 rfl rfl (Nat.le_of_ble_eq_true rfl) (Nat.le_trans (Nat.le_of_ble_eq_true rfl) hJ) ?_
      rintro _ _ ⟨rfl, rfl⟩
      refine e_i2l dX7_checksum_25 ?_
      refine e_ladd dX7_checksum_26 ?_
      refine e_lstore_n dX7_checksum_27 rfl (Nat.le_of_ble_eq_true rfl) ?_
      refine e_iinc dX7_checksum_28 rfl rfl (Nat.le_of_ble_eq_true rfl) ?_
      refine e_goto (tgt := 9) dX7_checksum_31 (by decide) ?_
      refine ih (r - 1) (by omega) (i + 1) _ _ (by omega) (ar_inc hx (by omega)) ?_
      rw [hu, hn]
      rfl
set_option maxRecDepth 20000 in
theorem lp_mck2 {J : ev_K} {k n : Nat} (hJ : 6 ≤ J.2.2.1) (hR : RD σ (μ.2.1 0)) (hv : sInv σ) (hb : RBs σ) {z : Int64} (hk : ∀ u : Int64, u = ckA z (fun w => sAcc σ w) 8 → ev_V G l mX7_checksum J 60 [some (.ref c), some (.long u)] [] (mo G c μ h) k n) : ∀ (r i : Nat) (x : Int32) (u : Int64), r + i = 8 → x.toInt = (i : Int) → u = ckA z (fun w => sAcc σ w) i → ev_V G l mX7_checksum J 36 [some (.ref c), some (.long u), none, some (.int x)] [] (mo G c μ h) k n := by
  intro r
  induction r using Nat.strongRecOn with
  | ind r ih =>
    intro i x u
    intro hr hx hu
    have hn : x.toInt.toNat = i := ar_nat hx
    have hmn := hv.1.nat
    have hmu : (σ.1 0).toInt = sM σ := rfl
    have z0 := ar_0
    have z1 := ar_1
    have zL : (0 : Int64).toInt = 0 := by decide +kernel
    have zc : (0 : Int32).toInt64 = 0 := by decide +kernel
    have w8 : (8 : Int32).toInt = 8 := by decide +kernel
    have w12 : (12 : Int32).toInt = 12 := by decide +kernel
    refine e_iload_n dX7_checksum_36 rfl rfl ?_
    refine e_bipush (v := 8) dX7_checksum_37 (by decide) ?_
    refine e_icmp_ge (tgt := 60) dX7_checksum_39 (by decide) (fun c39 => ?_) (fun c39 => ?_)
    · obtain rfl : i = 8 := by omega
      exact ev_lc (hk u hu) ⟨rfl, rfl, trivial⟩
    · refine e_ldc2 dX7_checksum_42 wK_X7_300 ?_
      refine e_lload_n dX7_checksum_45 rfl rfl ?_
      refine e_lmul dX7_checksum_46 ?_
      refine e_aload_n dX7_checksum_47 rfl rfl ?_
      refine e_iload_n dX7_checksum_48 rfl rfl ?_
      refine e_invV (mcY := 0) (msY := 0) (ct_X7_toldAccount hR hv hb (by omega) (by omega)) vX7_toldAccount wM_X7_269 (mo_at G c _ h 0 (by decide)) rfl dX7_checksum_49 rfl rfl (Nat.le_of_ble_eq_true rfl) (Nat.le_trans (Nat.le_of_ble_eq_true rfl) hJ) ?_
      rintro _ _ ⟨rfl, rfl⟩
      refine e_ladd dX7_checksum_52 ?_
      refine e_lstore_n dX7_checksum_53 rfl (Nat.le_of_ble_eq_true rfl) ?_
      refine e_iinc dX7_checksum_54 rfl rfl (Nat.le_of_ble_eq_true rfl) ?_
      refine e_goto (tgt := 36) dX7_checksum_57 (by decide) ?_
      refine ih (r - 1) (by omega) (i + 1) _ _ (by omega) (ar_inc hx (by omega)) ?_
      rw [hu, hn]
      rfl
set_option maxRecDepth 20000 in
theorem lp_mck3 {J : ev_K} {k n : Nat} (hJ : 6 ≤ J.2.2.1) (hR : RD σ (μ.2.1 0)) (hv : sInv σ) (hb : RBs σ) {z : Int64} {xm : Int32} (hxm : xm.toInt = (j : Int)) (hj : j < sNm σ) (hk : ∀ u : Int64, u = ckA z (fun w => (sTellM σ j w).toInt64) 4 → ev_V G l mX7_checksum J 100 [some (.ref c), some (.long u), none, some (.int xm)] [] (mo G c μ h) k n) : ∀ (r i : Nat) (x : Int32) (u : Int64), r + i = 4 → x.toInt = (i : Int) → u = ckA z (fun w => (sTellM σ j w).toInt64) i → ev_V G l mX7_checksum J 73 [some (.ref c), some (.long u), none, some (.int xm), some (.int x)] [] (mo G c μ h) k n := by
  intro r
  induction r using Nat.strongRecOn with
  | ind r ih =>
    intro i x u
    intro hr hx hu
    have hn : x.toInt.toNat = i := ar_nat hx
    have hmn := hv.1.nat
    have hmu : (σ.1 0).toInt = sM σ := rfl
    have z0 := ar_0
    have z1 := ar_1
    have zL : (0 : Int64).toInt = 0 := by decide +kernel
    have zc : (0 : Int32).toInt64 = 0 := by decide +kernel
    have w4 : (4 : Int32).toInt = 4 := by decide +kernel
    have w5 : (5 : Int32).toInt = 5 := by decide +kernel
    refine e_iload dX7_checksum_73 rfl ?_
    refine e_iconst (v := 4) dX7_checksum_75 (by decide) ?_
    refine e_icmp_ge (tgt := 100) dX7_checksum_76 (by decide) (fun c76 => ?_) (fun c76 => ?_)
    · obtain rfl : i = 4 := by omega
      exact ev_lc (hk u hu) ⟨rfl, rfl, rfl, trivial⟩
    · refine e_ldc2 dX7_checksum_79 wK_X7_300 ?_
      refine e_lload_n dX7_checksum_82 rfl rfl ?_
      refine e_lmul dX7_checksum_83 ?_
      refine e_aload_n dX7_checksum_84 rfl rfl ?_
      refine e_iload_n dX7_checksum_85 rfl rfl ?_
      refine e_iload dX7_checksum_86 rfl ?_
      refine e_invV (mcY := 0) (msY := 0) (ct_X7_toldMass hR hv hxm hj (by omega) (by omega)) vX7_toldMass wM_X7_275 (mo_at G c _ h 0 (by decide)) rfl dX7_checksum_88 rfl rfl (Nat.le_of_ble_eq_true rfl) (Nat.le_trans (Nat.le_of_ble_eq_true rfl) hJ) ?_
      rintro _ _ ⟨rfl, rfl⟩
      refine e_i2l dX7_checksum_91 ?_
      refine e_ladd dX7_checksum_92 ?_
      refine e_lstore_n dX7_checksum_93 rfl (Nat.le_of_ble_eq_true rfl) ?_
      refine e_iinc dX7_checksum_94 rfl rfl (Nat.le_of_ble_eq_true rfl) ?_
      refine e_goto (tgt := 73) dX7_checksum_97 (by decide) ?_
      refine ih (r - 1) (by omega) (i + 1) _ _ (by omega) (ar_inc hx (by omega)) ?_
      rw [hu, hn]
      rfl
set_option maxRecDepth 20000 in
theorem lp_mck4 {J : ev_K} {k n : Nat} (hJ : 6 ≤ J.2.2.1) (hR : RD σ (μ.2.1 0)) (hv : sInv σ) (hb : RBs σ) {z : Int64} {xm : Int32} (hxm : xm.toInt = (j : Int)) (hj : j ≤ sNm σ) (hk : ∀ u : Int64, u = ckA z (fun w => (sTellS σ j w).toInt64) 5 → ev_V G l mX7_checksum J 146 [some (.ref c), some (.long u), none, some (.int xm)] [] (mo G c μ h) k n) : ∀ (r i : Nat) (x : Int32) (u : Int64), r + i = 5 → x.toInt = (i : Int) → u = ckA z (fun w => (sTellS σ j w).toInt64) i → ev_V G l mX7_checksum J 119 [some (.ref c), some (.long u), none, some (.int xm), some (.int x)] [] (mo G c μ h) k n := by
  intro r
  induction r using Nat.strongRecOn with
  | ind r ih =>
    intro i x u
    intro hr hx hu
    have hn : x.toInt.toNat = i := ar_nat hx
    have hmn := hv.1.nat
    have hmu : (σ.1 0).toInt = sM σ := rfl
    have z0 := ar_0
    have z1 := ar_1
    have zL : (0 : Int64).toInt = 0 := by decide +kernel
    have zc : (0 : Int32).toInt64 = 0 := by decide +kernel
    have w4 : (4 : Int32).toInt = 4 := by decide +kernel
    have w5 : (5 : Int32).toInt = 5 := by decide +kernel
    refine e_iload dX7_checksum_119 rfl ?_
    refine e_iconst (v := 5) dX7_checksum_121 (by decide) ?_
    refine e_icmp_ge (tgt := 146) dX7_checksum_122 (by decide) (fun c122 => ?_) (fun c122 => ?_)
    · obtain rfl : i = 5 := by omega
      exact ev_lc (hk u hu) ⟨rfl, rfl, rfl, trivial⟩
    · refine e_ldc2 dX7_checksum_125 wK_X7_300 ?_
      refine e_lload_n dX7_checksum_128 rfl rfl ?_
      refine e_lmul dX7_checksum_129 ?_
      refine e_aload_n dX7_checksum_130 rfl rfl ?_
      refine e_iload_n dX7_checksum_131 rfl rfl ?_
      refine e_iload dX7_checksum_132 rfl ?_
      refine e_invV (mcY := 0) (msY := 0) (ct_X7_toldSpring hR hv hb hxm hj (by omega) (by omega)) vX7_toldSpring wM_X7_281 (mo_at G c _ h 0 (by decide)) rfl dX7_checksum_134 rfl rfl (Nat.le_of_ble_eq_true rfl) (Nat.le_trans (Nat.le_of_ble_eq_true rfl) hJ) ?_
      rintro _ _ ⟨rfl, rfl⟩
      refine e_i2l dX7_checksum_137 ?_
      refine e_ladd dX7_checksum_138 ?_
      refine e_lstore_n dX7_checksum_139 rfl (Nat.le_of_ble_eq_true rfl) ?_
      refine e_iinc dX7_checksum_140 rfl rfl (Nat.le_of_ble_eq_true rfl) ?_
      refine e_goto (tgt := 119) dX7_checksum_143 (by decide) ?_
      refine ih (r - 1) (by omega) (i + 1) _ _ (by omega) (ar_inc hx (by omega)) ?_
      rw [hu, hn]
      rfl
set_option maxRecDepth 20000 in
theorem lp_mck3o {J : ev_K} {k n : Nat} (hJ : 6 ≤ J.2.2.1) (hR : RD σ (μ.2.1 0)) (hv : sInv σ) (hb : RBs σ) {z : Int64} (hk : ∀ u : Int64, u = ckB z (fun j w => (sTellM σ j w).toInt64) 4 (sNm σ) → ev_V G l mX7_checksum J 106 [some (.ref c), some (.long u)] [] (mo G c μ h) k n) : ∀ (r i : Nat) (x : Int32) (u : Int64), r + i = sNm σ → x.toInt = (i : Int) → u = ckB z (fun j w => (sTellM σ j w).toInt64) 4 i → ev_V G l mX7_checksum J 62 [some (.ref c), some (.long u), none, some (.int x)] [] (mo G c μ h) k n := by
  intro r
  induction r using Nat.strongRecOn with
  | ind r ih =>
    intro i x u
    intro hr hx hu
    have hn : x.toInt.toNat = i := ar_nat hx
    have hmn := hv.1.nat
    have hmu : (σ.1 0).toInt = sM σ := rfl
    have z0 := ar_0
    have z1 := ar_1
    have zL : (0 : Int64).toInt = 0 := by decide +kernel
    have zc : (0 : Int32).toInt64 = 0 := by decide +kernel
    refine e_iload_n dX7_checksum_62 rfl rfl ?_
    refine e_aload_n dX7_checksum_63 rfl rfl ?_
    refine e_invV (mcY := 0) (msY := 0) (ct_X7_masses hR) vX7_masses wM_X7_199 (mo_at G c _ h 0 (by decide)) rfl dX7_checksum_64 rfl rfl (Nat.le_of_ble_eq_true rfl) (Nat.le_trans (Nat.le_of_ble_eq_true rfl) hJ) ?_
    rintro _ _ ⟨rfl, rfl⟩
    refine e_icmp_ge (tgt := 106) dX7_checksum_67 (by decide) (fun c67 => ?_) (fun c67 => ?_)
    · obtain rfl : i = sNm σ := by omega
      exact ev_lc (hk u hu) ⟨rfl, rfl, trivial⟩
    · refine e_iconst (v := 0) dX7_checksum_70 (by decide) ?_
      refine e_istore dX7_checksum_71 (Nat.le_of_ble_eq_true rfl) ?_
      refine ev_loc (L' := [some (.ref c), some (.long u), none, some (.int x), some (.int 0)]) ⟨rfl, rfl, rfl, rfl, trivial⟩ ?_
      refine lp_mck3 hJ hR hv hb (z := u) hx (by omega) (fun u2 hu2 => ?_) 4 0 _ _ (by omega) ar_0 rfl
      refine e_iinc dX7_checksum_100 rfl rfl (Nat.le_of_ble_eq_true rfl) ?_
      refine e_goto (tgt := 62) dX7_checksum_103 (by decide) ?_
      refine ih (r - 1) (by omega) (i + 1) _ _ (by omega) (ar_inc hx (by omega)) ?_
      rw [hu2, hu]
      rfl
set_option maxRecDepth 20000 in
theorem lp_mck4o {J : ev_K} {k n : Nat} (hJ : 6 ≤ J.2.2.1) (hR : RD σ (μ.2.1 0)) (hv : sInv σ) (hb : RBs σ) {z : Int64} (hk : ∀ u : Int64, u = ckB z (fun j w => (sTellS σ j w).toInt64) 5 (sNm σ + 1) → ev_V G l mX7_checksum J 152 [some (.ref c), some (.long u)] [] (mo G c μ h) k n) : ∀ (r i : Nat) (x : Int32) (u : Int64), r + i = sNm σ + 1 → x.toInt = (i : Int) → u = ckB z (fun j w => (sTellS σ j w).toInt64) 5 i → ev_V G l mX7_checksum J 108 [some (.ref c), some (.long u), none, some (.int x)] [] (mo G c μ h) k n := by
  intro r
  induction r using Nat.strongRecOn with
  | ind r ih =>
    intro i x u
    intro hr hx hu
    have hn : x.toInt.toNat = i := ar_nat hx
    have hmn := hv.1.nat
    have hmu : (σ.1 0).toInt = sM σ := rfl
    have z0 := ar_0
    have z1 := ar_1
    have zL : (0 : Int64).toInt = 0 := by decide +kernel
    have zc : (0 : Int32).toInt64 = 0 := by decide +kernel
    refine e_iload_n dX7_checksum_108 rfl rfl ?_
    refine e_aload_n dX7_checksum_109 rfl rfl ?_
    refine e_invV (mcY := 0) (msY := 0) (ct_X7_masses hR) vX7_masses wM_X7_199 (mo_at G c _ h 0 (by decide)) rfl dX7_checksum_110 rfl rfl (Nat.le_of_ble_eq_true rfl) (Nat.le_trans (Nat.le_of_ble_eq_true rfl) hJ) ?_
    rintro _ _ ⟨rfl, rfl⟩
    refine e_icmp_gt (tgt := 152) dX7_checksum_113 (by decide) (fun c113 => ?_) (fun c113 => ?_)
    · obtain rfl : i = sNm σ + 1 := by omega
      exact ev_lc (hk u hu) ⟨rfl, rfl, trivial⟩
    · refine e_iconst (v := 0) dX7_checksum_116 (by decide) ?_
      refine e_istore dX7_checksum_117 (Nat.le_of_ble_eq_true rfl) ?_
      refine ev_loc (L' := [some (.ref c), some (.long u), none, some (.int x), some (.int 0)]) ⟨rfl, rfl, rfl, rfl, trivial⟩ ?_
      refine lp_mck4 hJ hR hv hb (z := u) hx (by omega) (fun u2 hu2 => ?_) 5 0 _ _ (by omega) ar_0 rfl
      refine e_iinc dX7_checksum_146 rfl rfl (Nat.le_of_ble_eq_true rfl) ?_
      refine e_goto (tgt := 108) dX7_checksum_149 (by decide) ?_
      refine ih (r - 1) (by omega) (i + 1) _ _ (by omega) (ar_inc hx (by omega)) ?_
      rw [hu2, hu]
      rfl
set_option maxRecDepth 20000 in
theorem lp_mck5 {J : ev_K} {k n : Nat} (hJ : 1 ≤ J.2.2.1) (hR : RD σ (μ.2.1 0)) (hv : sInv σ) {z : Int64} (hk : ∀ u : Int64, u = ckB z (fun k w => (sNo σ k w).toInt64) 2 (sPn σ) → ev_V G l mX7_checksum J 210 [some (.ref c), some (.long u)] [] (mo G c μ h) k n) : ∀ (r i : Nat) (x : Int32) (u : Int64), r + i = sPn σ → x.toInt = (i : Int) → u = ckB z (fun k w => (sNo σ k w).toInt64) 2 i → ev_V G l mX7_checksum J 154 [some (.ref c), some (.long u), none, some (.int x)] [] (mo G c μ h) k n := by
  intro r
  induction r using Nat.strongRecOn with
  | ind r ih =>
    intro i x u
    intro hr hx hu
    have hn : x.toInt.toNat = i := ar_nat hx
    have hmn := hv.1.nat
    have hmu : (σ.1 0).toInt = sM σ := rfl
    have z0 := ar_0
    have z1 := ar_1
    have zL : (0 : Int64).toInt = 0 := by decide +kernel
    have zc : (0 : Int32).toInt64 = 0 := by decide +kernel
    have w6 : (6 : Int32).toInt = 6 := by decide +kernel
    have z135 : (135 : Int32).toInt = ((135 : Nat) : Int) := by decide +kernel
    have hp := hv.2.2.2.2
    have hpn : (sPn σ : Int) = (σ.1 6).toInt := by unfold sPn; omega
    have f6 : (μ.2.1 0 (6 : Int32).toInt.toNat).toInt32 = σ.1 6 := by rw [w6]; show (μ.2.1 0 6).toInt32 = _; rw [hR.1.2.2.2.2.2.2, ar_6432]
    have ea : i ≤ 32 → ((135 : Int32) + 2 * x).toInt = ((135 + 2 * i : Nat) : Int) := fun q => ar_ix2 z135 hx (by omega) (by omega)
    refine e_iload_n dX7_checksum_154 rfl rfl ?_
    refine e_aload_n dX7_checksum_155 rfl rfl ?_
    refine mo_g8 wF_X7_17 dX7_checksum_156 ?_
    refine e_bipush (v := 6) dX7_checksum_159 (by decide) ?_
    refine mo_l2 (by omega) (by omega) dX7_checksum_161 ?_
    refine e_l2i dX7_checksum_162 ?_
    rw [f6]
    refine e_icmp_ge (tgt := 210) dX7_checksum_163 (by decide) (fun c163 => ?_) (fun c163 => ?_)
    · obtain rfl : i = sPn σ := by omega
      exact ev_lc (hk u hu) ⟨rfl, rfl, trivial⟩
    · have hi : i < sPn σ := by omega
      have ea := ea (by omega)
      have eb : ((135 : Int32) + 2 * x + 1).toInt = ((135 + 2 * i + 1 : Nat) : Int) := by rw [ar_add (by omega) (by omega), z1]; omega
      have fa : μ.2.1 0 ((135 : Int32) + 2 * x).toInt.toNat = (σ.2.2 10 i).toInt64 := by rw [ar_nat ea]; exact hR.2.2.1 0 i (by decide) hi
      have fb : μ.2.1 0 ((135 : Int32) + 2 * x + 1).toInt.toNat = (σ.2.2 11 i).toInt64 := by rw [ar_nat eb]; exact hR.2.2.1 1 i (by decide) hi
      refine e_ldc2 dX7_checksum_166 wK_X7_300 ?_
      refine e_ldc2 dX7_checksum_169 wK_X7_300 ?_
      refine e_lload_n dX7_checksum_172 rfl rfl ?_
      refine e_lmul dX7_checksum_173 ?_
      refine e_aload_n dX7_checksum_174 rfl rfl ?_
      refine mo_g8 wF_X7_17 dX7_checksum_175 ?_
      refine e_sipush (v := 135) dX7_checksum_178 (by decide) ?_
      refine e_iconst (v := 2) dX7_checksum_181 (by decide) ?_
      refine e_iload_n dX7_checksum_182 rfl rfl ?_
      refine e_imul dX7_checksum_183 ?_
      refine e_iadd dX7_checksum_184 ?_
      refine mo_l2 (by rw [ea]; omega) (by rw [ea]; omega) dX7_checksum_185 ?_
      rw [fa]
      refine e_ladd dX7_checksum_186 ?_
      refine e_lmul dX7_checksum_187 ?_
      refine e_aload_n dX7_checksum_188 rfl rfl ?_
      refine mo_g8 wF_X7_17 dX7_checksum_189 ?_
      refine e_sipush (v := 135) dX7_checksum_192 (by decide) ?_
      refine e_iconst (v := 2) dX7_checksum_195 (by decide) ?_
      refine e_iload_n dX7_checksum_196 rfl rfl ?_
      refine e_imul dX7_checksum_197 ?_
      refine e_iadd dX7_checksum_198 ?_
      refine e_iconst (v := 1) dX7_checksum_199 (by decide) ?_
      refine e_iadd dX7_checksum_200 ?_
      refine mo_l2 (by rw [eb]; omega) (by rw [eb]; omega) dX7_checksum_201 ?_
      rw [fb]
      refine e_ladd dX7_checksum_202 ?_
      refine e_lstore_n dX7_checksum_203 rfl (Nat.le_of_ble_eq_true rfl) ?_
      refine e_iinc dX7_checksum_204 rfl rfl (Nat.le_of_ble_eq_true rfl) ?_
      refine e_goto (tgt := 154) dX7_checksum_207 (by decide) ?_
      refine ih (r - 1) (by omega) (i + 1) _ _ (by omega) (ar_inc hx (by omega)) ?_
      rw [hu]
      rfl
set_option maxRecDepth 20000 in
theorem ct_X7_checksum (hR : RD σ (μ.2.1 0)) (hv : sInv σ) (hb : RBs σ) : ev_Ct G l mX7_checksum 6 0 0 [.ref c] (mo G c μ h) (fun v a => v = some (.long (sCk σ)) ∧ a = mo G c (ms_I μ 0 0) h) (fun _ _ => False) := by
  refine ev_Ct.of (by decide +kernel) (Nat.le_of_ble_eq_true rfl) ?_
  refine e_aload_n dX7_checksum_0 rfl rfl ?_
  refine e_iconst (v := 0) dX7_checksum_1 (by decide) ?_
  refine mo_p0 wF_X7_39 dX7_checksum_2 ?_
  refine e_lconst (v := 0) dX7_checksum_5 (by decide) ?_
  refine e_lstore_n dX7_checksum_6 rfl (Nat.le_of_ble_eq_true rfl) ?_
  refine e_iconst (v := 0) dX7_checksum_7 (by decide) ?_
  refine e_istore_n dX7_checksum_8 rfl (Nat.le_of_ble_eq_true rfl) ?_
  refine ev_loc (L' := [some (.ref c), some (.long 0), none, some (.int 0)]) ⟨rfl, rfl, rfl, trivial⟩ ?_
  refine lp_mck1 (μ := ms_I μ 0 0) (Nat.le_refl _) hR hv hb (z := 0) (fun u1 hu1 => ?_) 12 0 _ _ (by omega) ar_0 rfl
  refine e_iconst (v := 0) dX7_checksum_34 (by decide) ?_
  refine e_istore_n dX7_checksum_35 rfl (Nat.le_of_ble_eq_true rfl) ?_
  refine ev_loc (L' := [some (.ref c), some (.long u1), none, some (.int 0)]) ⟨rfl, rfl, rfl, trivial⟩ ?_
  refine lp_mck2 (μ := ms_I μ 0 0) (Nat.le_refl _) hR hv hb (z := u1) (fun u2 hu2 => ?_) 8 0 _ _ (by omega) ar_0 rfl
  refine e_iconst (v := 0) dX7_checksum_60 (by decide) ?_
  refine e_istore_n dX7_checksum_61 rfl (Nat.le_of_ble_eq_true rfl) ?_
  refine ev_loc (L' := [some (.ref c), some (.long u2), none, some (.int 0)]) ⟨rfl, rfl, rfl, trivial⟩ ?_
  refine lp_mck3o (μ := ms_I μ 0 0) (Nat.le_refl _) hR hv hb (z := u2) (fun u3 hu3 => ?_) (sNm σ) 0 _ _ (by omega) ar_0 rfl
  refine e_iconst (v := 0) dX7_checksum_106 (by decide) ?_
  refine e_istore_n dX7_checksum_107 rfl (Nat.le_of_ble_eq_true rfl) ?_
  refine ev_loc (L' := [some (.ref c), some (.long u3), none, some (.int 0)]) ⟨rfl, rfl, rfl, trivial⟩ ?_
  refine lp_mck4o (μ := ms_I μ 0 0) (Nat.le_refl _) hR hv hb (z := u3) (fun u4 hu4 => ?_) (sNm σ + 1) 0 _ _ (by omega) ar_0 rfl
  refine e_iconst (v := 0) dX7_checksum_152 (by decide) ?_
  refine e_istore_n dX7_checksum_153 rfl (Nat.le_of_ble_eq_true rfl) ?_
  refine ev_loc (L' := [some (.ref c), some (.long u4), none, some (.int 0)]) ⟨rfl, rfl, rfl, trivial⟩ ?_
  refine lp_mck5 (μ := ms_I μ 0 0) (Nat.le_of_ble_eq_true rfl) hR hv (z := u4) (fun u5 hu5 => ?_) (sPn σ) 0 _ _ (by omega) ar_0 rfl
  have hfin : u5 = sCk σ := by rw [hu5, hu4, hu3, hu2, hu1]; rfl
  subst hfin
  refine e_lload_n dX7_checksum_210 rfl rfl ?_
  exact e_lret rfl dX7_checksum_211 (⟨rfl, rfl⟩)
end M7
