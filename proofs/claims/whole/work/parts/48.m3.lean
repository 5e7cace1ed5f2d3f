/-! the model gives its impulses -/
section M3
variable {G : ev_G} {l : Launch} {c j w : Nat} {μ : MS} {σ : CS} {h : ev_H} {x y z : Int32} {T : Int}
set_option maxRecDepth 20000 in
theorem lp_mp1 {J : ev_K} {k n : Nat} (hJ : 1 ≤ J.2.2.1) {k0 L0 : Nat} {ya yt yl y2 : Int32} {δ : Nat → Int64} (ha : ya.toInt = ((87 + 3 * k0 : Nat) : Int)) (ht : yt.toInt = ((87 + 3 * L0 : Nat) : Int)) (hkl : L0 ≤ k0) (hk16 : k0 < 16) (hk : ev_V G l mX7_push J 138 [some (.ref c), some (.int yl), some (.int y2)] [] (mo G c (ms_L μ 0 (mv3 δ (87 + 3 * L0) (87 + 3 * k0) 3)) h) k n) : ∀ (r i : Nat) (x : Int32), r + i = 3 → x.toInt = (i : Int) → ev_V G l mX7_push J 107 [some (.ref c), some (.int yl), some (.int y2), some (.int ya), some (.int yt), some (.int x)] [] (mo G c (ms_L μ 0 (mv3 δ (87 + 3 * L0) (87 + 3 * k0) i)) h) k n := by
  intro r
  induction r using Nat.strongRecOn with
  | ind r ih =>
    intro i x
    intro hr hx
    have hn : x.toInt.toNat = i := ar_nat hx
    have w3 : (3 : Int32).toInt = 3 := by decide +kernel
    have e1 : (yt + x).toInt = ((87 + 3 * L0 + i : Nat) : Int) := by rw [ar_add (by omega) (by omega)]; omega
    have e2 : (ya + x).toInt = ((87 + 3 * k0 + i : Nat) : Int) := by rw [ar_add (by omega) (by omega)]; omega
    refine e_iload dX7_push_107 rfl ?_
    refine e_iconst (v := 3) dX7_push_109 (by decide) ?_
    refine e_icmp_ge (tgt := 138) dX7_push_110 (by decide) (fun c110 => ?_) (fun c110 => ?_)
    · obtain rfl : i = 3 := by omega
      exact ev_lc hk ⟨rfl, rfl, rfl, trivial⟩
    · refine e_aload_n dX7_push_113 rfl rfl ?_
      refine mo_g8 wF_X7_17 dX7_push_114 ?_
      refine e_iload dX7_push_117 rfl ?_
      refine e_iload dX7_push_119 rfl ?_
      refine e_iadd dX7_push_121 ?_
      refine e_aload_n dX7_push_122 rfl rfl ?_
      refine mo_g8 wF_X7_17 dX7_push_123 ?_
      refine e_iload_n dX7_push_126 rfl rfl ?_
      refine e_iload dX7_push_127 rfl ?_
      refine e_iadd dX7_push_129 ?_
      refine mo_l2 (by omega) (by omega) dX7_push_130 ?_
      refine mo_s2 (by omega) (by omega) dX7_push_131 ?_
      refine e_iinc dX7_push_132 rfl rfl (Nat.le_of_ble_eq_true rfl) ?_
      refine e_goto (tgt := 107) dX7_push_135 (by decide) ?_
      refine ev_as ?_ (ih (r - 1) (by omega) (i + 1) _ (by omega) (ar_inc hx (by omega)))
      rw [ms_L_L, ms_L_get, ar_nat e1, ar_nat e2, mv3_up _ _ _ _ (by omega)]
set_option maxRecDepth 20000 in
theorem lp_mpush {J : ev_K} {k n : Nat} (hJ : 2 ≤ J.2.2.1) {m : Nat → TI} (hv : sInv σ) (ht : RBt T σ) (hbm : RBm 140000000 σ) (hm : cRev (sTI σ) (sIn σ) = rSrt (tol m (sIn σ))) (hk : ∀ (yl : Int32) (δ : Nat → Int64), yl.toInt = ((kepT (σ.1 1) m (sIn σ)).length : Int) → RD0 (givT σ m (sIn σ)) δ → ivL (mAt (kepT (σ.1 1) m (sIn σ))) (kepT (σ.1 1) m (sIn σ)).length δ → ev_V G l mX7_push J 147 [some (.ref c), some (.int yl)] [] (mo G c (ms_L μ 0 δ) h) k n) : ∀ (r i : Nat) (x : Int32) (yl : Int32) (δ : Nat → Int64), r + i = sIn σ → x.toInt = (i : Int) → yl.toInt = ((kepT (σ.1 1) m i).length : Int) → RD0 (givT σ m i) δ → ivL (mAt (kepT (σ.1 1) m i)) (kepT (σ.1 1) m i).length δ → ivR m i (sIn σ) δ → ev_V G l mX7_push J 4 [some (.ref c), some (.int yl), some (.int x)] [] (mo G c (ms_L μ 0 δ) h) k n := by
  intro r
  induction r using Nat.strongRecOn with
  | ind r ih =>
    intro i x yl δ
    intro hr hx hyl h0 hl hr2
    have hn : x.toInt.toNat = i := ar_nat hx
    have z0 := ar_0
    have z1 := ar_1
    have w2 : (2 : Int32).toInt = 2 := by decide +kernel
    have w5 : (5 : Int32).toInt = 5 := by decide +kernel
    have w9 : (9 : Int32).toInt = 9 := by decide +kernel
    have z87 : (87 : Int32).toInt = ((87 : Nat) : Int) := by decide +kernel
    have hin := hv.2.2.1.nat
    have hkl := kepT_le (σ.1 1) m i
    have g1 := givL_1 ((tol m i).filter (isDue (σ.1 1))) σ
    have g1' : (givT σ m i).1 = σ.1 := g1.1
    have f5 : ((ms_L μ 0 δ).2.1 0 (5 : Int32).toInt.toNat).toInt32 = σ.1 5 := by rw [ms_L_get, w5]; show (δ 5).toInt32 = _; rw [h0.1.2.2.2.2.2.1, ar_6432, g1']
    have f0 : (ms_L μ 0 δ).2.1 0 (0 : Int32).toInt.toNat = (σ.1 1).toInt64 := by rw [ms_L_get, z0]; show δ 0 = _; rw [h0.1.1, g1']
    have ea : i ≤ 16 → ((87 : Int32) + 3 * x).toInt = ((87 + 3 * i : Nat) : Int) := fun q => ar_ix3 z87 hx (by omega) (by omega)
    have et : i ≤ 16 → ((87 : Int32) + 3 * yl).toInt = ((87 + 3 * (kepT (σ.1 1) m i).length : Nat) : Int) := fun q => ar_ix3 z87 hyl (by omega) (by omega)
    refine e_iload_n dX7_push_4 rfl rfl ?_
    refine e_aload_n dX7_push_5 rfl rfl ?_
    refine mo_g8 wF_X7_17 dX7_push_6 ?_
    refine e_iconst (v := 5) dX7_push_9 (by decide) ?_
    refine mo_l2 (by omega) (by omega) dX7_push_10 ?_
    refine e_l2i dX7_push_11 ?_
    rw [f5]
    refine e_icmp_ge (tgt := 147) dX7_push_12 (by decide) (fun c12 => ?_) (fun c12 => ?_)
    · obtain rfl : i = sIn σ := by omega
      exact ev_lc (hk yl δ hyl h0 hl) ⟨rfl, rfl, trivial⟩
    · have hi : i < sIn σ := by omega
      have ea := ea (by omega)
      have et := et (by omega)
      have ea1 : ((87 : Int32) + 3 * x + 1).toInt = ((87 + 3 * i + 1 : Nat) : Int) := by rw [ar_add (by omega) (by omega), z1]; omega
      have ea2 : ((87 : Int32) + 3 * x + 2).toInt = ((87 + 3 * i + 2 : Nat) : Int) := by rw [ar_add (by omega) (by omega), w2]; omega
      obtain ⟨b0, b1, b2⟩ := hr2 i (Nat.le_refl _) hi
      have fa : (ms_L μ 0 δ).2.1 0 ((87 : Int32) + 3 * x).toInt.toNat = (m i).1.toInt64 := by rw [ms_L_get, ar_nat ea]; exact b0
      have fb : (ms_L μ 0 δ).2.1 0 ((87 : Int32) + 3 * x + 1).toInt.toNat = (m i).2.1.toInt64 := by rw [ms_L_get, ar_nat ea1]; exact b1
      have fc : (ms_L μ 0 δ).2.1 0 ((87 : Int32) + 3 * x + 2).toInt.toNat = (m i).2.2.toInt64 := by rw [ms_L_get, ar_nat ea2]; exact b2
      obtain ⟨jj, hj1, hj2⟩ := ivS_mem hm hi
      have hmi := hv.2.2.2.1 jj hj1
      have hm8 : σ.2.2 8 jj = (m i).2.1 := congrArg (fun q : TI => q.2.1) hj2
      have hm9 : σ.2.2 9 jj = (m i).2.2 := congrArg (fun q : TI => q.2.2) hj2
      have htj := ht.2.1 jj hj1
      rw [hm8] at hmi
      rw [hm9] at htj
      have hmn := hv.1.nat
      have hN : sNm (givT σ m i) = sNm σ := by unfold sNm; rw [g1']
      have hbk := (givL_b ((tol m i).filter (isDue (σ.1 1))) σ 140000000 (by decide) (by have q1 := List.length_filter_le (isDue (σ.1 1)) (tol m i); have q2 : (tol m i).length = i := (by unfold tol; rw [List.length_map, List.length_range]); omega) hbm (fun y hy => by
        obtain ⟨k2, hk2, rfl⟩ := List.mem_map.mp (List.mem_filter.mp hy).1
        obtain ⟨j3, hj3, hj4⟩ := ivS_mem hm (show k2 < sIn σ by have := List.mem_range.mp hk2; omega)
        have := ht.2.1 j3 hj3
        rw [show σ.2.2 9 j3 = (m k2).2.2 from congrArg (fun q : TI => q.2.2) hj4] at this
        exact ⟨this.2.2.1, this.2.2.2⟩))
      have hbl : (((tol m i).filter (isDue (σ.1 1))).length : Int) ≤ 16 := by have q1 := List.length_filter_le (isDue (σ.1 1)) (tol m i); have q2 : (tol m i).length = i := (by unfold tol; rw [List.length_map, List.length_range]); omega
      have hbj := hbk (m i).2.1.toInt.toNat (by rw [show sNm (((tol m i).filter (isDue (σ.1 1))).foldl giv σ) = sNm σ from hN]; omega)
      change _ ≤ ((givT σ m i).2.2 2 _).toInt ∧ ((givT σ m i).2.2 2 _).toInt ≤ _ at hbj
      have h0m := h0.2.1.2.1 2 (m i).2.1.toInt.toNat (by decide) (by rw [hN]; omega)
      refine e_bipush (v := 87) dX7_push_15 (by decide) ?_
      refine e_iconst (v := 3) dX7_push_17 (by decide) ?_
      refine e_iload_n dX7_push_18 rfl rfl ?_
      refine e_imul dX7_push_19 ?_
      refine e_iadd dX7_push_20 ?_
      refine e_istore_n dX7_push_21 rfl (Nat.le_of_ble_eq_true rfl) ?_
      refine e_bipush (v := 87) dX7_push_22 (by decide) ?_
      refine e_iconst (v := 3) dX7_push_24 (by decide) ?_
      refine e_iload_n dX7_push_25 rfl rfl ?_
      refine e_imul dX7_push_26 ?_
      refine e_iadd dX7_push_27 ?_
      refine e_istore dX7_push_28 (Nat.le_of_ble_eq_true rfl) ?_
      refine e_aload_n dX7_push_30 rfl rfl ?_
      refine mo_g8 wF_X7_17 dX7_push_31 ?_
      refine e_iload_n dX7_push_34 rfl rfl ?_
      refine mo_l2 (by rw [ea]; omega) (by rw [ea]; omega) dX7_push_35 ?_
      refine e_aload_n dX7_push_36 rfl rfl ?_
      refine mo_g8 wF_X7_17 dX7_push_37 ?_
      refine e_iconst (v := 0) dX7_push_40 (by decide) ?_
      refine mo_l2 (by omega) (by omega) dX7_push_41 ?_
      rw [fa, f0]
      refine e_lcmp dX7_push_42 ?_
      refine e_if_ne (tgt := 104) dX7_push_43 (by decide) (fun c43 => ?_) (fun c43 => ?_)
      · have d43 : (m i).1 ≠ σ.1 1 := fun q => c43 (ar_lcmp0.mpr (by rw [q]))
        refine e_iconst (v := 0) dX7_push_104 (by decide) ?_
        refine e_istore dX7_push_105 (Nat.le_of_ble_eq_true rfl) ?_
        obtain ⟨q1, q2⟩ := givT_no (σ := σ) (m := m) (k := i) d43
        refine ev_loc (L' := [some (.ref c), some (.int yl), some (.int x), some (.int (87 + 3 * x)), some (.int (87 + 3 * yl)), some (.int 0)]) ⟨rfl, rfl, rfl, rfl, rfl, rfl, trivial⟩ ?_
        refine ev_as (a' := mo G c (ms_L μ 0 (mv3 δ (87 + 3 * (kepT (σ.1 1) m i).length) (87 + 3 * i) 0)) h) (by rw [mv3_0]) ?_
        refine lp_mp1 (δ := δ) (Nat.le_trans (Nat.le_of_ble_eq_true rfl) hJ) ea et hkl (by omega) ?_ 3 0 0 (by omega) ar_0
        refine e_iinc dX7_push_138 rfl rfl (Nat.le_of_ble_eq_true rfl) ?_
        refine e_iinc dX7_push_141 rfl rfl (Nat.le_of_ble_eq_true rfl) ?_
        refine e_goto (tgt := 4) dX7_push_144 (by decide) ?_
        refine ih (r - 1) (by omega) (i + 1) _ _ _ (by omega) (ar_inc hx (by omega)) ?_ ?_ ?_ ?_
        · rw [q2, List.length_append]; exact ar_inc hyl (by omega)
        · rw [q1]
          refine h0.imp (by unfold sOk sM; rw [g1']; exact hv.1) (fun q hq => ?_)
          unfold mv3
          rw [if_neg (by omega)]
        · rw [q2]; exact ivL_mv hkl hl ⟨b0, b1, b2⟩
        · exact ivR_mv (by omega) hr2 (by omega)
      · have d43 : (m i).1 = σ.1 1 := ar_64i (ar_lcmp0.mp c43)
        refine e_aload_n dX7_push_46 rfl rfl ?_
        refine e_aload_n dX7_push_47 rfl rfl ?_
        refine mo_g8 wF_X7_17 dX7_push_48 ?_
        refine e_iload_n dX7_push_51 rfl rfl ?_
        refine e_iconst (v := 1) dX7_push_52 (by decide) ?_
        refine e_iadd dX7_push_53 ?_
        refine mo_l2 (by rw [ea1]; omega) (by rw [ea1]; omega) dX7_push_54 ?_
        refine e_l2i dX7_push_55 ?_
        rw [fb, ar_6432]
        refine e_iconst (v := 2) dX7_push_56 (by decide) ?_
        refine e_aload_n dX7_push_57 rfl rfl ?_
        refine e_aload_n dX7_push_58 rfl rfl ?_
        refine mo_g8 wF_X7_17 dX7_push_59 ?_
        refine e_iload_n dX7_push_62 rfl rfl ?_
        refine e_iconst (v := 1) dX7_push_63 (by decide) ?_
        refine e_iadd dX7_push_64 ?_
        refine mo_l2 (by rw [ea1]; omega) (by rw [ea1]; omega) dX7_push_65 ?_
        refine e_l2i dX7_push_66 ?_
        rw [fb, ar_6432]
        refine e_iconst (v := 2) dX7_push_67 (by decide) ?_
        refine e_invV (mcY := 0) (msY := 0) (ct_X7_of (j := (m i).2.1.toInt.toNat) (w := 2) (by omega) (by decide +kernel) (by omega) (by decide)) vX7_of wM_X7_201 (mo_at G c _ h 0 (by decide)) rfl dX7_push_68 rfl rfl (Nat.le_of_ble_eq_true rfl) (Nat.le_trans (Nat.le_of_ble_eq_true rfl) hJ) ?_
        rintro _ _ ⟨rfl, rfl⟩
        refine e_aload_n dX7_push_71 rfl rfl ?_
        refine mo_g8 wF_X7_17 dX7_push_72 ?_
        refine e_iload_n dX7_push_75 rfl rfl ?_
        refine e_iconst (v := 2) dX7_push_76 (by decide) ?_
        refine e_iadd dX7_push_77 ?_
        refine mo_l2 (by rw [ea2]; omega) (by rw [ea2]; omega) dX7_push_78 ?_
        refine e_ladd dX7_push_79 ?_
        refine e_invV (mcY := 0) (msY := 0) (ct_X7_set (j := (m i).2.1.toInt.toNat) (w := 2) (by omega) (by decide +kernel) (by omega) (by decide)) vX7_set wM_X7_221 (mo_at G c _ h 0 (by decide)) rfl dX7_push_80 rfl rfl (Nat.le_of_ble_eq_true rfl) (Nat.le_trans (Nat.le_of_ble_eq_true rfl) hJ) ?_
        rintro _ _ ⟨rfl, rfl⟩
        refine e_aload_n dX7_push_83 rfl rfl ?_
        refine mo_g8 wF_X7_17 dX7_push_84 ?_
        refine e_bipush (v := 9) dX7_push_87 (by decide) ?_
        refine e_dup2 dX7_push_89 rfl rfl ?_
        refine mo_l2 (by omega) (by omega) dX7_push_90 ?_
        refine e_aload_n dX7_push_91 rfl rfl ?_
        refine mo_g8 wF_X7_17 dX7_push_92 ?_
        refine e_iload_n dX7_push_95 rfl rfl ?_
        refine e_iconst (v := 2) dX7_push_96 (by decide) ?_
        refine e_iadd dX7_push_97 ?_
        refine mo_l2 (by rw [ea2]; omega) (by rw [ea2]; omega) dX7_push_98 ?_
        refine e_ladd dX7_push_99 ?_
        refine mo_s2 (by omega) (by omega) dX7_push_100 ?_
        refine e_goto (tgt := 141) dX7_push_101 (by decide) ?_
        refine e_iinc dX7_push_141 rfl rfl (Nat.le_of_ble_eq_true rfl) ?_
        refine e_goto (tgt := 4) dX7_push_144 (by decide) ?_
        obtain ⟨q1, q2⟩ := givT_due (σ := σ) (m := m) (k := i) d43
        have hvk : sOk (givT σ m i) := by unfold sOk sM; rw [g1']; exact hv.1
        have hv2 : sInv (givT σ m i) := ⟨hvk, by unfold sWt; rw [hN, show (givT σ m i).2.2 0 = σ.2.2 0 from g1.2.1 0 (by decide)]; exact hv.2.1, by unfold sIok; rw [g1']; exact hv.2.2.1, by unfold sIm sIn sM; rw [g1', show (givT σ m i).2.2 8 = σ.2.2 8 from g1.2.1 8 (by decide)]; exact hv.2.2.2.1, by rw [g1']; exact hv.2.2.2.2⟩
        refine ev_loc (L' := [some (.ref c), some (.int yl), some (.int _)]) ⟨rfl, rfl, rfl, trivial⟩ ?_
        refine ev_as (a' := mo G c (ms_L μ 0 (ev_u (ev_u δ (12 + 3 * (m i).2.1.toInt.toNat + 2) ((givT σ m i).2.2 2 (m i).2.1.toInt.toNat + (m i).2.2).toInt64) (7 + 2) ((givT σ m i).2.1 2 + (m i).2.2.toInt64))) h) ?_ (ih (r - 1) (by omega) (i + 1) _ yl _ (by omega) (ar_inc hx (by omega)) (by rw [q2]; exact hyl) ?_ ?_ ?_)
        · have o2 : ∀ u : Int64, ev_u δ (12 + 3 * (m i).2.1.toInt.toNat + 2) u 9 = δ 9 := fun u => ev_u_ne _ _ (by omega)
          have o3 : ∀ u : Int64, ev_u δ (12 + 3 * (m i).2.1.toInt.toNat + 2) u (87 + 3 * i + 2) = δ (87 + 3 * i + 2) := fun u => ev_u_ne _ _ (by omega)
          rw [ms_L_get] at fc
          simp only [ms_L_L, ms_L_get, w9, ar_nat ea2]
          show mo G c (ms_L μ 0 (ev_u (ev_u δ _ (δ _ + _)) 9 (ev_u δ _ _ 9 + ev_u δ _ _ (87 + 3 * i + 2)))) h = _
          rw [o2, o3, b2, h0m, ← ar_64add (by omega) (by omega), show δ 9 = _ from h0.2.1.1 2 (by decide)]
        · rw [q1]
          exact RD0.acc (RD0.ms h0 hv2 (w := 2) (by decide) (by rw [hN]; omega) _) (σ := cs_A (givT σ m i) 2 _) hv2 (k := 2) (by decide) _
        · rw [q2]
          refine hl.congr (fun q a1 a2 => ?_)
          rw [ev_u_ne _ _ (by omega), ev_u_ne _ _ (by omega)]
        · intro k2 a1 a2
          rw [ev_u_ne _ _ (by omega), ev_u_ne _ _ (by omega), ev_u_ne _ _ (by omega), ev_u_ne _ _ (by omega), ev_u_ne _ _ (by omega), ev_u_ne _ _ (by omega)]
          exact hr2 k2 (by omega) a2
set_option maxRecDepth 20000 in
theorem lp_mpz {J : ev_K} {k n : Nat} (hJ : 2 ≤ J.2.2.1) {m : Nat → TI} (hv : sInv σ) {L0 : Nat} {yl : Int32} {F : Nat → TI} {τ : CS} (hτ : τ.1 = σ.1) (hk : ∀ (δ : Nat → Int64), RD0 τ δ → ivL F L0 δ → ev_V G l mX7_push J 183 [some (.ref c), some (.int yl)] [] (mo G c (ms_L μ 0 δ) h) k n) : ∀ (r i : Nat) (x : Int32) (δ : Nat → Int64), r + i = max (87 + 3 * sIn σ) (87 + 3 * L0) → x.toInt = (i : Int) → 87 + 3 * L0 ≤ i → RD0 τ δ → ivL F L0 δ → ev_V G l mX7_push J 154 [some (.ref c), some (.int yl), some (.int x)] [] (mo G c (ms_L μ 0 δ) h) k n := by
  intro r
  induction r using Nat.strongRecOn with
  | ind r ih =>
    intro i x δ
    intro hr hx hi0 h0 hl
    have hn : x.toInt.toNat = i := ar_nat hx
    have w5 : (5 : Int32).toInt = 5 := by decide +kernel
    have z87 : (87 : Int32).toInt = ((87 : Nat) : Int) := by decide +kernel
    have hin := hv.2.2.1.nat
    have f5 : ((ms_L μ 0 δ).2.1 0 (5 : Int32).toInt.toNat).toInt32 = σ.1 5 := by rw [ms_L_get, w5]; show (δ 5).toInt32 = _; rw [h0.1.2.2.2.2.2.1, ar_6432, hτ]
    have ea : ((87 : Int32) + 3 * σ.1 5).toInt = ((87 + 3 * sIn σ : Nat) : Int) := ar_ix3 z87 hin.1.symm (by omega) (by omega)
    refine e_iload_n dX7_push_154 rfl rfl ?_
    refine e_bipush (v := 87) dX7_push_155 (by decide) ?_
    refine e_iconst (v := 3) dX7_push_157 (by decide) ?_
    refine e_aload_n dX7_push_158 rfl rfl ?_
    refine mo_g8 wF_X7_17 dX7_push_159 ?_
    refine e_iconst (v := 5) dX7_push_162 (by decide) ?_
    refine mo_l2 (by omega) (by omega) dX7_push_163 ?_
    refine e_l2i dX7_push_164 ?_
    rw [f5]
    refine e_imul dX7_push_165 ?_
    refine e_iadd dX7_push_166 ?_
    refine e_icmp_ge (tgt := 183) dX7_push_167 (by decide) (fun c167 => ?_) (fun c167 => ?_)
    · exact ev_lc (hk δ h0 hl) ⟨rfl, rfl, trivial⟩
    · refine e_aload_n dX7_push_170 rfl rfl ?_
      refine mo_g8 wF_X7_17 dX7_push_171 ?_
      refine e_iload_n dX7_push_174 rfl rfl ?_
      refine e_lconst (v := 0) dX7_push_175 (by decide) ?_
      refine mo_s2 (by omega) (by omega) dX7_push_176 ?_
      refine e_iinc dX7_push_177 rfl rfl (Nat.le_of_ble_eq_true rfl) ?_
      refine e_goto (tgt := 154) dX7_push_180 (by decide) ?_
      refine ev_as (a' := mo G c (ms_L μ 0 (ev_u δ i 0)) h) (by rw [ms_L_L, ms_L_get, hn]) (ih (r - 1) (by omega) (i + 1) _ _ (by omega) (ar_inc hx (by omega)) (by omega) ?_ ?_)
      · exact h0.imp (by unfold sOk sM; rw [hτ]; exact hv.1) (fun q hq => ev_u_ne _ _ (by omega))
      · exact hl.congr (fun q a1 a2 => ev_u_ne _ _ (by omega))
set_option maxRecDepth 20000 in
theorem ct_X7_push (hR : RD σ (μ.2.1 0)) (hv : sInv σ) (ht : RBt T σ) (hbm : RBm 140000000 σ) : ev_Ct G l mX7_push 2 0 0 [.ref c] (mo G c μ h) (fun v a => v = none ∧ ∃ δ : Nat → Int64, RD (sGI σ) δ ∧ a = mo G c (ms_L μ 0 δ) h) (fun _ _ => False) := by
  refine ev_Ct.of (by decide +kernel) (Nat.le_of_ble_eq_true rfl) ?_
  have hin := hv.2.2.1.nat
  have z87 : (87 : Int32).toInt = ((87 : Nat) : Int) := by decide +kernel
  have w5 : (5 : Int32).toInt = 5 := by decide +kernel
  obtain ⟨m, hm1, hm2⟩ := hR.2.2.2
  refine e_iconst (v := 0) dX7_push_0 (by decide) ?_
  refine e_istore_n dX7_push_1 rfl (Nat.le_of_ble_eq_true rfl) ?_
  refine e_iconst (v := 0) dX7_push_2 (by decide) ?_
  refine e_istore_n dX7_push_3 rfl (Nat.le_of_ble_eq_true rfl) ?_
  refine ev_loc (L' := [some (.ref c), some (.int 0), some (.int 0)]) ⟨rfl, rfl, rfl, trivial⟩ ?_
  refine ev_as (a' := mo G c (ms_L μ 0 (μ.2.1 0)) h) (by rw [ms_L_self]) ?_
  refine lp_mpush (Nat.le_refl _) hv ht hbm hm2 (fun yl δ hyl h0 hl => ?_) (sIn σ) 0 0 0 _ (by omega) ar_0 (by exact ar_0) hR.to0 (fun q hq => absurd hq (Nat.not_lt_zero _)) (fun k2 _ a2 => hm1 k2 a2)
  have hkl := kepT_le (σ.1 1) m (sIn σ)
  have g1 := givL_1 ((tol m (sIn σ)).filter (isDue (σ.1 1))) σ
  refine e_bipush (v := 87) dX7_push_147 (by decide) ?_
  refine e_iconst (v := 3) dX7_push_149 (by decide) ?_
  refine e_iload_n dX7_push_150 rfl rfl ?_
  refine e_imul dX7_push_151 ?_
  refine e_iadd dX7_push_152 ?_
  refine e_istore_n dX7_push_153 rfl (Nat.le_of_ble_eq_true rfl) ?_
  refine ev_loc (L' := [some (.ref c), some (.int yl), some (.int (87 + 3 * yl))]) ⟨rfl, rfl, rfl, trivial⟩ ?_
  refine lp_mpz (m := m) (Nat.le_refl _) hv (L0 := (kepT (σ.1 1) m (sIn σ)).length) (τ := givT σ m (sIn σ)) g1.1 (fun δ h0 hl => ?_) (87 + 3 * sIn σ - (87 + 3 * (kepT (σ.1 1) m (sIn σ)).length)) (87 + 3 * (kepT (σ.1 1) m (sIn σ)).length) _ δ (by omega) (ar_ix3 z87 hyl (by omega) (by omega)) (Nat.le_refl _) h0 hl
  refine e_aload_n dX7_push_183 rfl rfl ?_
  refine mo_g8 wF_X7_17 dX7_push_184 ?_
  refine e_iconst (v := 5) dX7_push_187 (by decide) ?_
  refine e_iload_n dX7_push_188 rfl rfl ?_
  refine e_i2l dX7_push_189 ?_
  refine mo_s2 (by omega) (by omega) dX7_push_190 ?_
  exact e_vret rfl dX7_push_191 (⟨rfl, _, RD_GI hv ht hm2 h0 hl hyl, by rw [ms_L_L, ms_L_get, w5]; rfl⟩)
end M3
