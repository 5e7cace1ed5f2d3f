/-! the law's chain reads itself -/
theorem sStr_l {σ : CS} (hv : sInv σ) (hb : RBs σ) {j : Nat} (hj : j < sNm σ + 1) {t f : Int32} (ht : t = if (j : Int) < sM σ then σ.2.2 1 j else σ.1 4) (hf : f = if j = 0 then σ.1 3 else σ.2.2 1 (j - 1)) : t.toInt64 - f.toInt64 = (sStr σ j).toInt64 := by
  have hmn := hv.1.nat
  have e : sStr σ j = t - f := by rw [ht, hf]; rfl
  have bt : -1000000 ≤ t.toInt ∧ t.toInt ≤ 1000000 := by
    rw [ht]
    by_cases c : (j : Int) < sM σ
    · rw [if_pos c]; exact hb.2.2.1 j (by omega)
    · rw [if_neg c]; have := hb.2.1.2; omega
  have bf : -1000000 ≤ f.toInt ∧ f.toInt ≤ 1000000 := by
    rw [hf]
    by_cases c : j = 0
    · rw [if_pos c]; have := hb.2.1.1; omega
    · rw [if_neg c]; exact hb.2.2.1 (j - 1) (by omega)
  rw [e, ar_64sub (by omega) (by omega)]
/-- the pattern, from the first mass on -/
def pvU (σ : CS) : Nat → Int32 × Int32
  | 0 => (0, 1)
  | i + 1 => ((pvU σ i).1 + (pvU σ i).2 * sDig σ i, (pvU σ i).2 * 3)
theorem pvU_eq (σ : CS) (N : Nat) (hN : N = sNm σ) : ∀ t, t ≤ N → (pvU σ (N - t)).1 + (pvU σ (N - t)).2 * sPatT σ t = (pvU σ N).1 := by
  intro t
  induction t with
  | zero => intro _; show (pvU σ N).1 + (pvU σ N).2 * 0 = _; rw [Int32.mul_zero, Int32.add_zero]
  | succ t ih =>
    intro ht
    rw [← ih (by omega)]
    have e : N - t = (N - (t + 1)) + 1 := by omega
    rw [e]
    show _ + _ * (3 * sPatT σ t + sDig σ (sNm σ - 1 - t)) = ((pvU σ (N - (t + 1))).1 + (pvU σ (N - (t + 1))).2 * sDig σ (N - (t + 1))) + (pvU σ (N - (t + 1))).2 * 3 * sPatT σ t
    rw [show sNm σ - 1 - t = N - (t + 1) by omega, Int32.mul_add, Int32.add_assoc, ← Int32.mul_assoc, Int32.add_comm ((pvU σ (N - (t + 1))).2 * 3 * sPatT σ t)]
theorem pvU_sPat (σ : CS) : (pvU σ (sNm σ)).1 = sPat σ := by
  have h := pvU_eq σ (sNm σ) rfl (sNm σ) (Nat.le_refl _)
  rw [Nat.sub_self] at h
  rw [← h]
  show (0 : Int32) + 1 * sPatT σ (sNm σ) = _
  rw [Int32.one_mul, Int32.zero_add]
  rfl
theorem mWi_mm {v m : Int64} (hm : 0 ≤ m.toInt) : (if (if v < m then v else m) < -m then -m else (if v < m then v else m)) = mWi v m := by
  have r1 : -9223372036854775808 ≤ m.toInt ∧ m.toInt < 9223372036854775808 := ⟨Int64.le_toInt m, Int64.toInt_lt m⟩
  have hn : (-m).toInt = -m.toInt := by rw [Int64.toInt_neg, ar_bmL (by omega) (by omega)]
  unfold mWi
  by_cases c : v.toInt < m.toInt
  · rw [if_pos (ar_lt64.mpr c), if_neg (show ¬ m.toInt < v.toInt by omega)]
    by_cases d : v.toInt < (-m).toInt
    · rw [if_pos (ar_lt64.mpr d), if_pos d]
    · rw [if_neg (fun q => d (ar_lt64.mp q)), if_neg d]
  · rw [if_neg (fun q => c (ar_lt64.mp q)), if_neg (show ¬ m < -m from fun q => by have := ar_lt64.mp q; omega)]
    by_cases e : m.toInt < v.toInt
    · rw [if_pos e]
    · rw [if_neg e, if_neg (by omega)]
      exact ar_eqL (by omega)
theorem vel_l {σ : CS} {j : Nat} (h : 1 ≤ (σ.2.2 0 j).toInt) : ((σ.2.2 2 j).toInt64 / (σ.2.2 0 j).toInt64).toInt32 = sVel σ j := by
  rw [← ar_64div (by omega), ar_6432]
  rfl
section LRD
variable {G : ev_G} {l : Launch} {a : ev_H} {A : Nat → Nat} {σ : CS} {nI : Nat} {mI : Nat → TI} {j w : Nat} {x y : Int32} {z zm : Int64}
set_option maxRecDepth 20000 in
theorem ct_L_limited  (hm : 0 ≤ zm.toInt) : ev_Ct G l mL_limited 1 0 0 [.long z, .long zm] a (fun v b => v = some (.long (mWi z zm)) ∧ b = a) (fun _ _ => False) := by
  refine ev_Ct.of (by decide +kernel) (Nat.le_of_ble_eq_true rfl) ?_
  refine e_lload_n dL_limited_0 rfl rfl ?_
  refine e_lneg dL_limited_1 ?_
  refine e_lload_n dL_limited_2 rfl rfl ?_
  refine e_lload_n dL_limited_3 rfl rfl ?_
  refine e_mminL wM_L_108 (Nat.le_of_ble_eq_true rfl) (Nat.le_of_ble_eq_true rfl) dL_limited_4 ?_
  refine e_mmaxL wM_L_114 (Nat.le_of_ble_eq_true rfl) (Nat.le_of_ble_eq_true rfl) dL_limited_7 ?_
  exact e_lret rfl dL_limited_10 (⟨by rw [mWi_mm hm], rfl⟩)
set_option maxRecDepth 20000 in
theorem ct_X7_stretch (hC : LC G a A σ nI mI) (hv : sInv σ) (hb : RBs σ) (hx : x.toInt = (j : Int)) (hj : j < sNm σ + 1) : ev_Ct G l mX7_stretch 0 0 0 [.ref (A 0), .int x] a (fun v b => v = some (.long (sStr σ j).toInt64) ∧ b = a) (fun _ _ => False) := by
  refine ev_Ct.of (by decide +kernel) (Nat.le_of_ble_eq_true rfl) ?_
  have hmn := hv.1.nat
  have hmu : (σ.1 0).toInt = (sNm σ : Int) := hmn.1.symm
  have hmu2 : (σ.1 0).toInt = sM σ := rfl
  have z0 := ar_0
  have z1 := ar_1
  refine e_iload_n dX7_stretch_0 rfl rfl ?_
  refine e_if_ne (tgt := 12) dX7_stretch_1 (by decide) (fun c1 => ?_) (fun c1 => ?_)
  · have n1 : j ≠ 0 := fun q => c1 (ar_eq (by rw [hx, q]; exact ar_0.symm))
    have hf : σ.2.2 1 (j - 1) = (if j = 0 then σ.1 3 else σ.2.2 1 (j - 1)) := (if_neg n1).symm
    have hx1 : (x - 1).toInt = ((j - 1 : Nat) : Int) := by rw [ar_sub (by omega) (by omega)]; omega
    refine e_aload_n dX7_stretch_12 rfl rfl ?_
    refine lc_g4 hC wF_X7_10 dX7_stretch_13 ?_
    refine e_iload_n dX7_stretch_16 rfl rfl ?_
    refine e_iconst (v := 1) dX7_stretch_17 (by decide) ?_
    refine e_isub dX7_stretch_18 ?_
    refine lc_q1 hC hx1 (by omega) dX7_stretch_19 ?_
    refine lc_m1 hC (by omega) wF_X7_67 dX7_stretch_20 ?_
    refine e_lstore_n dX7_stretch_23 rfl (Nat.le_of_ble_eq_true rfl) ?_
    refine e_iload_n dX7_stretch_24 rfl rfl ?_
    refine e_aload_n dX7_stretch_25 rfl rfl ?_
    refine lc_g4 hC wF_X7_10 dX7_stretch_26 ?_
    refine lc_n1 hC hv dX7_stretch_29 ?_
    refine e_icmp_ne (tgt := 41) dX7_stretch_30 (by decide) (fun c30 => ?_) (fun c30 => ?_)
    · have n30 : j ≠ sNm σ := fun q => c30 (ar_eq (by rw [hx, hmu, q]))
      have ht : σ.2.2 1 j = (if (j : Int) < sM σ then σ.2.2 1 j else σ.1 4) := (if_pos (by omega)).symm
      refine e_aload_n dX7_stretch_41 rfl rfl ?_
      refine lc_g4 hC wF_X7_10 dX7_stretch_42 ?_
      refine e_iload_n dX7_stretch_45 rfl rfl ?_
      refine lc_q1 hC hx (by omega) dX7_stretch_46 ?_
      refine lc_m1 hC (by omega) wF_X7_67 dX7_stretch_47 ?_
      refine e_lstore dX7_stretch_50 (Nat.le_of_ble_eq_true rfl) ?_
      refine e_lload dX7_stretch_52 rfl ?_
      refine e_lload_n dX7_stretch_54 rfl rfl ?_
      refine e_lsub dX7_stretch_55 ?_
      exact e_lret rfl dX7_stretch_56 (⟨by rw [sStr_l hv hb hj ht hf], rfl⟩)
    · have n30 : j = sNm σ := by rw [c30, hmu] at hx; omega
      have ht : σ.1 4 = (if (j : Int) < sM σ then σ.2.2 1 j else σ.1 4) := (if_neg (by omega)).symm
      refine e_aload_n dX7_stretch_33 rfl rfl ?_
      refine lc_g2 hC wF_X7_48 dX7_stretch_34 ?_
      refine e_i2l dX7_stretch_37 ?_
      refine e_goto (tgt := 50) dX7_stretch_38 (by decide) ?_
      refine e_lstore dX7_stretch_50 (Nat.le_of_ble_eq_true rfl) ?_
      refine e_lload dX7_stretch_52 rfl ?_
      refine e_lload_n dX7_stretch_54 rfl rfl ?_
      refine e_lsub dX7_stretch_55 ?_
      exact e_lret rfl dX7_stretch_56 (⟨by rw [sStr_l hv hb hj ht hf], rfl⟩)
  · have n1 : j = 0 := by rw [c1, ar_0] at hx; omega
    have hf : σ.1 3 = (if j = 0 then σ.1 3 else σ.2.2 1 (j - 1)) := (if_pos n1).symm
    refine e_aload_n dX7_stretch_4 rfl rfl ?_
    refine lc_g1 hC wF_X7_45 dX7_stretch_5 ?_
    refine e_i2l dX7_stretch_8 ?_
    refine e_goto (tgt := 23) dX7_stretch_9 (by decide) ?_
    refine e_lstore_n dX7_stretch_23 rfl (Nat.le_of_ble_eq_true rfl) ?_
    refine e_iload_n dX7_stretch_24 rfl rfl ?_
    refine e_aload_n dX7_stretch_25 rfl rfl ?_
    refine lc_g4 hC wF_X7_10 dX7_stretch_26 ?_
    refine lc_n1 hC hv dX7_stretch_29 ?_
    refine e_icmp_ne (tgt := 41) dX7_stretch_30 (by decide) (fun c30 => ?_) (fun c30 => ?_)
    · have n30 : j ≠ sNm σ := fun q => c30 (ar_eq (by rw [hx, hmu, q]))
      have ht : σ.2.2 1 j = (if (j : Int) < sM σ then σ.2.2 1 j else σ.1 4) := (if_pos (by omega)).symm
      refine e_aload_n dX7_stretch_41 rfl rfl ?_
      refine lc_g4 hC wF_X7_10 dX7_stretch_42 ?_
      refine e_iload_n dX7_stretch_45 rfl rfl ?_
      refine lc_q1 hC hx (by omega) dX7_stretch_46 ?_
      refine lc_m1 hC (by omega) wF_X7_67 dX7_stretch_47 ?_
      refine e_lstore dX7_stretch_50 (Nat.le_of_ble_eq_true rfl) ?_
      refine e_lload dX7_stretch_52 rfl ?_
      refine e_lload_n dX7_stretch_54 rfl rfl ?_
      refine e_lsub dX7_stretch_55 ?_
      exact e_lret rfl dX7_stretch_56 (⟨by rw [sStr_l hv hb hj ht hf], rfl⟩)
    · have n30 : j = sNm σ := by rw [c30, hmu] at hx; omega
      have ht : σ.1 4 = (if (j : Int) < sM σ then σ.2.2 1 j else σ.1 4) := (if_neg (by omega)).symm
      refine e_aload_n dX7_stretch_33 rfl rfl ?_
      refine lc_g2 hC wF_X7_48 dX7_stretch_34 ?_
      refine e_i2l dX7_stretch_37 ?_
      refine e_goto (tgt := 50) dX7_stretch_38 (by decide) ?_
      refine e_lstore dX7_stretch_50 (Nat.le_of_ble_eq_true rfl) ?_
      refine e_lload dX7_stretch_52 rfl ?_
      refine e_lload_n dX7_stretch_54 rfl rfl ?_
      refine e_lsub dX7_stretch_55 ?_
      exact e_lret rfl dX7_stretch_56 (⟨by rw [sStr_l hv hb hj ht hf], rfl⟩)
set_option maxRecDepth 20000 in
theorem ct_X7_pull (hC : LC G a A σ nI mI) (hv : sInv σ) (hb : RBs σ) (hx : x.toInt = (j : Int)) (hj : j < sNm σ + 1) : ev_Ct G l mX7_pull 1 0 0 [.ref (A 0), .int x] a (fun v b => v = some (.long (sPull σ j).toInt64) ∧ b = a) (fun _ _ => False) := by
  refine ev_Ct.of (by decide +kernel) (Nat.le_of_ble_eq_true rfl) ?_
  have hmn := hv.1.nat
  have hmu : (σ.1 0).toInt = (sNm σ : Int) := hmn.1.symm
  have hmu2 : (σ.1 0).toInt = sM σ := rfl
  have z0 := ar_0
  have z1 := ar_1
  have hP := (sPull_64 hv.1 hb (s := j) (by omega)).1
  refine e_aload_n dX7_pull_0 rfl rfl ?_
  refine lc_g5 hC wF_X7_19 dX7_pull_1 ?_
  refine e_iload_n dX7_pull_4 rfl rfl ?_
  refine lc_q2 hC hx hj dX7_pull_5 ?_
  refine lc_s2 hC hj wF_X7_71 dX7_pull_6 ?_
  refine e_if_eq (tgt := 16) dX7_pull_9 (by decide) (fun c9 => ?_) (fun c9 => ?_)
  · rw [if_pos c9] at hP
    refine e_aload_n dX7_pull_16 rfl rfl ?_
    refine lc_g5 hC wF_X7_19 dX7_pull_17 ?_
    refine e_iload_n dX7_pull_20 rfl rfl ?_
    refine lc_q2 hC hx hj dX7_pull_21 ?_
    refine lc_s0 hC hj wF_X7_75 dX7_pull_22 ?_
    refine e_i2l dX7_pull_25 ?_
    refine e_aload_n dX7_pull_26 rfl rfl ?_
    refine e_iload_n dX7_pull_27 rfl rfl ?_
    refine e_invV (mcY := 0) (msY := 0) (ct_X7_stretch hC hv hb hx hj) vX7_stretch wM_X7_78 hC.1.1 rfl dX7_pull_28 rfl rfl (Nat.le_of_ble_eq_true rfl) (Nat.le_of_ble_eq_true rfl) ?_
    rintro _ _ ⟨rfl, rfl⟩
    refine e_lmul dX7_pull_31 ?_
    refine e_ldc2 dX7_pull_32 wK_X7_82 ?_
    refine e_ldiv dX7_pull_35 (by decide) ?_
    exact e_lret rfl dX7_pull_36 (⟨by rw [hP], rfl⟩)
  · rw [if_neg c9] at hP
    refine e_lconst (v := 0) dX7_pull_12 (by decide) ?_
    refine e_goto (tgt := 36) dX7_pull_13 (by decide) ?_
    exact e_lret rfl dX7_pull_36 (⟨by rw [hP], rfl⟩)
set_option maxRecDepth 20000 in
theorem lp_lpat {J : ev_K} {k n : Nat} (hJ : 0 ≤ J.2.2.1) (hC : LC G a A σ nI mI) (hv : sInv σ) (hk : ∀ y : Int32, y = sPat σ → ev_V G l mX7_pattern J 73 [none, some (.int y)] [] a k n) : ∀ (r i : Nat) (x : Int32) (y u : Int32), r + i = sNm σ → x.toInt = (i : Int) → y = (pvU σ i).1 → u = (pvU σ i).2 → ev_V G l mX7_pattern J 16 [some (.ref (A 0)), some (.int y), some (.int u), some (.ref (A 1)), some (.int (σ.1 0)), some (.int x)] [] a k n := by
  intro r
  induction r using Nat.strongRecOn with
  | ind r ih =>
    intro i x y u hr hx hy hu
    have hn : x.toInt.toNat = i := ar_nat hx
    have hmn := hv.1.nat
    have hmu : (σ.1 0).toInt = (sNm σ : Int) := hmn.1.symm
    have hmu2 : (σ.1 0).toInt = sM σ := rfl
    have z0 := ar_0
    have z1 := ar_1
    have zL : (0 : Int64).toInt = 0 := by decide +kernel
    refine e_iload dX7_pattern_16 rfl ?_
    refine e_iload dX7_pattern_18 rfl ?_
    refine e_icmp_ge (tgt := 73) dX7_pattern_20 (by decide) (fun c20 => ?_) (fun c20 => ?_)
    · obtain rfl : i = sNm σ := by omega
      exact ev_lc (hk y (by rw [hy]; exact pvU_sPat σ)) ⟨rfl, trivial⟩
    · have hi : i < sNm σ := by omega
      refine e_aload_n dX7_pattern_23 rfl rfl ?_
      refine e_iload dX7_pattern_24 rfl ?_
      refine lc_q1 hC hx hi dX7_pattern_26 ?_
      refine e_astore dX7_pattern_27 (Nat.le_of_ble_eq_true rfl) ?_
      refine e_iload_n dX7_pattern_29 rfl rfl ?_
      refine e_iload_n dX7_pattern_30 rfl rfl ?_
      refine e_aload dX7_pattern_31 rfl ?_
      refine lc_m1 hC hi wF_X7_67 dX7_pattern_33 ?_
      refine e_lconst (v := 0) dX7_pattern_36 (by decide) ?_
      refine e_lcmp dX7_pattern_37 ?_
      refine e_if_le (tgt := 45) dX7_pattern_38 (by decide) (fun c38 => ?_) (fun c38 => ?_)
      · have d38 := ar_dle c38
        refine e_aload dX7_pattern_45 rfl ?_
        refine lc_m1 hC hi wF_X7_67 dX7_pattern_47 ?_
        refine e_lconst (v := 0) dX7_pattern_50 (by decide) ?_
        refine e_lcmp dX7_pattern_51 ?_
        refine e_if_ge (tgt := 59) dX7_pattern_52 (by decide) (fun c52 => ?_) (fun c52 => ?_)
        · have d52 := ar_dge c52
          have eD := sDig_0 (σ := σ) (j := i) (by omega)
          refine e_iconst (v := 0) dX7_pattern_59 (by decide) ?_
          refine e_imul dX7_pattern_60 ?_
          refine e_iadd dX7_pattern_61 ?_
          refine e_istore_n dX7_pattern_62 rfl (Nat.le_of_ble_eq_true rfl) ?_
          refine e_iload_n dX7_pattern_63 rfl rfl ?_
          refine e_iconst (v := 3) dX7_pattern_64 (by decide) ?_
          refine e_imul dX7_pattern_65 ?_
          refine e_istore_n dX7_pattern_66 rfl (Nat.le_of_ble_eq_true rfl) ?_
          refine e_iinc dX7_pattern_67 rfl rfl (Nat.le_of_ble_eq_true rfl) ?_
          refine e_goto (tgt := 16) dX7_pattern_70 (by decide) ?_
          exact ev_lc (ih (r - 1) (by omega) (i + 1) _ _ _ (by omega) (ar_inc hx (by omega)) (by show _ = (pvU σ i).1 + (pvU σ i).2 * sDig σ i; rw [hy, hu, eD]) (by show _ = (pvU σ i).2 * 3; rw [hu])) ⟨rfl, rfl, rfl, rfl, rfl, rfl, trivial⟩
        · have d52 := ar_dlt c52
          have eD := sDig_n d52
          refine e_iconst (v := 2) dX7_pattern_55 (by decide) ?_
          refine e_goto (tgt := 60) dX7_pattern_56 (by decide) ?_
          refine e_imul dX7_pattern_60 ?_
          refine e_iadd dX7_pattern_61 ?_
          refine e_istore_n dX7_pattern_62 rfl (Nat.le_of_ble_eq_true rfl) ?_
          refine e_iload_n dX7_pattern_63 rfl rfl ?_
          refine e_iconst (v := 3) dX7_pattern_64 (by decide) ?_
          refine e_imul dX7_pattern_65 ?_
          refine e_istore_n dX7_pattern_66 rfl (Nat.le_of_ble_eq_true rfl) ?_
          refine e_iinc dX7_pattern_67 rfl rfl (Nat.le_of_ble_eq_true rfl) ?_
          refine e_goto (tgt := 16) dX7_pattern_70 (by decide) ?_
          exact ev_lc (ih (r - 1) (by omega) (i + 1) _ _ _ (by omega) (ar_inc hx (by omega)) (by show _ = (pvU σ i).1 + (pvU σ i).2 * sDig σ i; rw [hy, hu, eD]) (by show _ = (pvU σ i).2 * 3; rw [hu])) ⟨rfl, rfl, rfl, rfl, rfl, rfl, trivial⟩
      · have d38 := ar_dgt c38
        have eD := sDig_p d38
        refine e_iconst (v := 1) dX7_pattern_41 (by decide) ?_
        refine e_goto (tgt := 60) dX7_pattern_42 (by decide) ?_
        refine e_imul dX7_pattern_60 ?_
        refine e_iadd dX7_pattern_61 ?_
        refine e_istore_n dX7_pattern_62 rfl (Nat.le_of_ble_eq_true rfl) ?_
        refine e_iload_n dX7_pattern_63 rfl rfl ?_
        refine e_iconst (v := 3) dX7_pattern_64 (by decide) ?_
        refine e_imul dX7_pattern_65 ?_
        refine e_istore_n dX7_pattern_66 rfl (Nat.le_of_ble_eq_true rfl) ?_
        refine e_iinc dX7_pattern_67 rfl rfl (Nat.le_of_ble_eq_true rfl) ?_
        refine e_goto (tgt := 16) dX7_pattern_70 (by decide) ?_
        exact ev_lc (ih (r - 1) (by omega) (i + 1) _ _ _ (by omega) (ar_inc hx (by omega)) (by show _ = (pvU σ i).1 + (pvU σ i).2 * sDig σ i; rw [hy, hu, eD]) (by show _ = (pvU σ i).2 * 3; rw [hu])) ⟨rfl, rfl, rfl, rfl, rfl, rfl, trivial⟩
set_option maxRecDepth 20000 in
theorem ct_X7_pattern (hC : LC G a A σ nI mI) (hv : sInv σ) : ev_Ct G l mX7_pattern 0 0 0 [.ref (A 0)] a (fun v b => v = some (.int (sPat σ)) ∧ b = a) (fun _ _ => False) := by
  refine ev_Ct.of (by decide +kernel) (Nat.le_of_ble_eq_true rfl) ?_
  have hmn := hv.1.nat
  have hmu : (σ.1 0).toInt = (sNm σ : Int) := hmn.1.symm
  have hmu2 : (σ.1 0).toInt = sM σ := rfl
  have z0 := ar_0
  have z1 := ar_1
  refine e_iconst (v := 0) dX7_pattern_0 (by decide) ?_
  refine e_istore_n dX7_pattern_1 rfl (Nat.le_of_ble_eq_true rfl) ?_
  refine e_iconst (v := 1) dX7_pattern_2 (by decide) ?_
  refine e_istore_n dX7_pattern_3 rfl (Nat.le_of_ble_eq_true rfl) ?_
  refine e_aload_n dX7_pattern_4 rfl rfl ?_
  refine lc_g4 hC wF_X7_10 dX7_pattern_5 ?_
  refine e_astore_n dX7_pattern_8 rfl (Nat.le_of_ble_eq_true rfl) ?_
  refine e_aload_n dX7_pattern_9 rfl rfl ?_
  refine lc_n1 hC hv dX7_pattern_10 ?_
  refine e_istore dX7_pattern_11 (Nat.le_of_ble_eq_true rfl) ?_
  refine e_iconst (v := 0) dX7_pattern_13 (by decide) ?_
  refine e_istore dX7_pattern_14 (Nat.le_of_ble_eq_true rfl) ?_
  refine ev_loc (L' := [some (.ref (A 0)), some (.int 0), some (.int 1), some (.ref (A 1)), some (.int (σ.1 0)), some (.int 0)]) ⟨rfl, rfl, rfl, rfl, rfl, rfl, trivial⟩ ?_
  refine lp_lpat (Nat.le_refl _) hC hv (fun y hy => ?_) (sNm σ) 0 _ _ _ (by omega) ar_0 rfl rfl
  subst hy
  refine e_iload_n dX7_pattern_73 rfl rfl ?_
  exact e_iret rfl dX7_pattern_74 (⟨rfl, rfl⟩)
set_option maxRecDepth 20000 in
theorem lp_lbrk {J : ev_K} {k n : Nat} (hJ : 0 ≤ J.2.2.1) (hC : LC G a A σ nI mI) (hv : sInv σ) (hk : ∀ y : Int32, y = acc32 0 (sBrk σ) (sNm σ + 1) → ev_V G l mX7_broken J 42 [none, some (.int y)] [] a k n) : ∀ (r i : Nat) (x : Int32) (y : Int32), r + i = sNm σ + 1 → x.toInt = (i : Int) → y = acc32 0 (sBrk σ) i → ev_V G l mX7_broken J 13 [some (.ref (A 0)), some (.int y), some (.ref (A 2)), some (.int (Int32.ofNat (sNm σ + 1))), some (.int x)] [] a k n := by
  intro r
  induction r using Nat.strongRecOn with
  | ind r ih =>
    intro i x y hr hx hy
    have hn : x.toInt.toNat = i := ar_nat hx
    have hmn := hv.1.nat
    have hmu : (σ.1 0).toInt = (sNm σ : Int) := hmn.1.symm
    have hmu2 : (σ.1 0).toInt = sM σ := rfl
    have z0 := ar_0
    have z1 := ar_1
    have hM : (Int32.ofNat (sNm σ + 1)).toInt = ((sNm σ + 1 : Nat) : Int) := ar_of (by omega)
    refine e_iload dX7_broken_13 rfl ?_
    refine e_iload_n dX7_broken_15 rfl rfl ?_
    refine e_icmp_ge (tgt := 42) dX7_broken_16 (by decide) (fun c16 => ?_) (fun c16 => ?_)
    · obtain rfl : i = sNm σ + 1 := by omega
      exact ev_lc (hk y hy) ⟨rfl, trivial⟩
    · have hi : i < sNm σ + 1 := by omega
      refine e_aload_n dX7_broken_19 rfl rfl ?_
      refine e_iload dX7_broken_20 rfl ?_
      refine lc_q2 hC hx hi dX7_broken_22 ?_
      refine e_astore dX7_broken_23 (Nat.le_of_ble_eq_true rfl) ?_
      refine e_aload dX7_broken_25 rfl ?_
      refine lc_s2 hC hi wF_X7_71 dX7_broken_27 ?_
      refine e_if_eq (tgt := 36) dX7_broken_30 (by decide) (fun c30 => ?_) (fun c30 => ?_)
      · have eB : sBrk σ i = 0 := if_pos c30
        refine e_iinc dX7_broken_36 rfl rfl (Nat.le_of_ble_eq_true rfl) ?_
        refine e_goto (tgt := 13) dX7_broken_39 (by decide) ?_
        exact ev_lc (ih (r - 1) (by omega) (i + 1) _ _ (by omega) (ar_inc hx (by omega)) (by show _ = acc32 0 (sBrk σ) i + sBrk σ i; rw [hy, eB]; first | rw [ar_i1] | rw [Int32.add_zero])) ⟨rfl, rfl, rfl, rfl, rfl, trivial⟩
      · have eB : sBrk σ i = 1 := if_neg c30
        refine e_iinc dX7_broken_33 rfl rfl (Nat.le_of_ble_eq_true rfl) ?_
        refine e_iinc dX7_broken_36 rfl rfl (Nat.le_of_ble_eq_true rfl) ?_
        refine e_goto (tgt := 13) dX7_broken_39 (by decide) ?_
        exact ev_lc (ih (r - 1) (by omega) (i + 1) _ _ (by omega) (ar_inc hx (by omega)) (by show _ = acc32 0 (sBrk σ) i + sBrk σ i; rw [hy, eB]; first | rw [ar_i1] | rw [Int32.add_zero])) ⟨rfl, rfl, rfl, rfl, rfl, trivial⟩
set_option maxRecDepth 20000 in
theorem ct_X7_broken (hC : LC G a A σ nI mI) (hv : sInv σ) : ev_Ct G l mX7_broken 0 0 0 [.ref (A 0)] a (fun v b => v = some (.int (acc32 0 (sBrk σ) (sNm σ + 1))) ∧ b = a) (fun _ _ => False) := by
  refine ev_Ct.of (by decide +kernel) (Nat.le_of_ble_eq_true rfl) ?_
  have hmn := hv.1.nat
  have hmu : (σ.1 0).toInt = (sNm σ : Int) := hmn.1.symm
  have hmu2 : (σ.1 0).toInt = sM σ := rfl
  have z0 := ar_0
  have z1 := ar_1
  refine e_iconst (v := 0) dX7_broken_0 (by decide) ?_
  refine e_istore_n dX7_broken_1 rfl (Nat.le_of_ble_eq_true rfl) ?_
  refine e_aload_n dX7_broken_2 rfl rfl ?_
  refine lc_g5 hC wF_X7_19 dX7_broken_3 ?_
  refine e_astore_n dX7_broken_6 rfl (Nat.le_of_ble_eq_true rfl) ?_
  refine e_aload_n dX7_broken_7 rfl rfl ?_
  refine lc_n2 hC dX7_broken_8 ?_
  refine e_istore_n dX7_broken_9 rfl (Nat.le_of_ble_eq_true rfl) ?_
  refine e_iconst (v := 0) dX7_broken_10 (by decide) ?_
  refine e_istore dX7_broken_11 (Nat.le_of_ble_eq_true rfl) ?_
  refine ev_loc (L' := [some (.ref (A 0)), some (.int 0), some (.ref (A 2)), some (.int (Int32.ofNat (sNm σ + 1))), some (.int 0)]) ⟨rfl, rfl, rfl, rfl, rfl, trivial⟩ ?_
  refine lp_lbrk (Nat.le_refl _) hC hv (fun y hy => ?_) (sNm σ + 1) 0 _ _ (by omega) ar_0 rfl
  subst hy
  refine e_iload_n dX7_broken_42 rfl rfl ?_
  exact e_iret rfl dX7_broken_43 (⟨rfl, rfl⟩)
set_option maxRecDepth 20000 in
theorem ct_X7_of_ (hC : LC G a A σ nI mI) (hv : sInv σ) (hx : x.toInt = (j : Int)) (hj : j < sNm σ) (hy : y.toInt = (w : Int)) (hw : w < 4) : ev_Ct G l mX7_of_ 0 0 0 [.ref (A 0), .int x, .int y] a (fun v b => v = some (.int (sTellM σ j w)) ∧ b = a) (fun _ _ => False) := by
  refine ev_Ct.of (by decide +kernel) (Nat.le_of_ble_eq_true rfl) ?_
  have hmn := hv.1.nat
  have hmu : (σ.1 0).toInt = (sNm σ : Int) := hmn.1.symm
  have hmu2 : (σ.1 0).toInt = sM σ := rfl
  have z0 := ar_0
  have z1 := ar_1
  have w2 : (2 : Int32).toInt = 2 := by decide +kernel
  have w3 : (3 : Int32).toInt = 3 := by decide +kernel
  have w4 : (4 : Int32).toInt = 4 := by decide +kernel
  have w5 : (5 : Int32).toInt = 5 := by decide +kernel
  have w6 : (6 : Int32).toInt = 6 := by decide +kernel
  have w7 : (7 : Int32).toInt = 7 := by decide +kernel
  have w8 : (8 : Int32).toInt = 8 := by decide +kernel
  have w9 : (9 : Int32).toInt = 9 := by decide +kernel
  have w10 : (10 : Int32).toInt = 10 := by decide +kernel
  have w12 : (12 : Int32).toInt = 12 := by decide +kernel
  have hwt := hv.2.1 j hj
  refine e_aload_n dX7_of__0 rfl rfl ?_
  refine lc_g4 hC wF_X7_10 dX7_of__1 ?_
  refine e_iload_n dX7_of__4 rfl rfl ?_
  refine lc_q1 hC hx hj dX7_of__5 ?_
  refine e_astore_n dX7_of__6 rfl (Nat.le_of_ble_eq_true rfl) ?_
  refine e_iload_n dX7_of__7 rfl rfl ?_
  refine e_if_ne (tgt := 18) dX7_of__8 (by decide) (fun c8 => ?_) (fun c8 => ?_)
  · have n8 : w ≠ 0 := fun q => c8 (ar_eq (by rw [hy, q]; exact ar_0.symm))
    refine e_iload_n dX7_of__18 rfl rfl ?_
    refine e_iconst (v := 1) dX7_of__19 (by decide) ?_
    refine e_icmp_ne (tgt := 30) dX7_of__20 (by decide) (fun c20 => ?_) (fun c20 => ?_)
    · have n20 : w ≠ 1 := fun q => c20 (ar_eq (by rw [hy, q]; exact ar_1.symm))
      refine e_iload_n dX7_of__30 rfl rfl ?_
      refine e_iconst (v := 2) dX7_of__31 (by decide) ?_
      refine e_icmp_ne (tgt := 42) dX7_of__32 (by decide) (fun c32 => ?_) (fun c32 => ?_)
      · have n32 : w ≠ 2 := fun q => c32 (ar_eq (by rw [hy, q]; exact w2.symm))
        have e9 : w = 3 := by omega
        have lv : some (Value.int (((σ.2.2 2 j).toInt64 / (σ.2.2 0 j).toInt64).toInt32)) = some (Value.int (sTellM σ j w)) ∧ a = a := by subst e9; exact ⟨congrArg (fun q => some (Value.int q)) (vel_l hwt.1), rfl⟩
        refine e_aload_n dX7_of__42 rfl rfl ?_
        refine lc_m2 hC hj wF_X7_87 dX7_of__43 ?_
        refine e_aload_n dX7_of__46 rfl rfl ?_
        refine lc_m0 hC hj wF_X7_104 dX7_of__47 ?_
        refine e_i2l dX7_of__50 ?_
        refine e_ldiv dX7_of__51 (hv.2.1.ne64 hj) ?_
        refine e_l2i dX7_of__52 ?_
        exact e_iret rfl dX7_of__53 (lv)
      · have e32 : w = 2 := by rw [c32, w2] at hy; omega
        have lv : some (Value.int ((σ.2.2 2 j).toInt64.toInt32)) = some (Value.int (sTellM σ j w)) ∧ a = a := by subst e32; exact ⟨congrArg (fun q => some (Value.int q)) (ar_6432 _), rfl⟩
        refine e_aload_n dX7_of__35 rfl rfl ?_
        refine lc_m2 hC hj wF_X7_87 dX7_of__36 ?_
        refine e_goto (tgt := 52) dX7_of__39 (by decide) ?_
        refine e_l2i dX7_of__52 ?_
        exact e_iret rfl dX7_of__53 (lv)
    · have e20 : w = 1 := by rw [c20, ar_1] at hy; omega
      have lv : some (Value.int ((σ.2.2 1 j).toInt64.toInt32)) = some (Value.int (sTellM σ j w)) ∧ a = a := by subst e20; exact ⟨congrArg (fun q => some (Value.int q)) (ar_6432 _), rfl⟩
      refine e_aload_n dX7_of__23 rfl rfl ?_
      refine lc_m1 hC hj wF_X7_67 dX7_of__24 ?_
      refine e_goto (tgt := 52) dX7_of__27 (by decide) ?_
      refine e_l2i dX7_of__52 ?_
      exact e_iret rfl dX7_of__53 (lv)
  · have e8 : w = 0 := by rw [c8, ar_0] at hy; omega
    have lv : some (Value.int (σ.2.2 0 j)) = some (Value.int (sTellM σ j w)) ∧ a = a := by subst e8; exact ⟨rfl, rfl⟩
    refine e_aload_n dX7_of__11 rfl rfl ?_
    refine lc_m0 hC hj wF_X7_104 dX7_of__12 ?_
    refine e_goto (tgt := 53) dX7_of__15 (by decide) ?_
    exact e_iret rfl dX7_of__53 (lv)
set_option maxRecDepth 20000 in
theorem ct_X7_ofSpring (hC : LC G a A σ nI mI) (hv : sInv σ) (hb : RBs σ) (hx : x.toInt = (j : Int)) (hj : j < sNm σ + 1) (hy : y.toInt = (w : Int)) (hw : w < 5) : ev_Ct G l mX7_ofSpring 2 0 0 [.ref (A 0), .int x, .int y] a (fun v b => v = some (.int (sTellS σ j w)) ∧ b = a) (fun _ _ => False) := by
  refine ev_Ct.of (by decide +kernel) (Nat.le_of_ble_eq_true rfl) ?_
  have hmn := hv.1.nat
  have hmu : (σ.1 0).toInt = (sNm σ : Int) := hmn.1.symm
  have hmu2 : (σ.1 0).toInt = sM σ := rfl
  have z0 := ar_0
  have z1 := ar_1
  have w2 : (2 : Int32).toInt = 2 := by decide +kernel
  have w3 : (3 : Int32).toInt = 3 := by decide +kernel
  have w4 : (4 : Int32).toInt = 4 := by decide +kernel
  have w5 : (5 : Int32).toInt = 5 := by decide +kernel
  have w6 : (6 : Int32).toInt = 6 := by decide +kernel
  have w7 : (7 : Int32).toInt = 7 := by decide +kernel
  have w8 : (8 : Int32).toInt = 8 := by decide +kernel
  have w9 : (9 : Int32).toInt = 9 := by decide +kernel
  have w10 : (10 : Int32).toInt = 10 := by decide +kernel
  have w12 : (12 : Int32).toInt = 12 := by decide +kernel
  refine e_aload_n dX7_ofSpring_0 rfl rfl ?_
  refine lc_g5 hC wF_X7_19 dX7_ofSpring_1 ?_
  refine e_iload_n dX7_ofSpring_4 rfl rfl ?_
  refine lc_q2 hC hx hj dX7_ofSpring_5 ?_
  refine e_astore_n dX7_ofSpring_6 rfl (Nat.le_of_ble_eq_true rfl) ?_
  refine e_iload_n dX7_ofSpring_7 rfl rfl ?_
  refine e_if_ne (tgt := 18) dX7_ofSpring_8 (by decide) (fun c8 => ?_) (fun c8 => ?_)
  · have n8 : w ≠ 0 := fun q => c8 (ar_eq (by rw [hy, q]; exact ar_0.symm))
    refine e_iload_n dX7_ofSpring_18 rfl rfl ?_
    refine e_iconst (v := 1) dX7_ofSpring_19 (by decide) ?_
    refine e_icmp_ne (tgt := 30) dX7_ofSpring_20 (by decide) (fun c20 => ?_) (fun c20 => ?_)
    · have n20 : w ≠ 1 := fun q => c20 (ar_eq (by rw [hy, q]; exact ar_1.symm))
      refine e_iload_n dX7_ofSpring_30 rfl rfl ?_
      refine e_iconst (v := 2) dX7_ofSpring_31 (by decide) ?_
      refine e_icmp_ne (tgt := 50) dX7_ofSpring_32 (by decide) (fun c32 => ?_) (fun c32 => ?_)
      · have n32 : w ≠ 2 := fun q => c32 (ar_eq (by rw [hy, q]; exact w2.symm))
        refine e_iload_n dX7_ofSpring_50 rfl rfl ?_
        refine e_iconst (v := 3) dX7_ofSpring_51 (by decide) ?_
        refine e_icmp_ne (tgt := 63) dX7_ofSpring_52 (by decide) (fun c52 => ?_) (fun c52 => ?_)
        · have n52 : w ≠ 3 := fun q => c52 (ar_eq (by rw [hy, q]; exact w3.symm))
          have e9 : w = 4 := by omega
          have lv : some (Value.int ((sPull σ j).toInt64.toInt32)) = some (Value.int (sTellS σ j w)) ∧ a = a := by subst e9; exact ⟨congrArg (fun q => some (Value.int q)) (ar_6432 _), rfl⟩
          refine e_aload_n dX7_ofSpring_63 rfl rfl ?_
          refine e_iload_n dX7_ofSpring_64 rfl rfl ?_
          refine e_invV (mcY := 0) (msY := 0) (ct_X7_pull hC hv hb hx hj) vX7_pull wM_X7_84 hC.1.1 rfl dX7_ofSpring_65 rfl rfl (Nat.le_of_ble_eq_true rfl) (Nat.le_of_ble_eq_true rfl) ?_
          rintro _ _ ⟨rfl, rfl⟩
          refine e_l2i dX7_ofSpring_68 ?_
          exact e_iret rfl dX7_ofSpring_69 (lv)
        · have e52 : w = 3 := by rw [c52, w3] at hy; omega
          have lv : some (Value.int ((sStr σ j).toInt64.toInt32)) = some (Value.int (sTellS σ j w)) ∧ a = a := by subst e52; exact ⟨congrArg (fun q => some (Value.int q)) (ar_6432 _), rfl⟩
          refine e_aload_n dX7_ofSpring_55 rfl rfl ?_
          refine e_iload_n dX7_ofSpring_56 rfl rfl ?_
          refine e_invV (mcY := 0) (msY := 0) (ct_X7_stretch hC hv hb hx hj) vX7_stretch wM_X7_78 hC.1.1 rfl dX7_ofSpring_57 rfl rfl (Nat.le_of_ble_eq_true rfl) (Nat.le_of_ble_eq_true rfl) ?_
          rintro _ _ ⟨rfl, rfl⟩
          refine e_goto (tgt := 68) dX7_ofSpring_60 (by decide) ?_
          refine e_l2i dX7_ofSpring_68 ?_
          exact e_iret rfl dX7_ofSpring_69 (lv)
      · have e32 : w = 2 := by rw [c32, w2] at hy; omega
        refine e_aload_n dX7_ofSpring_35 rfl rfl ?_
        refine lc_s2 hC hj wF_X7_71 dX7_ofSpring_36 ?_
        refine e_if_eq (tgt := 46) dX7_ofSpring_39 (by decide) (fun c39 => ?_) (fun c39 => ?_)
        · have lv : some (Value.int 0) = some (Value.int (sTellS σ j w)) ∧ a = a := by subst e32; exact ⟨congrArg (fun q => some (Value.int q)) ((if_pos c39).symm), rfl⟩
          refine e_iconst (v := 0) dX7_ofSpring_46 (by decide) ?_
          refine e_goto (tgt := 69) dX7_ofSpring_47 (by decide) ?_
          exact e_iret rfl dX7_ofSpring_69 (lv)
        · have lv : some (Value.int 1) = some (Value.int (sTellS σ j w)) ∧ a = a := by subst e32; exact ⟨congrArg (fun q => some (Value.int q)) ((if_neg c39).symm), rfl⟩
          refine e_iconst (v := 1) dX7_ofSpring_42 (by decide) ?_
          refine e_goto (tgt := 69) dX7_ofSpring_43 (by decide) ?_
          exact e_iret rfl dX7_ofSpring_69 (lv)
    · have e20 : w = 1 := by rw [c20, ar_1] at hy; omega
      have lv : some (Value.int (σ.2.2 4 j)) = some (Value.int (sTellS σ j w)) ∧ a = a := by subst e20; exact ⟨rfl, rfl⟩
      refine e_aload_n dX7_ofSpring_23 rfl rfl ?_
      refine lc_s1 hC hj wF_X7_109 dX7_ofSpring_24 ?_
      refine e_goto (tgt := 69) dX7_ofSpring_27 (by decide) ?_
      exact e_iret rfl dX7_ofSpring_69 (lv)
  · have e8 : w = 0 := by rw [c8, ar_0] at hy; omega
    have lv : some (Value.int (σ.2.2 3 j)) = some (Value.int (sTellS σ j w)) ∧ a = a := by subst e8; exact ⟨rfl, rfl⟩
    refine e_aload_n dX7_ofSpring_11 rfl rfl ?_
    refine lc_s0 hC hj wF_X7_75 dX7_ofSpring_12 ?_
    refine e_goto (tgt := 69) dX7_ofSpring_15 (by decide) ?_
    exact e_iret rfl dX7_ofSpring_69 (lv)
end LRD
