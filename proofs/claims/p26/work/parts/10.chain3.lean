/-! the chain's sums, pattern, nodes, accounts, tellers -/
def sMomL (σ : CS) (j : Nat) : Int64 := (σ.2.2 2 j).toInt64
def sSgn (σ : CS) (j : Nat) : Int32 := if 0 < (σ.2.2 1 j).toInt then 1 else if (σ.2.2 1 j).toInt < 0 then -1 else 0
def sDig (σ : CS) (j : Nat) : Int32 := if (sSgn σ j).toInt < 0 then 2 else sSgn σ j
/-- the pattern of the t highest masses -/
def sPatT (σ : CS) : Nat → Int32
  | 0 => 0
  | t + 1 => 3 * sPatT σ t + sDig σ (sNm σ - 1 - t)
def sPat (σ : CS) : Int32 := sPatT σ (sNm σ)
/-- nodes and the last sign, over the i lowest masses -/
def sNodT (σ : CS) : Nat → Int32 × Int32
  | 0 => (0, 0)
  | i + 1 => if sSgn σ i = 0 then sNodT σ i else ((sNodT σ i).1 + (if (sNodT σ i).2 = -sSgn σ i then 1 else 0), sSgn σ i)
def sNod (σ : CS) : Int32 := (sNodT σ (sNm σ)).1
def sAbs (x : Int32) : Int32 := if 0 ≤ x then x else 0 - x
def sFarT (σ : CS) : Nat → Nat
  | 0 => 0
  | i + 1 => if (sAbs (σ.2.2 1 (sFarT σ i))).toInt < (sAbs (σ.2.2 1 i)).toInt then i else sFarT σ i
theorem sFarT_le (σ : CS) : ∀ i : Nat, sFarT σ i ≤ i - 1 ∨ sFarT σ i = 0
  | 0 => Or.inr rfl
  | i + 1 => by
    unfold sFarT
    split
    · exact Or.inl (by omega)
    · rcases sFarT_le σ i with h | h
      · exact Or.inl (by omega)
      · exact Or.inr h
theorem sWt.ne {σ : CS} (hw : sWt σ) {j : Nat} (hj : j < sNm σ) : σ.2.2 0 j ≠ 0 := fun e => by
  have h := hw j hj
  rw [e] at h
  have := ar_0
  omega
theorem sWt.ne64 {σ : CS} (hw : sWt σ) {j : Nat} (hj : j < sNm σ) : (σ.2.2 0 j).toInt64 ≠ 0 := fun e => by
  have h := hw j hj
  have e2 := congrArg Int64.toInt e
  rw [Int32.toInt_toInt64] at e2
  have : (0 : Int64).toInt = 0 := by decide +kernel
  omega
theorem sWt.ne2 {σ : CS} (hw : sWt σ) {j : Nat} (hj : j < sNm σ) : (2 : Int64) * (σ.2.2 0 j).toInt64 ≠ 0 := fun e => by
  have h := hw j hj
  have e2 := congrArg Int64.toInt e
  have h2 : (2 : Int64).toInt = 2 := by decide +kernel
  rw [ar_mulL (by rw [Int32.toInt_toInt64, h2]; omega) (by rw [Int32.toInt_toInt64, h2]; omega), Int32.toInt_toInt64, h2] at e2
  have : (0 : Int64).toInt = 0 := by decide +kernel
  omega
section K3
variable {G : ev_G} {l : Launch} {c : Nat} {σ : CS} {h : ev_H} {x y : Int32}
set_option maxRecDepth 20000 in
theorem lp_sumOfMomenta {J : ev_K} {k n : Nat} (hJ : 4 ≤ J.2.2.1) (hm : sOk σ) (hk : ∀ y : Int64, y = accL 0 (sMomL σ) (sNm σ) → ev_V G l mX0_sumOfMomenta J 27 [none, some (.long y)] [] (ch G c σ h) k n) : ∀ (r i : Nat) (x : Int32) (y : Int64), r + i = sNm σ → x.toInt = (i : Int) → y = accL 0 (sMomL σ) i → ev_V G l mX0_sumOfMomenta J 4 [some (.ref c), some (.long y), none, some (.int x)] [] (ch G c σ h) k n := by
  intro r
  induction r using Nat.strongRecOn with
  | ind r ih =>
    intro i x y
    intro hr hx hy
    have hn : x.toInt.toNat = i := ar_nat hx
    have hmn := hm.nat
    have hmu : (σ.1 0).toInt = sM σ := rfl
    refine e_iload_n dX0_sumOfMomenta_4 rfl rfl ?_
    refine e_aload_n dX0_sumOfMomenta_5 rfl rfl ?_
    refine ch_g0_0 wF_X0_65 dX0_sumOfMomenta_6 ?_
    refine e_icmp_ge (tgt := 27) dX0_sumOfMomenta_9 (by decide) (fun c9 => ?_) (fun c9 => ?_)
    · obtain rfl : i = sNm σ := by omega
      exact ev_lc (hk y (by rw [hy])) ⟨rfl, trivial⟩
    · refine e_lload_n dX0_sumOfMomenta_12 rfl rfl ?_
      refine e_aload_n dX0_sumOfMomenta_13 rfl rfl ?_
      refine e_iload_n dX0_sumOfMomenta_14 rfl rfl ?_
      refine e_invV (mcY := 0) (msY := 0) (ct_X0_momentumOf (by omega) (by omega) hm) vX0_momentumOf wM_X0_106 (ch_at G c _ h 0 (by decide)) rfl dX0_sumOfMomenta_15 rfl rfl (Nat.le_of_ble_eq_true rfl) (Nat.le_trans (Nat.le_of_ble_eq_true rfl) hJ) ?_
      rintro _ _ ⟨rfl, rfl⟩
      refine e_i2l dX0_sumOfMomenta_18 ?_
      refine e_ladd dX0_sumOfMomenta_19 ?_
      refine e_lstore_n dX0_sumOfMomenta_20 rfl (Nat.le_of_ble_eq_true rfl) ?_
      refine e_iinc dX0_sumOfMomenta_21 rfl rfl (Nat.le_of_ble_eq_true rfl) ?_
      refine e_goto (tgt := 4) dX0_sumOfMomenta_24 (by decide) ?_
      refine ih (r - 1) (by omega) (i + 1) _ _ (by omega) (ar_inc hx (by omega)) ?_
      rw [hy, hn]
      rfl
set_option maxRecDepth 20000 in
theorem ct_X0_sumOfMomenta (hm : sOk σ) : ev_Ct G l mX0_sumOfMomenta 4 0 0 [.ref c] (ch G c σ h) (fun v a => v = some (.long (accL 0 (sMomL σ) (sNm σ))) ∧ a = ch G c σ h) (fun _ _ => False) := by
  refine ev_Ct.of (by decide +kernel) (Nat.le_of_ble_eq_true rfl) ?_
  have hmn := hm.nat
  have hmu : (σ.1 0).toInt = sM σ := rfl
  refine e_lconst (v := 0) dX0_sumOfMomenta_0 (by decide) ?_
  refine e_lstore_n dX0_sumOfMomenta_1 rfl (Nat.le_of_ble_eq_true rfl) ?_
  refine e_iconst (v := 0) dX0_sumOfMomenta_2 (by decide) ?_
  refine e_istore_n dX0_sumOfMomenta_3 rfl (Nat.le_of_ble_eq_true rfl) ?_
  refine ev_loc (L' := [some (.ref c), some (.long 0), none, some (.int 0)]) ⟨rfl, rfl, rfl, trivial⟩ ?_
  exact lp_sumOfMomenta (Nat.le_refl _) hm (fun y hy => by
      subst hy
      exact e_lload_n dX0_sumOfMomenta_27 rfl rfl (e_lret rfl dX0_sumOfMomenta_28 ⟨rfl, rfl⟩)) (sNm σ) 0 _ _ (by omega) ar_0 rfl
set_option maxRecDepth 20000 in
theorem lp_energyOfMasses {J : ev_K} {k n : Nat} (hJ : 4 ≤ J.2.2.1) (hm : sOk σ) (hw : sWt σ) (hk : ∀ y : Int64, y = accL 0 (sEm σ) (sNm σ) → ev_V G l mX0_energyOfMasses J 26 [none, some (.long y)] [] (ch G c σ h) k n) : ∀ (r i : Nat) (x : Int32) (y : Int64), r + i = sNm σ → x.toInt = (i : Int) → y = accL 0 (sEm σ) i → ev_V G l mX0_energyOfMasses J 4 [some (.ref c), some (.long y), none, some (.int x)] [] (ch G c σ h) k n := by
  intro r
  induction r using Nat.strongRecOn with
  | ind r ih =>
    intro i x y
    intro hr hx hy
    have hn : x.toInt.toNat = i := ar_nat hx
    have hmn := hm.nat
    have hmu : (σ.1 0).toInt = sM σ := rfl
    refine e_iload_n dX0_energyOfMasses_4 rfl rfl ?_
    refine e_aload_n dX0_energyOfMasses_5 rfl rfl ?_
    refine ch_g0_0 wF_X0_65 dX0_energyOfMasses_6 ?_
    refine e_icmp_ge (tgt := 26) dX0_energyOfMasses_9 (by decide) (fun c9 => ?_) (fun c9 => ?_)
    · obtain rfl : i = sNm σ := by omega
      exact ev_lc (hk y (by rw [hy])) ⟨rfl, trivial⟩
    · refine e_lload_n dX0_energyOfMasses_12 rfl rfl ?_
      refine e_aload_n dX0_energyOfMasses_13 rfl rfl ?_
      refine e_iload_n dX0_energyOfMasses_14 rfl rfl ?_
      refine e_invV (mcY := 0) (msY := 0) (ct_X0_energyOfMass (x := x) (by omega) (by omega) hm (by rw [hn]; exact hw.ne64 (by omega)) (by rw [hn]; exact hw.ne2 (by omega))) vX0_energyOfMass wM_X0_242 (ch_at G c _ h 0 (by decide)) rfl dX0_energyOfMasses_15 rfl rfl (Nat.le_of_ble_eq_true rfl) (Nat.le_trans (Nat.le_of_ble_eq_true rfl) hJ) ?_
      rintro _ _ ⟨rfl, rfl⟩
      refine e_ladd dX0_energyOfMasses_18 ?_
      refine e_lstore_n dX0_energyOfMasses_19 rfl (Nat.le_of_ble_eq_true rfl) ?_
      refine e_iinc dX0_energyOfMasses_20 rfl rfl (Nat.le_of_ble_eq_true rfl) ?_
      refine e_goto (tgt := 4) dX0_energyOfMasses_23 (by decide) ?_
      refine ih (r - 1) (by omega) (i + 1) _ _ (by omega) (ar_inc hx (by omega)) ?_
      rw [hy, hn]
      rfl
set_option maxRecDepth 20000 in
theorem ct_X0_energyOfMasses (hm : sOk σ) (hw : sWt σ) : ev_Ct G l mX0_energyOfMasses 4 0 0 [.ref c] (ch G c σ h) (fun v a => v = some (.long (accL 0 (sEm σ) (sNm σ))) ∧ a = ch G c σ h) (fun _ _ => False) := by
  refine ev_Ct.of (by decide +kernel) (Nat.le_of_ble_eq_true rfl) ?_
  have hmn := hm.nat
  have hmu : (σ.1 0).toInt = sM σ := rfl
  refine e_lconst (v := 0) dX0_energyOfMasses_0 (by decide) ?_
  refine e_lstore_n dX0_energyOfMasses_1 rfl (Nat.le_of_ble_eq_true rfl) ?_
  refine e_iconst (v := 0) dX0_energyOfMasses_2 (by decide) ?_
  refine e_istore_n dX0_energyOfMasses_3 rfl (Nat.le_of_ble_eq_true rfl) ?_
  refine ev_loc (L' := [some (.ref c), some (.long 0), none, some (.int 0)]) ⟨rfl, rfl, rfl, trivial⟩ ?_
  exact lp_energyOfMasses (Nat.le_refl _) hm hw (fun y hy => by
      subst hy
      exact e_lload_n dX0_energyOfMasses_26 rfl rfl (e_lret rfl dX0_energyOfMasses_27 ⟨rfl, rfl⟩)) (sNm σ) 0 _ _ (by omega) ar_0 rfl
set_option maxRecDepth 20000 in
theorem lp_energyOfSprings {J : ev_K} {k n : Nat} (hJ : 5 ≤ J.2.2.1) (hm : sOk σ) (hk : ∀ y : Int64, y = accL 0 (sEs σ) (sNm σ + 1) → ev_V G l mX0_energyOfSprings J 26 [none, some (.long y)] [] (ch G c σ h) k n) : ∀ (r i : Nat) (x : Int32) (y : Int64), r + i = sNm σ + 1 → x.toInt = (i : Int) → y = accL 0 (sEs σ) i → ev_V G l mX0_energyOfSprings J 4 [some (.ref c), some (.long y), none, some (.int x)] [] (ch G c σ h) k n := by
  intro r
  induction r using Nat.strongRecOn with
  | ind r ih =>
    intro i x y
    intro hr hx hy
    have hn : x.toInt.toNat = i := ar_nat hx
    have hmn := hm.nat
    have hmu : (σ.1 0).toInt = sM σ := rfl
    refine e_iload_n dX0_energyOfSprings_4 rfl rfl ?_
    refine e_aload_n dX0_energyOfSprings_5 rfl rfl ?_
    refine ch_g0_0 wF_X0_65 dX0_energyOfSprings_6 ?_
    refine e_icmp_gt (tgt := 26) dX0_energyOfSprings_9 (by decide) (fun c9 => ?_) (fun c9 => ?_)
    · obtain rfl : i = sNm σ + 1 := by omega
      exact ev_lc (hk y (by rw [hy])) ⟨rfl, trivial⟩
    · refine e_lload_n dX0_energyOfSprings_12 rfl rfl ?_
      refine e_aload_n dX0_energyOfSprings_13 rfl rfl ?_
      refine e_iload_n dX0_energyOfSprings_14 rfl rfl ?_
      refine e_invV (mcY := 0) (msY := 0) (ct_X0_energyOfSpring (by omega) (by omega) hm) vX0_energyOfSpring wM_X0_246 (ch_at G c _ h 0 (by decide)) rfl dX0_energyOfSprings_15 rfl rfl (Nat.le_of_ble_eq_true rfl) (Nat.le_trans (Nat.le_of_ble_eq_true rfl) hJ) ?_
      rintro _ _ ⟨rfl, rfl⟩
      refine e_ladd dX0_energyOfSprings_18 ?_
      refine e_lstore_n dX0_energyOfSprings_19 rfl (Nat.le_of_ble_eq_true rfl) ?_
      refine e_iinc dX0_energyOfSprings_20 rfl rfl (Nat.le_of_ble_eq_true rfl) ?_
      refine e_goto (tgt := 4) dX0_energyOfSprings_23 (by decide) ?_
      refine ih (r - 1) (by omega) (i + 1) _ _ (by omega) (ar_inc hx (by omega)) ?_
      rw [hy, hn]
      rfl
set_option maxRecDepth 20000 in
theorem ct_X0_energyOfSprings (hm : sOk σ) : ev_Ct G l mX0_energyOfSprings 5 0 0 [.ref c] (ch G c σ h) (fun v a => v = some (.long (accL 0 (sEs σ) (sNm σ + 1))) ∧ a = ch G c σ h) (fun _ _ => False) := by
  refine ev_Ct.of (by decide +kernel) (Nat.le_of_ble_eq_true rfl) ?_
  have hmn := hm.nat
  have hmu : (σ.1 0).toInt = sM σ := rfl
  refine e_lconst (v := 0) dX0_energyOfSprings_0 (by decide) ?_
  refine e_lstore_n dX0_energyOfSprings_1 rfl (Nat.le_of_ble_eq_true rfl) ?_
  refine e_iconst (v := 0) dX0_energyOfSprings_2 (by decide) ?_
  refine e_istore_n dX0_energyOfSprings_3 rfl (Nat.le_of_ble_eq_true rfl) ?_
  refine ev_loc (L' := [some (.ref c), some (.long 0), none, some (.int 0)]) ⟨rfl, rfl, rfl, trivial⟩ ?_
  exact lp_energyOfSprings (Nat.le_refl _) hm (fun y hy => by
      subst hy
      exact e_lload_n dX0_energyOfSprings_26 rfl rfl (e_lret rfl dX0_energyOfSprings_27 ⟨rfl, rfl⟩)) (sNm σ + 1) 0 _ _ (by omega) ar_0 rfl
set_option maxRecDepth 20000 in
theorem ct_X0_signOf (x0 : 0 ≤ x.toInt) (x1 : x.toInt < sM σ) (hm : sOk σ) : ev_Ct G l mX0_signOf 3 0 0 [.ref c, .int x] (ch G c σ h) (fun v a => v = some (.int (sSgn σ x.toInt.toNat)) ∧ a = ch G c σ h) (fun _ _ => False) := by
  refine ev_Ct.of (by decide +kernel) (Nat.le_of_ble_eq_true rfl) ?_
  refine e_aload_n dX0_signOf_0 rfl rfl ?_
  refine e_iload_n dX0_signOf_1 rfl rfl ?_
  refine e_invV (mcY := 0) (msY := 0) (ct_X0_displacementOf x0 x1 hm) vX0_displacementOf wM_X0_112 (ch_at G c _ h 0 (by decide)) rfl dX0_signOf_2 rfl rfl (Nat.le_of_ble_eq_true rfl) (Nat.le_of_ble_eq_true rfl) ?_
  rintro _ _ ⟨rfl, rfl⟩
  refine e_istore_n dX0_signOf_5 rfl (Nat.le_of_ble_eq_true rfl) ?_
  refine e_iload_n dX0_signOf_6 rfl rfl ?_
  refine e_if_le (tgt := 14) dX0_signOf_7 (by decide) (fun c7 => ?_) (fun c7 => ?_)
  · refine e_iload_n dX0_signOf_14 rfl rfl ?_
    refine e_if_ge (tgt := 22) dX0_signOf_15 (by decide) (fun c15 => ?_) (fun c15 => ?_)
    · refine e_iconst (v := 0) dX0_signOf_22 (by decide) ?_
      exact e_iret rfl dX0_signOf_23 (⟨by
          unfold sSgn
          first
            | (rw [if_pos (by omega)]; done)
            | (rw [if_neg (by omega), if_pos (by omega)]; done)
            | (rw [if_neg (by omega), if_neg (by omega)]; done), rfl⟩)
    · refine e_iconst (v := (-1)) dX0_signOf_18 (by decide) ?_
      refine e_goto (tgt := 23) dX0_signOf_19 (by decide) ?_
      exact e_iret rfl dX0_signOf_23 (⟨by
          unfold sSgn
          first
            | (rw [if_pos (by omega)]; done)
            | (rw [if_neg (by omega), if_pos (by omega)]; done)
            | (rw [if_neg (by omega), if_neg (by omega)]; done), rfl⟩)
  · refine e_iconst (v := 1) dX0_signOf_10 (by decide) ?_
    refine e_goto (tgt := 23) dX0_signOf_11 (by decide) ?_
    exact e_iret rfl dX0_signOf_23 (⟨by
        unfold sSgn
        first
          | (rw [if_pos (by omega)]; done)
          | (rw [if_neg (by omega), if_pos (by omega)]; done)
          | (rw [if_neg (by omega), if_neg (by omega)]; done), rfl⟩)
set_option maxRecDepth 20000 in
theorem lp_patternNumber {J : ev_K} {k n : Nat} (hJ : 4 ≤ J.2.2.1) (hm : sOk σ) (hk : ∀ y : Int32, y = sPat σ → ev_V G l mX0_patternNumber J 39 [none, some (.int y)] [] (ch G c σ h) k n) : ∀ (r i : Nat) (x : Int32) (y : Int32), r + i = sNm σ → x.toInt = sM σ - 1 - (i : Int) → y = sPatT σ i → ev_V G l mX0_patternNumber J 9 [some (.ref c), some (.int y), some (.int x)] [] (ch G c σ h) k n := by
  intro r
  induction r using Nat.strongRecOn with
  | ind r ih =>
    intro i x y
    intro hr hx hy
    have hmn := hm.nat
    have hmu : (σ.1 0).toInt = sM σ := rfl
    refine e_iload_n dX0_patternNumber_9 rfl rfl ?_
    refine e_if_lt (tgt := 39) dX0_patternNumber_10 (by decide) (fun c10 => ?_) (fun c10 => ?_)
    · obtain rfl : i = sNm σ := by omega
      exact ev_lc (hk y hy) ⟨rfl, trivial⟩
    · have hn : x.toInt.toNat = sNm σ - 1 - i := by omega
      refine e_aload_n dX0_patternNumber_13 rfl rfl ?_
      refine e_iload_n dX0_patternNumber_14 rfl rfl ?_
      refine e_invV (mcY := 0) (msY := 0) (ct_X0_signOf (by omega) (by omega) hm) vX0_signOf wM_X0_239 (ch_at G c _ h 0 (by decide)) rfl dX0_patternNumber_15 rfl rfl (Nat.le_of_ble_eq_true rfl) (Nat.le_trans (Nat.le_of_ble_eq_true rfl) hJ) ?_
      rintro _ _ ⟨rfl, rfl⟩
      refine e_istore_n dX0_patternNumber_18 rfl (Nat.le_of_ble_eq_true rfl) ?_
      refine e_iconst (v := 3) dX0_patternNumber_19 (by decide) ?_
      refine e_iload_n dX0_patternNumber_20 rfl rfl ?_
      refine e_imul dX0_patternNumber_21 ?_
      refine e_iload_n dX0_patternNumber_22 rfl rfl ?_
      refine e_if_ge (tgt := 30) dX0_patternNumber_23 (by decide) (fun c23 => ?_) (fun c23 => ?_)
      · refine e_iload_n dX0_patternNumber_30 rfl rfl ?_
        refine e_iadd dX0_patternNumber_31 ?_
        refine e_istore_n dX0_patternNumber_32 rfl (Nat.le_of_ble_eq_true rfl) ?_
        refine e_iinc dX0_patternNumber_33 rfl rfl (Nat.le_of_ble_eq_true rfl) ?_
        refine e_goto (tgt := 9) dX0_patternNumber_36 (by decide) ?_
        refine ev_loc (L' := [some (.ref c), some (.int _), some (.int _)]) ⟨rfl, rfl, rfl, trivial⟩ (ih (r - 1) (by omega) (i + 1) _ _ (by omega) ?_ ?_)
        · rw [ar_im1, ar_add (by rw [ar_m1]; omega) (by rw [ar_m1]; omega), ar_m1]
          omega
        · rw [hy]
          show _ = 3 * sPatT σ i + sDig σ (sNm σ - 1 - i)
          unfold sDig
          rw [hn] at c23
          first | rw [if_pos c23] | rw [if_neg (by omega), hn]
      · refine e_iconst (v := 2) dX0_patternNumber_26 (by decide) ?_
        refine e_goto (tgt := 31) dX0_patternNumber_27 (by decide) ?_
        refine e_iadd dX0_patternNumber_31 ?_
        refine e_istore_n dX0_patternNumber_32 rfl (Nat.le_of_ble_eq_true rfl) ?_
        refine e_iinc dX0_patternNumber_33 rfl rfl (Nat.le_of_ble_eq_true rfl) ?_
        refine e_goto (tgt := 9) dX0_patternNumber_36 (by decide) ?_
        refine ev_loc (L' := [some (.ref c), some (.int _), some (.int _)]) ⟨rfl, rfl, rfl, trivial⟩ (ih (r - 1) (by omega) (i + 1) _ _ (by omega) ?_ ?_)
        · rw [ar_im1, ar_add (by rw [ar_m1]; omega) (by rw [ar_m1]; omega), ar_m1]
          omega
        · rw [hy]
          show _ = 3 * sPatT σ i + sDig σ (sNm σ - 1 - i)
          unfold sDig
          rw [hn] at c23
          first | rw [if_pos c23] | rw [if_neg (by omega), hn]
set_option maxRecDepth 20000 in
theorem ct_X0_patternNumber (hm : sOk σ) : ev_Ct G l mX0_patternNumber 4 0 0 [.ref c] (ch G c σ h) (fun v a => v = some (.int (sPat σ)) ∧ a = ch G c σ h) (fun _ _ => False) := by
  refine ev_Ct.of (by decide +kernel) (Nat.le_of_ble_eq_true rfl) ?_
  have hmn := hm.nat
  have hmu : (σ.1 0).toInt = sM σ := rfl
  refine e_iconst (v := 0) dX0_patternNumber_0 (by decide) ?_
  refine e_istore_n dX0_patternNumber_1 rfl (Nat.le_of_ble_eq_true rfl) ?_
  refine e_aload_n dX0_patternNumber_2 rfl rfl ?_
  refine ch_g0_0 wF_X0_65 dX0_patternNumber_3 ?_
  refine e_iconst (v := 1) dX0_patternNumber_6 (by decide) ?_
  refine e_isub dX0_patternNumber_7 ?_
  refine e_istore_n dX0_patternNumber_8 rfl (Nat.le_of_ble_eq_true rfl) ?_
  refine ev_loc (L' := [some (.ref c), some (.int 0), some (.int (σ.1 0 - 1))]) ⟨rfl, rfl, rfl, trivial⟩ ?_
  exact lp_patternNumber (Nat.le_refl _) hm (fun y hy => by
      subst hy
      exact e_iload_n dX0_patternNumber_39 rfl rfl (e_iret rfl dX0_patternNumber_40 ⟨rfl, rfl⟩)) (sNm σ) 0 _ _ (by omega) (by rw [ar_sub (by rw [ar_1]; omega) (by rw [ar_1]; omega), ar_1]; omega) rfl
set_option maxRecDepth 20000 in
theorem lp_countNodes {J : ev_K} {k n : Nat} (hJ : 4 ≤ J.2.2.1) (hm : sOk σ) (hk : ∀ y z : Int32, (y, z) = sNodT σ (sNm σ) → ev_V G l mX0_countNodes J 50 [none, some (.int y)] [] (ch G c σ h) k n) : ∀ (r i : Nat) (x : Int32) (y z : Int32), r + i = sNm σ → x.toInt = (i : Int) → (y, z) = sNodT σ i → ev_V G l mX0_countNodes J 6 [some (.ref c), some (.int y), some (.int z), some (.int x)] [] (ch G c σ h) k n := by
  intro r
  induction r using Nat.strongRecOn with
  | ind r ih =>
    intro i x y z
    intro hr hx hy
    have hn : x.toInt.toNat = i := ar_nat hx
    have hmn := hm.nat
    have hmu : (σ.1 0).toInt = sM σ := rfl
    refine e_iload_n dX0_countNodes_6 rfl rfl ?_
    refine e_aload_n dX0_countNodes_7 rfl rfl ?_
    refine ch_g0_0 wF_X0_65 dX0_countNodes_8 ?_
    refine e_icmp_ge (tgt := 50) dX0_countNodes_11 (by decide) (fun c11 => ?_) (fun c11 => ?_)
    · obtain rfl : i = sNm σ := by omega
      exact ev_lc (hk y z hy) ⟨rfl, trivial⟩
    · refine e_aload_n dX0_countNodes_14 rfl rfl ?_
      refine e_iload_n dX0_countNodes_15 rfl rfl ?_
      refine e_invV (mcY := 0) (msY := 0) (ct_X0_signOf (by omega) (by omega) hm) vX0_signOf wM_X0_239 (ch_at G c _ h 0 (by decide)) rfl dX0_countNodes_16 rfl rfl (Nat.le_of_ble_eq_true rfl) (Nat.le_trans (Nat.le_of_ble_eq_true rfl) hJ) ?_
      rintro _ _ ⟨rfl, rfl⟩
      refine e_istore dX0_countNodes_19 (Nat.le_of_ble_eq_true rfl) ?_
      refine e_iload dX0_countNodes_21 rfl ?_
      refine e_if_eq (tgt := 44) dX0_countNodes_23 (by decide) (fun c23 => ?_) (fun c23 => ?_)
      · refine e_iinc dX0_countNodes_44 rfl rfl (Nat.le_of_ble_eq_true rfl) ?_
        refine e_goto (tgt := 6) dX0_countNodes_47 (by decide) ?_
        have hy1 : y = (sNodT σ i).1 := congrArg Prod.fst hy
        have hy2 : z = (sNodT σ i).2 := congrArg Prod.snd hy
        rw [hn] at *
        refine ev_loc (L' := [some (.ref c), some (.int _), some (.int _), some (.int _)]) ⟨rfl, rfl, rfl, rfl, trivial⟩ (ih (r - 1) (by omega) (i + 1) _ _ _ (by omega) (ar_inc hx (by omega)) ?_)
        show _ = (if sSgn σ i = 0 then sNodT σ i else ((sNodT σ i).1 + (if (sNodT σ i).2 = -sSgn σ i then 1 else 0), sSgn σ i))
        first
          | (rw [if_pos c23, hy]; done)
          | (rw [if_neg c23, hy1]; congr 2; first | rw [if_pos (by rw [← hy2]; assumption)] | rw [if_neg (by rw [← hy2]; assumption)])
      · refine e_iload_n dX0_countNodes_26 rfl rfl ?_
        refine e_iload_n dX0_countNodes_27 rfl rfl ?_
        refine e_iload dX0_countNodes_28 rfl ?_
        refine e_ineg dX0_countNodes_30 ?_
        refine e_icmp_ne (tgt := 38) dX0_countNodes_31 (by decide) (fun c31 => ?_) (fun c31 => ?_)
        · refine e_iconst (v := 0) dX0_countNodes_38 (by decide) ?_
          refine e_iadd dX0_countNodes_39 ?_
          refine e_istore_n dX0_countNodes_40 rfl (Nat.le_of_ble_eq_true rfl) ?_
          refine e_iload dX0_countNodes_41 rfl ?_
          refine e_istore_n dX0_countNodes_43 rfl (Nat.le_of_ble_eq_true rfl) ?_
          refine e_iinc dX0_countNodes_44 rfl rfl (Nat.le_of_ble_eq_true rfl) ?_
          refine e_goto (tgt := 6) dX0_countNodes_47 (by decide) ?_
          have hy1 : y = (sNodT σ i).1 := congrArg Prod.fst hy
          have hy2 : z = (sNodT σ i).2 := congrArg Prod.snd hy
          rw [hn] at *
          refine ev_loc (L' := [some (.ref c), some (.int _), some (.int _), some (.int _)]) ⟨rfl, rfl, rfl, rfl, trivial⟩ (ih (r - 1) (by omega) (i + 1) _ _ _ (by omega) (ar_inc hx (by omega)) ?_)
          show _ = (if sSgn σ i = 0 then sNodT σ i else ((sNodT σ i).1 + (if (sNodT σ i).2 = -sSgn σ i then 1 else 0), sSgn σ i))
          first
            | (rw [if_pos c23, hy]; done)
            | (rw [if_neg c23, hy1]; congr 2; first | rw [if_pos (by rw [← hy2]; assumption)] | rw [if_neg (by rw [← hy2]; assumption)])
        · refine e_iconst (v := 1) dX0_countNodes_34 (by decide) ?_
          refine e_goto (tgt := 39) dX0_countNodes_35 (by decide) ?_
          refine e_iadd dX0_countNodes_39 ?_
          refine e_istore_n dX0_countNodes_40 rfl (Nat.le_of_ble_eq_true rfl) ?_
          refine e_iload dX0_countNodes_41 rfl ?_
          refine e_istore_n dX0_countNodes_43 rfl (Nat.le_of_ble_eq_true rfl) ?_
          refine e_iinc dX0_countNodes_44 rfl rfl (Nat.le_of_ble_eq_true rfl) ?_
          refine e_goto (tgt := 6) dX0_countNodes_47 (by decide) ?_
          have hy1 : y = (sNodT σ i).1 := congrArg Prod.fst hy
          have hy2 : z = (sNodT σ i).2 := congrArg Prod.snd hy
          rw [hn] at *
          refine ev_loc (L' := [some (.ref c), some (.int _), some (.int _), some (.int _)]) ⟨rfl, rfl, rfl, rfl, trivial⟩ (ih (r - 1) (by omega) (i + 1) _ _ _ (by omega) (ar_inc hx (by omega)) ?_)
          show _ = (if sSgn σ i = 0 then sNodT σ i else ((sNodT σ i).1 + (if (sNodT σ i).2 = -sSgn σ i then 1 else 0), sSgn σ i))
          first
            | (rw [if_pos c23, hy]; done)
            | (rw [if_neg c23, hy1]; congr 2; first | rw [if_pos (by rw [← hy2]; assumption)] | rw [if_neg (by rw [← hy2]; assumption)])
set_option maxRecDepth 20000 in
theorem ct_X0_countNodes (hm : sOk σ) : ev_Ct G l mX0_countNodes 4 0 0 [.ref c] (ch G c σ h) (fun v a => v = some (.int (sNod σ)) ∧ a = ch G c σ h) (fun _ _ => False) := by
  refine ev_Ct.of (by decide +kernel) (Nat.le_of_ble_eq_true rfl) ?_
  have hmn := hm.nat
  have hmu : (σ.1 0).toInt = sM σ := rfl
  refine e_iconst (v := 0) dX0_countNodes_0 (by decide) ?_
  refine e_istore_n dX0_countNodes_1 rfl (Nat.le_of_ble_eq_true rfl) ?_
  refine e_iconst (v := 0) dX0_countNodes_2 (by decide) ?_
  refine e_istore_n dX0_countNodes_3 rfl (Nat.le_of_ble_eq_true rfl) ?_
  refine e_iconst (v := 0) dX0_countNodes_4 (by decide) ?_
  refine e_istore_n dX0_countNodes_5 rfl (Nat.le_of_ble_eq_true rfl) ?_
  refine ev_loc (L' := [some (.ref c), some (.int 0), some (.int 0), some (.int 0)]) ⟨rfl, rfl, rfl, rfl, trivial⟩ ?_
  exact lp_countNodes (Nat.le_refl _) hm (fun y z hy => by
      have hy1 : y = sNod σ := congrArg Prod.fst hy
      subst hy1
      exact e_iload_n dX0_countNodes_50 rfl rfl (e_iret rfl dX0_countNodes_51 ⟨rfl, rfl⟩)) (sNm σ) 0 _ _ _ (by omega) ar_0 rfl
set_option maxRecDepth 20000 in
theorem lp_farthestMass {J : ev_K} {k n : Nat} (hJ : 4 ≤ J.2.2.1) (hm : sOk σ) (hk : ∀ y : Int32, y.toInt = (sFarT σ (sNm σ) : Int) → ev_V G l mX0_farthestMass J 39 [none, some (.int y)] [] (ch G c σ h) k n) : ∀ (r i : Nat) (x : Int32) (y : Int32), r + i = sNm σ → x.toInt = (i : Int) → y.toInt = (sFarT σ i : Int) → 1 ≤ i → ev_V G l mX0_farthestMass J 4 [some (.ref c), some (.int y), some (.int x)] [] (ch G c σ h) k n := by
  intro r
  induction r using Nat.strongRecOn with
  | ind r ih =>
    intro i x y
    intro hr hx hy hi1
    have hn : x.toInt.toNat = i := ar_nat hx
    have hmn := hm.nat
    have hmu : (σ.1 0).toInt = sM σ := rfl
    have hf := sFarT_le σ i
    have hy2 : y.toInt.toNat = sFarT σ i := ar_nat hy
    refine e_iload_n dX0_farthestMass_4 rfl rfl ?_
    refine e_aload_n dX0_farthestMass_5 rfl rfl ?_
    refine ch_g0_0 wF_X0_65 dX0_farthestMass_6 ?_
    refine e_icmp_ge (tgt := 39) dX0_farthestMass_9 (by decide) (fun c9 => ?_) (fun c9 => ?_)
    · obtain rfl : i = sNm σ := by omega
      exact ev_lc (hk y hy) ⟨rfl, trivial⟩
    · refine e_aload_n dX0_farthestMass_12 rfl rfl ?_
      refine e_iload_n dX0_farthestMass_13 rfl rfl ?_
      refine e_invV (mcY := 0) (msY := 0) (ct_X0_displacementOf (by omega) (by omega) hm) vX0_displacementOf wM_X0_112 (ch_at G c _ h 0 (by decide)) rfl dX0_farthestMass_14 rfl rfl (Nat.le_of_ble_eq_true rfl) (Nat.le_trans (Nat.le_of_ble_eq_true rfl) hJ) ?_
      rintro _ _ ⟨rfl, rfl⟩
      refine e_mabs wM_X0_214 (Nat.le_of_ble_eq_true rfl) (Nat.le_trans (Nat.le_of_ble_eq_true rfl) hJ) dX0_farthestMass_17 ?_
      refine e_aload_n dX0_farthestMass_20 rfl rfl ?_
      refine e_iload_n dX0_farthestMass_21 rfl rfl ?_
      refine e_invV (mcY := 0) (msY := 0) (ct_X0_displacementOf (by omega) (by omega) hm) vX0_displacementOf wM_X0_112 (ch_at G c _ h 0 (by decide)) rfl dX0_farthestMass_22 rfl rfl (Nat.le_of_ble_eq_true rfl) (Nat.le_trans (Nat.le_of_ble_eq_true rfl) hJ) ?_
      rintro _ _ ⟨rfl, rfl⟩
      refine e_mabs wM_X0_214 (Nat.le_of_ble_eq_true rfl) (Nat.le_trans (Nat.le_of_ble_eq_true rfl) hJ) dX0_farthestMass_25 ?_
      refine e_icmp_le (tgt := 33) dX0_farthestMass_28 (by decide) (fun c28 => ?_) (fun c28 => ?_)
      · refine e_iinc dX0_farthestMass_33 rfl rfl (Nat.le_of_ble_eq_true rfl) ?_
        refine e_goto (tgt := 4) dX0_farthestMass_36 (by decide) ?_
        refine ev_loc (L' := [some (.ref c), some (.int _), some (.int _)]) ⟨rfl, rfl, rfl, trivial⟩ (ih (r - 1) (by omega) (i + 1) _ _ (by omega) (ar_inc hx (by omega)) ?_ (by omega))
        rw [hn, hy2] at c28
        show _ = (((if (sAbs (σ.2.2 1 (sFarT σ i))).toInt < (sAbs (σ.2.2 1 i)).toInt then i else sFarT σ i : Nat)) : Int)
        unfold sAbs
        first
          | (rw [if_pos c28]; exact hx)
          | (rw [if_neg (Int.not_lt.mpr c28)]; exact hy)
      · refine e_iload_n dX0_farthestMass_31 rfl rfl ?_
        refine e_istore_n dX0_farthestMass_32 rfl (Nat.le_of_ble_eq_true rfl) ?_
        refine e_iinc dX0_farthestMass_33 rfl rfl (Nat.le_of_ble_eq_true rfl) ?_
        refine e_goto (tgt := 4) dX0_farthestMass_36 (by decide) ?_
        refine ev_loc (L' := [some (.ref c), some (.int _), some (.int _)]) ⟨rfl, rfl, rfl, trivial⟩ (ih (r - 1) (by omega) (i + 1) _ _ (by omega) (ar_inc hx (by omega)) ?_ (by omega))
        rw [hn, hy2] at c28
        show _ = (((if (sAbs (σ.2.2 1 (sFarT σ i))).toInt < (sAbs (σ.2.2 1 i)).toInt then i else sFarT σ i : Nat)) : Int)
        unfold sAbs
        first
          | (rw [if_pos c28]; exact hx)
          | (rw [if_neg (Int.not_lt.mpr c28)]; exact hy)
set_option maxRecDepth 20000 in
theorem ct_X0_farthestMass (hm : sOk σ) : ev_Ct G l mX0_farthestMass 4 0 0 [.ref c] (ch G c σ h) (fun v a => (∃ y : Int32, v = some (.int y) ∧ y.toInt = (sFarT σ (sNm σ) : Int)) ∧ a = ch G c σ h) (fun _ _ => False) := by
  refine ev_Ct.of (by decide +kernel) (Nat.le_of_ble_eq_true rfl) ?_
  have hmn := hm.nat
  have hmu : (σ.1 0).toInt = sM σ := rfl
  refine e_iconst (v := 0) dX0_farthestMass_0 (by decide) ?_
  refine e_istore_n dX0_farthestMass_1 rfl (Nat.le_of_ble_eq_true rfl) ?_
  refine e_iconst (v := 1) dX0_farthestMass_2 (by decide) ?_
  refine e_istore_n dX0_farthestMass_3 rfl (Nat.le_of_ble_eq_true rfl) ?_
  refine ev_loc (L' := [some (.ref c), some (.int 0), some (.int 1)]) ⟨rfl, rfl, rfl, trivial⟩ ?_
  exact lp_farthestMass (Nat.le_refl _) hm (fun y hy => e_iload_n dX0_farthestMass_39 rfl rfl (e_iret rfl dX0_farthestMass_40 (by exact ⟨⟨y, rfl, hy⟩, rfl⟩))) (sNm σ - 1) 1 _ _ (by omega) ar_1 (by unfold sFarT sFarT; split <;> exact ar_0) (Nat.le_refl _)
end K3
