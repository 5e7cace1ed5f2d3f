/-! the chain's small methods -/
def sM (σ : CS) : Int := (σ.1 0).toInt
def sNm (σ : CS) : Nat := (σ.1 0).toInt.toNat
def sVel (σ : CS) (j : Nat) : Int32 := σ.2.2 2 j / σ.2.2 0 j
def sStr (σ : CS) (s : Nat) : Int32 := (if (s : Int) < sM σ then σ.2.2 1 s else σ.1 4) - (if s = 0 then σ.1 3 else σ.2.2 1 (s - 1))
def sPull (σ : CS) (s : Nat) : Int32 := if σ.2.2 5 s = 0 then ((σ.2.2 3 s).toInt64 * (sStr σ s).toInt64 / 100).toInt32 else 0
def sEm (σ : CS) (j : Nat) : Int64 := (σ.2.2 2 j).toInt64 * (σ.2.2 2 j).toInt64 / (2 * (σ.2.2 0 j).toInt64)
def sEs (σ : CS) (s : Nat) : Int64 := if σ.2.2 5 s = 0 then (σ.2.2 3 s).toInt64 * (sStr σ s).toInt64 * (sStr σ s).toInt64 / 200 else 0
def sLim (x : Int64) (b : Int32) : Int32 := (if (if x < b.toInt64 then x else b.toInt64) < (-b).toInt64 then (-b).toInt64 else (if x < b.toInt64 then x else b.toInt64)).toInt32
theorem ev_lc {G : ev_G} {l : Launch} {M : ev_M} {J : ev_K} {pc k n : Nat} {L L' : List (Option Value)} {st : List Value} {a : ev_H} (h : ev_V G l M J pc L' st a k n) (hL : ev_le L' L) : ev_V G l M J pc L st a k n := ev_loc hL h
/-- the masses are 1 to 12 -/
def sOk (σ : CS) : Prop := 1 ≤ sM σ ∧ sM σ ≤ 12
theorem sOk.nat {σ : CS} (h : sOk σ) : (sNm σ : Int) = sM σ ∧ sNm σ ≤ 12 ∧ 1 ≤ sNm σ := by
  obtain ⟨h1, h2⟩ := h
  unfold sM at h1 h2
  unfold sNm sM
  omega
section K1
variable {G : ev_G} {l : Launch} {c : Nat} {σ : CS} {h : ev_H} {x : Int32}
set_option maxRecDepth 20000 in
theorem ct_X0_hasMass (x0 : 0 ≤ x.toInt) (x1 : x.toInt < sM σ) (hm : sOk σ) : ev_Ct G l mX0_hasMass 1 0 0 [.ref c, .int x] (ch G c σ h) (fun v a => v = some (.int (1)) ∧ a = ch G c σ h) (fun _ _ => False) := by
  refine ev_Ct.of (by decide +kernel) (Nat.le_of_ble_eq_true rfl) ?_
  have hm2 := hm.2
  unfold sM at x1 hm2
  have h12 := ar_12
  refine e_iload_n dX0_hasMass_0 rfl rfl ?_
  refine e_if_lt (tgt := 22) dX0_hasMass_1 (by decide) (fun c1 => ?_) (fun c1 => ?_)
  · omega
  · refine e_iload_n dX0_hasMass_4 rfl rfl ?_
    refine e_aload_n dX0_hasMass_5 rfl rfl ?_
    refine ch_g0_0 wF_X0_65 dX0_hasMass_6 ?_
    refine e_icmp_ge (tgt := 22) dX0_hasMass_9 (by decide) (fun c9 => ?_) (fun c9 => ?_)
    · omega
    · refine e_iload_n dX0_hasMass_12 rfl rfl ?_
      refine e_bipush (v := 12) dX0_hasMass_13 (by decide) ?_
      refine e_icmp_ge (tgt := 22) dX0_hasMass_15 (by decide) (fun c15 => ?_) (fun c15 => ?_)
      · omega
      · refine e_iconst (v := 1) dX0_hasMass_18 (by decide) ?_
        refine e_goto (tgt := 23) dX0_hasMass_19 (by decide) ?_
        exact e_zret (ty := .boolean) rfl rfl dX0_hasMass_23 (⟨rfl, rfl⟩)
set_option maxRecDepth 20000 in
theorem ct_X0_hasSpring (x0 : 0 ≤ x.toInt) (x1 : x.toInt ≤ sM σ) (hm : sOk σ) : ev_Ct G l mX0_hasSpring 1 0 0 [.ref c, .int x] (ch G c σ h) (fun v a => v = some (.int (1)) ∧ a = ch G c σ h) (fun _ _ => False) := by
  refine ev_Ct.of (by decide +kernel) (Nat.le_of_ble_eq_true rfl) ?_
  have hm2 := hm.2
  unfold sM at x1 hm2
  have h13 := ar_13
  refine e_iload_n dX0_hasSpring_0 rfl rfl ?_
  refine e_if_lt (tgt := 22) dX0_hasSpring_1 (by decide) (fun c1 => ?_) (fun c1 => ?_)
  · omega
  · refine e_iload_n dX0_hasSpring_4 rfl rfl ?_
    refine e_aload_n dX0_hasSpring_5 rfl rfl ?_
    refine ch_g0_0 wF_X0_65 dX0_hasSpring_6 ?_
    refine e_icmp_gt (tgt := 22) dX0_hasSpring_9 (by decide) (fun c9 => ?_) (fun c9 => ?_)
    · omega
    · refine e_iload_n dX0_hasSpring_12 rfl rfl ?_
      refine e_bipush (v := 13) dX0_hasSpring_13 (by decide) ?_
      refine e_icmp_ge (tgt := 22) dX0_hasSpring_15 (by decide) (fun c15 => ?_) (fun c15 => ?_)
      · omega
      · refine e_iconst (v := 1) dX0_hasSpring_18 (by decide) ?_
        refine e_goto (tgt := 23) dX0_hasSpring_19 (by decide) ?_
        exact e_zret (ty := .boolean) rfl rfl dX0_hasSpring_23 (⟨rfl, rfl⟩)
set_option maxRecDepth 20000 in
theorem ct_X0_weightOf (x0 : 0 ≤ x.toInt) (x1 : x.toInt < sM σ) (hm : sOk σ) : ev_Ct G l mX0_weightOf 2 0 0 [.ref c, .int x] (ch G c σ h) (fun v a => v = some (.int (σ.2.2 0 x.toInt.toNat)) ∧ a = ch G c σ h) (fun _ _ => False) := by
  refine ev_Ct.of (by decide +kernel) (Nat.le_of_ble_eq_true rfl) ?_
  have hm2 := hm.2
  unfold sM at x1 hm2
  refine e_aload_n dX0_weightOf_0 rfl rfl ?_
  refine e_iload_n dX0_weightOf_1 rfl rfl ?_
  refine e_invV (mcY := 0) (msY := 0) (ct_X0_hasMass x0 x1 hm) vX0_hasMass wM_X0_98 (ch_at G c _ h 0 (by decide)) rfl dX0_weightOf_2 rfl rfl (Nat.le_of_ble_eq_true rfl) (Nat.le_of_ble_eq_true rfl) ?_
  rintro _ _ ⟨rfl, rfl⟩
  refine e_if_eq (tgt := 17) dX0_weightOf_5 (by decide) (fun c5 => ?_) (fun c5 => ?_)
  · exact absurd c5 (by decide)
  · refine e_aload_n dX0_weightOf_8 rfl rfl ?_
    refine ch_g0_8 wF_X0_9 dX0_weightOf_9 ?_
    refine e_iload_n dX0_weightOf_12 rfl rfl ?_
    refine ch_l1 x0 (by omega) dX0_weightOf_13 ?_
    refine e_goto (tgt := 18) dX0_weightOf_14 (by decide) ?_
    exact e_iret rfl dX0_weightOf_18 (⟨rfl, rfl⟩)
set_option maxRecDepth 20000 in
theorem ct_X0_displacementOf (x0 : 0 ≤ x.toInt) (x1 : x.toInt < sM σ) (hm : sOk σ) : ev_Ct G l mX0_displacementOf 2 0 0 [.ref c, .int x] (ch G c σ h) (fun v a => v = some (.int (σ.2.2 1 x.toInt.toNat)) ∧ a = ch G c σ h) (fun _ _ => False) := by
  refine ev_Ct.of (by decide +kernel) (Nat.le_of_ble_eq_true rfl) ?_
  have hm2 := hm.2
  unfold sM at x1 hm2
  refine e_aload_n dX0_displacementOf_0 rfl rfl ?_
  refine e_iload_n dX0_displacementOf_1 rfl rfl ?_
  refine e_invV (mcY := 0) (msY := 0) (ct_X0_hasMass x0 x1 hm) vX0_hasMass wM_X0_98 (ch_at G c _ h 0 (by decide)) rfl dX0_displacementOf_2 rfl rfl (Nat.le_of_ble_eq_true rfl) (Nat.le_of_ble_eq_true rfl) ?_
  rintro _ _ ⟨rfl, rfl⟩
  refine e_if_eq (tgt := 17) dX0_displacementOf_5 (by decide) (fun c5 => ?_) (fun c5 => ?_)
  · exact absurd c5 (by decide)
  · refine e_aload_n dX0_displacementOf_8 rfl rfl ?_
    refine ch_g0_9 wF_X0_15 dX0_displacementOf_9 ?_
    refine e_iload_n dX0_displacementOf_12 rfl rfl ?_
    refine ch_l2 x0 (by omega) dX0_displacementOf_13 ?_
    refine e_goto (tgt := 18) dX0_displacementOf_14 (by decide) ?_
    exact e_iret rfl dX0_displacementOf_18 (⟨rfl, rfl⟩)
set_option maxRecDepth 20000 in
theorem ct_X0_momentumOf (x0 : 0 ≤ x.toInt) (x1 : x.toInt < sM σ) (hm : sOk σ) : ev_Ct G l mX0_momentumOf 2 0 0 [.ref c, .int x] (ch G c σ h) (fun v a => v = some (.int (σ.2.2 2 x.toInt.toNat)) ∧ a = ch G c σ h) (fun _ _ => False) := by
  refine ev_Ct.of (by decide +kernel) (Nat.le_of_ble_eq_true rfl) ?_
  have hm2 := hm.2
  unfold sM at x1 hm2
  refine e_aload_n dX0_momentumOf_0 rfl rfl ?_
  refine e_iload_n dX0_momentumOf_1 rfl rfl ?_
  refine e_invV (mcY := 0) (msY := 0) (ct_X0_hasMass x0 x1 hm) vX0_hasMass wM_X0_98 (ch_at G c _ h 0 (by decide)) rfl dX0_momentumOf_2 rfl rfl (Nat.le_of_ble_eq_true rfl) (Nat.le_of_ble_eq_true rfl) ?_
  rintro _ _ ⟨rfl, rfl⟩
  refine e_if_eq (tgt := 17) dX0_momentumOf_5 (by decide) (fun c5 => ?_) (fun c5 => ?_)
  · exact absurd c5 (by decide)
  · refine e_aload_n dX0_momentumOf_8 rfl rfl ?_
    refine ch_g0_10 wF_X0_18 dX0_momentumOf_9 ?_
    refine e_iload_n dX0_momentumOf_12 rfl rfl ?_
    refine ch_l3 x0 (by omega) dX0_momentumOf_13 ?_
    refine e_goto (tgt := 18) dX0_momentumOf_14 (by decide) ?_
    exact e_iret rfl dX0_momentumOf_18 (⟨rfl, rfl⟩)
set_option maxRecDepth 20000 in
theorem ct_X0_stiffnessOf (x0 : 0 ≤ x.toInt) (x1 : x.toInt ≤ sM σ) (hm : sOk σ) : ev_Ct G l mX0_stiffnessOf 2 0 0 [.ref c, .int x] (ch G c σ h) (fun v a => v = some (.int (σ.2.2 3 x.toInt.toNat)) ∧ a = ch G c σ h) (fun _ _ => False) := by
  refine ev_Ct.of (by decide +kernel) (Nat.le_of_ble_eq_true rfl) ?_
  have hm2 := hm.2
  unfold sM at x1 hm2
  refine e_aload_n dX0_stiffnessOf_0 rfl rfl ?_
  refine e_iload_n dX0_stiffnessOf_1 rfl rfl ?_
  refine e_invV (mcY := 0) (msY := 0) (ct_X0_hasSpring x0 x1 hm) vX0_hasSpring wM_X0_109 (ch_at G c _ h 0 (by decide)) rfl dX0_stiffnessOf_2 rfl rfl (Nat.le_of_ble_eq_true rfl) (Nat.le_of_ble_eq_true rfl) ?_
  rintro _ _ ⟨rfl, rfl⟩
  refine e_if_eq (tgt := 17) dX0_stiffnessOf_5 (by decide) (fun c5 => ?_) (fun c5 => ?_)
  · exact absurd c5 (by decide)
  · refine e_aload_n dX0_stiffnessOf_8 rfl rfl ?_
    refine ch_g0_11 wF_X0_21 dX0_stiffnessOf_9 ?_
    refine e_iload_n dX0_stiffnessOf_12 rfl rfl ?_
    refine ch_l4 x0 (by omega) dX0_stiffnessOf_13 ?_
    refine e_goto (tgt := 18) dX0_stiffnessOf_14 (by decide) ?_
    exact e_iret rfl dX0_stiffnessOf_18 (⟨rfl, rfl⟩)
set_option maxRecDepth 20000 in
theorem ct_X0_limitOf (x0 : 0 ≤ x.toInt) (x1 : x.toInt ≤ sM σ) (hm : sOk σ) : ev_Ct G l mX0_limitOf 2 0 0 [.ref c, .int x] (ch G c σ h) (fun v a => v = some (.int (σ.2.2 4 x.toInt.toNat)) ∧ a = ch G c σ h) (fun _ _ => False) := by
  refine ev_Ct.of (by decide +kernel) (Nat.le_of_ble_eq_true rfl) ?_
  have hm2 := hm.2
  unfold sM at x1 hm2
  refine e_aload_n dX0_limitOf_0 rfl rfl ?_
  refine e_iload_n dX0_limitOf_1 rfl rfl ?_
  refine e_invV (mcY := 0) (msY := 0) (ct_X0_hasSpring x0 x1 hm) vX0_hasSpring wM_X0_109 (ch_at G c _ h 0 (by decide)) rfl dX0_limitOf_2 rfl rfl (Nat.le_of_ble_eq_true rfl) (Nat.le_of_ble_eq_true rfl) ?_
  rintro _ _ ⟨rfl, rfl⟩
  refine e_if_eq (tgt := 17) dX0_limitOf_5 (by decide) (fun c5 => ?_) (fun c5 => ?_)
  · exact absurd c5 (by decide)
  · refine e_aload_n dX0_limitOf_8 rfl rfl ?_
    refine ch_g0_12 wF_X0_24 dX0_limitOf_9 ?_
    refine e_iload_n dX0_limitOf_12 rfl rfl ?_
    refine ch_l5 x0 (by omega) dX0_limitOf_13 ?_
    refine e_goto (tgt := 18) dX0_limitOf_14 (by decide) ?_
    exact e_iret rfl dX0_limitOf_18 (⟨rfl, rfl⟩)
set_option maxRecDepth 20000 in
theorem ct_X0_isBroken (x0 : 0 ≤ x.toInt) (x1 : x.toInt ≤ sM σ) (hm : sOk σ) : ev_Ct G l mX0_isBroken 2 0 0 [.ref c, .int x] (ch G c σ h) (fun v a => v = some (.int (if σ.2.2 5 x.toInt.toNat = 0 then 0 else 1)) ∧ a = ch G c σ h) (fun _ _ => False) := by
  refine ev_Ct.of (by decide +kernel) (Nat.le_of_ble_eq_true rfl) ?_
  have hm2 := hm.2
  unfold sM at x1 hm2
  refine e_aload_n dX0_isBroken_0 rfl rfl ?_
  refine e_iload_n dX0_isBroken_1 rfl rfl ?_
  refine e_invV (mcY := 0) (msY := 0) (ct_X0_hasSpring x0 x1 hm) vX0_hasSpring wM_X0_109 (ch_at G c _ h 0 (by decide)) rfl dX0_isBroken_2 rfl rfl (Nat.le_of_ble_eq_true rfl) (Nat.le_of_ble_eq_true rfl) ?_
  rintro _ _ ⟨rfl, rfl⟩
  refine e_if_eq (tgt := 21) dX0_isBroken_5 (by decide) (fun c5 => ?_) (fun c5 => ?_)
  · exact absurd c5 (by decide)
  · refine e_aload_n dX0_isBroken_8 rfl rfl ?_
    refine ch_g0_13 wF_X0_27 dX0_isBroken_9 ?_
    refine e_iload_n dX0_isBroken_12 rfl rfl ?_
    refine ch_l6 x0 (by omega) dX0_isBroken_13 ?_
    refine e_if_eq (tgt := 21) dX0_isBroken_14 (by decide) (fun c14 => ?_) (fun c14 => ?_)
    · refine e_iconst (v := 0) dX0_isBroken_21 (by decide) ?_
      exact e_zret (ty := .boolean) rfl rfl dX0_isBroken_22 (⟨by first | rw [if_pos c14] | rw [if_neg c14], rfl⟩)
    · refine e_iconst (v := 1) dX0_isBroken_17 (by decide) ?_
      refine e_goto (tgt := 22) dX0_isBroken_18 (by decide) ?_
      exact e_zret (ty := .boolean) rfl rfl dX0_isBroken_22 (⟨by first | rw [if_pos c14] | rw [if_neg c14], rfl⟩)
set_option maxRecDepth 20000 in
theorem ct_X0_velocityOf (x0 : 0 ≤ x.toInt) (x1 : x.toInt < sM σ) (hm : sOk σ) (hw : σ.2.2 0 x.toInt.toNat ≠ 0) : ev_Ct G l mX0_velocityOf 3 0 0 [.ref c, .int x] (ch G c σ h) (fun v a => v = some (.int (sVel σ x.toInt.toNat)) ∧ a = ch G c σ h) (fun _ _ => False) := by
  refine ev_Ct.of (by decide +kernel) (Nat.le_of_ble_eq_true rfl) ?_
  refine e_aload_n dX0_velocityOf_0 rfl rfl ?_
  refine e_iload_n dX0_velocityOf_1 rfl rfl ?_
  refine e_invV (mcY := 0) (msY := 0) (ct_X0_weightOf x0 x1 hm) vX0_weightOf wM_X0_102 (ch_at G c _ h 0 (by decide)) rfl dX0_velocityOf_2 rfl rfl (Nat.le_of_ble_eq_true rfl) (Nat.le_of_ble_eq_true rfl) ?_
  rintro _ _ ⟨rfl, rfl⟩
  refine e_istore_n dX0_velocityOf_5 rfl (Nat.le_of_ble_eq_true rfl) ?_
  refine e_iload_n dX0_velocityOf_6 rfl rfl ?_
  refine e_if_ne (tgt := 14) dX0_velocityOf_7 (by decide) (fun c7 => ?_) (fun c7 => ?_)
  · refine e_aload_n dX0_velocityOf_14 rfl rfl ?_
    refine e_iload_n dX0_velocityOf_15 rfl rfl ?_
    refine e_invV (mcY := 0) (msY := 0) (ct_X0_momentumOf x0 x1 hm) vX0_momentumOf wM_X0_106 (ch_at G c _ h 0 (by decide)) rfl dX0_velocityOf_16 rfl rfl (Nat.le_of_ble_eq_true rfl) (Nat.le_of_ble_eq_true rfl) ?_
    rintro _ _ ⟨rfl, rfl⟩
    refine e_iload_n dX0_velocityOf_19 rfl rfl ?_
    refine e_idiv dX0_velocityOf_20 (c7) ?_
    exact e_iret rfl dX0_velocityOf_21 (⟨rfl, rfl⟩)
  · exact absurd c7 hw
set_option maxRecDepth 20000 in
theorem ct_X0_stretchOf (x0 : 0 ≤ x.toInt) (x1 : x.toInt ≤ sM σ) (hm : sOk σ) : ev_Ct G l mX0_stretchOf 3 0 0 [.ref c, .int x] (ch G c σ h) (fun v a => v = some (.int (sStr σ x.toInt.toNat)) ∧ a = ch G c σ h) (fun _ _ => False) := by
  refine ev_Ct.of (by decide +kernel) (Nat.le_of_ble_eq_true rfl) ?_
  have hm2 := hm.2
  unfold sM at x1 hm2
  have hp : 0 < x.toInt → (x - 1).toInt = x.toInt - 1 := fun q => by
    rw [ar_sub (by rw [ar_1]; omega) (by rw [ar_1]; omega), ar_1]
  refine e_iload_n dX0_stretchOf_0 rfl rfl ?_
  refine e_if_gt (tgt := 11) dX0_stretchOf_1 (by decide) (fun c1 => ?_) (fun c1 => ?_)
  · refine e_aload_n dX0_stretchOf_11 rfl rfl ?_
    refine e_iload_n dX0_stretchOf_12 rfl rfl ?_
    refine e_iconst (v := 1) dX0_stretchOf_13 (by decide) ?_
    refine e_isub dX0_stretchOf_14 ?_
    refine e_invV (mcY := 0) (msY := 0) (ct_X0_displacementOf (x := x - 1) (by have := hp c1; omega) (by have := hp c1; unfold sM; omega) hm) vX0_displacementOf wM_X0_112 (ch_at G c _ h 0 (by decide)) rfl dX0_stretchOf_15 rfl rfl (Nat.le_of_ble_eq_true rfl) (Nat.le_of_ble_eq_true rfl) ?_
    rintro _ _ ⟨rfl, rfl⟩
    refine e_istore_n dX0_stretchOf_18 rfl (Nat.le_of_ble_eq_true rfl) ?_
    refine e_iload_n dX0_stretchOf_19 rfl rfl ?_
    refine e_aload_n dX0_stretchOf_20 rfl rfl ?_
    refine ch_g0_0 wF_X0_65 dX0_stretchOf_21 ?_
    refine e_icmp_lt (tgt := 34) dX0_stretchOf_24 (by decide) (fun c24 => ?_) (fun c24 => ?_)
    · refine e_aload_n dX0_stretchOf_34 rfl rfl ?_
      refine e_iload_n dX0_stretchOf_35 rfl rfl ?_
      refine e_invV (mcY := 0) (msY := 0) (ct_X0_displacementOf (by omega) (by unfold sM; omega) hm) vX0_displacementOf wM_X0_112 (ch_at G c _ h 0 (by decide)) rfl dX0_stretchOf_36 rfl rfl (Nat.le_of_ble_eq_true rfl) (Nat.le_of_ble_eq_true rfl) ?_
      rintro _ _ ⟨rfl, rfl⟩
      refine e_istore_n dX0_stretchOf_39 rfl (Nat.le_of_ble_eq_true rfl) ?_
      refine e_iload_n dX0_stretchOf_40 rfl rfl ?_
      refine e_iload_n dX0_stretchOf_41 rfl rfl ?_
      refine e_isub dX0_stretchOf_42 ?_
      exact e_iret rfl dX0_stretchOf_43 (⟨by
            unfold sStr sM
            first
              | (rw [if_neg (by omega), if_pos (by omega)]; done)
              | (rw [if_pos (by omega), if_pos (by omega)]; done)
              | (have := hp (by omega); rw [if_neg (by omega), if_neg (by omega), this]; simp only [show (x.toInt - 1).toNat = x.toInt.toNat - 1 by omega]; done)
              | (have := hp (by omega); rw [if_pos (by omega), if_neg (by omega), this]; simp only [show (x.toInt - 1).toNat = x.toInt.toNat - 1 by omega]; done), rfl⟩)
    · refine e_aload_n dX0_stretchOf_27 rfl rfl ?_
      refine ch_g0_4 wF_X0_78 dX0_stretchOf_28 ?_
      refine e_goto (tgt := 39) dX0_stretchOf_31 (by decide) ?_
      refine e_istore_n dX0_stretchOf_39 rfl (Nat.le_of_ble_eq_true rfl) ?_
      refine e_iload_n dX0_stretchOf_40 rfl rfl ?_
      refine e_iload_n dX0_stretchOf_41 rfl rfl ?_
      refine e_isub dX0_stretchOf_42 ?_
      exact e_iret rfl dX0_stretchOf_43 (⟨by
            unfold sStr sM
            first
              | (rw [if_neg (by omega), if_pos (by omega)]; done)
              | (rw [if_pos (by omega), if_pos (by omega)]; done)
              | (have := hp (by omega); rw [if_neg (by omega), if_neg (by omega), this]; simp only [show (x.toInt - 1).toNat = x.toInt.toNat - 1 by omega]; done)
              | (have := hp (by omega); rw [if_pos (by omega), if_neg (by omega), this]; simp only [show (x.toInt - 1).toNat = x.toInt.toNat - 1 by omega]; done), rfl⟩)
  · refine e_aload_n dX0_stretchOf_4 rfl rfl ?_
    refine ch_g0_3 wF_X0_75 dX0_stretchOf_5 ?_
    refine e_goto (tgt := 18) dX0_stretchOf_8 (by decide) ?_
    refine e_istore_n dX0_stretchOf_18 rfl (Nat.le_of_ble_eq_true rfl) ?_
    refine e_iload_n dX0_stretchOf_19 rfl rfl ?_
    refine e_aload_n dX0_stretchOf_20 rfl rfl ?_
    refine ch_g0_0 wF_X0_65 dX0_stretchOf_21 ?_
    refine e_icmp_lt (tgt := 34) dX0_stretchOf_24 (by decide) (fun c24 => ?_) (fun c24 => ?_)
    · refine e_aload_n dX0_stretchOf_34 rfl rfl ?_
      refine e_iload_n dX0_stretchOf_35 rfl rfl ?_
      refine e_invV (mcY := 0) (msY := 0) (ct_X0_displacementOf (by omega) (by unfold sM; omega) hm) vX0_displacementOf wM_X0_112 (ch_at G c _ h 0 (by decide)) rfl dX0_stretchOf_36 rfl rfl (Nat.le_of_ble_eq_true rfl) (Nat.le_of_ble_eq_true rfl) ?_
      rintro _ _ ⟨rfl, rfl⟩
      refine e_istore_n dX0_stretchOf_39 rfl (Nat.le_of_ble_eq_true rfl) ?_
      refine e_iload_n dX0_stretchOf_40 rfl rfl ?_
      refine e_iload_n dX0_stretchOf_41 rfl rfl ?_
      refine e_isub dX0_stretchOf_42 ?_
      exact e_iret rfl dX0_stretchOf_43 (⟨by
            unfold sStr sM
            first
              | (rw [if_neg (by omega), if_pos (by omega)]; done)
              | (rw [if_pos (by omega), if_pos (by omega)]; done)
              | (have := hp (by omega); rw [if_neg (by omega), if_neg (by omega), this]; simp only [show (x.toInt - 1).toNat = x.toInt.toNat - 1 by omega]; done)
              | (have := hp (by omega); rw [if_pos (by omega), if_neg (by omega), this]; simp only [show (x.toInt - 1).toNat = x.toInt.toNat - 1 by omega]; done), rfl⟩)
    · refine e_aload_n dX0_stretchOf_27 rfl rfl ?_
      refine ch_g0_4 wF_X0_78 dX0_stretchOf_28 ?_
      refine e_goto (tgt := 39) dX0_stretchOf_31 (by decide) ?_
      refine e_istore_n dX0_stretchOf_39 rfl (Nat.le_of_ble_eq_true rfl) ?_
      refine e_iload_n dX0_stretchOf_40 rfl rfl ?_
      refine e_iload_n dX0_stretchOf_41 rfl rfl ?_
      refine e_isub dX0_stretchOf_42 ?_
      exact e_iret rfl dX0_stretchOf_43 (⟨by
            unfold sStr sM
            first
              | (rw [if_neg (by omega), if_pos (by omega)]; done)
              | (rw [if_pos (by omega), if_pos (by omega)]; done)
              | (have := hp (by omega); rw [if_neg (by omega), if_neg (by omega), this]; simp only [show (x.toInt - 1).toNat = x.toInt.toNat - 1 by omega]; done)
              | (have := hp (by omega); rw [if_pos (by omega), if_neg (by omega), this]; simp only [show (x.toInt - 1).toNat = x.toInt.toNat - 1 by omega]; done), rfl⟩)
set_option maxRecDepth 20000 in
theorem ct_X0_pullOf (x0 : 0 ≤ x.toInt) (x1 : x.toInt ≤ sM σ) (hm : sOk σ) : ev_Ct G l mX0_pullOf 4 0 0 [.ref c, .int x] (ch G c σ h) (fun v a => v = some (.int (sPull σ x.toInt.toNat)) ∧ a = ch G c σ h) (fun _ _ => False) := by
  refine ev_Ct.of (by decide +kernel) (Nat.le_of_ble_eq_true rfl) ?_
  refine e_aload_n dX0_pullOf_0 rfl rfl ?_
  refine e_iload_n dX0_pullOf_1 rfl rfl ?_
  refine e_invV (mcY := 0) (msY := 0) (ct_X0_isBroken x0 x1 hm) vX0_isBroken wM_X0_115 (ch_at G c _ h 0 (by decide)) rfl dX0_pullOf_2 rfl rfl (Nat.le_of_ble_eq_true rfl) (Nat.le_of_ble_eq_true rfl) ?_
  rintro _ _ ⟨rfl, rfl⟩
  refine e_if_eq (tgt := 12) dX0_pullOf_5 (by decide) (fun c5 => ?_) (fun c5 => ?_)
  · rw [ar_ite0] at c5
    refine e_aload_n dX0_pullOf_12 rfl rfl ?_
    refine e_iload_n dX0_pullOf_13 rfl rfl ?_
    refine e_invV (mcY := 0) (msY := 0) (ct_X0_stiffnessOf x0 x1 hm) vX0_stiffnessOf wM_X0_118 (ch_at G c _ h 0 (by decide)) rfl dX0_pullOf_14 rfl rfl (Nat.le_of_ble_eq_true rfl) (Nat.le_of_ble_eq_true rfl) ?_
    rintro _ _ ⟨rfl, rfl⟩
    refine e_i2l dX0_pullOf_17 ?_
    refine e_aload_n dX0_pullOf_18 rfl rfl ?_
    refine e_iload_n dX0_pullOf_19 rfl rfl ?_
    refine e_invV (mcY := 0) (msY := 0) (ct_X0_stretchOf x0 x1 hm) vX0_stretchOf wM_X0_121 (ch_at G c _ h 0 (by decide)) rfl dX0_pullOf_20 rfl rfl (Nat.le_of_ble_eq_true rfl) (Nat.le_of_ble_eq_true rfl) ?_
    rintro _ _ ⟨rfl, rfl⟩
    refine e_i2l dX0_pullOf_23 ?_
    refine e_lmul dX0_pullOf_24 ?_
    refine e_ldc2 dX0_pullOf_25 wK_X0_124 ?_
    refine e_ldiv dX0_pullOf_28 (by decide) ?_
    refine e_l2i dX0_pullOf_29 ?_
    exact e_iret rfl dX0_pullOf_30 (⟨by unfold sPull; first | rw [if_pos c5] | rw [if_neg c5], rfl⟩)
  · rw [ar_ite0] at c5
    refine e_iconst (v := 0) dX0_pullOf_8 (by decide) ?_
    refine e_goto (tgt := 30) dX0_pullOf_9 (by decide) ?_
    exact e_iret rfl dX0_pullOf_30 (⟨by unfold sPull; first | rw [if_pos c5] | rw [if_neg c5], rfl⟩)
set_option maxRecDepth 20000 in
theorem ct_X0_energyOfMass (x0 : 0 ≤ x.toInt) (x1 : x.toInt < sM σ) (hm : sOk σ) (hw : (σ.2.2 0 x.toInt.toNat).toInt64 ≠ 0) (hw2 : (2 : Int64) * (σ.2.2 0 x.toInt.toNat).toInt64 ≠ 0) : ev_Ct G l mX0_energyOfMass 3 0 0 [.ref c, .int x] (ch G c σ h) (fun v a => v = some (.long (sEm σ x.toInt.toNat)) ∧ a = ch G c σ h) (fun _ _ => False) := by
  refine ev_Ct.of (by decide +kernel) (Nat.le_of_ble_eq_true rfl) ?_
  refine e_aload_n dX0_energyOfMass_0 rfl rfl ?_
  refine e_iload_n dX0_energyOfMass_1 rfl rfl ?_
  refine e_invV (mcY := 0) (msY := 0) (ct_X0_weightOf x0 x1 hm) vX0_weightOf wM_X0_102 (ch_at G c _ h 0 (by decide)) rfl dX0_energyOfMass_2 rfl rfl (Nat.le_of_ble_eq_true rfl) (Nat.le_of_ble_eq_true rfl) ?_
  rintro _ _ ⟨rfl, rfl⟩
  refine e_i2l dX0_energyOfMass_5 ?_
  refine e_lstore_n dX0_energyOfMass_6 rfl (Nat.le_of_ble_eq_true rfl) ?_
  refine e_aload_n dX0_energyOfMass_7 rfl rfl ?_
  refine e_iload_n dX0_energyOfMass_8 rfl rfl ?_
  refine e_invV (mcY := 0) (msY := 0) (ct_X0_momentumOf x0 x1 hm) vX0_momentumOf wM_X0_106 (ch_at G c _ h 0 (by decide)) rfl dX0_energyOfMass_9 rfl rfl (Nat.le_of_ble_eq_true rfl) (Nat.le_of_ble_eq_true rfl) ?_
  rintro _ _ ⟨rfl, rfl⟩
  refine e_i2l dX0_energyOfMass_12 ?_
  refine e_lstore dX0_energyOfMass_13 (Nat.le_of_ble_eq_true rfl) ?_
  refine e_lload_n dX0_energyOfMass_15 rfl rfl ?_
  refine e_lconst (v := 0) dX0_energyOfMass_16 (by decide) ?_
  refine e_lcmp dX0_energyOfMass_17 ?_
  refine e_if_ne (tgt := 25) dX0_energyOfMass_18 (by decide) (fun c18 => ?_) (fun c18 => ?_)
  · refine e_lload dX0_energyOfMass_25 rfl ?_
    refine e_lload dX0_energyOfMass_27 rfl ?_
    refine e_lmul dX0_energyOfMass_29 ?_
    refine e_ldc2 dX0_energyOfMass_30 wK_X0_126 ?_
    refine e_lload_n dX0_energyOfMass_33 rfl rfl ?_
    refine e_lmul dX0_energyOfMass_34 ?_
    refine e_ldiv dX0_energyOfMass_35 (hw2) ?_
    exact e_lret rfl dX0_energyOfMass_36 (⟨rfl, rfl⟩)
  · exact absurd (ar_lcmp0.mp c18) hw
set_option maxRecDepth 20000 in
theorem ct_X0_energyOfSpring (x0 : 0 ≤ x.toInt) (x1 : x.toInt ≤ sM σ) (hm : sOk σ) : ev_Ct G l mX0_energyOfSpring 4 0 0 [.ref c, .int x] (ch G c σ h) (fun v a => v = some (.long (sEs σ x.toInt.toNat)) ∧ a = ch G c σ h) (fun _ _ => False) := by
  refine ev_Ct.of (by decide +kernel) (Nat.le_of_ble_eq_true rfl) ?_
  refine e_aload_n dX0_energyOfSpring_0 rfl rfl ?_
  refine e_iload_n dX0_energyOfSpring_1 rfl rfl ?_
  refine e_invV (mcY := 0) (msY := 0) (ct_X0_stretchOf x0 x1 hm) vX0_stretchOf wM_X0_121 (ch_at G c _ h 0 (by decide)) rfl dX0_energyOfSpring_2 rfl rfl (Nat.le_of_ble_eq_true rfl) (Nat.le_of_ble_eq_true rfl) ?_
  rintro _ _ ⟨rfl, rfl⟩
  refine e_i2l dX0_energyOfSpring_5 ?_
  refine e_lstore_n dX0_energyOfSpring_6 rfl (Nat.le_of_ble_eq_true rfl) ?_
  refine e_aload_n dX0_energyOfSpring_7 rfl rfl ?_
  refine e_iload_n dX0_energyOfSpring_8 rfl rfl ?_
  refine e_invV (mcY := 0) (msY := 0) (ct_X0_isBroken x0 x1 hm) vX0_isBroken wM_X0_115 (ch_at G c _ h 0 (by decide)) rfl dX0_energyOfSpring_9 rfl rfl (Nat.le_of_ble_eq_true rfl) (Nat.le_of_ble_eq_true rfl) ?_
  rintro _ _ ⟨rfl, rfl⟩
  refine e_if_eq (tgt := 19) dX0_energyOfSpring_12 (by decide) (fun c12 => ?_) (fun c12 => ?_)
  · rw [ar_ite0] at c12
    refine e_aload_n dX0_energyOfSpring_19 rfl rfl ?_
    refine e_iload_n dX0_energyOfSpring_20 rfl rfl ?_
    refine e_invV (mcY := 0) (msY := 0) (ct_X0_stiffnessOf x0 x1 hm) vX0_stiffnessOf wM_X0_118 (ch_at G c _ h 0 (by decide)) rfl dX0_energyOfSpring_21 rfl rfl (Nat.le_of_ble_eq_true rfl) (Nat.le_of_ble_eq_true rfl) ?_
    rintro _ _ ⟨rfl, rfl⟩
    refine e_i2l dX0_energyOfSpring_24 ?_
    refine e_lload_n dX0_energyOfSpring_25 rfl rfl ?_
    refine e_lmul dX0_energyOfSpring_26 ?_
    refine e_lload_n dX0_energyOfSpring_27 rfl rfl ?_
    refine e_lmul dX0_energyOfSpring_28 ?_
    refine e_ldc2 dX0_energyOfSpring_29 wK_X0_128 ?_
    refine e_ldiv dX0_energyOfSpring_32 (by decide) ?_
    exact e_lret rfl dX0_energyOfSpring_33 (⟨by unfold sEs; first | rw [if_pos c12] | rw [if_neg c12], rfl⟩)
  · rw [ar_ite0] at c12
    refine e_lconst (v := 0) dX0_energyOfSpring_15 (by decide) ?_
    refine e_goto (tgt := 33) dX0_energyOfSpring_16 (by decide) ?_
    exact e_lret rfl dX0_energyOfSpring_33 (⟨by unfold sEs; first | rw [if_pos c12] | rw [if_neg c12], rfl⟩)
set_option maxRecDepth 20000 in
theorem ct_X0_setWeight {y : Int32} (x0 : 0 ≤ x.toInt) (x1 : x.toInt < sM σ) (hm : sOk σ) : ev_Ct G l mX0_setWeight 2 0 0 [.ref c, .int x, .int y] (ch G c σ h) (fun v a => v = none ∧ a = ch G c (cs_A σ 0 (ev_u (σ.2.2 0) x.toInt.toNat y)) h) (fun _ _ => False) := by
  refine ev_Ct.of (by decide +kernel) (Nat.le_of_ble_eq_true rfl) ?_
  have hm2 := hm.2
  unfold sM at x1 hm2
  refine e_aload_n dX0_setWeight_0 rfl rfl ?_
  refine e_iload_n dX0_setWeight_1 rfl rfl ?_
  refine e_invV (mcY := 0) (msY := 0) (ct_X0_hasMass x0 x1 hm) vX0_hasMass wM_X0_98 (ch_at G c _ h 0 (by decide)) rfl dX0_setWeight_2 rfl rfl (Nat.le_of_ble_eq_true rfl) (Nat.le_of_ble_eq_true rfl) ?_
  rintro _ _ ⟨rfl, rfl⟩
  refine e_if_eq (tgt := 15) dX0_setWeight_5 (by decide) (fun c5 => ?_) (fun c5 => ?_)
  · exact absurd c5 (by decide)
  · refine e_aload_n dX0_setWeight_8 rfl rfl ?_
    refine ch_g0_8 wF_X0_9 dX0_setWeight_9 ?_
    refine e_iload_n dX0_setWeight_12 rfl rfl ?_
    refine e_iload_n dX0_setWeight_13 rfl rfl ?_
    refine ch_s1 x0 (by omega) dX0_setWeight_14 ?_
    exact e_vret rfl dX0_setWeight_15 (⟨rfl, rfl⟩)
set_option maxRecDepth 20000 in
theorem ct_X0_displace {y : Int32} (x0 : 0 ≤ x.toInt) (x1 : x.toInt < sM σ) (hm : sOk σ) : ev_Ct G l mX0_displace 2 0 0 [.ref c, .int x, .int y] (ch G c σ h) (fun v a => v = none ∧ a = ch G c (cs_A σ 1 (ev_u (σ.2.2 1) x.toInt.toNat y)) h) (fun _ _ => False) := by
  refine ev_Ct.of (by decide +kernel) (Nat.le_of_ble_eq_true rfl) ?_
  have hm2 := hm.2
  unfold sM at x1 hm2
  refine e_aload_n dX0_displace_0 rfl rfl ?_
  refine e_iload_n dX0_displace_1 rfl rfl ?_
  refine e_invV (mcY := 0) (msY := 0) (ct_X0_hasMass x0 x1 hm) vX0_hasMass wM_X0_98 (ch_at G c _ h 0 (by decide)) rfl dX0_displace_2 rfl rfl (Nat.le_of_ble_eq_true rfl) (Nat.le_of_ble_eq_true rfl) ?_
  rintro _ _ ⟨rfl, rfl⟩
  refine e_if_eq (tgt := 15) dX0_displace_5 (by decide) (fun c5 => ?_) (fun c5 => ?_)
  · exact absurd c5 (by decide)
  · refine e_aload_n dX0_displace_8 rfl rfl ?_
    refine ch_g0_9 wF_X0_15 dX0_displace_9 ?_
    refine e_iload_n dX0_displace_12 rfl rfl ?_
    refine e_iload_n dX0_displace_13 rfl rfl ?_
    refine ch_s2 x0 (by omega) dX0_displace_14 ?_
    exact e_vret rfl dX0_displace_15 (⟨rfl, rfl⟩)
set_option maxRecDepth 20000 in
theorem ct_X0_putMomentum {y : Int32} (x0 : 0 ≤ x.toInt) (x1 : x.toInt < sM σ) (hm : sOk σ) : ev_Ct G l mX0_putMomentum 2 0 0 [.ref c, .int x, .int y] (ch G c σ h) (fun v a => v = none ∧ a = ch G c (cs_A σ 2 (ev_u (σ.2.2 2) x.toInt.toNat y)) h) (fun _ _ => False) := by
  refine ev_Ct.of (by decide +kernel) (Nat.le_of_ble_eq_true rfl) ?_
  have hm2 := hm.2
  unfold sM at x1 hm2
  refine e_aload_n dX0_putMomentum_0 rfl rfl ?_
  refine e_iload_n dX0_putMomentum_1 rfl rfl ?_
  refine e_invV (mcY := 0) (msY := 0) (ct_X0_hasMass x0 x1 hm) vX0_hasMass wM_X0_98 (ch_at G c _ h 0 (by decide)) rfl dX0_putMomentum_2 rfl rfl (Nat.le_of_ble_eq_true rfl) (Nat.le_of_ble_eq_true rfl) ?_
  rintro _ _ ⟨rfl, rfl⟩
  refine e_if_eq (tgt := 15) dX0_putMomentum_5 (by decide) (fun c5 => ?_) (fun c5 => ?_)
  · exact absurd c5 (by decide)
  · refine e_aload_n dX0_putMomentum_8 rfl rfl ?_
    refine ch_g0_10 wF_X0_18 dX0_putMomentum_9 ?_
    refine e_iload_n dX0_putMomentum_12 rfl rfl ?_
    refine e_iload_n dX0_putMomentum_13 rfl rfl ?_
    refine ch_s3 x0 (by omega) dX0_putMomentum_14 ?_
    exact e_vret rfl dX0_putMomentum_15 (⟨rfl, rfl⟩)
set_option maxRecDepth 20000 in
theorem ct_X0_setStiffness {y : Int32} (x0 : 0 ≤ x.toInt) (x1 : x.toInt ≤ sM σ) (hm : sOk σ) : ev_Ct G l mX0_setStiffness 2 0 0 [.ref c, .int x, .int y] (ch G c σ h) (fun v a => v = none ∧ a = ch G c (cs_A σ 3 (ev_u (σ.2.2 3) x.toInt.toNat y)) h) (fun _ _ => False) := by
  refine ev_Ct.of (by decide +kernel) (Nat.le_of_ble_eq_true rfl) ?_
  have hm2 := hm.2
  unfold sM at x1 hm2
  refine e_aload_n dX0_setStiffness_0 rfl rfl ?_
  refine e_iload_n dX0_setStiffness_1 rfl rfl ?_
  refine e_invV (mcY := 0) (msY := 0) (ct_X0_hasSpring x0 x1 hm) vX0_hasSpring wM_X0_109 (ch_at G c _ h 0 (by decide)) rfl dX0_setStiffness_2 rfl rfl (Nat.le_of_ble_eq_true rfl) (Nat.le_of_ble_eq_true rfl) ?_
  rintro _ _ ⟨rfl, rfl⟩
  refine e_if_eq (tgt := 15) dX0_setStiffness_5 (by decide) (fun c5 => ?_) (fun c5 => ?_)
  · exact absurd c5 (by decide)
  · refine e_aload_n dX0_setStiffness_8 rfl rfl ?_
    refine ch_g0_11 wF_X0_21 dX0_setStiffness_9 ?_
    refine e_iload_n dX0_setStiffness_12 rfl rfl ?_
    refine e_iload_n dX0_setStiffness_13 rfl rfl ?_
    refine ch_s4 x0 (by omega) dX0_setStiffness_14 ?_
    exact e_vret rfl dX0_setStiffness_15 (⟨rfl, rfl⟩)
set_option maxRecDepth 20000 in
theorem ct_X0_setLimit {y : Int32} (x0 : 0 ≤ x.toInt) (x1 : x.toInt ≤ sM σ) (hm : sOk σ) : ev_Ct G l mX0_setLimit 2 0 0 [.ref c, .int x, .int y] (ch G c σ h) (fun v a => v = none ∧ a = ch G c (cs_A σ 4 (ev_u (σ.2.2 4) x.toInt.toNat y)) h) (fun _ _ => False) := by
  refine ev_Ct.of (by decide +kernel) (Nat.le_of_ble_eq_true rfl) ?_
  have hm2 := hm.2
  unfold sM at x1 hm2
  refine e_aload_n dX0_setLimit_0 rfl rfl ?_
  refine e_iload_n dX0_setLimit_1 rfl rfl ?_
  refine e_invV (mcY := 0) (msY := 0) (ct_X0_hasSpring x0 x1 hm) vX0_hasSpring wM_X0_109 (ch_at G c _ h 0 (by decide)) rfl dX0_setLimit_2 rfl rfl (Nat.le_of_ble_eq_true rfl) (Nat.le_of_ble_eq_true rfl) ?_
  rintro _ _ ⟨rfl, rfl⟩
  refine e_if_eq (tgt := 15) dX0_setLimit_5 (by decide) (fun c5 => ?_) (fun c5 => ?_)
  · exact absurd c5 (by decide)
  · refine e_aload_n dX0_setLimit_8 rfl rfl ?_
    refine ch_g0_12 wF_X0_24 dX0_setLimit_9 ?_
    refine e_iload_n dX0_setLimit_12 rfl rfl ?_
    refine e_iload_n dX0_setLimit_13 rfl rfl ?_
    refine ch_s5 x0 (by omega) dX0_setLimit_14 ?_
    exact e_vret rfl dX0_setLimit_15 (⟨rfl, rfl⟩)
set_option maxRecDepth 20000 in
theorem ct_X0_setBroken {y : Int32} (x0 : 0 ≤ x.toInt) (x1 : x.toInt ≤ sM σ) (hm : sOk σ) : ev_Ct G l mX0_setBroken 2 0 0 [.ref c, .int x, .int y] (ch G c σ h) (fun v a => v = none ∧ a = ch G c (cs_A σ 5 (ev_u (σ.2.2 5) x.toInt.toNat (vp_nar .boolean y))) h) (fun _ _ => False) := by
  refine ev_Ct.of (by decide +kernel) (Nat.le_of_ble_eq_true rfl) ?_
  have hm2 := hm.2
  unfold sM at x1 hm2
  refine e_aload_n dX0_setBroken_0 rfl rfl ?_
  refine e_iload_n dX0_setBroken_1 rfl rfl ?_
  refine e_invV (mcY := 0) (msY := 0) (ct_X0_hasSpring x0 x1 hm) vX0_hasSpring wM_X0_109 (ch_at G c _ h 0 (by decide)) rfl dX0_setBroken_2 rfl rfl (Nat.le_of_ble_eq_true rfl) (Nat.le_of_ble_eq_true rfl) ?_
  rintro _ _ ⟨rfl, rfl⟩
  refine e_if_eq (tgt := 15) dX0_setBroken_5 (by decide) (fun c5 => ?_) (fun c5 => ?_)
  · exact absurd c5 (by decide)
  · refine e_aload_n dX0_setBroken_8 rfl rfl ?_
    refine ch_g0_13 wF_X0_27 dX0_setBroken_9 ?_
    refine e_iload_n dX0_setBroken_12 rfl rfl ?_
    refine e_iload_n dX0_setBroken_13 rfl rfl ?_
    refine ch_s6 x0 (by omega) dX0_setBroken_14 ?_
    exact e_vret rfl dX0_setBroken_15 (⟨rfl, rfl⟩)
set_option maxRecDepth 20000 in
theorem ct_X0_setEnd {z y : Int32} : ev_Ct G l mX0_setEnd 1 0 0 [.ref c, .int z, .int y] (ch G c σ h) (fun v a => v = none ∧ a = ch G c (if z = 0 then cs_I σ 3 y else cs_I σ 4 y) h) (fun _ _ => False) := by
  refine ev_Ct.of (by decide +kernel) (Nat.le_of_ble_eq_true rfl) ?_
  refine e_iload_n dX0_setEnd_0 rfl rfl ?_
  refine e_if_eq (tgt := 12) dX0_setEnd_1 (by decide) (fun c1 => ?_) (fun c1 => ?_)
  · refine e_aload_n dX0_setEnd_12 rfl rfl ?_
    refine e_iload_n dX0_setEnd_13 rfl rfl ?_
    refine ch_p0_3 wF_X0_75 dX0_setEnd_14 ?_
    exact e_vret rfl dX0_setEnd_17 (⟨rfl, by simp [*]⟩)
  · refine e_aload_n dX0_setEnd_4 rfl rfl ?_
    refine e_iload_n dX0_setEnd_5 rfl rfl ?_
    refine ch_p0_4 wF_X0_78 dX0_setEnd_6 ?_
    refine e_goto (tgt := 17) dX0_setEnd_9 (by decide) ?_
    exact e_vret rfl dX0_setEnd_17 (⟨rfl, by simp [*]⟩)
set_option maxRecDepth 20000 in
theorem ct_X0_isOverstretched (x0 : 0 ≤ x.toInt) (x1 : x.toInt ≤ sM σ) (hm : sOk σ) : ev_Ct G l mX0_isOverstretched 4 0 0 [.ref c, .int x] (ch G c σ h) (fun v a => v = some (.int (if σ.2.2 4 x.toInt.toNat ≠ 0 ∧ (σ.2.2 4 x.toInt.toNat).toInt < (if 0 ≤ sStr σ x.toInt.toNat then sStr σ x.toInt.toNat else 0 - sStr σ x.toInt.toNat).toInt then 1 else 0)) ∧ a = ch G c σ h) (fun _ _ => False) := by
  refine ev_Ct.of (by decide +kernel) (Nat.le_of_ble_eq_true rfl) ?_
  refine e_aload_n dX0_isOverstretched_0 rfl rfl ?_
  refine e_iload_n dX0_isOverstretched_1 rfl rfl ?_
  refine e_invV (mcY := 0) (msY := 0) (ct_X0_limitOf x0 x1 hm) vX0_limitOf wM_X0_211 (ch_at G c _ h 0 (by decide)) rfl dX0_isOverstretched_2 rfl rfl (Nat.le_of_ble_eq_true rfl) (Nat.le_of_ble_eq_true rfl) ?_
  rintro _ _ ⟨rfl, rfl⟩
  refine e_istore_n dX0_isOverstretched_5 rfl (Nat.le_of_ble_eq_true rfl) ?_
  refine e_iload_n dX0_isOverstretched_6 rfl rfl ?_
  refine e_if_eq (tgt := 26) dX0_isOverstretched_7 (by decide) (fun c7 => ?_) (fun c7 => ?_)
  · refine e_iconst (v := 0) dX0_isOverstretched_26 (by decide) ?_
    exact e_zret (ty := .boolean) rfl rfl dX0_isOverstretched_27 (⟨by
          first
            | (rw [if_pos ⟨by assumption, by assumption⟩]; done)
            | (rw [if_neg (fun q => q.1 (by assumption))]; done)
            | (rw [if_neg (fun q => by have := q.2; omega)]; done), rfl⟩)
  · refine e_aload_n dX0_isOverstretched_10 rfl rfl ?_
    refine e_iload_n dX0_isOverstretched_11 rfl rfl ?_
    refine e_invV (mcY := 0) (msY := 0) (ct_X0_stretchOf x0 x1 hm) vX0_stretchOf wM_X0_121 (ch_at G c _ h 0 (by decide)) rfl dX0_isOverstretched_12 rfl rfl (Nat.le_of_ble_eq_true rfl) (Nat.le_of_ble_eq_true rfl) ?_
    rintro _ _ ⟨rfl, rfl⟩
    refine e_mabs wM_X0_214 (Nat.le_of_ble_eq_true rfl) (Nat.le_of_ble_eq_true rfl) dX0_isOverstretched_15 ?_
    refine e_iload_n dX0_isOverstretched_18 rfl rfl ?_
    refine e_icmp_le (tgt := 26) dX0_isOverstretched_19 (by decide) (fun c19 => ?_) (fun c19 => ?_)
    · refine e_iconst (v := 0) dX0_isOverstretched_26 (by decide) ?_
      exact e_zret (ty := .boolean) rfl rfl dX0_isOverstretched_27 (⟨by
            first
              | (rw [if_pos ⟨by assumption, by assumption⟩]; done)
              | (rw [if_neg (fun q => q.1 (by assumption))]; done)
              | (rw [if_neg (fun q => by have := q.2; omega)]; done), rfl⟩)
    · refine e_iconst (v := 1) dX0_isOverstretched_22 (by decide) ?_
      refine e_goto (tgt := 27) dX0_isOverstretched_23 (by decide) ?_
      exact e_zret (ty := .boolean) rfl rfl dX0_isOverstretched_27 (⟨by
            first
              | (rw [if_pos ⟨by assumption, by assumption⟩]; done)
              | (rw [if_neg (fun q => q.1 (by assumption))]; done)
              | (rw [if_neg (fun q => by have := q.2; omega)]; done), rfl⟩)
end K1
