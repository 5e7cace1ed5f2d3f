/-! the chain's loops -/
def acc32 (z : Int32) (f : Nat → Int32) : Nat → Int32
  | 0 => z
  | n + 1 => acc32 z f n + f n
def accL (z : Int64) (f : Nat → Int64) : Nat → Int64
  | 0 => z
  | n + 1 => accL z f n + f n
/-- the first i places by g, the others as they were -/
def fillTo (i : Nat) (g F : Nat → Int32) : Nat → Int32 := fun j => if j < i then g j else F j
theorem fillTo_0 (g F : Nat → Int32) : fillTo 0 g F = F := by funext j; simp [fillTo]
theorem fillTo_up (i : Nat) (g F : Nat → Int32) (v : Int32) (hv : v = g i) : ev_u (fillTo i g F) i v = fillTo (i + 1) g F := by
  funext j
  by_cases h : j = i
  · subst h; simp [ev_u, fillTo, hv]
  · by_cases h2 : j < i
    · simp [ev_u, fillTo, h, h2, Nat.lt_succ_of_lt h2]
    · simp [ev_u, fillTo, h, h2, show ¬ j < i + 1 by omega]
theorem fillTo_at (i : Nat) (g F : Nat → Int32) : fillTo i g F i = F i := by simp [fillTo]
theorem cs_A_self (σ : CS) (k : Nat) : cs_A σ k (σ.2.2 k) = σ := by
  refine Prod.ext rfl (Prod.ext rfl (funext fun j => ?_))
  by_cases h : j = k
  · subst h; simp [cs_A, ev_u]
  · simp [cs_A, ev_u, h]
theorem cs_A_A (σ : CS) (k : Nat) (f g : Nat → Int32) : cs_A (cs_A σ k f) k g = cs_A σ k g := by
  refine Prod.ext rfl (Prod.ext rfl (funext fun j => ?_))
  by_cases h : j = k <;> simp [cs_A, ev_u, h]
theorem cs_A_get (σ : CS) (k : Nat) (f : Nat → Int32) : (cs_A σ k f).2.2 k = f := by simp [cs_A, ev_u]
theorem cs_J_J (σ : CS) (k : Nat) (f g : Int64) : cs_J (cs_J σ k f) k g = cs_J σ k g := by
  refine Prod.ext rfl (Prod.ext (funext fun j => ?_) rfl)
  by_cases h : j = k <;> simp [cs_J, ev_u, h]
theorem cs_J_get (σ : CS) (k : Nat) (f : Int64) : (cs_J σ k f).2.1 k = f := by simp [cs_J, ev_u]
theorem cs_A_J (σ : CS) (k j : Nat) (f : Nat → Int32) (g : Int64) : cs_A (cs_J σ j g) k f = cs_J (cs_A σ k f) j g := rfl
theorem cs_J_self (σ : CS) (k : Nat) : cs_J σ k (σ.2.1 k) = σ := by
  refine Prod.ext rfl (Prod.ext (funext fun j => ?_) rfl)
  by_cases h : j = k
  · subst h; simp [cs_J, ev_u]
  · simp [cs_J, ev_u, h]
section K2
variable {G : ev_G} {l : Launch} {c : Nat} {σ : CS} {h : ev_H} {x y : Int32}
set_option maxRecDepth 20000 in
theorem ct_X6_limited {z : Int64} {y : Int32} {b : ev_H} : ev_Ct G l mX6_limited 2 0 0 [.long z, .int y] (b) (fun v a => v = some (.int (sLim z y)) ∧ a = b) (fun _ _ => False) := by
  refine ev_Ct.of (by decide +kernel) (Nat.le_of_ble_eq_true rfl) ?_
  refine e_iload_n dX6_limited_0 rfl rfl ?_
  refine e_ineg dX6_limited_1 ?_
  refine e_i2l dX6_limited_2 ?_
  refine e_iload_n dX6_limited_3 rfl rfl ?_
  refine e_i2l dX6_limited_4 ?_
  refine e_lload_n dX6_limited_5 rfl rfl ?_
  refine e_mminL wM_X6_218 (Nat.le_of_ble_eq_true rfl) (Nat.le_of_ble_eq_true rfl) dX6_limited_6 ?_
  refine e_mmaxL wM_X6_222 (Nat.le_of_ble_eq_true rfl) (Nat.le_of_ble_eq_true rfl) dX6_limited_9 ?_
  refine e_l2i dX6_limited_12 ?_
  exact e_iret rfl dX6_limited_13 (⟨rfl, rfl⟩)
theorem ct_limited {J : ev_K} : True := trivial
def sHit (σ : CS) (j : Nat) (y : Int32) : CS := cs_J (cs_A σ 2 (ev_u (σ.2.2 2) j (sLim ((σ.2.2 2 j).toInt64 + y.toInt64) 100000000))) 2 (σ.2.1 2 + (sLim ((σ.2.2 2 j).toInt64 + y.toInt64) 100000000 - σ.2.2 2 j).toInt64)
set_option maxRecDepth 20000 in
theorem ct_X0_hit (x0 : 0 ≤ x.toInt) (x1 : x.toInt < sM σ) (hm : sOk σ) : ev_Ct G l mX0_hit 3 0 0 [.ref c, .int x, .int y] (ch G c σ h) (fun v a => v = none ∧ a = ch G c (sHit σ x.toInt.toNat y) h) (fun _ _ => False) := by
  refine ev_Ct.of (by decide +kernel) (Nat.le_of_ble_eq_true rfl) ?_
  have hm2 := hm.2
  unfold sM at x1 hm2
  refine e_aload_n dX0_hit_0 rfl rfl ?_
  refine e_iload_n dX0_hit_1 rfl rfl ?_
  refine e_invV (mcY := 0) (msY := 0) (ct_X0_momentumOf x0 x1 hm) vX0_momentumOf wM_X0_106 (ch_at G c _ h 0 (by decide)) rfl dX0_hit_2 rfl rfl (Nat.le_of_ble_eq_true rfl) (Nat.le_of_ble_eq_true rfl) ?_
  rintro _ _ ⟨rfl, rfl⟩
  refine e_istore_n dX0_hit_5 rfl (Nat.le_of_ble_eq_true rfl) ?_
  refine e_aload_n dX0_hit_6 rfl rfl ?_
  refine e_iload_n dX0_hit_7 rfl rfl ?_
  refine e_iload_n dX0_hit_8 rfl rfl ?_
  refine e_i2l dX0_hit_9 ?_
  refine e_iload_n dX0_hit_10 rfl rfl ?_
  refine e_i2l dX0_hit_11 ?_
  refine e_ladd dX0_hit_12 ?_
  refine e_ldc dX0_hit_13 wK_X0_130 ?_
  refine e_invN (host := "SpringChain") (mcY := 0) (msY := 0) (ct_X6_limited) vX6_limited (ev_nw_ok 784 (by decide +kernel) rfl) dX0_hit_15 rfl rfl (Nat.le_of_ble_eq_true rfl) (Nat.le_of_ble_eq_true rfl) ?_
  rintro _ _ ⟨rfl, rfl⟩
  refine e_invV (mcY := 0) (msY := 0) (ct_X0_putMomentum x0 x1 hm) vX0_putMomentum wM_X0_135 (ch_at G c _ h 0 (by decide)) rfl dX0_hit_18 rfl rfl (Nat.le_of_ble_eq_true rfl) (Nat.le_of_ble_eq_true rfl) ?_
  rintro _ _ ⟨rfl, rfl⟩
  refine e_aload_n dX0_hit_21 rfl rfl ?_
  refine ch_g0_5 wF_X0_34 dX0_hit_22 ?_
  refine e_dup dX0_hit_25 rfl ?_
  refine ch_g3_2 wF_X0_139 dX0_hit_26 ?_
  refine e_aload_n dX0_hit_29 rfl rfl ?_
  refine e_iload_n dX0_hit_30 rfl rfl ?_
  refine e_invV (mcY := 0) (msY := 0) (ct_X0_momentumOf (σ := (cs_A σ 2 (ev_u (σ.2.2 2) x.toInt.toNat (sLim ((σ.2.2 2 x.toInt.toNat).toInt64 + y.toInt64) 100000000)))) x0 x1 hm) vX0_momentumOf wM_X0_106 (ch_at G c _ h 0 (by decide)) rfl dX0_hit_31 rfl rfl (Nat.le_of_ble_eq_true rfl) (Nat.le_of_ble_eq_true rfl) ?_
  rintro _ _ ⟨rfl, rfl⟩
  refine e_iload_n dX0_hit_34 rfl rfl ?_
  refine e_isub dX0_hit_35 ?_
  refine e_i2l dX0_hit_36 ?_
  refine e_ladd dX0_hit_37 ?_
  refine ch_p3_2 wF_X0_139 dX0_hit_38 ?_
  exact e_vret rfl dX0_hit_41 (⟨rfl, by
      unfold sHit
      have e : (cs_A σ 2 (ev_u (σ.2.2 2) x.toInt.toNat (sLim ((σ.2.2 2 x.toInt.toNat).toInt64 + y.toInt64) 100000000))).2.2 2 x.toInt.toNat = (sLim ((σ.2.2 2 x.toInt.toNat).toInt64 + y.toInt64) 100000000) := by rw [cs_A_get, ev_u_self]
      rw [e]
      rfl⟩)
set_option maxRecDepth 20000 in
theorem lp_setAllWeights {J : ev_K} {k n : Nat} (hJ : 1 ≤ J.2.2.1)  (hk : ev_V G l mX0_setAllWeights J 21 [] [] (ch G c (cs_A σ 0 (fillTo 12 (fun _ => y) (σ.2.2 0))) h) k n) : ∀ (r i : Nat) (x : Int32), r + i = 12 → x.toInt = (i : Int) → ev_V G l mX0_setAllWeights J 2 [some (.ref c), some (.int y), some (.int x)] [] (ch G c (cs_A σ 0 (fillTo i (fun _ => y) (σ.2.2 0))) h) k n := by
  intro r
  induction r using Nat.strongRecOn with
  | ind r ih =>
    intro i x
    intro hr hx
    have hn : x.toInt.toNat = i := ar_nat hx
    have hc := ar_12
    refine e_iload_n dX0_setAllWeights_2 rfl rfl ?_
    refine e_bipush (v := 12) dX0_setAllWeights_3 (by decide) ?_
    refine e_icmp_ge (tgt := 21) dX0_setAllWeights_5 (by decide) (fun c5 => ?_) (fun c5 => ?_)
    · obtain rfl : i = 12 := by omega
      exact ev_lc hk trivial
    · refine e_aload_n dX0_setAllWeights_8 rfl rfl ?_
      refine ch_g0_8 wF_X0_9 dX0_setAllWeights_9 ?_
      refine e_iload_n dX0_setAllWeights_12 rfl rfl ?_
      refine e_iload_n dX0_setAllWeights_13 rfl rfl ?_
      refine ch_s1 (by omega) (by omega) dX0_setAllWeights_14 ?_
      refine e_iinc dX0_setAllWeights_15 rfl rfl (Nat.le_of_ble_eq_true rfl) ?_
      refine e_goto (tgt := 2) dX0_setAllWeights_18 (by decide) ?_
      refine ev_as ?_ (ih (r - 1) (by omega) (i + 1) _ (by omega) (ar_inc hx (by omega)))
      rw [cs_A_get, cs_A_A, hn, fillTo_up _ _ _ _ rfl]
set_option maxRecDepth 20000 in
theorem ct_X0_setAllWeights  : ev_Ct G l mX0_setAllWeights 1 0 0 [.ref c, .int y] (ch G c σ h) (fun v a => v = none ∧ a = ch G c (cs_A σ 0 (fillTo 12 (fun _ => y) (σ.2.2 0))) h) (fun _ _ => False) := by
  refine ev_Ct.of (by decide +kernel) (Nat.le_of_ble_eq_true rfl) ?_
  refine e_iconst (v := 0) dX0_setAllWeights_0 (by decide) ?_
  refine e_istore_n dX0_setAllWeights_1 rfl (Nat.le_of_ble_eq_true rfl) ?_
  refine ev_as (a' := ch G c (cs_A σ 0 (fillTo 0 (fun _ => y) (σ.2.2 0))) h) (by rw [fillTo_0, cs_A_self]) ?_
  refine ev_loc (L' := [some (.ref c), some (.int y), some (.int 0)]) ⟨rfl, rfl, rfl, trivial⟩ ?_
  refine lp_setAllWeights (Nat.le_refl _) ?_ 12 0 0 rfl ar_0
  exact e_vret rfl dX0_setAllWeights_21 ⟨rfl, rfl⟩
set_option maxRecDepth 20000 in
theorem lp_setAllStiffnesses {J : ev_K} {k n : Nat} (hJ : 1 ≤ J.2.2.1)  (hk : ev_V G l mX0_setAllStiffnesses J 21 [] [] (ch G c (cs_A σ 3 (fillTo 13 (fun _ => y) (σ.2.2 3))) h) k n) : ∀ (r i : Nat) (x : Int32), r + i = 13 → x.toInt = (i : Int) → ev_V G l mX0_setAllStiffnesses J 2 [some (.ref c), some (.int y), some (.int x)] [] (ch G c (cs_A σ 3 (fillTo i (fun _ => y) (σ.2.2 3))) h) k n := by
  intro r
  induction r using Nat.strongRecOn with
  | ind r ih =>
    intro i x
    intro hr hx
    have hn : x.toInt.toNat = i := ar_nat hx
    have hc := ar_13
    refine e_iload_n dX0_setAllStiffnesses_2 rfl rfl ?_
    refine e_bipush (v := 13) dX0_setAllStiffnesses_3 (by decide) ?_
    refine e_icmp_ge (tgt := 21) dX0_setAllStiffnesses_5 (by decide) (fun c5 => ?_) (fun c5 => ?_)
    · obtain rfl : i = 13 := by omega
      exact ev_lc hk trivial
    · refine e_aload_n dX0_setAllStiffnesses_8 rfl rfl ?_
      refine ch_g0_11 wF_X0_21 dX0_setAllStiffnesses_9 ?_
      refine e_iload_n dX0_setAllStiffnesses_12 rfl rfl ?_
      refine e_iload_n dX0_setAllStiffnesses_13 rfl rfl ?_
      refine ch_s4 (by omega) (by omega) dX0_setAllStiffnesses_14 ?_
      refine e_iinc dX0_setAllStiffnesses_15 rfl rfl (Nat.le_of_ble_eq_true rfl) ?_
      refine e_goto (tgt := 2) dX0_setAllStiffnesses_18 (by decide) ?_
      refine ev_as ?_ (ih (r - 1) (by omega) (i + 1) _ (by omega) (ar_inc hx (by omega)))
      rw [cs_A_get, cs_A_A, hn, fillTo_up _ _ _ _ rfl]
set_option maxRecDepth 20000 in
theorem ct_X0_setAllStiffnesses  : ev_Ct G l mX0_setAllStiffnesses 1 0 0 [.ref c, .int y] (ch G c σ h) (fun v a => v = none ∧ a = ch G c (cs_A σ 3 (fillTo 13 (fun _ => y) (σ.2.2 3))) h) (fun _ _ => False) := by
  refine ev_Ct.of (by decide +kernel) (Nat.le_of_ble_eq_true rfl) ?_
  refine e_iconst (v := 0) dX0_setAllStiffnesses_0 (by decide) ?_
  refine e_istore_n dX0_setAllStiffnesses_1 rfl (Nat.le_of_ble_eq_true rfl) ?_
  refine ev_as (a' := ch G c (cs_A σ 3 (fillTo 0 (fun _ => y) (σ.2.2 3))) h) (by rw [fillTo_0, cs_A_self]) ?_
  refine ev_loc (L' := [some (.ref c), some (.int y), some (.int 0)]) ⟨rfl, rfl, rfl, trivial⟩ ?_
  refine lp_setAllStiffnesses (Nat.le_refl _) ?_ 13 0 0 rfl ar_0
  exact e_vret rfl dX0_setAllStiffnesses_21 ⟨rfl, rfl⟩
def sBrk (σ : CS) (s : Nat) : Int32 := if σ.2.2 5 s = 0 then 0 else 1
def sRest (σ : CS) (j : Nat) : Int32 := if σ.2.2 2 j = 0 then 1 else 0
def sPcs (σ : CS) (s : Nat) : Int32 := if s = 0 then 1 else if σ.2.2 5 s = 0 ∧ σ.2.2 3 s ≠ 0 then 0 else 1
/-- the weights are no 0 -/
def sWt (σ : CS) : Prop := ∀ j, j < sNm σ → 1 ≤ (σ.2.2 0 j).toInt ∧ (σ.2.2 0 j).toInt ≤ 99
set_option maxRecDepth 20000 in
theorem lp_countBroken {J : ev_K} {k n : Nat} (hJ : 4 ≤ J.2.2.1) (hm : sOk σ) (hk : ∀ y : Int32, y = acc32 0 (sBrk σ) (sNm σ + 1) → ev_V G l mX0_countBroken J 34 [none, some (.int y)] [] (ch G c σ h) k n) : ∀ (r i : Nat) (x : Int32) (y : Int32), r + i = sNm σ + 1 → x.toInt = (i : Int) → y = acc32 0 (sBrk σ) i → ev_V G l mX0_countBroken J 4 [some (.ref c), some (.int y), some (.int x)] [] (ch G c σ h) k n := by
  intro r
  induction r using Nat.strongRecOn with
  | ind r ih =>
    intro i x y
    intro hr hx hy
    have hn : x.toInt.toNat = i := ar_nat hx
    have hmn := hm.nat
    have hmu : (σ.1 0).toInt = sM σ := rfl
    refine e_iload_n dX0_countBroken_4 rfl rfl ?_
    refine e_aload_n dX0_countBroken_5 rfl rfl ?_
    refine ch_g0_0 wF_X0_65 dX0_countBroken_6 ?_
    refine e_icmp_gt (tgt := 34) dX0_countBroken_9 (by decide) (fun c9 => ?_) (fun c9 => ?_)
    · obtain rfl : i = sNm σ + 1 := by omega
      exact ev_lc (hk y (by rw [hy])) ⟨rfl, trivial⟩
    · refine e_iload_n dX0_countBroken_12 rfl rfl ?_
      refine e_aload_n dX0_countBroken_13 rfl rfl ?_
      refine e_iload_n dX0_countBroken_14 rfl rfl ?_
      refine e_invV (mcY := 0) (msY := 0) (ct_X0_isBroken (by omega) (by omega) hm) vX0_isBroken wM_X0_115 (ch_at G c _ h 0 (by decide)) rfl dX0_countBroken_15 rfl rfl (Nat.le_of_ble_eq_true rfl) (Nat.le_trans (Nat.le_of_ble_eq_true rfl) hJ) ?_
      rintro _ _ ⟨rfl, rfl⟩
      refine e_if_eq (tgt := 25) dX0_countBroken_18 (by decide) (fun c18 => ?_) (fun c18 => ?_)
      · rw [ar_ite0, hn] at c18
        refine e_iconst (v := 0) dX0_countBroken_25 (by decide) ?_
        refine e_iadd dX0_countBroken_26 ?_
        refine e_istore_n dX0_countBroken_27 rfl (Nat.le_of_ble_eq_true rfl) ?_
        refine e_iinc dX0_countBroken_28 rfl rfl (Nat.le_of_ble_eq_true rfl) ?_
        refine e_goto (tgt := 4) dX0_countBroken_31 (by decide) ?_
        refine ih (r - 1) (by omega) (i + 1) _ _ (by omega) (ar_inc hx (by omega)) ?_
        rw [hy]
        show _ = acc32 0 (sBrk σ) i + sBrk σ i
        congr 1
        unfold sBrk
        first | rw [if_pos c18] | rw [if_neg c18]
      · rw [ar_ite0, hn] at c18
        refine e_iconst (v := 1) dX0_countBroken_21 (by decide) ?_
        refine e_goto (tgt := 26) dX0_countBroken_22 (by decide) ?_
        refine e_iadd dX0_countBroken_26 ?_
        refine e_istore_n dX0_countBroken_27 rfl (Nat.le_of_ble_eq_true rfl) ?_
        refine e_iinc dX0_countBroken_28 rfl rfl (Nat.le_of_ble_eq_true rfl) ?_
        refine e_goto (tgt := 4) dX0_countBroken_31 (by decide) ?_
        refine ih (r - 1) (by omega) (i + 1) _ _ (by omega) (ar_inc hx (by omega)) ?_
        rw [hy]
        show _ = acc32 0 (sBrk σ) i + sBrk σ i
        congr 1
        unfold sBrk
        first | rw [if_pos c18] | rw [if_neg c18]
set_option maxRecDepth 20000 in
theorem ct_X0_countBroken (hm : sOk σ) : ev_Ct G l mX0_countBroken 4 0 0 [.ref c] (ch G c σ h) (fun v a => v = some (.int (acc32 0 (sBrk σ) (sNm σ + 1))) ∧ a = ch G c σ h) (fun _ _ => False) := by
  refine ev_Ct.of (by decide +kernel) (Nat.le_of_ble_eq_true rfl) ?_
  have hmn := hm.nat
  have hmu : (σ.1 0).toInt = sM σ := rfl
  refine e_iconst (v := 0) dX0_countBroken_0 (by decide) ?_
  refine e_istore_n dX0_countBroken_1 rfl (Nat.le_of_ble_eq_true rfl) ?_
  refine e_iconst (v := 0) dX0_countBroken_2 (by decide) ?_
  refine e_istore_n dX0_countBroken_3 rfl (Nat.le_of_ble_eq_true rfl) ?_
  refine ev_loc (L' := [some (.ref c), some (.int 0), some (.int 0)]) ⟨rfl, rfl, rfl, trivial⟩ ?_
  exact lp_countBroken (Nat.le_refl _) hm (fun y hy => by
      subst hy
      exact e_iload_n dX0_countBroken_34 rfl rfl (e_iret rfl dX0_countBroken_35 ⟨rfl, rfl⟩)) (sNm σ + 1 - 0) 0 _ _ (by omega) ar_0 rfl
set_option maxRecDepth 20000 in
theorem lp_countResting {J : ev_K} {k n : Nat} (hJ : 4 ≤ J.2.2.1) (hm : sOk σ) (hk : ∀ y : Int32, y = acc32 0 (sRest σ) (sNm σ) → ev_V G l mX0_countResting J 34 [none, some (.int y)] [] (ch G c σ h) k n) : ∀ (r i : Nat) (x : Int32) (y : Int32), r + i = sNm σ → x.toInt = (i : Int) → y = acc32 0 (sRest σ) i → ev_V G l mX0_countResting J 4 [some (.ref c), some (.int y), some (.int x)] [] (ch G c σ h) k n := by
  intro r
  induction r using Nat.strongRecOn with
  | ind r ih =>
    intro i x y
    intro hr hx hy
    have hn : x.toInt.toNat = i := ar_nat hx
    have hmn := hm.nat
    have hmu : (σ.1 0).toInt = sM σ := rfl
    refine e_iload_n dX0_countResting_4 rfl rfl ?_
    refine e_aload_n dX0_countResting_5 rfl rfl ?_
    refine ch_g0_0 wF_X0_65 dX0_countResting_6 ?_
    refine e_icmp_ge (tgt := 34) dX0_countResting_9 (by decide) (fun c9 => ?_) (fun c9 => ?_)
    · obtain rfl : i = sNm σ := by omega
      exact ev_lc (hk y (by rw [hy])) ⟨rfl, trivial⟩
    · refine e_iload_n dX0_countResting_12 rfl rfl ?_
      refine e_aload_n dX0_countResting_13 rfl rfl ?_
      refine e_iload_n dX0_countResting_14 rfl rfl ?_
      refine e_invV (mcY := 0) (msY := 0) (ct_X0_momentumOf (by omega) (by omega) hm) vX0_momentumOf wM_X0_106 (ch_at G c _ h 0 (by decide)) rfl dX0_countResting_15 rfl rfl (Nat.le_of_ble_eq_true rfl) (Nat.le_trans (Nat.le_of_ble_eq_true rfl) hJ) ?_
      rintro _ _ ⟨rfl, rfl⟩
      refine e_if_ne (tgt := 25) dX0_countResting_18 (by decide) (fun c18 => ?_) (fun c18 => ?_)
      · rw [hn] at c18
        refine e_iconst (v := 0) dX0_countResting_25 (by decide) ?_
        refine e_iadd dX0_countResting_26 ?_
        refine e_istore_n dX0_countResting_27 rfl (Nat.le_of_ble_eq_true rfl) ?_
        refine e_iinc dX0_countResting_28 rfl rfl (Nat.le_of_ble_eq_true rfl) ?_
        refine e_goto (tgt := 4) dX0_countResting_31 (by decide) ?_
        refine ih (r - 1) (by omega) (i + 1) _ _ (by omega) (ar_inc hx (by omega)) ?_
        rw [hy]
        show _ = acc32 0 (sRest σ) i + sRest σ i
        congr 1
        unfold sRest
        first | rw [if_pos c18] | rw [if_neg c18]
      · rw [hn] at c18
        refine e_iconst (v := 1) dX0_countResting_21 (by decide) ?_
        refine e_goto (tgt := 26) dX0_countResting_22 (by decide) ?_
        refine e_iadd dX0_countResting_26 ?_
        refine e_istore_n dX0_countResting_27 rfl (Nat.le_of_ble_eq_true rfl) ?_
        refine e_iinc dX0_countResting_28 rfl rfl (Nat.le_of_ble_eq_true rfl) ?_
        refine e_goto (tgt := 4) dX0_countResting_31 (by decide) ?_
        refine ih (r - 1) (by omega) (i + 1) _ _ (by omega) (ar_inc hx (by omega)) ?_
        rw [hy]
        show _ = acc32 0 (sRest σ) i + sRest σ i
        congr 1
        unfold sRest
        first | rw [if_pos c18] | rw [if_neg c18]
set_option maxRecDepth 20000 in
theorem ct_X0_countResting (hm : sOk σ) : ev_Ct G l mX0_countResting 4 0 0 [.ref c] (ch G c σ h) (fun v a => v = some (.int (acc32 0 (sRest σ) (sNm σ))) ∧ a = ch G c σ h) (fun _ _ => False) := by
  refine ev_Ct.of (by decide +kernel) (Nat.le_of_ble_eq_true rfl) ?_
  have hmn := hm.nat
  have hmu : (σ.1 0).toInt = sM σ := rfl
  refine e_iconst (v := 0) dX0_countResting_0 (by decide) ?_
  refine e_istore_n dX0_countResting_1 rfl (Nat.le_of_ble_eq_true rfl) ?_
  refine e_iconst (v := 0) dX0_countResting_2 (by decide) ?_
  refine e_istore_n dX0_countResting_3 rfl (Nat.le_of_ble_eq_true rfl) ?_
  refine ev_loc (L' := [some (.ref c), some (.int 0), some (.int 0)]) ⟨rfl, rfl, rfl, trivial⟩ ?_
  exact lp_countResting (Nat.le_refl _) hm (fun y hy => by
      subst hy
      exact e_iload_n dX0_countResting_34 rfl rfl (e_iret rfl dX0_countResting_35 ⟨rfl, rfl⟩)) (sNm σ - 0) 0 _ _ (by omega) ar_0 rfl
end K2
