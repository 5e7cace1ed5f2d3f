/-! begin, become -/
def cs_3 (σ : CS) (a b d : Nat) (f g h : Nat → Int32) : CS := cs_A (cs_A (cs_A σ a f) b g) d h
theorem cs_3_3 (σ : CS) {a b d : Nat} (hab : a ≠ b) (had : a ≠ d) (hbd : b ≠ d) (f g h f' g' h' : Nat → Int32) : cs_A (cs_A (cs_A (cs_3 σ a b d f g h) a f') b g') d h' = cs_3 σ a b d f' g' h' := by
  refine Prod.ext rfl (Prod.ext rfl (funext fun j => ?_))
  show ev_u (ev_u (ev_u (ev_u (ev_u (ev_u σ.2.2 a _) b _) d _) a _) b _) d _ j = ev_u (ev_u (ev_u σ.2.2 a _) b _) d _ j
  by_cases h1 : j = a <;> by_cases h2 : j = b <;> by_cases h3 : j = d <;> simp [ev_u, h1, h2, h3]
theorem cs_3_self (σ : CS) (a b d : Nat) (hab : a ≠ b) (had : a ≠ d) (hbd : b ≠ d) : cs_3 σ a b d (σ.2.2 a) (σ.2.2 b) (σ.2.2 d) = σ := by
  refine Prod.ext rfl (Prod.ext rfl (funext fun j => ?_))
  show ev_u (ev_u (ev_u σ.2.2 a _) b _) d _ j = _
  by_cases h1 : j = a
  · subst h1; rw [ev_u_ne _ _ had, ev_u_ne _ _ hab, ev_u_self]
  · by_cases h2 : j = b
    · subst h2; rw [ev_u_ne _ _ hbd, ev_u_self]
    · by_cases h3 : j = d
      · subst h3; rw [ev_u_self]
      · rw [ev_u_ne _ _ h3, ev_u_ne _ _ h2, ev_u_ne _ _ h1]
def cs_2 (σ : CS) (a b : Nat) (f g : Nat → Int32) : CS := cs_A (cs_A σ a f) b g
theorem cs_2_2 (σ : CS) {a b : Nat} (hab : a ≠ b) (f g f' g' : Nat → Int32) : cs_A (cs_A (cs_2 σ a b f g) a f') b g' = cs_2 σ a b f' g' := by
  refine Prod.ext rfl (Prod.ext rfl (funext fun j => ?_))
  show ev_u (ev_u (ev_u (ev_u σ.2.2 a _) b _) a _) b _ j = ev_u (ev_u σ.2.2 a _) b _ j
  by_cases h1 : j = a <;> by_cases h2 : j = b <;> simp [ev_u, h1, h2]
theorem cs_2_self (σ : CS) (a b : Nat) (hab : a ≠ b) : cs_2 σ a b (σ.2.2 a) (σ.2.2 b) = σ := by
  refine Prod.ext rfl (Prod.ext rfl (funext fun j => ?_))
  show ev_u (ev_u σ.2.2 a _) b _ j = _
  by_cases h1 : j = a
  · subst h1; rw [ev_u_ne _ _ hab, ev_u_self]
  · by_cases h2 : j = b
    · subst h2; rw [ev_u_self]
    · rw [ev_u_ne _ _ h2, ev_u_ne _ _ h1]
def sClr (σ : CS) : CS := cs_J (cs_J (cs_J (cs_J (cs_J σ 0 0) 1 0) 2 0) 3 0) 4 0
def sBg0 (σ : CS) (n : Int32) : CS := cs_I (cs_I (cs_I (cs_I (cs_I σ 0 n) 1 0) 2 0) 3 0) 4 0
def sBg1 (σ : CS) (i : Nat) : CS := cs_3 σ 0 1 2 (fillTo i (fun _ => 10) (σ.2.2 0)) (fillTo i (fun _ => 0) (σ.2.2 1)) (fillTo i (fun _ => 0) (σ.2.2 2))
def sBg2 (σ : CS) (i : Nat) : CS := cs_3 σ 3 4 5 (fillTo i (fun _ => 100) (σ.2.2 3)) (fillTo i (fun _ => 0) (σ.2.2 4)) (fillTo i (fun _ => 0) (σ.2.2 5))
/-- as by the text "chain n;" -/
def sBeg (σ : CS) (n : Int32) : CS := cs_I (cs_I (sClr (sBg2 (sBg1 (sBg0 σ n) 12) 13)) 5 0) 6 0
def sBcI (σ τ : CS) : CS := cs_I (cs_I (cs_I (cs_I (cs_I σ 0 (τ.1 0)) 1 (τ.1 1)) 2 (τ.1 2)) 3 (τ.1 3)) 4 (τ.1 4)
def sBc1 (σ τ : CS) (i : Nat) : CS := cs_3 σ 0 1 2 (fillTo i (τ.2.2 0) (σ.2.2 0)) (fillTo i (τ.2.2 1) (σ.2.2 1)) (fillTo i (τ.2.2 2) (σ.2.2 2))
def sBc2 (σ τ : CS) (i : Nat) : CS := cs_3 σ 3 4 5 (fillTo i (τ.2.2 3) (σ.2.2 3)) (fillTo i (τ.2.2 4) (σ.2.2 4)) (fillTo i (fun j => vp_nar .boolean (τ.2.2 5 j)) (σ.2.2 5))
def sBcJ (σ τ : CS) : CS := cs_J (cs_J (cs_J (cs_J (cs_J σ 0 (τ.2.1 0)) 1 (τ.2.1 1)) 2 (τ.2.1 2)) 3 (τ.2.1 3)) 4 (τ.2.1 4)
def sBcT (σ τ : CS) (i : Nat) : CS := cs_T (cs_I σ 5 (τ.1 5)) (fillTo i (τ.2.2 7) (σ.2.2 7)) (fillTo i (τ.2.2 8) (σ.2.2 8)) (fillTo i (τ.2.2 9) (σ.2.2 9))
def sBcN (σ τ : CS) (i : Nat) : CS := cs_2 (cs_I σ 6 (τ.1 6)) 10 11 (fillTo i (τ.2.2 10) (σ.2.2 10)) (fillTo i (τ.2.2 11) (σ.2.2 11))
/-- the chain becomes τ -/
def sBec (σ τ : CS) : CS := sBcN (sBcT (sBcJ (sBc2 (sBc1 (sBcI σ τ) τ 12) τ 13) τ) τ 16) τ 32
section K7
variable {G : ev_G} {l : Launch} {c e : Nat} {σ τ : CS} {h : ev_H} {x y z w : Int32}
set_option maxRecDepth 20000 in
theorem ct_X3_clear  : ev_Ct G l mX3_clear 1 0 0 [.ref (c + 7)] (ch G c σ h) (fun v a => v = none ∧ a = ch G c (sClr σ) h) (fun _ _ => False) := by
  refine ev_Ct.of (by decide +kernel) (Nat.le_of_ble_eq_true rfl) ?_
  refine e_aload_n dX3_clear_0 rfl rfl ?_
  refine e_lconst (v := 0) dX3_clear_1 (by decide) ?_
  refine ch_p3_0 wF_X3_7 dX3_clear_2 ?_
  refine e_aload_n dX3_clear_5 rfl rfl ?_
  refine e_lconst (v := 0) dX3_clear_6 (by decide) ?_
  refine ch_p3_1 wF_X3_13 dX3_clear_7 ?_
  refine e_aload_n dX3_clear_10 rfl rfl ?_
  refine e_lconst (v := 0) dX3_clear_11 (by decide) ?_
  refine ch_p3_2 wF_X3_16 dX3_clear_12 ?_
  refine e_aload_n dX3_clear_15 rfl rfl ?_
  refine e_lconst (v := 0) dX3_clear_16 (by decide) ?_
  refine ch_p3_3 wF_X3_19 dX3_clear_17 ?_
  refine e_aload_n dX3_clear_20 rfl rfl ?_
  refine e_lconst (v := 0) dX3_clear_21 (by decide) ?_
  refine ch_p3_4 wF_X3_22 dX3_clear_22 ?_
  exact e_vret rfl dX3_clear_25 (⟨rfl, rfl⟩)
set_option maxRecDepth 20000 in
theorem lp_begin1 {J : ev_K} {k n : Nat} (hJ : 1 ≤ J.2.2.1)  (hk : ev_V G l mX0_begin J 70 [some (.ref c), some (.int y)] [] (ch G c (sBg1 σ 12) h) k n) : ∀ (r i : Nat) (x : Int32), r + i = 12 → x.toInt = (i : Int) → ev_V G l mX0_begin J 36 [some (.ref c), some (.int y), some (.int x)] [] (ch G c (sBg1 σ i) h) k n := by
  intro r
  induction r using Nat.strongRecOn with
  | ind r ih =>
    intro i x
    intro hr hx
    have hn : x.toInt.toNat = i := ar_nat hx
    have a12 := ar_12
    refine e_iload_n dX0_begin_36 rfl rfl ?_
    refine e_bipush (v := 12) dX0_begin_37 (by decide) ?_
    refine e_icmp_ge (tgt := 70) dX0_begin_39 (by decide) (fun c39 => ?_) (fun c39 => ?_)
    · have hi : i = 12 := by omega
      subst hi
      exact ev_lc hk ⟨rfl, rfl, trivial⟩
    · refine e_aload_n dX0_begin_42 rfl rfl ?_
      refine ch_g0_8 wF_X0_9 dX0_begin_43 ?_
      refine e_iload_n dX0_begin_46 rfl rfl ?_
      refine e_bipush (v := 10) dX0_begin_47 (by decide) ?_
      refine ch_s1 (by omega) (by omega) dX0_begin_49 ?_
      refine e_aload_n dX0_begin_50 rfl rfl ?_
      refine ch_g0_9 wF_X0_15 dX0_begin_51 ?_
      refine e_iload_n dX0_begin_54 rfl rfl ?_
      refine e_iconst (v := 0) dX0_begin_55 (by decide) ?_
      refine ch_s2 (by omega) (by omega) dX0_begin_56 ?_
      refine e_aload_n dX0_begin_57 rfl rfl ?_
      refine ch_g0_10 wF_X0_18 dX0_begin_58 ?_
      refine e_iload_n dX0_begin_61 rfl rfl ?_
      refine e_iconst (v := 0) dX0_begin_62 (by decide) ?_
      refine ch_s3 (by omega) (by omega) dX0_begin_63 ?_
      refine e_iinc dX0_begin_64 rfl rfl (Nat.le_of_ble_eq_true rfl) ?_
      refine e_goto (tgt := 36) dX0_begin_67 (by decide) ?_
      refine ev_as ?_ (ih (r - 1) (by omega) (i + 1) _ (by omega) (ar_inc hx (by omega)))
      rw [hn]
      show ch G c (cs_A (cs_A (cs_A (cs_3 σ 0 1 2 _ _ _) 0 (ev_u (fillTo i (fun _ => 10) (σ.2.2 0)) i 10)) 1 (ev_u (fillTo i (fun _ => 0) (σ.2.2 1)) i 0)) 2 (ev_u (fillTo i (fun _ => 0) (σ.2.2 2)) i 0)) h = _
      rw [cs_3_3 _ (by decide) (by decide) (by decide), fillTo_up _ _ _ _ rfl, fillTo_up _ _ _ _ rfl, fillTo_up _ _ _ _ rfl]
      rfl
set_option maxRecDepth 20000 in
theorem lp_begin2 {J : ev_K} {k n : Nat} (hJ : 1 ≤ J.2.2.1)  (hk : ev_V G l mX0_begin J 106 [some (.ref c), some (.int y)] [] (ch G c (sBg2 σ 13) h) k n) : ∀ (r i : Nat) (x : Int32), r + i = 13 → x.toInt = (i : Int) → ev_V G l mX0_begin J 72 [some (.ref c), some (.int y), some (.int x)] [] (ch G c (sBg2 σ i) h) k n := by
  intro r
  induction r using Nat.strongRecOn with
  | ind r ih =>
    intro i x
    intro hr hx
    have hn : x.toInt.toNat = i := ar_nat hx
    have a13 := ar_13
    refine e_iload_n dX0_begin_72 rfl rfl ?_
    refine e_bipush (v := 13) dX0_begin_73 (by decide) ?_
    refine e_icmp_ge (tgt := 106) dX0_begin_75 (by decide) (fun c75 => ?_) (fun c75 => ?_)
    · have hi : i = 13 := by omega
      subst hi
      exact ev_lc hk ⟨rfl, rfl, trivial⟩
    · refine e_aload_n dX0_begin_78 rfl rfl ?_
      refine ch_g0_11 wF_X0_21 dX0_begin_79 ?_
      refine e_iload_n dX0_begin_82 rfl rfl ?_
      refine e_bipush (v := 100) dX0_begin_83 (by decide) ?_
      refine ch_s4 (by omega) (by omega) dX0_begin_85 ?_
      refine e_aload_n dX0_begin_86 rfl rfl ?_
      refine ch_g0_12 wF_X0_24 dX0_begin_87 ?_
      refine e_iload_n dX0_begin_90 rfl rfl ?_
      refine e_iconst (v := 0) dX0_begin_91 (by decide) ?_
      refine ch_s5 (by omega) (by omega) dX0_begin_92 ?_
      refine e_aload_n dX0_begin_93 rfl rfl ?_
      refine ch_g0_13 wF_X0_27 dX0_begin_94 ?_
      refine e_iload_n dX0_begin_97 rfl rfl ?_
      refine e_iconst (v := 0) dX0_begin_98 (by decide) ?_
      refine ch_s6 (by omega) (by omega) dX0_begin_99 ?_
      refine e_iinc dX0_begin_100 rfl rfl (Nat.le_of_ble_eq_true rfl) ?_
      refine e_goto (tgt := 72) dX0_begin_103 (by decide) ?_
      refine ev_as ?_ (ih (r - 1) (by omega) (i + 1) _ (by omega) (ar_inc hx (by omega)))
      rw [hn, show vp_nar .boolean 0 = 0 by decide +kernel]
      show ch G c (cs_A (cs_A (cs_A (cs_3 σ 3 4 5 _ _ _) 3 (ev_u (fillTo i (fun _ => 100) (σ.2.2 3)) i 100)) 4 (ev_u (fillTo i (fun _ => 0) (σ.2.2 4)) i 0)) 5 (ev_u (fillTo i (fun _ => 0) (σ.2.2 5)) i 0)) h = _
      rw [cs_3_3 _ (by decide) (by decide) (by decide), fillTo_up _ _ _ _ rfl, fillTo_up _ _ _ _ rfl, fillTo_up _ _ _ _ rfl]
      rfl
set_option maxRecDepth 20000 in
theorem ct_X0_begin (y0 : 1 ≤ y.toInt) (y1 : y.toInt ≤ 12) : ev_Ct G l mX0_begin 2 0 0 [.ref c, .int y] (ch G c σ h) (fun v a => v = none ∧ a = ch G c (sBeg σ y) h) (fun _ _ => False) := by
  refine ev_Ct.of (by decide +kernel) (Nat.le_of_ble_eq_true rfl) ?_
  have a12 := ar_12
  have a1 := ar_1
  have hmin : (if y < (12 : Int32) then y else 12) = y := by
    by_cases q : y < 12
    · rw [if_pos q]
    · rw [if_neg q]
      have := (not_congr ev_lt32).mp q
      exact ar_eq (by omega)
  have hmax : (if (1 : Int32) < y then y else 1) = y := by
    by_cases q : (1 : Int32) < y
    · rw [if_pos q]
    · rw [if_neg q]
      have := (not_congr ev_lt32).mp q
      exact ar_eq (by omega)
  refine e_aload_n dX0_begin_0 rfl rfl ?_
  refine e_iconst (v := 1) dX0_begin_1 (by decide) ?_
  refine e_bipush (v := 12) dX0_begin_2 (by decide) ?_
  refine e_iload_n dX0_begin_4 rfl rfl ?_
  refine e_mmin wM_X0_56 (Nat.le_of_ble_eq_true rfl) (Nat.le_of_ble_eq_true rfl) dX0_begin_5 ?_
  refine e_mmax wM_X0_62 (Nat.le_of_ble_eq_true rfl) (Nat.le_of_ble_eq_true rfl) dX0_begin_8 ?_
  rw [hmin, hmax]
  refine ch_p0_0 wF_X0_65 dX0_begin_11 ?_
  refine e_aload_n dX0_begin_14 rfl rfl ?_
  refine e_iconst (v := 0) dX0_begin_15 (by decide) ?_
  refine ch_p0_1 wF_X0_69 dX0_begin_16 ?_
  refine e_aload_n dX0_begin_19 rfl rfl ?_
  refine e_iconst (v := 0) dX0_begin_20 (by decide) ?_
  refine ch_p0_2 wF_X0_72 dX0_begin_21 ?_
  refine e_aload_n dX0_begin_24 rfl rfl ?_
  refine e_iconst (v := 0) dX0_begin_25 (by decide) ?_
  refine ch_p0_3 wF_X0_75 dX0_begin_26 ?_
  refine e_aload_n dX0_begin_29 rfl rfl ?_
  refine e_iconst (v := 0) dX0_begin_30 (by decide) ?_
  refine ch_p0_4 wF_X0_78 dX0_begin_31 ?_
  refine e_iconst (v := 0) dX0_begin_34 (by decide) ?_
  refine e_istore_n dX0_begin_35 rfl (Nat.le_of_ble_eq_true rfl) ?_
  refine ev_as (a' := ch G c (sBg1 (sBg0 σ y) 0) h) (by unfold sBg1; rw [fillTo_0, fillTo_0, fillTo_0, cs_3_self _ _ _ _ (by decide) (by decide) (by decide)]; rfl) ?_
  refine ev_loc (L' := [some (.ref c), some (.int y), some (.int 0)]) ⟨rfl, rfl, rfl, trivial⟩ ?_
  refine lp_begin1 (Nat.le_of_ble_eq_true rfl) ?_ 12 0 0 rfl ar_0
  refine e_iconst (v := 0) dX0_begin_70 (by decide) ?_
  refine e_istore_n dX0_begin_71 rfl (Nat.le_of_ble_eq_true rfl) ?_
  refine ev_as (a' := ch G c (sBg2 (sBg1 (sBg0 σ y) 12) 0) h) (by unfold sBg2; rw [fillTo_0, fillTo_0, fillTo_0, cs_3_self _ _ _ _ (by decide) (by decide) (by decide)]) ?_
  refine ev_loc (L' := [some (.ref c), some (.int y), some (.int 0)]) ⟨rfl, rfl, rfl, trivial⟩ ?_
  refine lp_begin2 (Nat.le_of_ble_eq_true rfl) ?_ 13 0 0 rfl ar_0
  refine e_aload_n dX0_begin_106 rfl rfl ?_
  refine ch_g0_5 wF_X0_34 dX0_begin_107 ?_
  refine e_invV (mcY := 0) (msY := 0) (ct_X3_clear) vX3_clear wM_X0_81 (ch_at G c _ h 7 (by decide)) rfl dX0_begin_110 rfl rfl (Nat.le_of_ble_eq_true rfl) (Nat.le_of_ble_eq_true rfl) ?_
  rintro _ _ ⟨rfl, rfl⟩
  refine e_aload_n dX0_begin_113 rfl rfl ?_
  refine ch_g0_6 wF_X0_41 dX0_begin_114 ?_
  refine e_iconst (v := 0) dX0_begin_117 (by decide) ?_
  refine ch_p2_0 wF_X0_84 dX0_begin_118 ?_
  refine e_aload_n dX0_begin_121 rfl rfl ?_
  refine ch_g0_7 wF_X0_48 dX0_begin_122 ?_
  refine e_iconst (v := 0) dX0_begin_125 (by decide) ?_
  refine ch_p4_0 wF_X0_87 dX0_begin_126 ?_
  exact e_vret rfl dX0_begin_129 (⟨rfl, rfl⟩)
set_option maxRecDepth 20000 in
theorem ct_X3_become (hce : c + 15 ≤ e ∨ e + 15 ≤ c) : ev_Ct G l mX3_become 1 0 0 [.ref (c + 7), .ref (e + 7)] (ch G c σ (ch G e τ h)) (fun v a => v = none ∧ a = ch G c (sBcJ σ τ) (ch G e τ h)) (fun _ _ => False) := by
  refine ev_Ct.of (by decide +kernel) (Nat.le_of_ble_eq_true rfl) ?_
  refine e_aload_n dX3_become_0 rfl rfl ?_
  refine e_aload_n dX3_become_1 rfl rfl ?_
  refine ev_as (ch_swap G c e _ _ h hce) (ch_g3_0 wF_X3_7 dX3_become_2 (ev_as (ch_swap G e c _ _ h hce.symm) ?_))
  refine ch_p3_0 wF_X3_7 dX3_become_5 ?_
  refine e_aload_n dX3_become_8 rfl rfl ?_
  refine e_aload_n dX3_become_9 rfl rfl ?_
  refine ev_as (ch_swap G c e _ _ h hce) (ch_g3_1 wF_X3_13 dX3_become_10 (ev_as (ch_swap G e c _ _ h hce.symm) ?_))
  refine ch_p3_1 wF_X3_13 dX3_become_13 ?_
  refine e_aload_n dX3_become_16 rfl rfl ?_
  refine e_aload_n dX3_become_17 rfl rfl ?_
  refine ev_as (ch_swap G c e _ _ h hce) (ch_g3_2 wF_X3_16 dX3_become_18 (ev_as (ch_swap G e c _ _ h hce.symm) ?_))
  refine ch_p3_2 wF_X3_16 dX3_become_21 ?_
  refine e_aload_n dX3_become_24 rfl rfl ?_
  refine e_aload_n dX3_become_25 rfl rfl ?_
  refine ev_as (ch_swap G c e _ _ h hce) (ch_g3_3 wF_X3_19 dX3_become_26 (ev_as (ch_swap G e c _ _ h hce.symm) ?_))
  refine ch_p3_3 wF_X3_19 dX3_become_29 ?_
  refine e_aload_n dX3_become_32 rfl rfl ?_
  refine e_aload_n dX3_become_33 rfl rfl ?_
  refine ev_as (ch_swap G c e _ _ h hce) (ch_g3_4 wF_X3_22 dX3_become_34 (ev_as (ch_swap G e c _ _ h hce.symm) ?_))
  refine ch_p3_4 wF_X3_22 dX3_become_37 ?_
  exact e_vret rfl dX3_become_40 (⟨rfl, rfl⟩)
set_option maxRecDepth 20000 in
theorem lp_become1 {J : ev_K} {k n : Nat} (hJ : 1 ≤ J.2.2.1) (hce : c + 15 ≤ e ∨ e + 15 ≤ c) (hk : ev_V G l mX0_become J 90 [some (.ref c), some (.ref e)] [] (ch G c (sBc1 σ τ 12) (ch G e τ h)) k n) : ∀ (r i : Nat) (x : Int32), r + i = 12 → x.toInt = (i : Int) → ev_V G l mX0_become J 42 [some (.ref c), some (.ref e), some (.int x)] [] (ch G c (sBc1 σ τ i) (ch G e τ h)) k n := by
  intro r
  induction r using Nat.strongRecOn with
  | ind r ih =>
    intro i x
    intro hr hx
    have hn : x.toInt.toNat = i := ar_nat hx
    have aN := ar_12
    refine e_iload_n dX0_become_42 rfl rfl ?_
    refine e_bipush (v := 12) dX0_become_43 (by decide) ?_
    refine e_icmp_ge (tgt := 90) dX0_become_45 (by decide) (fun c45 => ?_) (fun c45 => ?_)
    · have hi : i = 12 := by omega
      subst hi
      exact ev_lc hk ⟨rfl, rfl, trivial⟩
    · refine e_aload_n dX0_become_48 rfl rfl ?_
      refine ch_g0_8 wF_X0_9 dX0_become_49 ?_
      refine e_iload_n dX0_become_52 rfl rfl ?_
      refine e_aload_n dX0_become_53 rfl rfl ?_
      refine ev_as (ch_swap G c e _ _ h hce) (ch_g0_8 wF_X0_9 dX0_become_54 (ev_as (ch_swap G e c _ _ h hce.symm) ?_))
      refine e_iload_n dX0_become_57 rfl rfl ?_
      refine ev_as (ch_swap G c e _ _ h hce) (ch_l1 (by omega) (by omega) dX0_become_58 (ev_as (ch_swap G e c _ _ h hce.symm) ?_))
      refine ch_s1 (by omega) (by omega) dX0_become_59 ?_
      refine e_aload_n dX0_become_60 rfl rfl ?_
      refine ch_g0_9 wF_X0_15 dX0_become_61 ?_
      refine e_iload_n dX0_become_64 rfl rfl ?_
      refine e_aload_n dX0_become_65 rfl rfl ?_
      refine ev_as (ch_swap G c e _ _ h hce) (ch_g0_9 wF_X0_15 dX0_become_66 (ev_as (ch_swap G e c _ _ h hce.symm) ?_))
      refine e_iload_n dX0_become_69 rfl rfl ?_
      refine ev_as (ch_swap G c e _ _ h hce) (ch_l2 (by omega) (by omega) dX0_become_70 (ev_as (ch_swap G e c _ _ h hce.symm) ?_))
      refine ch_s2 (by omega) (by omega) dX0_become_71 ?_
      refine e_aload_n dX0_become_72 rfl rfl ?_
      refine ch_g0_10 wF_X0_18 dX0_become_73 ?_
      refine e_iload_n dX0_become_76 rfl rfl ?_
      refine e_aload_n dX0_become_77 rfl rfl ?_
      refine ev_as (ch_swap G c e _ _ h hce) (ch_g0_10 wF_X0_18 dX0_become_78 (ev_as (ch_swap G e c _ _ h hce.symm) ?_))
      refine e_iload_n dX0_become_81 rfl rfl ?_
      refine ev_as (ch_swap G c e _ _ h hce) (ch_l3 (by omega) (by omega) dX0_become_82 (ev_as (ch_swap G e c _ _ h hce.symm) ?_))
      refine ch_s3 (by omega) (by omega) dX0_become_83 ?_
      refine e_iinc dX0_become_84 rfl rfl (Nat.le_of_ble_eq_true rfl) ?_
      refine e_goto (tgt := 42) dX0_become_87 (by decide) ?_
      refine ev_as ?_ (ih (r - 1) (by omega) (i + 1) _ (by omega) (ar_inc hx (by omega)))
      rw [hn]
      show ch G c (cs_A (cs_A (cs_A (cs_3 σ 0 1 2 _ _ _) 0 (ev_u (fillTo i (τ.2.2 0) (σ.2.2 0)) i (τ.2.2 0 i))) 1 (ev_u (fillTo i (τ.2.2 1) (σ.2.2 1)) i (τ.2.2 1 i))) 2 (ev_u (fillTo i (τ.2.2 2) (σ.2.2 2)) i (τ.2.2 2 i))) (ch G e τ h) = _
      rw [cs_3_3 _ (by decide) (by decide) (by decide), fillTo_up _ _ _ _ rfl, fillTo_up _ _ _ _ rfl, fillTo_up _ _ _ _ rfl]
      rfl
set_option maxRecDepth 20000 in
theorem lp_become2 {J : ev_K} {k n : Nat} (hJ : 1 ≤ J.2.2.1) (hce : c + 15 ≤ e ∨ e + 15 ≤ c) (hk : ev_V G l mX0_become J 140 [some (.ref c), some (.ref e)] [] (ch G c (sBc2 σ τ 13) (ch G e τ h)) k n) : ∀ (r i : Nat) (x : Int32), r + i = 13 → x.toInt = (i : Int) → ev_V G l mX0_become J 92 [some (.ref c), some (.ref e), some (.int x)] [] (ch G c (sBc2 σ τ i) (ch G e τ h)) k n := by
  intro r
  induction r using Nat.strongRecOn with
  | ind r ih =>
    intro i x
    intro hr hx
    have hn : x.toInt.toNat = i := ar_nat hx
    have aN := ar_13
    refine e_iload_n dX0_become_92 rfl rfl ?_
    refine e_bipush (v := 13) dX0_become_93 (by decide) ?_
    refine e_icmp_ge (tgt := 140) dX0_become_95 (by decide) (fun c95 => ?_) (fun c95 => ?_)
    · have hi : i = 13 := by omega
      subst hi
      exact ev_lc hk ⟨rfl, rfl, trivial⟩
    · refine e_aload_n dX0_become_98 rfl rfl ?_
      refine ch_g0_11 wF_X0_21 dX0_become_99 ?_
      refine e_iload_n dX0_become_102 rfl rfl ?_
      refine e_aload_n dX0_become_103 rfl rfl ?_
      refine ev_as (ch_swap G c e _ _ h hce) (ch_g0_11 wF_X0_21 dX0_become_104 (ev_as (ch_swap G e c _ _ h hce.symm) ?_))
      refine e_iload_n dX0_become_107 rfl rfl ?_
      refine ev_as (ch_swap G c e _ _ h hce) (ch_l4 (by omega) (by omega) dX0_become_108 (ev_as (ch_swap G e c _ _ h hce.symm) ?_))
      refine ch_s4 (by omega) (by omega) dX0_become_109 ?_
      refine e_aload_n dX0_become_110 rfl rfl ?_
      refine ch_g0_12 wF_X0_24 dX0_become_111 ?_
      refine e_iload_n dX0_become_114 rfl rfl ?_
      refine e_aload_n dX0_become_115 rfl rfl ?_
      refine ev_as (ch_swap G c e _ _ h hce) (ch_g0_12 wF_X0_24 dX0_become_116 (ev_as (ch_swap G e c _ _ h hce.symm) ?_))
      refine e_iload_n dX0_become_119 rfl rfl ?_
      refine ev_as (ch_swap G c e _ _ h hce) (ch_l5 (by omega) (by omega) dX0_become_120 (ev_as (ch_swap G e c _ _ h hce.symm) ?_))
      refine ch_s5 (by omega) (by omega) dX0_become_121 ?_
      refine e_aload_n dX0_become_122 rfl rfl ?_
      refine ch_g0_13 wF_X0_27 dX0_become_123 ?_
      refine e_iload_n dX0_become_126 rfl rfl ?_
      refine e_aload_n dX0_become_127 rfl rfl ?_
      refine ev_as (ch_swap G c e _ _ h hce) (ch_g0_13 wF_X0_27 dX0_become_128 (ev_as (ch_swap G e c _ _ h hce.symm) ?_))
      refine e_iload_n dX0_become_131 rfl rfl ?_
      refine ev_as (ch_swap G c e _ _ h hce) (ch_l6 (by omega) (by omega) dX0_become_132 (ev_as (ch_swap G e c _ _ h hce.symm) ?_))
      refine ch_s6 (by omega) (by omega) dX0_become_133 ?_
      refine e_iinc dX0_become_134 rfl rfl (Nat.le_of_ble_eq_true rfl) ?_
      refine e_goto (tgt := 92) dX0_become_137 (by decide) ?_
      refine ev_as ?_ (ih (r - 1) (by omega) (i + 1) _ (by omega) (ar_inc hx (by omega)))
      rw [hn]
      show ch G c (cs_A (cs_A (cs_A (cs_3 σ 3 4 5 _ _ _) 3 (ev_u (fillTo i (τ.2.2 3) (σ.2.2 3)) i (τ.2.2 3 i))) 4 (ev_u (fillTo i (τ.2.2 4) (σ.2.2 4)) i (τ.2.2 4 i))) 5 (ev_u (fillTo i (fun j => vp_nar .boolean (τ.2.2 5 j)) (σ.2.2 5)) i (vp_nar .boolean (τ.2.2 5 i)))) (ch G e τ h) = _
      rw [cs_3_3 _ (by decide) (by decide) (by decide), fillTo_up _ _ _ _ rfl, fillTo_up _ _ _ _ rfl, fillTo_up i (fun j => vp_nar .boolean (τ.2.2 5 j)) _ _ rfl]
      rfl
set_option maxRecDepth 20000 in
theorem lp_become3 {J : ev_K} {k n : Nat} (hJ : 2 ≤ J.2.2.1) (hce : c + 15 ≤ e ∨ e + 15 ≤ c) (hk : ev_V G l mX2_become J 45 [some (.ref (c + 8)), some (.ref (e + 8))] [] (ch G c (sBcT σ τ 16) (ch G e τ h)) k n) : ∀ (r i : Nat) (x : Int32), r + i = 16 → x.toInt = (i : Int) → ev_V G l mX2_become J 10 [some (.ref (c + 8)), some (.ref (e + 8)), some (.int x)] [] (ch G c (sBcT σ τ i) (ch G e τ h)) k n := by
  intro r
  induction r using Nat.strongRecOn with
  | ind r ih =>
    intro i x
    intro hr hx
    have hn : x.toInt.toNat = i := ar_nat hx
    have aN := ar_16
    refine e_iload_n dX2_become_10 rfl rfl ?_
    refine e_bipush (v := 16) dX2_become_11 (by decide) ?_
    refine e_icmp_ge (tgt := 45) dX2_become_13 (by decide) (fun c13 => ?_) (fun c13 => ?_)
    · have hi : i = 16 := by omega
      subst hi
      exact ev_lc hk ⟨rfl, rfl, trivial⟩
    · refine e_aload_n dX2_become_16 rfl rfl ?_
      refine e_iload_n dX2_become_17 rfl rfl ?_
      refine e_aload_n dX2_become_18 rfl rfl ?_
      refine ev_as (ch_swap G c e _ _ h hce) (ch_g2_1 wF_X2_9 dX2_become_19 (ev_as (ch_swap G e c _ _ h hce.symm) ?_))
      refine e_iload_n dX2_become_22 rfl rfl ?_
      refine ev_as (ch_swap G c e _ _ h hce) (ch_l9 (by omega) (by omega) dX2_become_23 (ev_as (ch_swap G e c _ _ h hce.symm) ?_))
      refine e_aload_n dX2_become_24 rfl rfl ?_
      refine ev_as (ch_swap G c e _ _ h hce) (ch_g2_2 wF_X2_15 dX2_become_25 (ev_as (ch_swap G e c _ _ h hce.symm) ?_))
      refine e_iload_n dX2_become_28 rfl rfl ?_
      refine ev_as (ch_swap G c e _ _ h hce) (ch_l10 (by omega) (by omega) dX2_become_29 (ev_as (ch_swap G e c _ _ h hce.symm) ?_))
      refine e_aload_n dX2_become_30 rfl rfl ?_
      refine ev_as (ch_swap G c e _ _ h hce) (ch_g2_3 wF_X2_18 dX2_become_31 (ev_as (ch_swap G e c _ _ h hce.symm) ?_))
      refine e_iload_n dX2_become_34 rfl rfl ?_
      refine ev_as (ch_swap G c e _ _ h hce) (ch_l11 (by omega) (by omega) dX2_become_35 (ev_as (ch_swap G e c _ _ h hce.symm) ?_))
      refine e_invV (mcY := 0) (msY := 0) (ct_X2_put (x := x) (by omega) (by omega)) vX2_put wM_X2_25 (ch_at G c _ (ch G e τ h) 8 (by decide)) rfl dX2_become_36 rfl rfl (Nat.le_of_ble_eq_true rfl) (Nat.le_trans (Nat.le_of_ble_eq_true rfl) hJ) ?_
      rintro _ _ ⟨rfl, rfl⟩
      refine e_iinc dX2_become_39 rfl rfl (Nat.le_of_ble_eq_true rfl) ?_
      refine e_goto (tgt := 10) dX2_become_42 (by decide) ?_
      refine ev_as ?_ (ih (r - 1) (by omega) (i + 1) _ (by omega) (ar_inc hx (by omega)))
      unfold sBcT
      rw [sPut_T, hn, fillTo_up _ _ _ _ rfl, fillTo_up _ _ _ _ rfl, fillTo_up _ _ _ _ rfl]
set_option maxRecDepth 20000 in
theorem ct_X2_become (hce : c + 15 ≤ e ∨ e + 15 ≤ c) : ev_Ct G l mX2_become 2 0 0 [.ref (c + 8), .ref (e + 8)] (ch G c σ (ch G e τ h)) (fun v a => v = none ∧ a = ch G c (sBcT σ τ 16) (ch G e τ h)) (fun _ _ => False) := by
  refine ev_Ct.of (by decide +kernel) (Nat.le_of_ble_eq_true rfl) ?_
  refine e_aload_n dX2_become_0 rfl rfl ?_
  refine e_aload_n dX2_become_1 rfl rfl ?_
  refine ev_as (ch_swap G c e _ _ h hce) (ch_g2_0 wF_X2_21 dX2_become_2 (ev_as (ch_swap G e c _ _ h hce.symm) ?_))
  refine ch_p2_0 wF_X2_21 dX2_become_5 ?_
  refine e_iconst (v := 0) dX2_become_8 (by decide) ?_
  refine e_istore_n dX2_become_9 rfl (Nat.le_of_ble_eq_true rfl) ?_
  refine ev_as (a' := ch G c (sBcT σ τ 0) (ch G e τ h)) (by unfold sBcT; rw [fillTo_0, fillTo_0, fillTo_0]; exact congrArg (fun f => ch G c f (ch G e τ h)) (cs_T_self (cs_I σ 5 (τ.1 5))).symm) ?_
  refine ev_loc (L' := [some (.ref (c + 8)), some (.ref (e + 8)), some (.int 0)]) ⟨rfl, rfl, rfl, trivial⟩ ?_
  refine lp_become3 (Nat.le_refl _) hce ?_ 16 0 0 rfl ar_0
  exact e_vret rfl dX2_become_45 ⟨rfl, rfl⟩
set_option maxRecDepth 20000 in
theorem lp_become4 {J : ev_K} {k n : Nat} (hJ : 1 ≤ J.2.2.1) (hce : c + 15 ≤ e ∨ e + 15 ≤ c) (hk : ev_V G l mX4_become J 46 [some (.ref (c + 12)), some (.ref (e + 12))] [] (ch G c (sBcN σ τ 32) (ch G e τ h)) k n) : ∀ (r i : Nat) (x : Int32), r + i = 32 → x.toInt = (i : Int) → ev_V G l mX4_become J 10 [some (.ref (c + 12)), some (.ref (e + 12)), some (.int x)] [] (ch G c (sBcN σ τ i) (ch G e τ h)) k n := by
  intro r
  induction r using Nat.strongRecOn with
  | ind r ih =>
    intro i x
    intro hr hx
    have hn : x.toInt.toNat = i := ar_nat hx
    have aN := ar_32c
    refine e_iload_n dX4_become_10 rfl rfl ?_
    refine e_bipush (v := 32) dX4_become_11 (by decide) ?_
    refine e_icmp_ge (tgt := 46) dX4_become_13 (by decide) (fun c13 => ?_) (fun c13 => ?_)
    · have hi : i = 32 := by omega
      subst hi
      exact ev_lc hk ⟨rfl, rfl, trivial⟩
    · refine e_aload_n dX4_become_16 rfl rfl ?_
      refine ch_g4_1 wF_X4_9 dX4_become_17 ?_
      refine e_iload_n dX4_become_20 rfl rfl ?_
      refine e_aload_n dX4_become_21 rfl rfl ?_
      refine ev_as (ch_swap G c e _ _ h hce) (ch_g4_1 wF_X4_9 dX4_become_22 (ev_as (ch_swap G e c _ _ h hce.symm) ?_))
      refine e_iload_n dX4_become_25 rfl rfl ?_
      refine ev_as (ch_swap G c e _ _ h hce) (ch_l13 (by omega) (by omega) dX4_become_26 (ev_as (ch_swap G e c _ _ h hce.symm) ?_))
      refine ch_s13 (by omega) (by omega) dX4_become_27 ?_
      refine e_aload_n dX4_become_28 rfl rfl ?_
      refine ch_g4_2 wF_X4_15 dX4_become_29 ?_
      refine e_iload_n dX4_become_32 rfl rfl ?_
      refine e_aload_n dX4_become_33 rfl rfl ?_
      refine ev_as (ch_swap G c e _ _ h hce) (ch_g4_2 wF_X4_15 dX4_become_34 (ev_as (ch_swap G e c _ _ h hce.symm) ?_))
      refine e_iload_n dX4_become_37 rfl rfl ?_
      refine ev_as (ch_swap G c e _ _ h hce) (ch_l14 (by omega) (by omega) dX4_become_38 (ev_as (ch_swap G e c _ _ h hce.symm) ?_))
      refine ch_s14 (by omega) (by omega) dX4_become_39 ?_
      refine e_iinc dX4_become_40 rfl rfl (Nat.le_of_ble_eq_true rfl) ?_
      refine e_goto (tgt := 10) dX4_become_43 (by decide) ?_
      refine ev_as ?_ (ih (r - 1) (by omega) (i + 1) _ (by omega) (ar_inc hx (by omega)))
      rw [hn]
      show ch G c (cs_A (cs_A (cs_2 (cs_I σ 6 (τ.1 6)) 10 11 _ _) 10 (ev_u (fillTo i (τ.2.2 10) (σ.2.2 10)) i (τ.2.2 10 i))) 11 (ev_u (fillTo i (τ.2.2 11) (σ.2.2 11)) i (τ.2.2 11 i))) (ch G e τ h) = _
      rw [cs_2_2 _ (by decide), fillTo_up _ _ _ _ rfl, fillTo_up _ _ _ _ rfl]
      rfl
set_option maxRecDepth 20000 in
theorem ct_X4_become (hce : c + 15 ≤ e ∨ e + 15 ≤ c) : ev_Ct G l mX4_become 1 0 0 [.ref (c + 12), .ref (e + 12)] (ch G c σ (ch G e τ h)) (fun v a => v = none ∧ a = ch G c (sBcN σ τ 32) (ch G e τ h)) (fun _ _ => False) := by
  refine ev_Ct.of (by decide +kernel) (Nat.le_of_ble_eq_true rfl) ?_
  refine e_aload_n dX4_become_0 rfl rfl ?_
  refine e_aload_n dX4_become_1 rfl rfl ?_
  refine ev_as (ch_swap G c e _ _ h hce) (ch_g4_0 wF_X4_18 dX4_become_2 (ev_as (ch_swap G e c _ _ h hce.symm) ?_))
  refine ch_p4_0 wF_X4_18 dX4_become_5 ?_
  refine e_iconst (v := 0) dX4_become_8 (by decide) ?_
  refine e_istore_n dX4_become_9 rfl (Nat.le_of_ble_eq_true rfl) ?_
  refine ev_as (a' := ch G c (sBcN σ τ 0) (ch G e τ h)) (by unfold sBcN; rw [fillTo_0, fillTo_0]; exact congrArg (fun f => ch G c f (ch G e τ h)) (cs_2_self (cs_I σ 6 (τ.1 6)) 10 11 (by decide)).symm) ?_
  refine ev_loc (L' := [some (.ref (c + 12)), some (.ref (e + 12)), some (.int 0)]) ⟨rfl, rfl, rfl, trivial⟩ ?_
  refine lp_become4 (Nat.le_refl _) hce ?_ 32 0 0 rfl ar_0
  exact e_vret rfl dX4_become_46 ⟨rfl, rfl⟩
set_option maxRecDepth 20000 in
theorem ct_X0_become (hce : c + 15 ≤ e ∨ e + 15 ≤ c) : ev_Ct G l mX0_become 3 0 0 [.ref c, .ref e] (ch G c σ (ch G e τ h)) (fun v a => v = none ∧ a = ch G c (sBec σ τ) (ch G e τ h)) (fun _ _ => False) := by
  refine ev_Ct.of (by decide +kernel) (Nat.le_of_ble_eq_true rfl) ?_
  refine e_aload_n dX0_become_0 rfl rfl ?_
  refine e_aload_n dX0_become_1 rfl rfl ?_
  refine ev_as (ch_swap G c e _ _ h hce) (ch_g0_0 wF_X0_65 dX0_become_2 (ev_as (ch_swap G e c _ _ h hce.symm) ?_))
  refine ch_p0_0 wF_X0_65 dX0_become_5 ?_
  refine e_aload_n dX0_become_8 rfl rfl ?_
  refine e_aload_n dX0_become_9 rfl rfl ?_
  refine ev_as (ch_swap G c e _ _ h hce) (ch_g0_1 wF_X0_69 dX0_become_10 (ev_as (ch_swap G e c _ _ h hce.symm) ?_))
  refine ch_p0_1 wF_X0_69 dX0_become_13 ?_
  refine e_aload_n dX0_become_16 rfl rfl ?_
  refine e_aload_n dX0_become_17 rfl rfl ?_
  refine ev_as (ch_swap G c e _ _ h hce) (ch_g0_2 wF_X0_72 dX0_become_18 (ev_as (ch_swap G e c _ _ h hce.symm) ?_))
  refine ch_p0_2 wF_X0_72 dX0_become_21 ?_
  refine e_aload_n dX0_become_24 rfl rfl ?_
  refine e_aload_n dX0_become_25 rfl rfl ?_
  refine ev_as (ch_swap G c e _ _ h hce) (ch_g0_3 wF_X0_75 dX0_become_26 (ev_as (ch_swap G e c _ _ h hce.symm) ?_))
  refine ch_p0_3 wF_X0_75 dX0_become_29 ?_
  refine e_aload_n dX0_become_32 rfl rfl ?_
  refine e_aload_n dX0_become_33 rfl rfl ?_
  refine ev_as (ch_swap G c e _ _ h hce) (ch_g0_4 wF_X0_78 dX0_become_34 (ev_as (ch_swap G e c _ _ h hce.symm) ?_))
  refine ch_p0_4 wF_X0_78 dX0_become_37 ?_
  refine e_iconst (v := 0) dX0_become_40 (by decide) ?_
  refine e_istore_n dX0_become_41 rfl (Nat.le_of_ble_eq_true rfl) ?_
  refine ev_as (a' := ch G c (sBc1 (sBcI σ τ) τ 0) (ch G e τ h)) (by unfold sBc1; rw [fillTo_0, fillTo_0, fillTo_0, cs_3_self _ _ _ _ (by decide) (by decide) (by decide)]; rfl) ?_
  refine ev_loc (L' := [some (.ref c), some (.ref e), some (.int 0)]) ⟨rfl, rfl, rfl, trivial⟩ ?_
  refine lp_become1 (Nat.le_of_ble_eq_true rfl) hce ?_ 12 0 0 rfl ar_0
  refine e_iconst (v := 0) dX0_become_90 (by decide) ?_
  refine e_istore_n dX0_become_91 rfl (Nat.le_of_ble_eq_true rfl) ?_
  refine ev_as (a' := ch G c (sBc2 (sBc1 (sBcI σ τ) τ 12) τ 0) (ch G e τ h)) (by unfold sBc2; rw [fillTo_0, fillTo_0, fillTo_0, cs_3_self _ _ _ _ (by decide) (by decide) (by decide)]) ?_
  refine ev_loc (L' := [some (.ref c), some (.ref e), some (.int 0)]) ⟨rfl, rfl, rfl, trivial⟩ ?_
  refine lp_become2 (Nat.le_of_ble_eq_true rfl) hce ?_ 13 0 0 rfl ar_0
  refine e_aload_n dX0_become_140 rfl rfl ?_
  refine ch_g0_5 wF_X0_34 dX0_become_141 ?_
  refine e_aload_n dX0_become_144 rfl rfl ?_
  refine ev_as (ch_swap G c e _ _ h hce) (ch_g0_5 wF_X0_34 dX0_become_145 (ev_as (ch_swap G e c _ _ h hce.symm) ?_))
  refine e_invV (mcY := 0) (msY := 0) (ct_X3_become hce) vX3_become wM_X0_88 (ch_at G c _ (ch G e τ h) 7 (by decide)) rfl dX0_become_148 rfl rfl (Nat.le_of_ble_eq_true rfl) (Nat.le_of_ble_eq_true rfl) ?_
  rintro _ _ ⟨rfl, rfl⟩
  refine e_aload_n dX0_become_151 rfl rfl ?_
  refine ch_g0_6 wF_X0_41 dX0_become_152 ?_
  refine e_aload_n dX0_become_155 rfl rfl ?_
  refine ev_as (ch_swap G c e _ _ h hce) (ch_g0_6 wF_X0_41 dX0_become_156 (ev_as (ch_swap G e c _ _ h hce.symm) ?_))
  refine e_invV (mcY := 0) (msY := 0) (ct_X2_become hce) vX2_become wM_X0_92 (ch_at G c _ (ch G e τ h) 8 (by decide)) rfl dX0_become_159 rfl rfl (Nat.le_of_ble_eq_true rfl) (Nat.le_of_ble_eq_true rfl) ?_
  rintro _ _ ⟨rfl, rfl⟩
  refine e_aload_n dX0_become_162 rfl rfl ?_
  refine ch_g0_7 wF_X0_48 dX0_become_163 ?_
  refine e_aload_n dX0_become_166 rfl rfl ?_
  refine ev_as (ch_swap G c e _ _ h hce) (ch_g0_7 wF_X0_48 dX0_become_167 (ev_as (ch_swap G e c _ _ h hce.symm) ?_))
  refine e_invV (mcY := 0) (msY := 0) (ct_X4_become hce) vX4_become wM_X0_95 (ch_at G c _ (ch G e τ h) 12 (by decide)) rfl dX0_become_170 rfl rfl (Nat.le_of_ble_eq_true rfl) (Nat.le_of_ble_eq_true rfl) ?_
  rintro _ _ ⟨rfl, rfl⟩
  exact e_vret rfl dX0_become_173 (⟨rfl, rfl⟩)
end K7
