/-! the model's tick -/
def cD (σ : CS) (f : Nat → Int32) (A B : Nat → Int64) (i : Nat) : CS := cs_J (cs_J (cs_A σ 2 (fillTo i f (σ.2.2 2))) 3 (accL (σ.2.1 3) A i)) 4 (accL (σ.2.1 4) B i)
theorem cD_A (σ : CS) (f : Nat → Int32) (A B : Nat → Int64) (i k : Nat) : (cD σ f A B i).2.2 k = ev_u σ.2.2 2 (fillTo i f (σ.2.2 2)) k := rfl
theorem cD_J3 (σ : CS) (f : Nat → Int32) (A B : Nat → Int64) (i : Nat) : (cD σ f A B i).2.1 3 = accL (σ.2.1 3) A i := rfl
theorem cD_J4 (σ : CS) (f : Nat → Int32) (A B : Nat → Int64) (i : Nat) : (cD σ f A B i).2.1 4 = accL (σ.2.1 4) B i := rfl
theorem cD_up (σ : CS) (f : Nat → Int32) (A B : Nat → Int64) (i : Nat) : cs_A (cs_J (cs_J (cD σ f A B i) 3 ((cD σ f A B i).2.1 3 + A i)) 4 ((cD σ f A B i).2.1 4 + B i)) 2 (ev_u ((cs_J (cs_J (cD σ f A B i) 3 ((cD σ f A B i).2.1 3 + A i)) 4 ((cD σ f A B i).2.1 4 + B i)).2.2 2) i (f i)) = cD σ f A B (i + 1) := by
  refine Prod.ext rfl (Prod.ext (funext fun k => ?_) (funext fun k => ?_))
  · rw [cD_J3, cD_J4]
    show ev_u (ev_u (ev_u (ev_u σ.2.1 3 _) 4 _) 3 _) 4 _ k = ev_u (ev_u σ.2.1 3 _) 4 _ k
    unfold ev_u
    by_cases a : k = 4
    · simp only [if_pos a]; rfl
    · by_cases b : k = 3
      · simp only [if_neg a, if_pos b]; rfl
      · simp only [if_neg a, if_neg b]
  · show ev_u (cD σ f A B i).2.2 2 (ev_u ((cD σ f A B i).2.2 2) i _) k = (cD σ f A B (i + 1)).2.2 k
    rw [cD_A σ f A B (i + 1)]
    by_cases a : k = 2
    · subst a
      rw [ev_u_self, ev_u_self, cD_A, ev_u_self, fillTo_up _ _ _ _ rfl]
    · rw [ev_u_ne _ _ a, ev_u_ne _ _ a, cD_A, ev_u_ne _ _ a]
def sCi (σ : CS) (i : Nat) : CS := cD σ (sMl (sDM σ)) (fun j => (sTake σ j).toInt64) (fun j => ((sDM σ).2.2 2 j - sMl (sDM σ) j).toInt64) i
theorem sCi_A (σ : CS) (i k : Nat) : (sCi σ i).2.2 k = ev_u σ.2.2 2 (fillTo i (sMl (sDM σ)) (σ.2.2 2)) k := cD_A _ _ _ _ _ _
theorem sCi_at (σ : CS) (i : Nat) : (sCi σ i).2.2 2 i = σ.2.2 2 i := by rw [sCi_A, ev_u_self, fillTo_at]
theorem sCi_up (σ : CS) (i : Nat) : cs_A (cs_J (cs_J (sCi σ i) 3 ((sCi σ i).2.1 3 + (sTake σ i).toInt64)) 4 ((sCi σ i).2.1 4 + ((sDM σ).2.2 2 i - sMl (sDM σ) i).toInt64)) 2 (ev_u ((cs_J (cs_J (sCi σ i) 3 ((sCi σ i).2.1 3 + (sTake σ i).toInt64)) 4 ((sCi σ i).2.1 4 + ((sDM σ).2.2 2 i - sMl (sDM σ) i).toInt64)).2.2 2) i (sMl (sDM σ) i)) = sCi σ (i + 1) := by
  unfold sCi
  exact cD_up σ (sMl (sDM σ)) (fun j => (sTake σ j).toInt64) (fun j => ((sDM σ).2.2 2 j - sMl (sDM σ) j).toInt64) i
theorem sDM_at {σ : CS} {j : Nat} (h : j < sNm σ) : (sDM σ).2.2 2 j = σ.2.2 2 j - sTake σ j := by
  show fillTo (sNm σ) (fun j => σ.2.2 2 j - sTake σ j) (σ.2.2 2) j = _
  rw [fillTo_lt _ _ h]
theorem sDL_1 (σ : CS) : (sLM (sDM σ)).1 = σ.1 := rfl
theorem sDL_A (σ : CS) {k : Nat} (h : k ≠ 2) : (sLM (sDM σ)).2.2 k = σ.2.2 k := by
  show ev_u (ev_u σ.2.2 2 _) 2 _ k = _
  rw [ev_u_ne _ _ h, ev_u_ne _ _ h]
theorem sDL_2 {σ : CS} {j : Nat} (h : j < sNm σ) : (sLM (sDM σ)).2.2 2 j = sMl (sDM σ) j := by
  rw [sLM_2]
  exact fillTo_lt _ _ h
theorem sDL_J (σ : CS) : (sLM (sDM σ)).2.1 = (sCi σ (sNm σ)).2.1 := rfl
/-- what the model's one loop leaves is what the class's two loops leave -/
theorem RD_DL {σ : CS} {δ : Nat → Int64} (hv : sInv σ) (h : RD (sCi σ (sNm σ)) δ) : RD (sLM (sDM σ)) δ := by
  have hn := hv.1.nat
  have hin := hv.2.2.1.nat
  refine h.congr hn.2.1 hin.2 (by have := hv.2.2.2.2; show (σ.1 6).toInt.toNat ≤ 32; omega) (fun _ _ => rfl) (fun k _ => by rw [sDL_J]) (fun w j hw hj => ?_) (fun w s hw hs => ?_) (fun w k hw hk => ?_) (fun w k hw hk => ?_) (fun _ _ => rfl)
  · have hj : j < sNm σ := hj
    by_cases e : w = 2
    · subst e
      rw [sDL_2 hj, sCi_A, ev_u_self, fillTo_lt _ _ hj]
    · rw [sDL_A σ e, sCi_A, ev_u_ne _ _ e]
  · rw [sDL_A σ (by omega), sCi_A, ev_u_ne _ _ (by omega)]
  · rw [sDL_A σ (by omega), sCi_A, ev_u_ne _ _ (by omega)]
  · rw [sDL_A σ (by omega), sCi_A, ev_u_ne _ _ (by omega)]
section M5
variable {G : ev_G} {l : Launch} {c j w : Nat} {μ : MS} {σ : CS} {h : ev_H} {x y z : Int32} {T : Int}
set_option maxRecDepth 20000 in
theorem lp_mtA {J : ev_K} {k n : Nat} (hJ : 5 ≤ J.2.2.1) (hR : RD σ (μ.2.1 0)) (hv : sInv σ) (hb : RBs σ) (hk : ∀ F : Nat → Int64, (∀ s, s < sNm σ + 1 → F s = (sPull σ s).toInt64) → ev_V G l mX7_tick J 31 [some (.ref c), some (.int (σ.1 0)), some (.int 0)] [] (mo G c (ms_L μ 11 F) h) k n) : ∀ (r i : Nat) (x : Int32) (F : Nat → Int64), r + i = sNm σ + 1 → x.toInt = (i : Int) → (∀ s, s < i → F s = (sPull σ s).toInt64) → ev_V G l mX7_tick J 9 [some (.ref c), some (.int (σ.1 0)), some (.int 0), some (.int x)] [] (mo G c (ms_L μ 11 F) h) k n := by
  intro r
  induction r using Nat.strongRecOn with
  | ind r ih =>
    intro i x F
    intro hr hx hF
    have hn : x.toInt.toNat = i := ar_nat hx
    have hmn := hv.1.nat
    have hmu : (σ.1 0).toInt = sM σ := rfl
    have z0 := ar_0
    have z1 := ar_1
    have zL : (0 : Int64).toInt = 0 := by decide +kernel
    have zc : (0 : Int32).toInt64 = 0 := by decide +kernel
    have hR1 : RD σ ((ms_L μ 11 F).2.1 0) := by rw [ms_L_ne _ _ (by decide)]; exact hR
    refine e_iload_n dX7_tick_9 rfl rfl ?_
    refine e_iload_n dX7_tick_10 rfl rfl ?_
    refine e_icmp_gt (tgt := 31) dX7_tick_11 (by decide) (fun c11 => ?_) (fun c11 => ?_)
    · obtain rfl : i = sNm σ + 1 := by omega
      exact ev_lc (hk F hF) ⟨rfl, rfl, rfl, trivial⟩
    · refine e_aload_n dX7_tick_14 rfl rfl ?_
      refine mo_g17 wF_X7_32 dX7_tick_15 ?_
      refine e_iload_n dX7_tick_18 rfl rfl ?_
      refine e_aload_n dX7_tick_19 rfl rfl ?_
      refine e_iload_n dX7_tick_20 rfl rfl ?_
      refine e_invV (mcY := 0) (msY := 0) (ct_X7_pull hR1 hv hb hx (by omega)) vX7_pull wM_X7_225 (mo_at G c _ h 0 (by decide)) rfl dX7_tick_21 rfl rfl (Nat.le_of_ble_eq_true rfl) (Nat.le_trans (Nat.le_of_ble_eq_true rfl) hJ) ?_
      rintro _ _ ⟨rfl, rfl⟩
      refine mo_s14 (by omega) (by omega) dX7_tick_24 ?_
      refine e_iinc dX7_tick_25 rfl rfl (Nat.le_of_ble_eq_true rfl) ?_
      refine e_goto (tgt := 9) dX7_tick_28 (by decide) ?_
      refine ev_as (a' := mo G c (ms_L μ 11 (ev_u F i (sPull σ i).toInt64)) h) (by rw [ms_L_L, ms_L_get, hn]) (ih (r - 1) (by omega) (i + 1) _ _ (by omega) (ar_inc hx (by omega)) (fun s hs => ?_))
      by_cases e : s = i
      · rw [e, ev_u_self]
      · rw [ev_u_ne _ _ e]; exact hF s (by omega)
set_option maxRecDepth 20000 in
theorem lp_mtB {J : ev_K} {k n : Nat} (hJ : 5 ≤ J.2.2.1) (hv : sInv σ) (hb : RBs σ) (hbm : RBm 100000000 σ) {F : Nat → Int64} (hF : ∀ s, s < sNm σ + 1 → F s = (sPull σ s).toInt64) (hk : ∀ δ : Nat → Int64, RD (sTP2 σ (sNm σ)) δ → ev_V G l mX7_tick J 72 [some (.ref c), some (.int (σ.1 0)), some (.int 0)] [] (mo G c (ms_L (ms_L μ 11 F) 0 δ) h) k n) : ∀ (r i : Nat) (x : Int32) (δ : Nat → Int64), r + i = sNm σ → x.toInt = (i : Int) → RD (sTP2 σ i) δ → ev_V G l mX7_tick J 33 [some (.ref c), some (.int (σ.1 0)), some (.int 0), some (.int x)] [] (mo G c (ms_L (ms_L μ 11 F) 0 δ) h) k n := by
  intro r
  induction r using Nat.strongRecOn with
  | ind r ih =>
    intro i x δ
    intro hr hx hR
    have hn : x.toInt.toNat = i := ar_nat hx
    have hmn := hv.1.nat
    have hmu : (σ.1 0).toInt = sM σ := rfl
    have z0 := ar_0
    have z1 := ar_1
    have zL : (0 : Int64).toInt = 0 := by decide +kernel
    have zc : (0 : Int32).toInt64 = 0 := by decide +kernel
    have hR1 : RD (sTP2 σ i) ((ms_L (ms_L μ 11 F) 0 δ).2.1 0) := by rw [ms_L_get]; exact hR
    have f11 : (ms_L (ms_L μ 11 F) 0 δ).2.1 11 = F := by rw [ms_L_ne _ _ (by decide), ms_L_get]
    have hx1 : i < sNm σ → (x + 1).toInt = ((i + 1 : Nat) : Int) := fun q => by rw [ar_add (by omega) (by omega)]; omega
    have fB : (sTP2 σ i).2.2 2 i = σ.2.2 2 i := fillTo_at i (sMom1 σ) (σ.2.2 2)
    refine e_iload_n dX7_tick_33 rfl rfl ?_
    refine e_iload_n dX7_tick_34 rfl rfl ?_
    refine e_icmp_ge (tgt := 72) dX7_tick_35 (by decide) (fun c35 => ?_) (fun c35 => ?_)
    · obtain rfl : i = sNm σ := by omega
      exact ev_lc (hk δ hR) ⟨rfl, rfl, rfl, trivial⟩
    · have hi : i < sNm σ := by omega
      have hx1 := hx1 hi
      have fP1 : (ms_L (ms_L μ 11 F) 0 δ).2.1 11 (x + 1).toInt.toNat = (sPull σ (i + 1)).toInt64 := by rw [f11, ar_nat hx1]; exact hF _ (by omega)
      have fP0 : (ms_L (ms_L μ 11 F) 0 δ).2.1 11 x.toInt.toNat = (sPull σ i).toInt64 := by rw [f11, hn]; exact hF _ (by omega)
      refine e_aload_n dX7_tick_38 rfl rfl ?_
      refine e_iload_n dX7_tick_39 rfl rfl ?_
      refine e_iconst (v := 2) dX7_tick_40 (by decide) ?_
      refine e_aload_n dX7_tick_41 rfl rfl ?_
      refine e_iload_n dX7_tick_42 rfl rfl ?_
      refine e_iconst (v := 2) dX7_tick_43 (by decide) ?_
      refine e_invV (mcY := 0) (msY := 0) (ct_of (σ := sTP2 σ i) (j := i) (w := 2) hR1 hv hx (by decide +kernel) hi (by decide)) vX7_of wM_X7_201 (mo_at G c _ h 0 (by decide)) rfl dX7_tick_44 rfl rfl (Nat.le_of_ble_eq_true rfl) (Nat.le_trans (Nat.le_of_ble_eq_true rfl) hJ) ?_
      rintro _ _ ⟨rfl, rfl⟩
      rw [fB]
      refine e_aload_n dX7_tick_47 rfl rfl ?_
      refine mo_g17 wF_X7_32 dX7_tick_48 ?_
      refine e_iload_n dX7_tick_51 rfl rfl ?_
      refine e_iconst (v := 1) dX7_tick_52 (by decide) ?_
      refine e_iadd dX7_tick_53 ?_
      refine mo_l14 (by omega) (by omega) dX7_tick_54 ?_
      rw [fP1]
      refine e_ladd dX7_tick_55 ?_
      refine e_aload_n dX7_tick_56 rfl rfl ?_
      refine mo_g17 wF_X7_32 dX7_tick_57 ?_
      refine e_iload_n dX7_tick_60 rfl rfl ?_
      refine mo_l14 (by omega) (by omega) dX7_tick_61 ?_
      rw [fP0]
      refine e_lsub dX7_tick_62 ?_
      refine e_invV (mcY := 0) (msY := 0) (ct_X7_set (j := i) (w := 2) hx (by decide +kernel) (by omega) (by decide)) vX7_set wM_X7_221 (mo_at G c _ h 0 (by decide)) rfl dX7_tick_63 rfl rfl (Nat.le_of_ble_eq_true rfl) (Nat.le_trans (Nat.le_of_ble_eq_true rfl) hJ) ?_
      rintro _ _ ⟨rfl, rfl⟩
      refine e_iinc dX7_tick_66 rfl rfl (Nat.le_of_ble_eq_true rfl) ?_
      refine e_goto (tgt := 33) dX7_tick_69 (by decide) ?_
      refine ev_as (a' := mo G c (ms_L (ms_L μ 11 F) 0 (ev_u δ (12 + 3 * i + 2) (sMom1 σ i).toInt64)) h) (by rw [ms_L_L, ms_L_get, (sMom1_64 hv.1 hb hbm hi).1]) (ih (r - 1) (by omega) (i + 1) _ _ (by omega) (ar_inc hx (by omega)) ?_)
      have q := RD.ms hR (σ := sTP2 σ i) hv (w := 2) (j := i) (by decide) hi (sMom1 σ i)
      have e : cs_A (sTP2 σ i) 2 (ev_u ((sTP2 σ i).2.2 2) i (sMom1 σ i)) = sTP2 σ (i + 1) := by
        show cs_A (cs_A (sTP1 σ (sNm σ + 1)) 2 (fillTo i (sMom1 σ) (σ.2.2 2))) 2 (ev_u (fillTo i (sMom1 σ) (σ.2.2 2)) i (sMom1 σ i)) = _
        rw [cs_A_A, fillTo_up _ _ _ _ rfl]
        rfl
      rwa [e] at q
set_option maxRecDepth 20000 in
theorem lp_mtC {J : ev_K} {k n : Nat} (hJ : 5 ≤ J.2.2.1) (hv : sInv σ) (hb : RBs σ) (hbm : RBm 141000000 σ) (hk : ∀ δ : Nat → Int64, RD (sCi σ (sNm σ)) δ → ev_V G l mX7_tick J 196 [some (.ref c), some (.int (σ.1 0)), some (.int 0)] [] (mo G c (ms_L μ 0 δ) h) k n) : ∀ (r i : Nat) (x : Int32) (δ : Nat → Int64), r + i = sNm σ → x.toInt = (i : Int) → RD (sCi σ i) δ → ev_V G l mX7_tick J 110 [some (.ref c), some (.int (σ.1 0)), some (.int 0), some (.int x)] [] (mo G c (ms_L μ 0 δ) h) k n := by
  intro r
  induction r using Nat.strongRecOn with
  | ind r ih =>
    intro i x δ
    intro hr hx hR
    have hn : x.toInt.toNat = i := ar_nat hx
    have hmn := hv.1.nat
    have hmu : (σ.1 0).toInt = sM σ := rfl
    have z0 := ar_0
    have z1 := ar_1
    have zL : (0 : Int64).toInt = 0 := by decide +kernel
    have zc : (0 : Int32).toInt64 = 0 := by decide +kernel
    have hR1 : RD (sCi σ i) ((ms_L μ 0 δ).2.1 0) := by rw [ms_L_get]; exact hR
    have w4 : (4 : Int32).toInt = 4 := by decide +kernel
    have w10 : (10 : Int32).toInt = 10 := by decide +kernel
    have w11 : (11 : Int32).toInt = 11 := by decide +kernel
    have n10 : (10 : Int32).toInt.toNat = 10 := by decide +kernel
    have n11 : (11 : Int32).toInt.toNat = 11 := by decide +kernel
    have f4 : (ms_L μ 0 δ).2.1 0 (4 : Int32).toInt.toNat = (σ.1 2).toInt64 := by rw [ms_L_get, w4]; exact hR.1.2.2.2.2.1
    have w8 : (100000000 : Int32).toInt = 100000000 := by decide +kernel
    have wL : (100000000 : Int64).toInt = 100000000 := by decide +kernel
    refine e_iload_n dX7_tick_110 rfl rfl ?_
    refine e_iload_n dX7_tick_111 rfl rfl ?_
    refine e_icmp_ge (tgt := 196) dX7_tick_112 (by decide) (fun c112 => ?_) (fun c112 => ?_)
    · obtain rfl : i = sNm σ := by omega
      exact ev_lc (hk δ hR) ⟨rfl, rfl, rfl, trivial⟩
    · have hi : i < sNm σ := by omega
      have hT := sTake_64 hb hbm (by decide) (by decide) hi
      have hM := hbm i hi
      have fRest : (σ.2.2 2 i).toInt64 - (sTake σ i).toInt64 = ((sDM σ).2.2 2 i).toInt64 := by rw [sDM_at hi, ar_64sub (by omega) (by omega)]
      have fK : mWi ((sDM σ).2.2 2 i).toInt64 100000000 = (sMl (sDM σ) i).toInt64 := mWi_lim (b := 100000000) (by rw [w8]; decide) (by rw [wL, w8])
      have hMl := sMl_b (sDM σ) i
      have hD : -300000000 ≤ ((sDM σ).2.2 2 i).toInt ∧ ((sDM σ).2.2 2 i).toInt ≤ 300000000 := by rw [sDM_at hi, ar_sub (by omega) (by omega)]; omega
      have a3 : δ (7 + 3) = (sCi σ i).2.1 3 := hR.2.1.1 3 (by decide)
      have a4 : δ (7 + 4) = (sCi σ i).2.1 4 := hR.2.1.1 4 (by decide)
      refine e_aload_n dX7_tick_115 rfl rfl ?_
      refine e_iload_n dX7_tick_116 rfl rfl ?_
      refine e_iconst (v := 2) dX7_tick_117 (by decide) ?_
      refine e_invV (mcY := 0) (msY := 0) (ct_of (σ := sCi σ i) (j := i) (w := 2) hR1 hv hx (by decide +kernel) hi (by decide)) vX7_of wM_X7_201 (mo_at G c _ h 0 (by decide)) rfl dX7_tick_118 rfl rfl (Nat.le_of_ble_eq_true rfl) (Nat.le_trans (Nat.le_of_ble_eq_true rfl) hJ) ?_
      rintro _ _ ⟨rfl, rfl⟩
      rw [sCi_at]
      refine e_aload_n dX7_tick_121 rfl rfl ?_
      refine mo_g8 wF_X7_17 dX7_tick_122 ?_
      refine e_iconst (v := 4) dX7_tick_125 (by decide) ?_
      refine mo_l2 (by omega) (by omega) dX7_tick_126 ?_
      rw [f4]
      refine e_lmul dX7_tick_127 ?_
      refine e_ldc2 dX7_tick_128 wK_X7_231 ?_
      refine e_ldiv dX7_tick_131 (by decide) ?_
      rw [← hT.1]
      refine e_lstore dX7_tick_132 (Nat.le_of_ble_eq_true rfl) ?_
      refine e_aload_n dX7_tick_134 rfl rfl ?_
      refine e_iload_n dX7_tick_135 rfl rfl ?_
      refine e_iconst (v := 2) dX7_tick_136 (by decide) ?_
      refine e_invV (mcY := 0) (msY := 0) (ct_of (σ := sCi σ i) (j := i) (w := 2) hR1 hv hx (by decide +kernel) hi (by decide)) vX7_of wM_X7_201 (mo_at G c _ h 0 (by decide)) rfl dX7_tick_137 rfl rfl (Nat.le_of_ble_eq_true rfl) (Nat.le_trans (Nat.le_of_ble_eq_true rfl) hJ) ?_
      rintro _ _ ⟨rfl, rfl⟩
      rw [sCi_at]
      refine e_lload dX7_tick_140 rfl ?_
      refine e_lsub dX7_tick_142 ?_
      rw [fRest]
      refine e_lstore dX7_tick_143 (Nat.le_of_ble_eq_true rfl) ?_
      refine e_lload dX7_tick_145 rfl ?_
      refine e_ldc2 dX7_tick_147 wK_X7_233 ?_
      refine e_invS (mcY := 0) (msY := 0) (ct_X7_within) vX7_within wM_X7_235 dX7_tick_150 rfl rfl (Nat.le_of_ble_eq_true rfl) (Nat.le_trans (Nat.le_of_ble_eq_true rfl) hJ) ?_
      rintro _ _ ⟨rfl, rfl⟩
      rw [fK]
      refine e_lstore dX7_tick_153 (Nat.le_of_ble_eq_true rfl) ?_
      refine e_aload_n dX7_tick_155 rfl rfl ?_
      refine mo_g8 wF_X7_17 dX7_tick_156 ?_
      refine e_bipush (v := 10) dX7_tick_159 (by decide) ?_
      refine e_dup2 dX7_tick_161 rfl rfl ?_
      refine mo_l2 (by omega) (by omega) dX7_tick_162 ?_
      refine e_lload dX7_tick_163 rfl ?_
      refine e_ladd dX7_tick_165 ?_
      refine mo_s2 (by omega) (by omega) dX7_tick_166 ?_
      refine e_aload_n dX7_tick_167 rfl rfl ?_
      refine mo_g8 wF_X7_17 dX7_tick_168 ?_
      refine e_bipush (v := 11) dX7_tick_171 (by decide) ?_
      refine e_dup2 dX7_tick_173 rfl rfl ?_
      refine mo_l2 (by omega) (by omega) dX7_tick_174 ?_
      refine e_lload dX7_tick_175 rfl ?_
      refine e_lload dX7_tick_177 rfl ?_
      refine e_lsub dX7_tick_179 ?_
      refine e_ladd dX7_tick_180 ?_
      refine mo_s2 (by omega) (by omega) dX7_tick_181 ?_
      refine e_aload_n dX7_tick_182 rfl rfl ?_
      refine e_iload_n dX7_tick_183 rfl rfl ?_
      refine e_iconst (v := 2) dX7_tick_184 (by decide) ?_
      refine e_lload dX7_tick_185 rfl ?_
      refine e_invV (mcY := 0) (msY := 0) (ct_X7_set (j := i) (w := 2) hx (by decide +kernel) (by omega) (by decide)) vX7_set wM_X7_221 (mo_at G c _ h 0 (by decide)) rfl dX7_tick_187 rfl rfl (Nat.le_of_ble_eq_true rfl) (Nat.le_trans (Nat.le_of_ble_eq_true rfl) hJ) ?_
      rintro _ _ ⟨rfl, rfl⟩
      refine e_iinc dX7_tick_190 rfl rfl (Nat.le_of_ble_eq_true rfl) ?_
      refine e_goto (tgt := 110) dX7_tick_193 (by decide) ?_
      refine ev_loc (L' := [some (.ref c), some (.int (σ.1 0)), some (.int 0), some (.int _)]) ⟨rfl, rfl, rfl, rfl, trivial⟩ ?_
      refine ev_as (a' := mo G c (ms_L μ 0 (ev_u (ev_u (ev_u δ (7 + 3) ((sCi σ i).2.1 3 + (sTake σ i).toInt64)) (7 + 4) ((sCi σ i).2.1 4 + ((sDM σ).2.2 2 i - sMl (sDM σ) i).toInt64)) (12 + 3 * i + 2) (sMl (sDM σ) i).toInt64)) h) ?_ (ih (r - 1) (by omega) (i + 1) _ _ (by omega) (ar_inc hx (by omega)) ?_)
      · simp only [ms_L_L, ms_L_get, n10, n11]
        rw [ar_64sub (by omega) (by omega), ← a3, ← a4, ev_u_ne δ (k := 10) (j := 11) _ (by decide)]
      · rw [← sCi_up]
        exact RD.ms (RD.acc (RD.acc hR (σ := sCi σ i) hv (k := 3) (by decide) _) (σ := cs_J (sCi σ i) 3 _) hv (k := 4) (by decide) _) (σ := cs_J (cs_J (sCi σ i) 3 _) 4 _) hv (w := 2) (by decide) hi _
set_option maxRecDepth 20000 in
theorem lp_mtD {J : ev_K} {k n : Nat} (hJ : 5 ≤ J.2.2.1) (hv : sInv σ) (hk : ∀ δ : Nat → Int64, RD (sSM σ) δ → ev_V G l mX7_tick J 241 [some (.ref c), some (.int (σ.1 0)), some (.int 0)] [] (mo G c (ms_L μ 0 δ) h) k n) : ∀ (r i : Nat) (x : Int32) (δ : Nat → Int64), r + i = sNm σ → x.toInt = (i : Int) → RD (sSMi σ i) δ → ev_V G l mX7_tick J 198 [some (.ref c), some (.int (σ.1 0)), some (.int 0), some (.int x)] [] (mo G c (ms_L μ 0 δ) h) k n := by
  intro r
  induction r using Nat.strongRecOn with
  | ind r ih =>
    intro i x δ
    intro hr hx hR
    have hn : x.toInt.toNat = i := ar_nat hx
    have hmn := hv.1.nat
    have hmu : (σ.1 0).toInt = sM σ := rfl
    have z0 := ar_0
    have z1 := ar_1
    have zL : (0 : Int64).toInt = 0 := by decide +kernel
    have zc : (0 : Int32).toInt64 = 0 := by decide +kernel
    have hR1 : RD (sSMi σ i) ((ms_L μ 0 δ).2.1 0) := by rw [ms_L_get]; exact hR
    have w8 : (1000000 : Int32).toInt = 1000000 := by decide +kernel
    have wL : (1000000 : Int64).toInt = 1000000 := by decide +kernel
    refine e_iload_n dX7_tick_198 rfl rfl ?_
    refine e_iload_n dX7_tick_199 rfl rfl ?_
    refine e_icmp_ge (tgt := 241) dX7_tick_200 (by decide) (fun c200 => ?_) (fun c200 => ?_)
    · obtain rfl : i = sNm σ := by omega
      exact ev_lc (hk δ hR) ⟨rfl, rfl, rfl, trivial⟩
    · have hi : i < sNm σ := by omega
      have hwt := hv.2.1 i hi
      have g1 : (sSMi σ i).2.2 1 i = σ.2.2 1 i := fillTo_at i (sDl σ) (σ.2.2 1)
      have g2 : (sSMi σ i).2.2 2 i = σ.2.2 2 i := rfl
      have g0 : (sSMi σ i).2.2 0 i = σ.2.2 0 i := rfl
      have fV : (σ.2.2 2 i).toInt64 / (σ.2.2 0 i).toInt64 = (sVel σ i).toInt64 := (ar_64div (by omega)).symm
      have fD : mWi ((σ.2.2 1 i).toInt64 + (sVel σ i).toInt64) 1000000 = (sDl σ i).toInt64 := mWi_lim (b := 1000000) (by rw [w8]; decide) (by rw [wL, w8])
      refine e_aload_n dX7_tick_203 rfl rfl ?_
      refine e_iload_n dX7_tick_204 rfl rfl ?_
      refine e_iconst (v := 1) dX7_tick_205 (by decide) ?_
      refine e_aload_n dX7_tick_206 rfl rfl ?_
      refine e_iload_n dX7_tick_207 rfl rfl ?_
      refine e_iconst (v := 1) dX7_tick_208 (by decide) ?_
      refine e_invV (mcY := 0) (msY := 0) (ct_of (σ := sSMi σ i) (j := i) (w := 1) hR1 hv hx ar_1 hi (by decide)) vX7_of wM_X7_201 (mo_at G c _ h 0 (by decide)) rfl dX7_tick_209 rfl rfl (Nat.le_of_ble_eq_true rfl) (Nat.le_trans (Nat.le_of_ble_eq_true rfl) hJ) ?_
      rintro _ _ ⟨rfl, rfl⟩
      rw [g1]
      refine e_aload_n dX7_tick_212 rfl rfl ?_
      refine e_iload_n dX7_tick_213 rfl rfl ?_
      refine e_iconst (v := 2) dX7_tick_214 (by decide) ?_
      refine e_invV (mcY := 0) (msY := 0) (ct_of (σ := sSMi σ i) (j := i) (w := 2) hR1 hv hx (by decide +kernel) hi (by decide)) vX7_of wM_X7_201 (mo_at G c _ h 0 (by decide)) rfl dX7_tick_215 rfl rfl (Nat.le_of_ble_eq_true rfl) (Nat.le_trans (Nat.le_of_ble_eq_true rfl) hJ) ?_
      rintro _ _ ⟨rfl, rfl⟩
      rw [g2]
      refine e_aload_n dX7_tick_218 rfl rfl ?_
      refine e_iload_n dX7_tick_219 rfl rfl ?_
      refine e_iconst (v := 0) dX7_tick_220 (by decide) ?_
      refine e_invV (mcY := 0) (msY := 0) (ct_of (σ := sSMi σ i) (j := i) (w := 0) hR1 hv hx ar_0 hi (by decide)) vX7_of wM_X7_201 (mo_at G c _ h 0 (by decide)) rfl dX7_tick_221 rfl rfl (Nat.le_of_ble_eq_true rfl) (Nat.le_trans (Nat.le_of_ble_eq_true rfl) hJ) ?_
      rintro _ _ ⟨rfl, rfl⟩
      rw [g0]
      refine e_ldiv dX7_tick_224 (hv.2.1.ne64 hi) ?_
      rw [fV]
      refine e_ladd dX7_tick_225 ?_
      refine e_ldc2 dX7_tick_226 wK_X7_239 ?_
      refine e_invS (mcY := 0) (msY := 0) (ct_X7_within) vX7_within wM_X7_235 dX7_tick_229 rfl rfl (Nat.le_of_ble_eq_true rfl) (Nat.le_trans (Nat.le_of_ble_eq_true rfl) hJ) ?_
      rintro _ _ ⟨rfl, rfl⟩
      rw [fD]
      refine e_invV (mcY := 0) (msY := 0) (ct_X7_set (j := i) (w := 1) hx ar_1 (by omega) (by decide)) vX7_set wM_X7_221 (mo_at G c _ h 0 (by decide)) rfl dX7_tick_232 rfl rfl (Nat.le_of_ble_eq_true rfl) (Nat.le_trans (Nat.le_of_ble_eq_true rfl) hJ) ?_
      rintro _ _ ⟨rfl, rfl⟩
      refine e_iinc dX7_tick_235 rfl rfl (Nat.le_of_ble_eq_true rfl) ?_
      refine e_goto (tgt := 198) dX7_tick_238 (by decide) ?_
      refine ev_as (a' := mo G c (ms_L μ 0 (ev_u δ (12 + 3 * i + 1) (sDl σ i).toInt64)) h) (by rw [ms_L_L, ms_L_get]) (ih (r - 1) (by omega) (i + 1) _ _ (by omega) (ar_inc hx (by omega)) ?_)
      have q := RD.ms hR (σ := sSMi σ i) hv (w := 1) (j := i) (by decide) hi (sDl σ i)
      have e : cs_A (sSMi σ i) 1 (ev_u ((sSMi σ i).2.2 1) i (sDl σ i)) = sSMi σ (i + 1) := by
        show cs_A (cs_A σ 1 (fillTo i (sDl σ) (σ.2.2 1))) 1 (ev_u (fillTo i (sDl σ) (σ.2.2 1)) i (sDl σ i)) = _
        rw [cs_A_A, fillTo_up _ _ _ _ rfl]
        rfl
      rwa [e] at q
set_option maxRecDepth 20000 in
theorem lp_mtE {J : ev_K} {k n : Nat} (hJ : 5 ≤ J.2.2.1) (hv : sInv σ) (hb : RBs σ) (hk : ∀ (y : Int32) (δ : Nat → Int64), y = acc32 0 (sBr1 σ) (sNm σ + 1) → RD (sBS σ) δ → ev_V G l mX7_tick J 311 [some (.ref c), some (.int (σ.1 0)), some (.int y)] [] (mo G c (ms_L μ 0 δ) h) k n) : ∀ (r i : Nat) (x : Int32) (y : Int32) (δ : Nat → Int64), r + i = sNm σ + 1 → x.toInt = (i : Int) → y = acc32 0 (sBr1 σ) i → RD (sBSi σ i) δ → ev_V G l mX7_tick J 243 [some (.ref c), some (.int (σ.1 0)), some (.int y), some (.int x)] [] (mo G c (ms_L μ 0 δ) h) k n := by
  intro r
  induction r using Nat.strongRecOn with
  | ind r ih =>
    intro i x y δ
    intro hr hx hy hR
    have hn : x.toInt.toNat = i := ar_nat hx
    have hmn := hv.1.nat
    have hmu : (σ.1 0).toInt = sM σ := rfl
    have z0 := ar_0
    have z1 := ar_1
    have zL : (0 : Int64).toInt = 0 := by decide +kernel
    have zc : (0 : Int32).toInt64 = 0 := by decide +kernel
    have hR1 : RD (sBSi σ i) ((ms_L μ 0 δ).2.1 0) := by rw [ms_L_get]; exact hR
    have z48 : (48 : Int32).toInt = ((48 : Nat) : Int) := by decide +kernel
    have w2 : (2 : Int32).toInt = ((2 : Nat) : Int) := by decide +kernel
    have e2 : i ≤ sNm σ → ((48 : Int32) + 3 * x + 2).toInt = ((48 + 3 * i + 2 : Nat) : Int) := fun q => ar_ix z48 hx w2 (by omega) (by omega) (by omega)
    refine e_iload_n dX7_tick_243 rfl rfl ?_
    refine e_iload_n dX7_tick_244 rfl rfl ?_
    refine e_icmp_gt (tgt := 311) dX7_tick_245 (by decide) (fun c245 => ?_) (fun c245 => ?_)
    · obtain rfl : i = sNm σ + 1 := by omega
      exact ev_lc (hk y δ hy hR) ⟨rfl, rfl, rfl, trivial⟩
    · have hi : i ≤ sNm σ := by omega
      have g5 : (sBSi σ i).2.2 5 i = σ.2.2 5 i := fillTo_at i (sBr2 σ) (σ.2.2 5)
      have hbi := RBs_BSi hb i
      have hst := sStr_64 (σ := sBSi σ i) hv.1 hbi (s := i) hi
      have gS : sStr (sBSi σ i) i = sStr σ i := rfl
      have gL : (sBSi σ i).2.2 (3 + 1) i = σ.2.2 4 i := rfl
      have e2 := e2 hi
      refine e_aload_n dX7_tick_248 rfl rfl ?_
      refine e_iload_n dX7_tick_249 rfl rfl ?_
      refine e_invV (mcY := 0) (msY := 0) (ct_X7_isWhole (σ := sBSi σ i) hR1 hv hx hi) vX7_isWhole wM_X7_212 (mo_at G c _ h 0 (by decide)) rfl dX7_tick_250 rfl rfl (Nat.le_of_ble_eq_true rfl) (Nat.le_trans (Nat.le_of_ble_eq_true rfl) hJ) ?_
      rintro _ _ hc
      rw [g5] at hc
      rcases hc with ⟨hw, rfl, rfl⟩ | ⟨hw, rfl, rfl⟩
      · refine e_if_eq (tgt := 305) dX7_tick_253 (by decide) (fun c253 => ?_) (fun c253 => ?_)
        · first | exact absurd c253 (by decide) | exact absurd rfl c253
        · refine e_aload_n dX7_tick_256 rfl rfl ?_
          refine e_iload_n dX7_tick_257 rfl rfl ?_
          refine e_iconst (v := 1) dX7_tick_258 (by decide) ?_
          refine e_invV (mcY := 0) (msY := 0) (ct_oS (σ := sBSi σ i) (j := i) (w := 1) hR1 hv hx ar_1 hi (by decide)) vX7_ofSpring wM_X7_209 (mo_at G c _ h 0 (by decide)) rfl dX7_tick_259 rfl rfl (Nat.le_of_ble_eq_true rfl) (Nat.le_trans (Nat.le_of_ble_eq_true rfl) hJ) ?_
          rintro _ _ ⟨rfl, rfl⟩
          refine e_lconst (v := 0) dX7_tick_262 (by decide) ?_
          refine e_lcmp dX7_tick_263 ?_
          refine e_if_eq (tgt := 305) dX7_tick_264 (by decide) (fun c264 => ?_) (fun c264 => ?_)
          · have hno : ¬ (σ.2.2 5 i = 0 ∧ (σ.2.2 4 i ≠ 0 ∧ (σ.2.2 4 i).toInt < (sAbs (sStr σ i)).toInt)) := fun q => q.2.1 (ar_eq ((ar_de0 c264).trans ar_0.symm))
            refine e_iinc dX7_tick_305 rfl rfl (Nat.le_of_ble_eq_true rfl) ?_
            refine e_goto (tgt := 243) dX7_tick_308 (by decide) ?_
            first
              | (refine ev_as (a' := mo G c (ms_L μ 0 δ) h) rfl (ih (r - 1) (by omega) (i + 1) _ _ _ (by omega) (ar_inc hx (by omega)) ?_ ?_)
                 · rw [hy]
                   show acc32 0 (sBr1 σ) i = acc32 0 (sBr1 σ) i + sBr1 σ i
                   rw [show sBr1 σ i = 0 from if_neg hno, Int32.add_zero]
                 · have e : sBSi σ (i + 1) = sBSi σ i := by
                     show cs_A σ 5 (fillTo (i + 1) (sBr2 σ) (σ.2.2 5)) = cs_A σ 5 (fillTo i (sBr2 σ) (σ.2.2 5))
                     rw [fillTo_same i (sBr2 σ) (σ.2.2 5) (if_neg hno)]
                   rw [e]; exact hR)
              | (refine ev_as (a' := mo G c (ms_L μ 0 (ev_u δ (48 + 3 * i + 2) (1 : Int32).toInt64)) h) (by rw [ms_L_L, ms_L_get, ar_nat e2]; rfl) (ih (r - 1) (by omega) (i + 1) _ _ _ (by omega) (ar_inc hx (by omega)) ?_ ?_)
                 · rw [hy]
                   show acc32 0 (sBr1 σ) i + Int32.ofInt 1 = acc32 0 (sBr1 σ) i + sBr1 σ i
                   rw [show sBr1 σ i = 1 from if_pos hyes, ar_i1]
                 · have q := RD.sp hR (σ := sBSi σ i) hv (w := 2) (j := i) (by decide) hi 1
                   have e : cs_A (sBSi σ i) (3 + 2) (ev_u ((sBSi σ i).2.2 (3 + 2)) i 1) = sBSi σ (i + 1) := by
                     show cs_A (cs_A σ 5 (fillTo i (sBr2 σ) (σ.2.2 5))) 5 (ev_u (fillTo i (sBr2 σ) (σ.2.2 5)) i 1) = cs_A σ 5 (fillTo (i + 1) (sBr2 σ) (σ.2.2 5))
                     rw [cs_A_A, fillTo_up _ _ _ _ (if_pos hyes).symm]
                   rwa [e] at q)
          · have d264 : ¬ σ.2.2 4 i = 0 := fun q => ar_dl0 c264 (by rw [gL, q]; exact ar_0)
            refine e_aload_n dX7_tick_267 rfl rfl ?_
            refine e_iload_n dX7_tick_268 rfl rfl ?_
            refine e_invV (mcY := 0) (msY := 0) (ct_X7_stretch (σ := sBSi σ i) hR1 hv hbi hx hi) vX7_stretch wM_X7_215 (mo_at G c _ h 0 (by decide)) rfl dX7_tick_269 rfl rfl (Nat.le_of_ble_eq_true rfl) (Nat.le_trans (Nat.le_of_ble_eq_true rfl) hJ) ?_
            rintro _ _ ⟨rfl, rfl⟩
            refine e_mabsL wM_X7_241 (Nat.le_of_ble_eq_true rfl) (Nat.le_trans (Nat.le_of_ble_eq_true rfl) hJ) dX7_tick_272 ?_
            refine e_aload_n dX7_tick_275 rfl rfl ?_
            refine e_iload_n dX7_tick_276 rfl rfl ?_
            refine e_iconst (v := 1) dX7_tick_277 (by decide) ?_
            refine e_invV (mcY := 0) (msY := 0) (ct_oS (σ := sBSi σ i) (j := i) (w := 1) hR1 hv hx ar_1 hi (by decide)) vX7_ofSpring wM_X7_209 (mo_at G c _ h 0 (by decide)) rfl dX7_tick_278 rfl rfl (Nat.le_of_ble_eq_true rfl) (Nat.le_trans (Nat.le_of_ble_eq_true rfl) hJ) ?_
            rintro _ _ ⟨rfl, rfl⟩
            refine e_lcmp dX7_tick_281 ?_
            refine e_if_gt (tgt := 288) dX7_tick_282 (by decide) (fun c282 => ?_) (fun c282 => ?_)
            · have hyes : σ.2.2 5 i = 0 ∧ (σ.2.2 4 i ≠ 0 ∧ (σ.2.2 4 i).toInt < (sAbs (sStr σ i)).toInt) := ⟨hw, d264, by have q := ar_lc_gt c282; rw [gS] at hst; rw [gS, gL, ar_64, ar_labs (by omega)] at q; exact q⟩
              refine e_aload_n dX7_tick_288 rfl rfl ?_
              refine mo_g8 wF_X7_17 dX7_tick_289 ?_
              refine e_bipush (v := 48) dX7_tick_292 (by decide) ?_
              refine e_iconst (v := 3) dX7_tick_294 (by decide) ?_
              refine e_iload_n dX7_tick_295 rfl rfl ?_
              refine e_imul dX7_tick_296 ?_
              refine e_iadd dX7_tick_297 ?_
              refine e_iconst (v := 2) dX7_tick_298 (by decide) ?_
              refine e_iadd dX7_tick_299 ?_
              refine e_lconst (v := 1) dX7_tick_300 (by decide) ?_
              refine mo_s2 (by rw [e2]; omega) (by rw [e2]; omega) dX7_tick_301 ?_
              refine e_iinc dX7_tick_302 rfl rfl (Nat.le_of_ble_eq_true rfl) ?_
              refine e_iinc dX7_tick_305 rfl rfl (Nat.le_of_ble_eq_true rfl) ?_
              refine e_goto (tgt := 243) dX7_tick_308 (by decide) ?_
              first
                | (refine ev_as (a' := mo G c (ms_L μ 0 δ) h) rfl (ih (r - 1) (by omega) (i + 1) _ _ _ (by omega) (ar_inc hx (by omega)) ?_ ?_)
                   · rw [hy]
                     show acc32 0 (sBr1 σ) i = acc32 0 (sBr1 σ) i + sBr1 σ i
                     rw [show sBr1 σ i = 0 from if_neg hno, Int32.add_zero]
                   · have e : sBSi σ (i + 1) = sBSi σ i := by
                       show cs_A σ 5 (fillTo (i + 1) (sBr2 σ) (σ.2.2 5)) = cs_A σ 5 (fillTo i (sBr2 σ) (σ.2.2 5))
                       rw [fillTo_same i (sBr2 σ) (σ.2.2 5) (if_neg hno)]
                     rw [e]; exact hR)
                | (refine ev_as (a' := mo G c (ms_L μ 0 (ev_u δ (48 + 3 * i + 2) (1 : Int32).toInt64)) h) (by rw [ms_L_L, ms_L_get, ar_nat e2]; rfl) (ih (r - 1) (by omega) (i + 1) _ _ _ (by omega) (ar_inc hx (by omega)) ?_ ?_)
                   · rw [hy]
                     show acc32 0 (sBr1 σ) i + Int32.ofInt 1 = acc32 0 (sBr1 σ) i + sBr1 σ i
                     rw [show sBr1 σ i = 1 from if_pos hyes, ar_i1]
                   · have q := RD.sp hR (σ := sBSi σ i) hv (w := 2) (j := i) (by decide) hi 1
                     have e : cs_A (sBSi σ i) (3 + 2) (ev_u ((sBSi σ i).2.2 (3 + 2)) i 1) = sBSi σ (i + 1) := by
                       show cs_A (cs_A σ 5 (fillTo i (sBr2 σ) (σ.2.2 5))) 5 (ev_u (fillTo i (sBr2 σ) (σ.2.2 5)) i 1) = cs_A σ 5 (fillTo (i + 1) (sBr2 σ) (σ.2.2 5))
                       rw [cs_A_A, fillTo_up _ _ _ _ (if_pos hyes).symm]
                     rwa [e] at q)
            · have hno : ¬ (σ.2.2 5 i = 0 ∧ (σ.2.2 4 i ≠ 0 ∧ (σ.2.2 4 i).toInt < (sAbs (sStr σ i)).toInt)) := fun q => by have q1 := ar_lc_le c282; have q2 := q.2.2; rw [gS] at hst; rw [gS, gL, ar_64, ar_labs (by omega)] at q1; omega
              refine e_goto (tgt := 305) dX7_tick_285 (by decide) ?_
              refine e_iinc dX7_tick_305 rfl rfl (Nat.le_of_ble_eq_true rfl) ?_
              refine e_goto (tgt := 243) dX7_tick_308 (by decide) ?_
              first
                | (refine ev_as (a' := mo G c (ms_L μ 0 δ) h) rfl (ih (r - 1) (by omega) (i + 1) _ _ _ (by omega) (ar_inc hx (by omega)) ?_ ?_)
                   · rw [hy]
                     show acc32 0 (sBr1 σ) i = acc32 0 (sBr1 σ) i + sBr1 σ i
                     rw [show sBr1 σ i = 0 from if_neg hno, Int32.add_zero]
                   · have e : sBSi σ (i + 1) = sBSi σ i := by
                       show cs_A σ 5 (fillTo (i + 1) (sBr2 σ) (σ.2.2 5)) = cs_A σ 5 (fillTo i (sBr2 σ) (σ.2.2 5))
                       rw [fillTo_same i (sBr2 σ) (σ.2.2 5) (if_neg hno)]
                     rw [e]; exact hR)
                | (refine ev_as (a' := mo G c (ms_L μ 0 (ev_u δ (48 + 3 * i + 2) (1 : Int32).toInt64)) h) (by rw [ms_L_L, ms_L_get, ar_nat e2]; rfl) (ih (r - 1) (by omega) (i + 1) _ _ _ (by omega) (ar_inc hx (by omega)) ?_ ?_)
                   · rw [hy]
                     show acc32 0 (sBr1 σ) i + Int32.ofInt 1 = acc32 0 (sBr1 σ) i + sBr1 σ i
                     rw [show sBr1 σ i = 1 from if_pos hyes, ar_i1]
                   · have q := RD.sp hR (σ := sBSi σ i) hv (w := 2) (j := i) (by decide) hi 1
                     have e : cs_A (sBSi σ i) (3 + 2) (ev_u ((sBSi σ i).2.2 (3 + 2)) i 1) = sBSi σ (i + 1) := by
                       show cs_A (cs_A σ 5 (fillTo i (sBr2 σ) (σ.2.2 5))) 5 (ev_u (fillTo i (sBr2 σ) (σ.2.2 5)) i 1) = cs_A σ 5 (fillTo (i + 1) (sBr2 σ) (σ.2.2 5))
                       rw [cs_A_A, fillTo_up _ _ _ _ (if_pos hyes).symm]
                     rwa [e] at q)
      · have hno : ¬ (σ.2.2 5 i = 0 ∧ (σ.2.2 4 i ≠ 0 ∧ (σ.2.2 4 i).toInt < (sAbs (sStr σ i)).toInt)) := fun q => hw q.1
        refine e_if_eq (tgt := 305) dX7_tick_253 (by decide) (fun c253 => ?_) (fun c253 => ?_)
        · refine e_iinc dX7_tick_305 rfl rfl (Nat.le_of_ble_eq_true rfl) ?_
          refine e_goto (tgt := 243) dX7_tick_308 (by decide) ?_
          first
            | (refine ev_as (a' := mo G c (ms_L μ 0 δ) h) rfl (ih (r - 1) (by omega) (i + 1) _ _ _ (by omega) (ar_inc hx (by omega)) ?_ ?_)
               · rw [hy]
                 show acc32 0 (sBr1 σ) i = acc32 0 (sBr1 σ) i + sBr1 σ i
                 rw [show sBr1 σ i = 0 from if_neg hno, Int32.add_zero]
               · have e : sBSi σ (i + 1) = sBSi σ i := by
                   show cs_A σ 5 (fillTo (i + 1) (sBr2 σ) (σ.2.2 5)) = cs_A σ 5 (fillTo i (sBr2 σ) (σ.2.2 5))
                   rw [fillTo_same i (sBr2 σ) (σ.2.2 5) (if_neg hno)]
                 rw [e]; exact hR)
            | (refine ev_as (a' := mo G c (ms_L μ 0 (ev_u δ (48 + 3 * i + 2) (1 : Int32).toInt64)) h) (by rw [ms_L_L, ms_L_get, ar_nat e2]; rfl) (ih (r - 1) (by omega) (i + 1) _ _ _ (by omega) (ar_inc hx (by omega)) ?_ ?_)
               · rw [hy]
                 show acc32 0 (sBr1 σ) i + Int32.ofInt 1 = acc32 0 (sBr1 σ) i + sBr1 σ i
                 rw [show sBr1 σ i = 1 from if_pos hyes, ar_i1]
               · have q := RD.sp hR (σ := sBSi σ i) hv (w := 2) (j := i) (by decide) hi 1
                 have e : cs_A (sBSi σ i) (3 + 2) (ev_u ((sBSi σ i).2.2 (3 + 2)) i 1) = sBSi σ (i + 1) := by
                   show cs_A (cs_A σ 5 (fillTo i (sBr2 σ) (σ.2.2 5))) 5 (ev_u (fillTo i (sBr2 σ) (σ.2.2 5)) i 1) = cs_A σ 5 (fillTo (i + 1) (sBr2 σ) (σ.2.2 5))
                   rw [cs_A_A, fillTo_up _ _ _ _ (if_pos hyes).symm]
                 rwa [e] at q)
        · first | exact absurd c253 (by decide) | exact absurd rfl c253
set_option maxRecDepth 20000 in
theorem ct_X7_tick (hR : RD σ (μ.2.1 0)) (hv : sInv σ) (hb : RB T σ) (hT : T < 2147483646) : ev_Ct G l mX7_tick 5 0 0 [.ref c] (mo G c μ h) (fun v a => v = some (.int (sBrN σ)) ∧ ∃ F δ : Nat → Int64, RD (sTick σ) δ ∧ a = mo G c (ms_L (ms_L μ 11 F) 0 δ) h) (fun _ _ => False) := by
  refine ev_Ct.of (by decide +kernel) (Nat.le_of_ble_eq_true rfl) ?_
  have hmn := hv.1.nat
  have hmu : (σ.1 0).toInt = sM σ := rfl
  have z0 := ar_0
  have z1 := ar_1
  have zL : (0 : Int64).toInt = 0 := by decide +kernel
  have zc : (0 : Int32).toInt64 = 0 := by decide +kernel
  have v1 := sInv_TP hv
  have v2 := sInv_T1 hv
  have v4 : sInv (sLM (sDM (sT1 σ))) := sInv_LM (sInv_DM v2)
  have v5 := sInv_T2 hv
  have v6 := sInv_T3 hv
  have bs0 := hb.1
  have bs1 : RBs (sT1 σ) := RBs_GI (σ := sTP σ) (RBs_TP bs0)
  have bs2 : RBs (sLM (sDM (sT1 σ))) := RBs_DL bs1
  have bs3 : RBs (sT2 σ) := RBs_SMi bs2 _
  have bm0 : RBm 140000000 (sTP σ) := RBm_TP hv.1 bs0 hb.2.1
  have bm1 : RBm 141000000 (sT1 σ) := RBm_GI (σ := sTP σ) hv.2.2.1 hb.2.2 bm0
  obtain ⟨mI, hmI1, hmI2⟩ := hR.2.2.2
  have ho : rOrd (cRev (sTI σ) (sIn σ)) := by rw [hmI2]; exact rSrt_ord _
  have u1 : RBu T (sT1 σ) := RBu_GI (σ := sTP σ) hv.2.2.1 hb.2.2 ho
  have u3 : RBu T (sT3 σ) := RBu_BS (σ := sT2 σ) (RBu_SM (σ := sLM (sDM (sT1 σ))) (RBu_DL u1))
  have ut : RBt T (sT3 σ) := ⟨u3.1, fun k hk => by have := u3.2.1 k hk; exact ⟨by omega, this.2⟩, u3.2.2⟩
  have w7 : (7 : Int32).toInt = 7 := by decide +kernel
  have w8 : (8 : Int32).toInt = 8 := by decide +kernel
  have n7 : (7 : Int32).toInt.toNat = 7 := by decide +kernel
  have n8 : (8 : Int32).toInt.toNat = 8 := by decide +kernel
  have n0 : (0 : Int32).toInt.toNat = 0 := by decide +kernel
  refine e_aload_n dX7_tick_0 rfl rfl ?_
  refine e_invV (mcY := 0) (msY := 0) (ct_X7_masses hR) vX7_masses wM_X7_199 (mo_at G c _ h 0 (by decide)) rfl dX7_tick_1 rfl rfl (Nat.le_of_ble_eq_true rfl) (Nat.le_of_ble_eq_true rfl) ?_
  rintro _ _ ⟨rfl, rfl⟩
  refine e_istore_n dX7_tick_4 rfl (Nat.le_of_ble_eq_true rfl) ?_
  refine e_iconst (v := 0) dX7_tick_5 (by decide) ?_
  refine e_istore_n dX7_tick_6 rfl (Nat.le_of_ble_eq_true rfl) ?_
  refine e_iconst (v := 0) dX7_tick_7 (by decide) ?_
  refine e_istore_n dX7_tick_8 rfl (Nat.le_of_ble_eq_true rfl) ?_
  refine ev_loc (L' := [some (.ref c), some (.int (σ.1 0)), some (.int 0), some (.int 0)]) ⟨rfl, rfl, rfl, rfl, trivial⟩ ?_
  refine ev_as (a' := mo G c (ms_L μ 11 (μ.2.1 11)) h) (by rw [ms_L_self]) ?_
  refine lp_mtA (Nat.le_refl _) hR hv bs0 (fun F hF => ?_) (sNm σ + 1) 0 0 _ (by omega) ar_0 (fun s hs => absurd hs (Nat.not_lt_zero _))
  refine e_iconst (v := 0) dX7_tick_31 (by decide) ?_
  refine e_istore_n dX7_tick_32 rfl (Nat.le_of_ble_eq_true rfl) ?_
  refine ev_loc (L' := [some (.ref c), some (.int (σ.1 0)), some (.int 0), some (.int 0)]) ⟨rfl, rfl, rfl, rfl, trivial⟩ ?_
  refine ev_as (a' := mo G c (ms_L (ms_L μ 11 F) 0 (μ.2.1 0)) h) (by rw [show μ.2.1 0 = (ms_L μ 11 F).2.1 0 from (ms_L_ne _ _ (by decide)).symm, ms_L_self]) ?_
  refine lp_mtB (Nat.le_refl _) hv bs0 hb.2.1 hF (fun δ hB => ?_) (sNm σ) 0 0 _ (by omega) ar_0 ?_
  · have hB1 : RD (sTP2 σ (sNm σ)) δ := hB
    have hv2 : sInv (sTP2 σ (sNm σ)) := hv
    have f11 : (ms_L (ms_L μ 11 F) 0 δ).2.1 11 = F := by rw [ms_L_ne _ _ (by decide), ms_L_get]
    refine e_aload_n dX7_tick_72 rfl rfl ?_
    refine mo_g8 wF_X7_17 dX7_tick_73 ?_
    refine e_bipush (v := 7) dX7_tick_76 (by decide) ?_
    refine e_dup2 dX7_tick_78 rfl rfl ?_
    refine mo_l2 (by omega) (by omega) dX7_tick_79 ?_
    refine e_aload_n dX7_tick_80 rfl rfl ?_
    refine mo_g17 wF_X7_32 dX7_tick_81 ?_
    refine e_iconst (v := 0) dX7_tick_84 (by decide) ?_
    refine mo_l14 (by omega) (by omega) dX7_tick_85 ?_
    refine e_lsub dX7_tick_86 ?_
    refine mo_s2 (by omega) (by omega) dX7_tick_87 ?_
    refine e_aload_n dX7_tick_88 rfl rfl ?_
    refine mo_g8 wF_X7_17 dX7_tick_89 ?_
    refine e_bipush (v := 8) dX7_tick_92 (by decide) ?_
    refine e_dup2 dX7_tick_94 rfl rfl ?_
    refine mo_l2 (by omega) (by omega) dX7_tick_95 ?_
    refine e_aload_n dX7_tick_96 rfl rfl ?_
    refine mo_g17 wF_X7_32 dX7_tick_97 ?_
    refine e_iload_n dX7_tick_100 rfl rfl ?_
    refine mo_l14 (by omega) (by omega) dX7_tick_101 ?_
    refine e_ladd dX7_tick_102 ?_
    refine mo_s2 (by omega) (by omega) dX7_tick_103 ?_
    refine ev_as (a' := mo G c (ms_L (ms_L μ 11 F) 0 (ev_u (ev_u δ (7 + 0) (σ.2.1 0 - (sPull σ 0).toInt64)) (7 + 1) (σ.2.1 1 + (sPull σ (sNm σ)).toInt64))) h) ?_ ?_
    · have a0 : δ 7 = σ.2.1 0 := hB.2.1.1 0 (by decide)
      have a1 : δ 8 = σ.2.1 1 := hB.2.1.1 1 (by decide)
      have eM : (σ.1 0).toInt.toNat = sNm σ := rfl
      simp only [ms_L_L, ms_L_get, n7, n8, n0, eM, f11, ms_L_ne _ _ (show (11 : Nat) ≠ 0 by decide)]
      rw [a0, hF 0 (by omega), hF (sNm σ) (by omega), ev_u_ne δ (k := 7) (j := 8) _ (by decide), a1]
    have hR1 : RD (sTP σ) (ev_u (ev_u δ (7 + 0) (σ.2.1 0 - (sPull σ 0).toInt64)) (7 + 1) (σ.2.1 1 + (sPull σ (sNm σ)).toInt64)) := RD.acc (RD.acc hB (σ := sTP2 σ (sNm σ)) hv2 (k := 0) (by decide) _) (σ := cs_J (sTP2 σ (sNm σ)) 0 _) hv2 (k := 1) (by decide) _
    generalize ev_u (ev_u δ (7 + 0) (σ.2.1 0 - (sPull σ 0).toInt64)) (7 + 1) (σ.2.1 1 + (sPull σ (sNm σ)).toInt64) = δ1 at hR1 ⊢
    have hR1b : RD (sTP σ) ((ms_L (ms_L μ 11 F) 0 δ1).2.1 0) := by rw [ms_L_get]; exact hR1
    have eN1 : σ.1 0 = (sT1 σ).1 0 := (sGI_1 (sTP σ) (by decide)).symm
    have eN4 : σ.1 0 = (sLM (sDM (sT1 σ))).1 0 := eN1
    have eN5 : σ.1 0 = (sT2 σ).1 0 := eN1
    refine e_aload_n dX7_tick_104 rfl rfl ?_
    refine e_invV (mcY := 0) (msY := 0) (ct_X7_push (σ := sTP σ) (T := T) hR1b v1 (RBt_TP hb.2.2) bm0) vX7_push wM_X7_228 (mo_at G c _ h 0 (by decide)) rfl dX7_tick_105 rfl rfl (Nat.le_of_ble_eq_true rfl) (Nat.le_of_ble_eq_true rfl) ?_
    rintro _ _ ⟨rfl, δ2, hR2, rfl⟩
    rw [ms_L_L]
    refine e_iconst (v := 0) dX7_tick_108 (by decide) ?_
    refine e_istore_n dX7_tick_109 rfl (Nat.le_of_ble_eq_true rfl) ?_
    refine ev_loc (L' := [some (.ref c), some (.int (σ.1 0)), some (.int 0), some (.int 0)]) ⟨rfl, rfl, rfl, rfl, trivial⟩ ?_
    rw [eN1]
    refine lp_mtC (σ := sT1 σ) (Nat.le_refl _) v2 bs1 bm1 (fun δ hR3 => ?_) (sNm (sT1 σ)) 0 0 _ (by omega) ar_0 ?_
    · rw [← eN1]
      refine e_iconst (v := 0) dX7_tick_196 (by decide) ?_
      refine e_istore_n dX7_tick_197 rfl (Nat.le_of_ble_eq_true rfl) ?_
      refine ev_loc (L' := [some (.ref c), some (.int (σ.1 0)), some (.int 0), some (.int 0)]) ⟨rfl, rfl, rfl, rfl, trivial⟩ ?_
      rw [eN4]
      refine lp_mtD (σ := sLM (sDM (sT1 σ))) (Nat.le_refl _) v4 (fun δ hR4 => ?_) (sNm (sLM (sDM (sT1 σ)))) 0 0 _ (by omega) ar_0 ?_
      · rw [← eN4]
        refine e_iconst (v := 0) dX7_tick_241 (by decide) ?_
        refine e_istore_n dX7_tick_242 rfl (Nat.le_of_ble_eq_true rfl) ?_
        refine ev_loc (L' := [some (.ref c), some (.int (σ.1 0)), some (.int 0), some (.int 0)]) ⟨rfl, rfl, rfl, rfl, trivial⟩ ?_
        rw [eN5]
        refine lp_mtE (σ := sT2 σ) (Nat.le_refl _) v5 bs3 (fun y δ hy hR5 => ?_) (sNm (sT2 σ) + 1) 0 0 _ _ (by omega) ar_0 rfl ?_
        · subst hy
          have hR6 : RD (sT3 σ) ((ms_L (ms_L μ 11 F) 0 δ).2.1 0) := by rw [ms_L_get]; exact hR5
          refine e_aload_n dX7_tick_311 rfl rfl ?_
          refine e_invV (mcY := 0) (msY := 0) (ct_X7_note (T := T) hR6 v6 ut (by omega)) vX7_note wM_X7_247 (mo_at G c _ h 0 (by decide)) rfl dX7_tick_312 rfl rfl (Nat.le_of_ble_eq_true rfl) (Nat.le_of_ble_eq_true rfl) ?_
          rintro _ _ ⟨rfl, δ7, hR7, rfl⟩
          refine e_aload_n dX7_tick_315 rfl rfl ?_
          refine mo_g8 wF_X7_17 dX7_tick_316 ?_
          refine e_iconst (v := 0) dX7_tick_319 (by decide) ?_
          refine e_dup2 dX7_tick_320 rfl rfl ?_
          refine mo_l2 (by omega) (by omega) dX7_tick_321 ?_
          refine e_lconst (v := 1) dX7_tick_322 (by decide) ?_
          refine e_ladd dX7_tick_323 ?_
          refine mo_s2 (by omega) (by omega) dX7_tick_324 ?_
          refine e_iload_n dX7_tick_325 rfl rfl ?_
          exact e_iret rfl dX7_tick_326 (⟨rfl, F, _, by
              have q := RD.tm hR7 (sInv_note v6 (sPat (sT3 σ))) ((sNote (sT3 σ) (sPat (sT3 σ))).1 1 + 1)
              have e1 : (sNote (sT3 σ) (sPat (sT3 σ))).1 1 = (sT3 σ).1 1 := (sNoteF_keep (sT3 σ) _ 32 0).1 1 (by decide)
              have u4 := u3.1
              rw [ar_64add (by rw [e1]; omega) (by rw [e1]; omega), show (1 : Int32).toInt64 = 1 by decide +kernel, ← hR7.1.1] at q
              exact q, by simp only [ms_L_L, ms_L_get, n0]⟩)
        · have e : sBSi (sT2 σ) 0 = sT2 σ := by
            show cs_A (sT2 σ) 5 (fillTo 0 _ ((sT2 σ).2.2 5)) = _
            rw [fillTo_0]
            exact cs_A_self _ 5
          rw [e]; exact hR4
      · have e : sSMi (sLM (sDM (sT1 σ))) 0 = sLM (sDM (sT1 σ)) := by
          show cs_A (sLM (sDM (sT1 σ))) 1 (fillTo 0 _ ((sLM (sDM (sT1 σ))).2.2 1)) = _
          rw [fillTo_0]
          exact cs_A_self _ 1
        rw [e]; exact RD_DL v2 hR3
    · have e : sCi (sT1 σ) 0 = sT1 σ := by
        unfold sCi
        show cs_J (cs_J (cs_A (sT1 σ) 2 (fillTo 0 _ ((sT1 σ).2.2 2))) 3 ((sT1 σ).2.1 3)) 4 ((sT1 σ).2.1 4) = _
        rw [fillTo_0, cs_A_self, cs_J_self, cs_J_self]
      rw [e]; exact hR2
  · have e : sTP2 σ 0 = cs_A σ 6 (fillTo (sNm σ + 1) (sPull σ) (σ.2.2 6)) := by
      show cs_A (cs_A σ 6 _) 2 (fillTo 0 (sMom1 σ) (σ.2.2 2)) = _
      rw [fillTo_0]
      exact cs_A_self (cs_A σ 6 _) 2
    rw [e]
    refine hR.congr hmn.2.1 hv.2.2.1.nat.2 (by have := hv.2.2.2.2; unfold sPn; omega) (fun _ _ => rfl) (fun _ _ => rfl) (fun w j hw hj => ?_) (fun w s hw hs => ?_) (fun w k hw hk => ?_) (fun w k hw hk => ?_) (fun _ _ => rfl)
    · show ev_u σ.2.2 6 _ w j = _; rw [ev_u_ne _ _ (by omega)]
    · show ev_u σ.2.2 6 _ (3 + w) s = _; rw [ev_u_ne _ _ (by omega)]
    · show ev_u σ.2.2 6 _ (7 + w) k = _; rw [ev_u_ne _ _ (by omega)]
    · show ev_u σ.2.2 6 _ (10 + w) k = _; rw [ev_u_ne _ _ (by omega)]
end M5
