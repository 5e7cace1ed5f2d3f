/-! impulses given, the tick -/
/-- what always holds of a chain -/
def sInv (σ : CS) : Prop := sOk σ ∧ sWt σ ∧ sIok σ ∧ sIm σ ∧ (0 ≤ (σ.1 6).toInt ∧ (σ.1 6).toInt ≤ 32)
def sT1 (σ : CS) : CS := sGI (sTP σ)
def sT2 (σ : CS) : CS := sSM (sLM (sDM (sT1 σ)))
def sT3 (σ : CS) : CS := sBS (sT2 σ)
/-- a tick -/
def sTick (σ : CS) : CS := cs_I (sNote (sT3 σ) (sPat (sT3 σ))) 1 ((sNote (sT3 σ) (sPat (sT3 σ))).1 1 + 1)
/-- how many springs break in it -/
def sBrN (σ : CS) : Int32 := acc32 0 (sBr1 (sT2 σ)) (sNm (sT2 σ) + 1)
theorem sDue_le (σ : CS) (t : Int32) : sDue σ t ≤ sIn σ := by
  have := sDueF_le σ t (sIn σ) 0
  unfold sDue
  omega
theorem sInv_GI {σ : CS} (hv : sInv σ) : sInv (sGI σ) := by
  obtain ⟨h1, h2, h3, h4, h5⟩ := hv
  have hk := sGiv_keep σ (sDue σ (σ.1 1))
  have hd := sDue_le σ (σ.1 1)
  have hin := h3.nat
  have e0 : (sGI σ).1 0 = σ.1 0 := by
    show (ev_u (sGiv σ (sDue σ (σ.1 1))).1 5 ((sGiv σ (sDue σ (σ.1 1))).1 5 - Int32.ofNat (sDue σ (σ.1 1)))) 0 = _
    rw [ev_u_ne _ _ (by decide), hk.1]
  have e6 : (sGI σ).1 6 = σ.1 6 := by
    show (ev_u (sGiv σ (sDue σ (σ.1 1))).1 5 ((sGiv σ (sDue σ (σ.1 1))).1 5 - Int32.ofNat (sDue σ (σ.1 1)))) 6 = _
    rw [ev_u_ne _ _ (by decide), hk.1]
  have e5 : (sGI σ).1 5 = σ.1 5 - Int32.ofNat (sDue σ (σ.1 1)) := by
    show (ev_u (sGiv σ (sDue σ (σ.1 1))).1 5 ((sGiv σ (sDue σ (σ.1 1))).1 5 - Int32.ofNat (sDue σ (σ.1 1)))) 5 = _
    rw [ev_u_self, hk.1]
  have ew : (sGI σ).2.2 0 = σ.2.2 0 := hk.2 0 (by decide)
  have eI : sIn (sGiv σ (sDue σ (σ.1 1))) = sIn σ := by unfold sIn; rw [hk.1]
  have e8 : (sGI σ).2.2 8 = sDropF (σ.2.2 8) (sDue σ (σ.1 1)) (sIn σ) := by
    show sDropF ((sGiv σ (sDue σ (σ.1 1))).2.2 8) _ _ = _
    rw [hk.2 8 (by decide), eI]
  have hof : (Int32.ofNat (sDue σ (σ.1 1))).toInt = (sDue σ (σ.1 1) : Int) := Int32.toInt_ofNat_of_lt (by omega)
  have e5t : ((sGI σ).1 5).toInt = (sIn σ : Int) - (sDue σ (σ.1 1) : Int) := by
    rw [e5, ar_sub (by omega) (by omega), hof]; omega
  have eM : sM (sGI σ) = sM σ := by unfold sM; rw [e0]
  have eN : sNm (sGI σ) = sNm σ := by unfold sNm; rw [e0]
  refine ⟨?_, ?_, ⟨by rw [e5t]; omega, by rw [e5t]; omega⟩, ?_, ?_⟩
  · unfold sOk; rw [eM]; exact h1
  · unfold sWt; rw [eN, ew]; exact h2
  · intro j hj
    have hj2 : j + sDue σ (σ.1 1) < sIn σ := by
      have : sIn (sGI σ) = ((sGI σ).1 5).toInt.toNat := rfl
      omega
    rw [e8, eM]
    unfold sDropF
    rw [if_pos hj2]
    exact h4 _ hj2
  · rw [e6]; exact h5
theorem sInv_noteF {σ : CS} (hv : sInv σ) (p : Int32) : ∀ f k, k + f = 32 → sInv (sNoteF σ p f k)
  | 0, k, _ => hv
  | f + 1, k, hk => by
    unfold sNoteF
    split
    · obtain ⟨h1, h2, h3, h4, h5, h6⟩ := hv
      refine ⟨h1, h2, h3, h4, ?_⟩
      show 0 ≤ (σ.1 6 + 1).toInt ∧ (σ.1 6 + 1).toInt ≤ 32
      rw [ar_add (by rw [ar_1]; omega) (by rw [ar_1]; omega), ar_1]
      omega
    · split
      · exact hv
      · exact sInv_noteF hv p f (k + 1) (by omega)
theorem sInv_note {σ : CS} (hv : sInv σ) (p : Int32) : sInv (sNote σ p) := sInv_noteF hv p 32 0 rfl
theorem sInv_TP {σ : CS} (hv : sInv σ) : sInv (sTP σ) := hv
theorem sInv_DM {σ : CS} (hv : sInv σ) : sInv (sDM σ) := hv
theorem sInv_LM {σ : CS} (hv : sInv σ) : sInv (sLM σ) := hv
theorem sInv_SM {σ : CS} (hv : sInv σ) : sInv (sSM σ) := hv
theorem sInv_BS {σ : CS} (hv : sInv σ) : sInv (sBS σ) := hv
theorem sInv_time {σ : CS} (hv : sInv σ) (t : Int32) : sInv (cs_I σ 1 t) := hv
theorem sInv_T1 {σ : CS} (hv : sInv σ) : sInv (sT1 σ) := sInv_GI (sInv_TP hv)
theorem sInv_T2 {σ : CS} (hv : sInv σ) : sInv (sT2 σ) := sInv_SM (sInv_LM (sInv_DM (sInv_T1 hv)))
theorem sInv_T3 {σ : CS} (hv : sInv σ) : sInv (sT3 σ) := sInv_BS (sInv_T2 hv)
theorem sInv_tick {σ : CS} (hv : sInv σ) : sInv (sTick σ) := sInv_time (sInv_note (sInv_T3 hv) _) _
section K6
variable {G : ev_G} {l : Launch} {c : Nat} {σ : CS} {h : ev_H} {x y z w : Int32}
set_option maxRecDepth 20000 in
theorem lp_giveImpulses {J : ev_K} {k n : Nat} (hJ : 3 ≤ J.2.2.1) (hv : sInv σ) (y : Int32) (d : Nat) (hd : d ≤ sIn σ) (hy : y.toInt = (d : Int)) (hk : ev_V G l mX0_giveImpulses J 74 [some (.ref c), some (.int y)] [] (ch G c (sGiv σ d) h) k n) : ∀ (r i : Nat) (x : Int32), r + i = d → x.toInt = (i : Int) → ev_V G l mX0_giveImpulses J 14 [some (.ref c), some (.int y), some (.int x)] [] (ch G c (sGiv σ i) h) k n := by
  intro r
  induction r using Nat.strongRecOn with
  | ind r ih =>
    intro i x
    intro hr hx
    have hn : x.toInt.toNat = i := ar_nat hx
    have hin := hv.2.2.1.nat
    have hgk := sGiv_keep σ i
    have hm2 : sOk (sGiv σ i) := by unfold sOk sM; rw [hgk.1]; exact hv.1
    have hm3 : sM (sGiv σ i) = sM σ := by unfold sM; rw [hgk.1]
    have hmn := hv.1.nat
    have e8 : (sGiv σ i).2.2 8 x.toInt.toNat = σ.2.2 8 i := by rw [hn, hgk.2 8 (by decide)]
    have e9 : (sGiv σ i).2.2 9 x.toInt.toNat = σ.2.2 9 i := by rw [hn, hgk.2 9 (by decide)]
    refine e_iload_n dX0_giveImpulses_14 rfl rfl ?_
    refine e_iload_n dX0_giveImpulses_15 rfl rfl ?_
    refine e_icmp_ge (tgt := 74) dX0_giveImpulses_16 (by decide) (fun c16 => ?_) (fun c16 => ?_)
    · have hi : i = d := by omega
      subst hi
      exact ev_lc hk ⟨rfl, rfl, trivial⟩
    · have hmi := hv.2.2.2.1 i (by omega)
      refine e_aload_n dX0_giveImpulses_19 rfl rfl ?_
      refine ch_g0_6 wF_X0_41 dX0_giveImpulses_20 ?_
      refine e_iload_n dX0_giveImpulses_23 rfl rfl ?_
      refine e_invV (mcY := 0) (msY := 0) (ct_X2_massOf (x := x) (by omega) (by omega)) vX2_massOf wM_X0_180 (ch_at G c _ h 8 (by decide)) rfl dX0_giveImpulses_24 rfl rfl (Nat.le_of_ble_eq_true rfl) (Nat.le_trans (Nat.le_of_ble_eq_true rfl) hJ) ?_
      rintro _ _ ⟨rfl, rfl⟩
      refine e_istore_n dX0_giveImpulses_27 rfl (Nat.le_of_ble_eq_true rfl) ?_
      refine e_aload_n dX0_giveImpulses_28 rfl rfl ?_
      refine e_iload_n dX0_giveImpulses_29 rfl rfl ?_
      refine e_aload_n dX0_giveImpulses_30 rfl rfl ?_
      refine e_iload_n dX0_giveImpulses_31 rfl rfl ?_
      refine e_invV (mcY := 0) (msY := 0) (ct_X0_momentumOf (x := (sGiv σ i).2.2 8 x.toInt.toNat) (by rw [e8]; omega) (by rw [e8, hm3]; omega) hm2) vX0_momentumOf wM_X0_106 (ch_at G c _ h 0 (by decide)) rfl dX0_giveImpulses_32 rfl rfl (Nat.le_of_ble_eq_true rfl) (Nat.le_trans (Nat.le_of_ble_eq_true rfl) hJ) ?_
      rintro _ _ ⟨rfl, rfl⟩
      refine e_aload_n dX0_giveImpulses_35 rfl rfl ?_
      refine ch_g0_6 wF_X0_41 dX0_giveImpulses_36 ?_
      refine e_iload_n dX0_giveImpulses_39 rfl rfl ?_
      refine e_invV (mcY := 0) (msY := 0) (ct_X2_strengthOf (x := x) (by omega) (by omega)) vX2_strengthOf wM_X0_183 (ch_at G c _ h 8 (by decide)) rfl dX0_giveImpulses_40 rfl rfl (Nat.le_of_ble_eq_true rfl) (Nat.le_trans (Nat.le_of_ble_eq_true rfl) hJ) ?_
      rintro _ _ ⟨rfl, rfl⟩
      refine e_iadd dX0_giveImpulses_43 ?_
      refine e_invV (mcY := 0) (msY := 0) (ct_X0_putMomentum (x := (sGiv σ i).2.2 8 x.toInt.toNat) (by rw [e8]; omega) (by rw [e8, hm3]; omega) hm2) vX0_putMomentum wM_X0_135 (ch_at G c _ h 0 (by decide)) rfl dX0_giveImpulses_44 rfl rfl (Nat.le_of_ble_eq_true rfl) (Nat.le_trans (Nat.le_of_ble_eq_true rfl) hJ) ?_
      rintro _ _ ⟨rfl, rfl⟩
      refine e_aload_n dX0_giveImpulses_47 rfl rfl ?_
      refine ch_g0_5 wF_X0_34 dX0_giveImpulses_48 ?_
      refine e_dup dX0_giveImpulses_51 rfl ?_
      refine ch_g3_2 wF_X0_139 dX0_giveImpulses_52 ?_
      refine e_aload_n dX0_giveImpulses_55 rfl rfl ?_
      refine ch_g0_6 wF_X0_41 dX0_giveImpulses_56 ?_
      refine e_iload_n dX0_giveImpulses_59 rfl rfl ?_
      refine e_invV (mcY := 0) (msY := 0) (ct_X2_strengthOf (x := x) (by omega) (by omega)) vX2_strengthOf wM_X0_183 (ch_at G c _ h 8 (by decide)) rfl dX0_giveImpulses_60 rfl rfl (Nat.le_of_ble_eq_true rfl) (Nat.le_trans (Nat.le_of_ble_eq_true rfl) hJ) ?_
      rintro _ _ ⟨rfl, rfl⟩
      refine e_i2l dX0_giveImpulses_63 ?_
      refine e_ladd dX0_giveImpulses_64 ?_
      refine ch_p3_2 wF_X0_139 dX0_giveImpulses_65 ?_
      refine e_iinc dX0_giveImpulses_68 rfl rfl (Nat.le_of_ble_eq_true rfl) ?_
      refine e_goto (tgt := 14) dX0_giveImpulses_71 (by decide) ?_
      refine ev_loc (L' := [some (.ref c), some (.int y), some (.int _)]) ⟨rfl, rfl, rfl, trivial⟩ ?_
      refine ev_as ?_ (ih (r - 1) (by omega) (i + 1) _ (by omega) (ar_inc hx (by omega)))
      have e9b : (cs_A (sGiv σ i) 2 (ev_u ((sGiv σ i).2.2 2) ((sGiv σ i).2.2 8 x.toInt.toNat).toInt.toNat ((sGiv σ i).2.2 2 ((sGiv σ i).2.2 8 x.toInt.toNat).toInt.toNat + (sGiv σ i).2.2 9 x.toInt.toNat))).2.2 9 x.toInt.toNat = σ.2.2 9 i := e9
      rw [e9b, e8, e9]
      rfl
set_option maxRecDepth 20000 in
theorem ct_X0_giveImpulses (hv : sInv σ) : ev_Ct G l mX0_giveImpulses 3 0 0 [.ref c] (ch G c σ h) (fun v a => v = none ∧ a = ch G c (sGI σ) h) (fun _ _ => False) := by
  refine ev_Ct.of (by decide +kernel) (Nat.le_of_ble_eq_true rfl) ?_
  have hin := hv.2.2.1.nat
  have hdl := sDue_le σ (σ.1 1)
  refine e_aload_n dX0_giveImpulses_0 rfl rfl ?_
  refine ch_g0_6 wF_X0_41 dX0_giveImpulses_1 ?_
  refine e_aload_n dX0_giveImpulses_4 rfl rfl ?_
  refine ch_g0_1 wF_X0_69 dX0_giveImpulses_5 ?_
  refine e_invV (mcY := 0) (msY := 0) (ct_X2_countOfTick hv.2.2.1) vX2_countOfTick wM_X0_177 (ch_at G c _ h 8 (by decide)) rfl dX0_giveImpulses_8 rfl rfl (Nat.le_of_ble_eq_true rfl) (Nat.le_of_ble_eq_true rfl) ?_
  rintro _ _ ⟨⟨y, rfl, hy⟩, rfl⟩
  refine e_istore_n dX0_giveImpulses_11 rfl (Nat.le_of_ble_eq_true rfl) ?_
  refine e_iconst (v := 0) dX0_giveImpulses_12 (by decide) ?_
  refine e_istore_n dX0_giveImpulses_13 rfl (Nat.le_of_ble_eq_true rfl) ?_
  refine ev_loc (L' := [some (.ref c), some (.int y), some (.int 0)]) ⟨rfl, rfl, rfl, trivial⟩ ?_
  have hk := sGiv_keep σ (sDue σ (σ.1 1))
  have hie : sIok (sGiv σ (sDue σ (σ.1 1))) := by unfold sIok; rw [hk.1]; exact hv.2.2.1
  have hIn : sIn (sGiv σ (sDue σ (σ.1 1))) = sIn σ := by unfold sIn; rw [hk.1]
  have hyo : y = Int32.ofNat (sDue σ (σ.1 1)) := ar_eq (by rw [hy, Int32.toInt_ofNat_of_lt (by omega)])
  refine lp_giveImpulses (Nat.le_of_ble_eq_true rfl) hv y _ hdl hy ?_ (sDue σ (σ.1 1)) 0 0 (by omega) ar_0
  refine e_aload_n dX0_giveImpulses_74 rfl rfl ?_
  refine ch_g0_6 wF_X0_41 dX0_giveImpulses_75 ?_
  refine e_iload_n dX0_giveImpulses_78 rfl rfl ?_
  refine e_invV (mcY := 0) (msY := 0) (ct_X2_dropFirst hie _ (by omega) hy) vX2_dropFirst wM_X0_186 (ch_at G c _ h 8 (by decide)) rfl dX0_giveImpulses_79 rfl rfl (Nat.le_of_ble_eq_true rfl) (Nat.le_of_ble_eq_true rfl) ?_
  rintro _ _ ⟨rfl, rfl⟩
  exact e_vret rfl dX0_giveImpulses_82 (⟨rfl, by rw [hyo]; rfl⟩)
set_option maxRecDepth 20000 in
theorem ct_X0_tick (hv : sInv σ) : ev_Ct G l mX0_tick 6 0 0 [.ref c] (ch G c σ h) (fun v a => v = some (.int (sBrN σ)) ∧ a = ch G c (sTick σ) h) (fun _ _ => False) := by
  refine ev_Ct.of (by decide +kernel) (Nat.le_of_ble_eq_true rfl) ?_
  have v1 := sInv_TP hv
  have v2 := sInv_T1 hv
  have v3 := sInv_DM v2
  have v4 := sInv_LM v3
  have v5 := sInv_T2 hv
  have v6 := sInv_T3 hv
  refine e_aload_n dX0_tick_0 rfl rfl ?_
  refine e_invV (mcY := 0) (msY := 0) (ct_X0_takePulls hv.1) vX0_takePulls wM_X0_143 (ch_at G c _ h 0 (by decide)) rfl dX0_tick_1 rfl rfl (Nat.le_of_ble_eq_true rfl) (Nat.le_of_ble_eq_true rfl) ?_
  rintro _ _ ⟨rfl, rfl⟩
  refine e_aload_n dX0_tick_4 rfl rfl ?_
  refine e_invV (mcY := 0) (msY := 0) (ct_X0_giveImpulses v1) vX0_giveImpulses wM_X0_146 (ch_at G c _ h 0 (by decide)) rfl dX0_tick_5 rfl rfl (Nat.le_of_ble_eq_true rfl) (Nat.le_of_ble_eq_true rfl) ?_
  rintro _ _ ⟨rfl, rfl⟩
  refine e_aload_n dX0_tick_8 rfl rfl ?_
  refine e_invV (mcY := 0) (msY := 0) (ct_X0_dampMomenta v2.1) vX0_dampMomenta wM_X0_149 (ch_at G c _ h 0 (by decide)) rfl dX0_tick_9 rfl rfl (Nat.le_of_ble_eq_true rfl) (Nat.le_of_ble_eq_true rfl) ?_
  rintro _ _ ⟨rfl, rfl⟩
  refine e_aload_n dX0_tick_12 rfl rfl ?_
  refine e_invV (mcY := 0) (msY := 0) (ct_X0_limitMomenta v3.1) vX0_limitMomenta wM_X0_152 (ch_at G c _ h 0 (by decide)) rfl dX0_tick_13 rfl rfl (Nat.le_of_ble_eq_true rfl) (Nat.le_of_ble_eq_true rfl) ?_
  rintro _ _ ⟨rfl, rfl⟩
  refine e_aload_n dX0_tick_16 rfl rfl ?_
  refine e_invV (mcY := 0) (msY := 0) (ct_X0_shiftMasses v4.1 v4.2.1) vX0_shiftMasses wM_X0_155 (ch_at G c _ h 0 (by decide)) rfl dX0_tick_17 rfl rfl (Nat.le_of_ble_eq_true rfl) (Nat.le_of_ble_eq_true rfl) ?_
  rintro _ _ ⟨rfl, rfl⟩
  refine e_aload_n dX0_tick_20 rfl rfl ?_
  refine e_invV (mcY := 0) (msY := 0) (ct_X0_breakSprings v5.1) vX0_breakSprings wM_X0_158 (ch_at G c _ h 0 (by decide)) rfl dX0_tick_21 rfl rfl (Nat.le_of_ble_eq_true rfl) (Nat.le_of_ble_eq_true rfl) ?_
  rintro _ _ ⟨rfl, rfl⟩
  refine e_istore_n dX0_tick_24 rfl (Nat.le_of_ble_eq_true rfl) ?_
  refine e_aload_n dX0_tick_25 rfl rfl ?_
  refine ch_g0_7 wF_X0_48 dX0_tick_26 ?_
  refine e_aload_n dX0_tick_29 rfl rfl ?_
  refine e_invV (mcY := 0) (msY := 0) (ct_X0_patternNumber v6.1) vX0_patternNumber wM_X0_162 (ch_at G c _ h 0 (by decide)) rfl dX0_tick_30 rfl rfl (Nat.le_of_ble_eq_true rfl) (Nat.le_of_ble_eq_true rfl) ?_
  rintro _ _ ⟨rfl, rfl⟩
  refine e_invV (mcY := 0) (msY := 0) (ct_X4_note v6.2.2.2.2.1 v6.2.2.2.2.2) vX4_note wM_X0_165 (ch_at G c _ h 12 (by decide)) rfl dX0_tick_33 rfl rfl (Nat.le_of_ble_eq_true rfl) (Nat.le_of_ble_eq_true rfl) ?_
  rintro _ _ ⟨rfl, rfl⟩
  refine e_aload_n dX0_tick_36 rfl rfl ?_
  refine e_dup dX0_tick_37 rfl ?_
  refine ch_g0_1 wF_X0_69 dX0_tick_38 ?_
  refine e_iconst (v := 1) dX0_tick_41 (by decide) ?_
  refine e_iadd dX0_tick_42 ?_
  refine ch_p0_1 wF_X0_69 dX0_tick_43 ?_
  refine e_iload_n dX0_tick_46 rfl rfl ?_
  exact e_iret rfl dX0_tick_47 (⟨rfl, rfl⟩)
end K6
