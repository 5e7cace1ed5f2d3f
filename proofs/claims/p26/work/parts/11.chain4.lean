/-! what the chain tells; its impulses and patterns -/
def sTellM (σ : CS) (j : Nat) : Nat → Int32
  | 0 => σ.2.2 0 j
  | 1 => σ.2.2 1 j
  | 2 => σ.2.2 2 j
  | _ => sVel σ j
def sTellS (σ : CS) (s : Nat) : Nat → Int32
  | 0 => σ.2.2 3 s
  | 1 => σ.2.2 4 s
  | 2 => sBrk σ s
  | 3 => sStr σ s
  | _ => sPull σ s
def sFar (σ : CS) : Int32 := Int32.ofNat (sFarT σ (sNm σ))
def sTell (σ : CS) : Nat → Int32
  | 0 => σ.1 1
  | 1 => σ.1 0
  | 2 => acc32 0 (sBrk σ) (sNm σ + 1)
  | 3 => σ.1 3
  | 4 => σ.1 4
  | 5 => σ.1 2
  | 6 => σ.1 5
  | 7 => sPat σ
  | 8 => sNod σ
  | 9 => σ.1 6
  | 10 => acc32 0 (sRest σ) (sNm σ)
  | _ => sFar σ
def sAcc (σ : CS) : Nat → Int64
  | 0 => accL 0 (sMomL σ) (sNm σ)
  | 1 => σ.2.1 0
  | 2 => σ.2.1 1
  | 3 => σ.2.1 2
  | 4 => σ.2.1 3
  | 5 => σ.2.1 4
  | 6 => accL 0 (sEm σ) (sNm σ)
  | _ => accL 0 (sEs σ) (sNm σ + 1)
theorem sFar_of {σ : CS} (hm : sOk σ) {y : Int32} (hy : y.toInt = (sFarT σ (sNm σ) : Int)) : y = sFar σ := by
  have hmn := hm.nat
  have hf := sFarT_le σ (sNm σ)
  apply ar_eq
  rw [hy]
  unfold sFar
  rw [Int32.toInt_ofNat_of_lt (by omega)]
/-- the three rows of the impulses at once -/
def cs_T (σ : CS) (f g h : Nat → Int32) : CS := cs_A (cs_A (cs_A σ 7 f) 8 g) 9 h
def sPut (σ : CS) (k : Nat) (t m s : Int32) : CS := cs_T σ (ev_u (σ.2.2 7) k t) (ev_u (σ.2.2 8) k m) (ev_u (σ.2.2 9) k s)
theorem cs_T_self (σ : CS) : cs_T σ (σ.2.2 7) (σ.2.2 8) (σ.2.2 9) = σ := by
  refine Prod.ext rfl (Prod.ext rfl (funext fun j => ?_))
  show ev_u (ev_u (ev_u σ.2.2 7 _) 8 _) 9 _ j = _
  by_cases h7 : j = 7 <;> by_cases h8 : j = 8 <;> by_cases h9 : j = 9 <;> simp [ev_u, h7, h8, h9] <;> omega
theorem sPut_T (σ : CS) (f g h : Nat → Int32) (k : Nat) (t m s : Int32) : sPut (cs_T σ f g h) k t m s = cs_T σ (ev_u f k t) (ev_u g k m) (ev_u h k s) := by
  have e7 : (cs_T σ f g h).2.2 7 = f := rfl
  have e8 : (cs_T σ f g h).2.2 8 = g := rfl
  have e9 : (cs_T σ f g h).2.2 9 = h := rfl
  unfold sPut
  rw [e7, e8, e9]
  refine Prod.ext rfl (Prod.ext rfl (funext fun j => ?_))
  show ev_u (ev_u (ev_u (ev_u (ev_u (ev_u σ.2.2 7 _) 8 _) 9 _) 7 _) 8 _) 9 _ j = ev_u (ev_u (ev_u σ.2.2 7 _) 8 _) 9 _ j
  by_cases h7 : j = 7 <;> by_cases h8 : j = 8 <;> by_cases h9 : j = 9 <;> simp [ev_u, h7, h8, h9]
/-- how many impulses wait -/
def sIn (σ : CS) : Nat := (σ.1 5).toInt.toNat
def sIok (σ : CS) : Prop := 0 ≤ (σ.1 5).toInt ∧ (σ.1 5).toInt ≤ 16
theorem sIok.nat {σ : CS} (h : sIok σ) : (sIn σ : Int) = (σ.1 5).toInt ∧ sIn σ ≤ 16 := by
  obtain ⟨h1, h2⟩ := h
  unfold sIn
  omega
def sDueF (σ : CS) (t : Int32) : Nat → Nat → Nat
  | 0, i => i
  | f + 1, i => if σ.2.2 7 i = t then sDueF σ t f (i + 1) else i
def sDue (σ : CS) (t : Int32) : Nat := sDueF σ t (sIn σ) 0
theorem sDueF_le (σ : CS) (t : Int32) : ∀ f i, sDueF σ t f i ≤ i + f
  | 0, i => Nat.le_refl _
  | f + 1, i => by
    unfold sDueF
    split
    · have := sDueF_le σ t f (i + 1); omega
    · omega
def sDropF (F : Nat → Int32) (d i : Nat) : Nat → Int32 := fun j => if j + d < i then F (j + d) else F j
theorem sDropF_0 (F : Nat → Int32) (d : Nat) : sDropF F d d = F := by funext j; unfold sDropF; rw [if_neg (by omega)]
theorem sDropF_at (F : Nat → Int32) (d i : Nat) : sDropF F d i i = F i := by unfold sDropF; rw [if_neg (by omega)]
theorem sDropF_up (F : Nat → Int32) (d i : Nat) (h : d ≤ i) : ev_u (sDropF F d i) (i - d) (F i) = sDropF F d (i + 1) := by
  funext j
  unfold ev_u sDropF
  by_cases e : j = i - d
  · rw [if_pos e, if_pos (by omega), show j + d = i by omega]
  · rw [if_neg e]
    by_cases e2 : j + d < i
    · rw [if_pos e2, if_pos (by omega)]
    · rw [if_neg e2, if_neg (by omega)]
def sDrop (σ : CS) (d : Nat) (x : Int32) : CS := cs_I (cs_T σ (sDropF (σ.2.2 7) d (sIn σ)) (sDropF (σ.2.2 8) d (sIn σ)) (sDropF (σ.2.2 9) d (sIn σ))) 5 (σ.1 5 - x)
def sLater (σ : CS) (k : Nat) (t m : Int32) : Prop := t.toInt < (σ.2.2 7 k).toInt ∨ (σ.2.2 7 k = t ∧ m.toInt < (σ.2.2 8 k).toInt)
def sPlaceF (σ : CS) (t m : Int32) : Nat → Nat
  | 0 => 0
  | p + 1 => if t.toInt < (σ.2.2 7 p).toInt ∨ (σ.2.2 7 p = t ∧ m.toInt < (σ.2.2 8 p).toInt) then sPlaceF σ t m p else p + 1
theorem sPlaceF_le (σ : CS) (t m : Int32) : ∀ p, sPlaceF σ t m p ≤ p
  | 0 => Nat.le_refl _
  | p + 1 => by
    unfold sPlaceF
    split
    · have := sPlaceF_le σ t m p; omega
    · omega
def sShiftF (F : Nat → Int32) (p n : Nat) : Nat → Int32 := fun j => if p < j ∧ j ≤ n then F (j - 1) else F j
theorem sShiftF_0 (F : Nat → Int32) (n : Nat) : sShiftF F n n = F := by funext j; unfold sShiftF; rw [if_neg (by omega)]
theorem sShiftF_at (F : Nat → Int32) (p n : Nat) {j : Nat} (h : j ≤ p) : sShiftF F p n j = F j := by unfold sShiftF; rw [if_neg (by omega)]
theorem sShiftF_down (F : Nat → Int32) (p n : Nat) (h : p + 1 ≤ n) : ev_u (sShiftF F (p + 1) n) (p + 1) (F p) = sShiftF F p n := by
  funext j
  unfold ev_u sShiftF
  by_cases e : j = p + 1
  · rw [if_pos e, if_pos (by omega), show j - 1 = p by omega]
  · rw [if_neg e]
    by_cases e2 : p + 1 < j ∧ j ≤ n
    · rw [if_pos e2, if_pos (by omega)]
    · rw [if_neg e2, if_neg (by omega)]
def sInsP (σ : CS) (t m : Int32) : Nat := sPlaceF σ t m (sIn σ)
def sIns (σ : CS) (t m s : Int32) : CS := cs_I (sPut (cs_T σ (sShiftF (σ.2.2 7) (sInsP σ t m) (sIn σ)) (sShiftF (σ.2.2 8) (sInsP σ t m) (sIn σ)) (sShiftF (σ.2.2 9) (sInsP σ t m) (sIn σ))) (sInsP σ t m) t m s) 5 (σ.1 5 + 1)
def sNoteF (σ : CS) (p : Int32) : Nat → Nat → CS
  | 0, _ => σ
  | f + 1, k => if (σ.1 6).toInt ≤ (k : Int) then cs_I (cs_A (cs_A σ 10 (ev_u (σ.2.2 10) k p)) 11 (ev_u (σ.2.2 11) k 1)) 6 (σ.1 6 + 1) else if σ.2.2 10 k = p then cs_A σ 11 (ev_u (σ.2.2 11) k (σ.2.2 11 k + 1)) else sNoteF σ p f (k + 1)
def sNote (σ : CS) (p : Int32) : CS := sNoteF σ p 32 0
section K4
variable {G : ev_G} {l : Launch} {c : Nat} {σ : CS} {h : ev_H} {x y z w : Int32}
set_option maxRecDepth 20000 in
theorem ct_X0_tellMass (x0 : 0 ≤ x.toInt) (x1 : x.toInt < sM σ) (hm : sOk σ) (hw : sWt σ) (y0 : 0 ≤ y.toInt) (y1 : y.toInt ≤ 3) : ev_Ct G l mX0_tellMass 4 0 0 [.ref c, .int x, .int y] (ch G c σ h) (fun v a => v = some (.int (sTellM σ x.toInt.toNat y.toInt.toNat)) ∧ a = ch G c σ h) (fun _ _ => False) := by
  refine ev_Ct.of (by decide +kernel) (Nat.le_of_ble_eq_true rfl) ?_
  have hmn := hm.nat
  have hmu : (σ.1 0).toInt = sM σ := rfl
  refine e_iload_n dX0_tellMass_0 rfl rfl ?_
  rcases (show y.toInt = 0 ∨ y.toInt = 1 ∨ y.toInt = 2 ∨ y.toInt = 3 by omega) with hsw | hsw | hsw | hsw
  · refine e_tableIn (off := 27) (tgt := 28) dX0_tellMass_1 (by omega) (by omega) (by rw [hsw]; rfl) (by decide) ?_
    refine e_aload_n dX0_tellMass_28 rfl rfl ?_
    refine e_iload_n dX0_tellMass_29 rfl rfl ?_
    refine e_invV (mcY := 0) (msY := 0) (ct_X0_weightOf x0 x1 hm) vX0_weightOf wM_X0_102 (ch_at G c _ h 0 (by decide)) rfl dX0_tellMass_30 rfl rfl (Nat.le_of_ble_eq_true rfl) (Nat.le_of_ble_eq_true rfl) ?_
    rintro _ _ ⟨rfl, rfl⟩
    exact e_iret rfl dX0_tellMass_33 (⟨by rw [hsw]; rfl, rfl⟩)
  · refine e_tableIn (off := 33) (tgt := 34) dX0_tellMass_1 (by omega) (by omega) (by rw [hsw]; rfl) (by decide) ?_
    refine e_aload_n dX0_tellMass_34 rfl rfl ?_
    refine e_iload_n dX0_tellMass_35 rfl rfl ?_
    refine e_invV (mcY := 0) (msY := 0) (ct_X0_displacementOf x0 x1 hm) vX0_displacementOf wM_X0_112 (ch_at G c _ h 0 (by decide)) rfl dX0_tellMass_36 rfl rfl (Nat.le_of_ble_eq_true rfl) (Nat.le_of_ble_eq_true rfl) ?_
    rintro _ _ ⟨rfl, rfl⟩
    exact e_iret rfl dX0_tellMass_39 (⟨by rw [hsw]; rfl, rfl⟩)
  · refine e_tableIn (off := 39) (tgt := 40) dX0_tellMass_1 (by omega) (by omega) (by rw [hsw]; rfl) (by decide) ?_
    refine e_aload_n dX0_tellMass_40 rfl rfl ?_
    refine e_iload_n dX0_tellMass_41 rfl rfl ?_
    refine e_invV (mcY := 0) (msY := 0) (ct_X0_momentumOf x0 x1 hm) vX0_momentumOf wM_X0_106 (ch_at G c _ h 0 (by decide)) rfl dX0_tellMass_42 rfl rfl (Nat.le_of_ble_eq_true rfl) (Nat.le_of_ble_eq_true rfl) ?_
    rintro _ _ ⟨rfl, rfl⟩
    exact e_iret rfl dX0_tellMass_45 (⟨by rw [hsw]; rfl, rfl⟩)
  · refine e_tableOut (tgt := 46) dX0_tellMass_1 (by omega) (by decide) ?_
    refine e_aload_n dX0_tellMass_46 rfl rfl ?_
    refine e_iload_n dX0_tellMass_47 rfl rfl ?_
    refine e_invV (mcY := 0) (msY := 0) (ct_X0_velocityOf x0 x1 hm (hw.ne (by omega))) vX0_velocityOf wM_X0_197 (ch_at G c _ h 0 (by decide)) rfl dX0_tellMass_48 rfl rfl (Nat.le_of_ble_eq_true rfl) (Nat.le_of_ble_eq_true rfl) ?_
    rintro _ _ ⟨rfl, rfl⟩
    exact e_iret rfl dX0_tellMass_51 (⟨by rw [hsw]; rfl, rfl⟩)
set_option maxRecDepth 20000 in
theorem ct_X0_tellSpring (x0 : 0 ≤ x.toInt) (x1 : x.toInt ≤ sM σ) (hm : sOk σ) (y0 : 0 ≤ y.toInt) (y1 : y.toInt ≤ 4) : ev_Ct G l mX0_tellSpring 5 0 0 [.ref c, .int x, .int y] (ch G c σ h) (fun v a => v = some (.int (sTellS σ x.toInt.toNat y.toInt.toNat)) ∧ a = ch G c σ h) (fun _ _ => False) := by
  refine ev_Ct.of (by decide +kernel) (Nat.le_of_ble_eq_true rfl) ?_
  have hmn := hm.nat
  have hmu : (σ.1 0).toInt = sM σ := rfl
  refine e_iload_n dX0_tellSpring_0 rfl rfl ?_
  rcases (show y.toInt = 0 ∨ y.toInt = 1 ∨ y.toInt = 2 ∨ y.toInt = 3 ∨ y.toInt = 4 by omega) with hsw | hsw | hsw | hsw | hsw
  · refine e_tableIn (off := 31) (tgt := 32) dX0_tellSpring_1 (by omega) (by omega) (by rw [hsw]; rfl) (by decide) ?_
    refine e_aload_n dX0_tellSpring_32 rfl rfl ?_
    refine e_iload_n dX0_tellSpring_33 rfl rfl ?_
    refine e_invV (mcY := 0) (msY := 0) (ct_X0_stiffnessOf x0 x1 hm) vX0_stiffnessOf wM_X0_118 (ch_at G c _ h 0 (by decide)) rfl dX0_tellSpring_34 rfl rfl (Nat.le_of_ble_eq_true rfl) (Nat.le_of_ble_eq_true rfl) ?_
    rintro _ _ ⟨rfl, rfl⟩
    exact e_iret rfl dX0_tellSpring_37 (⟨by rw [hsw]; rfl, rfl⟩)
  · refine e_tableIn (off := 37) (tgt := 38) dX0_tellSpring_1 (by omega) (by omega) (by rw [hsw]; rfl) (by decide) ?_
    refine e_aload_n dX0_tellSpring_38 rfl rfl ?_
    refine e_iload_n dX0_tellSpring_39 rfl rfl ?_
    refine e_invV (mcY := 0) (msY := 0) (ct_X0_limitOf x0 x1 hm) vX0_limitOf wM_X0_211 (ch_at G c _ h 0 (by decide)) rfl dX0_tellSpring_40 rfl rfl (Nat.le_of_ble_eq_true rfl) (Nat.le_of_ble_eq_true rfl) ?_
    rintro _ _ ⟨rfl, rfl⟩
    exact e_iret rfl dX0_tellSpring_43 (⟨by rw [hsw]; rfl, rfl⟩)
  · refine e_tableIn (off := 43) (tgt := 44) dX0_tellSpring_1 (by omega) (by omega) (by rw [hsw]; rfl) (by decide) ?_
    refine e_aload_n dX0_tellSpring_44 rfl rfl ?_
    refine e_iload_n dX0_tellSpring_45 rfl rfl ?_
    refine e_invV (mcY := 0) (msY := 0) (ct_X0_isBroken x0 x1 hm) vX0_isBroken wM_X0_115 (ch_at G c _ h 0 (by decide)) rfl dX0_tellSpring_46 rfl rfl (Nat.le_of_ble_eq_true rfl) (Nat.le_of_ble_eq_true rfl) ?_
    rintro _ _ ⟨rfl, rfl⟩
    refine e_if_eq (tgt := 56) dX0_tellSpring_49 (by decide) (fun c49 => ?_) (fun c49 => ?_)
    · rw [ar_ite0] at c49
      refine e_iconst (v := 0) dX0_tellSpring_56 (by decide) ?_
      exact e_iret rfl dX0_tellSpring_57 (⟨by rw [hsw]; show _ = some (Value.int (sBrk σ _)); unfold sBrk; first | rw [if_pos c49] | rw [if_neg c49], rfl⟩)
    · rw [ar_ite0] at c49
      refine e_iconst (v := 1) dX0_tellSpring_52 (by decide) ?_
      refine e_goto (tgt := 57) dX0_tellSpring_53 (by decide) ?_
      exact e_iret rfl dX0_tellSpring_57 (⟨by rw [hsw]; show _ = some (Value.int (sBrk σ _)); unfold sBrk; first | rw [if_pos c49] | rw [if_neg c49], rfl⟩)
  · refine e_tableIn (off := 57) (tgt := 58) dX0_tellSpring_1 (by omega) (by omega) (by rw [hsw]; rfl) (by decide) ?_
    refine e_aload_n dX0_tellSpring_58 rfl rfl ?_
    refine e_iload_n dX0_tellSpring_59 rfl rfl ?_
    refine e_invV (mcY := 0) (msY := 0) (ct_X0_stretchOf x0 x1 hm) vX0_stretchOf wM_X0_121 (ch_at G c _ h 0 (by decide)) rfl dX0_tellSpring_60 rfl rfl (Nat.le_of_ble_eq_true rfl) (Nat.le_of_ble_eq_true rfl) ?_
    rintro _ _ ⟨rfl, rfl⟩
    exact e_iret rfl dX0_tellSpring_63 (⟨by rw [hsw]; rfl, rfl⟩)
  · refine e_tableOut (tgt := 64) dX0_tellSpring_1 (by omega) (by decide) ?_
    refine e_aload_n dX0_tellSpring_64 rfl rfl ?_
    refine e_iload_n dX0_tellSpring_65 rfl rfl ?_
    refine e_invV (mcY := 0) (msY := 0) (ct_X0_pullOf x0 x1 hm) vX0_pullOf wM_X0_168 (ch_at G c _ h 0 (by decide)) rfl dX0_tellSpring_66 rfl rfl (Nat.le_of_ble_eq_true rfl) (Nat.le_of_ble_eq_true rfl) ?_
    rintro _ _ ⟨rfl, rfl⟩
    exact e_iret rfl dX0_tellSpring_69 (⟨by rw [hsw]; rfl, rfl⟩)
set_option maxRecDepth 20000 in
theorem ct_X0_tellState (hm : sOk σ) (x0 : 0 ≤ x.toInt) (x1 : x.toInt ≤ 11) : ev_Ct G l mX0_tellState 5 0 0 [.ref c, .int x] (ch G c σ h) (fun v a => v = some (.int (sTell σ x.toInt.toNat)) ∧ a = ch G c σ h) (fun _ _ => False) := by
  refine ev_Ct.of (by decide +kernel) (Nat.le_of_ble_eq_true rfl) ?_
  refine e_iload_n dX0_tellState_0 rfl rfl ?_
  rcases (show x.toInt = 0 ∨ x.toInt = 1 ∨ x.toInt = 2 ∨ x.toInt = 3 ∨ x.toInt = 4 ∨ x.toInt = 5 ∨ x.toInt = 6 ∨ x.toInt = 7 ∨ x.toInt = 8 ∨ x.toInt = 9 ∨ x.toInt = 10 ∨ x.toInt = 11 by omega) with hsw | hsw | hsw | hsw | hsw | hsw | hsw | hsw | hsw | hsw | hsw | hsw
  · refine e_tableIn (off := 59) (tgt := 60) dX0_tellState_1 (by omega) (by omega) (by rw [hsw]; rfl) (by decide) ?_
    refine e_aload_n dX0_tellState_60 rfl rfl ?_
    refine ch_g0_1 wF_X0_69 dX0_tellState_61 ?_
    exact e_iret rfl dX0_tellState_64 (⟨by rw [hsw]; rfl, rfl⟩)
  · refine e_tableIn (off := 64) (tgt := 65) dX0_tellState_1 (by omega) (by omega) (by rw [hsw]; rfl) (by decide) ?_
    refine e_aload_n dX0_tellState_65 rfl rfl ?_
    refine ch_g0_0 wF_X0_65 dX0_tellState_66 ?_
    exact e_iret rfl dX0_tellState_69 (⟨by rw [hsw]; rfl, rfl⟩)
  · refine e_tableIn (off := 69) (tgt := 70) dX0_tellState_1 (by omega) (by omega) (by rw [hsw]; rfl) (by decide) ?_
    refine e_aload_n dX0_tellState_70 rfl rfl ?_
    refine e_invV (mcY := 0) (msY := 0) (ct_X0_countBroken hm) vX0_countBroken wM_X0_217 (ch_at G c _ h 0 (by decide)) rfl dX0_tellState_71 rfl rfl (Nat.le_of_ble_eq_true rfl) (Nat.le_of_ble_eq_true rfl) ?_
    rintro _ _ ⟨rfl, rfl⟩
    exact e_iret rfl dX0_tellState_74 (⟨by rw [hsw]; rfl, rfl⟩)
  · refine e_tableIn (off := 74) (tgt := 75) dX0_tellState_1 (by omega) (by omega) (by rw [hsw]; rfl) (by decide) ?_
    refine e_aload_n dX0_tellState_75 rfl rfl ?_
    refine ch_g0_3 wF_X0_75 dX0_tellState_76 ?_
    exact e_iret rfl dX0_tellState_79 (⟨by rw [hsw]; rfl, rfl⟩)
  · refine e_tableIn (off := 79) (tgt := 80) dX0_tellState_1 (by omega) (by omega) (by rw [hsw]; rfl) (by decide) ?_
    refine e_aload_n dX0_tellState_80 rfl rfl ?_
    refine ch_g0_4 wF_X0_78 dX0_tellState_81 ?_
    exact e_iret rfl dX0_tellState_84 (⟨by rw [hsw]; rfl, rfl⟩)
  · refine e_tableIn (off := 84) (tgt := 85) dX0_tellState_1 (by omega) (by omega) (by rw [hsw]; rfl) (by decide) ?_
    refine e_aload_n dX0_tellState_85 rfl rfl ?_
    refine ch_g0_2 wF_X0_72 dX0_tellState_86 ?_
    exact e_iret rfl dX0_tellState_89 (⟨by rw [hsw]; rfl, rfl⟩)
  · refine e_tableIn (off := 89) (tgt := 90) dX0_tellState_1 (by omega) (by omega) (by rw [hsw]; rfl) (by decide) ?_
    refine e_aload_n dX0_tellState_90 rfl rfl ?_
    refine ch_g0_6 wF_X0_41 dX0_tellState_91 ?_
    refine ch_g2_0 wF_X0_84 dX0_tellState_94 ?_
    exact e_iret rfl dX0_tellState_97 (⟨by rw [hsw]; rfl, rfl⟩)
  · refine e_tableIn (off := 97) (tgt := 98) dX0_tellState_1 (by omega) (by omega) (by rw [hsw]; rfl) (by decide) ?_
    refine e_aload_n dX0_tellState_98 rfl rfl ?_
    refine e_invV (mcY := 0) (msY := 0) (ct_X0_patternNumber hm) vX0_patternNumber wM_X0_162 (ch_at G c _ h 0 (by decide)) rfl dX0_tellState_99 rfl rfl (Nat.le_of_ble_eq_true rfl) (Nat.le_of_ble_eq_true rfl) ?_
    rintro _ _ ⟨rfl, rfl⟩
    exact e_iret rfl dX0_tellState_102 (⟨by rw [hsw]; rfl, rfl⟩)
  · refine e_tableIn (off := 102) (tgt := 103) dX0_tellState_1 (by omega) (by omega) (by rw [hsw]; rfl) (by decide) ?_
    refine e_aload_n dX0_tellState_103 rfl rfl ?_
    refine e_invV (mcY := 0) (msY := 0) (ct_X0_countNodes hm) vX0_countNodes wM_X0_220 (ch_at G c _ h 0 (by decide)) rfl dX0_tellState_104 rfl rfl (Nat.le_of_ble_eq_true rfl) (Nat.le_of_ble_eq_true rfl) ?_
    rintro _ _ ⟨rfl, rfl⟩
    exact e_iret rfl dX0_tellState_107 (⟨by rw [hsw]; rfl, rfl⟩)
  · refine e_tableIn (off := 107) (tgt := 108) dX0_tellState_1 (by omega) (by omega) (by rw [hsw]; rfl) (by decide) ?_
    refine e_aload_n dX0_tellState_108 rfl rfl ?_
    refine ch_g0_7 wF_X0_48 dX0_tellState_109 ?_
    refine ch_g4_0 wF_X0_87 dX0_tellState_112 ?_
    exact e_iret rfl dX0_tellState_115 (⟨by rw [hsw]; rfl, rfl⟩)
  · refine e_tableIn (off := 115) (tgt := 116) dX0_tellState_1 (by omega) (by omega) (by rw [hsw]; rfl) (by decide) ?_
    refine e_aload_n dX0_tellState_116 rfl rfl ?_
    refine e_invV (mcY := 0) (msY := 0) (ct_X0_countResting hm) vX0_countResting wM_X0_223 (ch_at G c _ h 0 (by decide)) rfl dX0_tellState_117 rfl rfl (Nat.le_of_ble_eq_true rfl) (Nat.le_of_ble_eq_true rfl) ?_
    rintro _ _ ⟨rfl, rfl⟩
    exact e_iret rfl dX0_tellState_120 (⟨by rw [hsw]; rfl, rfl⟩)
  · refine e_tableOut (tgt := 121) dX0_tellState_1 (by omega) (by decide) ?_
    refine e_aload_n dX0_tellState_121 rfl rfl ?_
    refine e_invV (mcY := 0) (msY := 0) (ct_X0_farthestMass hm) vX0_farthestMass wM_X0_226 (ch_at G c _ h 0 (by decide)) rfl dX0_tellState_122 rfl rfl (Nat.le_of_ble_eq_true rfl) (Nat.le_of_ble_eq_true rfl) ?_
    rintro _ _ ⟨⟨y, rfl, hy⟩, rfl⟩
    have hy2 := sFar_of hm hy
    subst hy2
    exact e_iret rfl dX0_tellState_125 (⟨by rw [hsw]; rfl, rfl⟩)
set_option maxRecDepth 20000 in
theorem ct_X0_tellAccount (hm : sOk σ) (hw : sWt σ) (x0 : 0 ≤ x.toInt) (x1 : x.toInt ≤ 7) : ev_Ct G l mX0_tellAccount 6 0 0 [.ref c, .int x] (ch G c σ h) (fun v a => v = some (.long (sAcc σ x.toInt.toNat)) ∧ a = ch G c σ h) (fun _ _ => False) := by
  refine ev_Ct.of (by decide +kernel) (Nat.le_of_ble_eq_true rfl) ?_
  refine e_iload_n dX0_tellAccount_0 rfl rfl ?_
  rcases (show x.toInt = 0 ∨ x.toInt = 1 ∨ x.toInt = 2 ∨ x.toInt = 3 ∨ x.toInt = 4 ∨ x.toInt = 5 ∨ x.toInt = 6 ∨ x.toInt = 7 by omega) with hsw | hsw | hsw | hsw | hsw | hsw | hsw | hsw
  · refine e_tableIn (off := 43) (tgt := 44) dX0_tellAccount_1 (by omega) (by omega) (by rw [hsw]; rfl) (by decide) ?_
    refine e_aload_n dX0_tellAccount_44 rfl rfl ?_
    refine e_invV (mcY := 0) (msY := 0) (ct_X0_sumOfMomenta hm) vX0_sumOfMomenta wM_X0_229 (ch_at G c _ h 0 (by decide)) rfl dX0_tellAccount_45 rfl rfl (Nat.le_of_ble_eq_true rfl) (Nat.le_of_ble_eq_true rfl) ?_
    rintro _ _ ⟨rfl, rfl⟩
    exact e_lret rfl dX0_tellAccount_48 (⟨by rw [hsw]; rfl, rfl⟩)
  · refine e_tableIn (off := 48) (tgt := 49) dX0_tellAccount_1 (by omega) (by omega) (by rw [hsw]; rfl) (by decide) ?_
    refine e_aload_n dX0_tellAccount_49 rfl rfl ?_
    refine ch_g0_5 wF_X0_34 dX0_tellAccount_50 ?_
    refine ch_g3_0 wF_X0_171 dX0_tellAccount_53 ?_
    exact e_lret rfl dX0_tellAccount_56 (⟨by rw [hsw]; rfl, rfl⟩)
  · refine e_tableIn (off := 56) (tgt := 57) dX0_tellAccount_1 (by omega) (by omega) (by rw [hsw]; rfl) (by decide) ?_
    refine e_aload_n dX0_tellAccount_57 rfl rfl ?_
    refine ch_g0_5 wF_X0_34 dX0_tellAccount_58 ?_
    refine ch_g3_1 wF_X0_174 dX0_tellAccount_61 ?_
    exact e_lret rfl dX0_tellAccount_64 (⟨by rw [hsw]; rfl, rfl⟩)
  · refine e_tableIn (off := 64) (tgt := 65) dX0_tellAccount_1 (by omega) (by omega) (by rw [hsw]; rfl) (by decide) ?_
    refine e_aload_n dX0_tellAccount_65 rfl rfl ?_
    refine ch_g0_5 wF_X0_34 dX0_tellAccount_66 ?_
    refine ch_g3_2 wF_X0_139 dX0_tellAccount_69 ?_
    exact e_lret rfl dX0_tellAccount_72 (⟨by rw [hsw]; rfl, rfl⟩)
  · refine e_tableIn (off := 72) (tgt := 73) dX0_tellAccount_1 (by omega) (by omega) (by rw [hsw]; rfl) (by decide) ?_
    refine e_aload_n dX0_tellAccount_73 rfl rfl ?_
    refine ch_g0_5 wF_X0_34 dX0_tellAccount_74 ?_
    refine ch_g3_3 wF_X0_191 dX0_tellAccount_77 ?_
    exact e_lret rfl dX0_tellAccount_80 (⟨by rw [hsw]; rfl, rfl⟩)
  · refine e_tableIn (off := 80) (tgt := 81) dX0_tellAccount_1 (by omega) (by omega) (by rw [hsw]; rfl) (by decide) ?_
    refine e_aload_n dX0_tellAccount_81 rfl rfl ?_
    refine ch_g0_5 wF_X0_34 dX0_tellAccount_82 ?_
    refine ch_g3_4 wF_X0_194 dX0_tellAccount_85 ?_
    exact e_lret rfl dX0_tellAccount_88 (⟨by rw [hsw]; rfl, rfl⟩)
  · refine e_tableIn (off := 88) (tgt := 89) dX0_tellAccount_1 (by omega) (by omega) (by rw [hsw]; rfl) (by decide) ?_
    refine e_aload_n dX0_tellAccount_89 rfl rfl ?_
    refine e_invV (mcY := 0) (msY := 0) (ct_X0_energyOfMasses hm hw) vX0_energyOfMasses wM_X0_233 (ch_at G c _ h 0 (by decide)) rfl dX0_tellAccount_90 rfl rfl (Nat.le_of_ble_eq_true rfl) (Nat.le_of_ble_eq_true rfl) ?_
    rintro _ _ ⟨rfl, rfl⟩
    exact e_lret rfl dX0_tellAccount_93 (⟨by rw [hsw]; rfl, rfl⟩)
  · refine e_tableOut (tgt := 94) dX0_tellAccount_1 (by omega) (by decide) ?_
    refine e_aload_n dX0_tellAccount_94 rfl rfl ?_
    refine e_invV (mcY := 0) (msY := 0) (ct_X0_energyOfSprings hm) vX0_energyOfSprings wM_X0_236 (ch_at G c _ h 0 (by decide)) rfl dX0_tellAccount_95 rfl rfl (Nat.le_of_ble_eq_true rfl) (Nat.le_of_ble_eq_true rfl) ?_
    rintro _ _ ⟨rfl, rfl⟩
    exact e_lret rfl dX0_tellAccount_98 (⟨by rw [hsw]; rfl, rfl⟩)
def sMo (σ : CS) (j : Nat) : Int64 := (σ.2.2 0 j).toInt64 * (σ.2.2 1 j).toInt64
def sWe (σ : CS) (j : Nat) : Int64 := (σ.2.2 0 j).toInt64
set_option maxRecDepth 20000 in
theorem ct_X2_tickOf (x0 : 0 ≤ x.toInt) (x1 : x.toInt < 16) : ev_Ct G l mX2_tickOf 1 0 0 [.ref (c + 8), .int x] (ch G c σ h) (fun v a => v = some (.int (σ.2.2 7 x.toInt.toNat)) ∧ a = ch G c σ h) (fun _ _ => False) := by
  refine ev_Ct.of (by decide +kernel) (Nat.le_of_ble_eq_true rfl) ?_
  have h16 := ar_16
  refine e_iload_n dX2_tickOf_0 rfl rfl ?_
  refine e_if_lt (tgt := 19) dX2_tickOf_1 (by decide) (fun c1 => ?_) (fun c1 => ?_)
  · omega
  · refine e_iload_n dX2_tickOf_4 rfl rfl ?_
    refine e_bipush (v := 16) dX2_tickOf_5 (by decide) ?_
    refine e_icmp_ge (tgt := 19) dX2_tickOf_7 (by decide) (fun c7 => ?_) (fun c7 => ?_)
    · omega
    · refine e_aload_n dX2_tickOf_10 rfl rfl ?_
      refine ch_g2_1 wF_X2_9 dX2_tickOf_11 ?_
      refine e_iload_n dX2_tickOf_14 rfl rfl ?_
      refine ch_l9 x0 x1 dX2_tickOf_15 ?_
      refine e_goto (tgt := 20) dX2_tickOf_16 (by decide) ?_
      exact e_iret rfl dX2_tickOf_20 (⟨rfl, rfl⟩)
set_option maxRecDepth 20000 in
theorem ct_X2_massOf (x0 : 0 ≤ x.toInt) (x1 : x.toInt < 16) : ev_Ct G l mX2_massOf 1 0 0 [.ref (c + 8), .int x] (ch G c σ h) (fun v a => v = some (.int (σ.2.2 8 x.toInt.toNat)) ∧ a = ch G c σ h) (fun _ _ => False) := by
  refine ev_Ct.of (by decide +kernel) (Nat.le_of_ble_eq_true rfl) ?_
  have h16 := ar_16
  refine e_iload_n dX2_massOf_0 rfl rfl ?_
  refine e_if_lt (tgt := 19) dX2_massOf_1 (by decide) (fun c1 => ?_) (fun c1 => ?_)
  · omega
  · refine e_iload_n dX2_massOf_4 rfl rfl ?_
    refine e_bipush (v := 16) dX2_massOf_5 (by decide) ?_
    refine e_icmp_ge (tgt := 19) dX2_massOf_7 (by decide) (fun c7 => ?_) (fun c7 => ?_)
    · omega
    · refine e_aload_n dX2_massOf_10 rfl rfl ?_
      refine ch_g2_2 wF_X2_15 dX2_massOf_11 ?_
      refine e_iload_n dX2_massOf_14 rfl rfl ?_
      refine ch_l10 x0 x1 dX2_massOf_15 ?_
      refine e_goto (tgt := 20) dX2_massOf_16 (by decide) ?_
      exact e_iret rfl dX2_massOf_20 (⟨rfl, rfl⟩)
set_option maxRecDepth 20000 in
theorem ct_X2_strengthOf (x0 : 0 ≤ x.toInt) (x1 : x.toInt < 16) : ev_Ct G l mX2_strengthOf 1 0 0 [.ref (c + 8), .int x] (ch G c σ h) (fun v a => v = some (.int (σ.2.2 9 x.toInt.toNat)) ∧ a = ch G c σ h) (fun _ _ => False) := by
  refine ev_Ct.of (by decide +kernel) (Nat.le_of_ble_eq_true rfl) ?_
  have h16 := ar_16
  refine e_iload_n dX2_strengthOf_0 rfl rfl ?_
  refine e_if_lt (tgt := 19) dX2_strengthOf_1 (by decide) (fun c1 => ?_) (fun c1 => ?_)
  · omega
  · refine e_iload_n dX2_strengthOf_4 rfl rfl ?_
    refine e_bipush (v := 16) dX2_strengthOf_5 (by decide) ?_
    refine e_icmp_ge (tgt := 19) dX2_strengthOf_7 (by decide) (fun c7 => ?_) (fun c7 => ?_)
    · omega
    · refine e_aload_n dX2_strengthOf_10 rfl rfl ?_
      refine ch_g2_3 wF_X2_18 dX2_strengthOf_11 ?_
      refine e_iload_n dX2_strengthOf_14 rfl rfl ?_
      refine ch_l11 x0 x1 dX2_strengthOf_15 ?_
      refine e_goto (tgt := 20) dX2_strengthOf_16 (by decide) ?_
      exact e_iret rfl dX2_strengthOf_20 (⟨rfl, rfl⟩)
set_option maxRecDepth 20000 in
theorem ct_X2_tell (x0 : 0 ≤ x.toInt) (x1 : x.toInt < 16) (y0 : 0 ≤ y.toInt) (y1 : y.toInt ≤ 2) : ev_Ct G l mX2_tell 2 0 0 [.ref (c + 8), .int x, .int y] (ch G c σ h) (fun v a => v = some (.int (if y.toInt = 0 then σ.2.2 7 x.toInt.toNat else if y.toInt = 1 then σ.2.2 8 x.toInt.toNat else σ.2.2 9 x.toInt.toNat)) ∧ a = ch G c σ h) (fun _ _ => False) := by
  refine ev_Ct.of (by decide +kernel) (Nat.le_of_ble_eq_true rfl) ?_
  refine e_iload_n dX2_tell_0 rfl rfl ?_
  rcases (show y.toInt = 0 ∨ y.toInt = 1 ∨ y.toInt = 2 by omega) with hsw | hsw | hsw
  · refine e_lookup (off := 27) (tgt := 28) dX2_tell_1 (by decide) (by rw [hsw]; rfl) (by decide) ?_
    refine e_aload_n dX2_tell_28 rfl rfl ?_
    refine e_iload_n dX2_tell_29 rfl rfl ?_
    refine e_invV (mcY := 0) (msY := 0) (ct_X2_tickOf x0 x1) vX2_tickOf wM_X2_29 (ch_at G c _ h 8 (by decide)) rfl dX2_tell_30 rfl rfl (Nat.le_of_ble_eq_true rfl) (Nat.le_of_ble_eq_true rfl) ?_
    rintro _ _ ⟨rfl, rfl⟩
    exact e_iret rfl dX2_tell_33 (⟨by rw [hsw]; rfl, rfl⟩)
  · refine e_lookup (off := 33) (tgt := 34) dX2_tell_1 (by decide) (by rw [hsw]; rfl) (by decide) ?_
    refine e_aload_n dX2_tell_34 rfl rfl ?_
    refine e_iload_n dX2_tell_35 rfl rfl ?_
    refine e_invV (mcY := 0) (msY := 0) (ct_X2_massOf x0 x1) vX2_massOf wM_X2_33 (ch_at G c _ h 8 (by decide)) rfl dX2_tell_36 rfl rfl (Nat.le_of_ble_eq_true rfl) (Nat.le_of_ble_eq_true rfl) ?_
    rintro _ _ ⟨rfl, rfl⟩
    exact e_iret rfl dX2_tell_39 (⟨by rw [hsw]; rfl, rfl⟩)
  · refine e_lookup (off := 39) (tgt := 40) dX2_tell_1 (by decide) (by rw [hsw]; rfl) (by decide) ?_
    refine e_aload_n dX2_tell_40 rfl rfl ?_
    refine e_iload_n dX2_tell_41 rfl rfl ?_
    refine e_invV (mcY := 0) (msY := 0) (ct_X2_strengthOf x0 x1) vX2_strengthOf wM_X2_36 (ch_at G c _ h 8 (by decide)) rfl dX2_tell_42 rfl rfl (Nat.le_of_ble_eq_true rfl) (Nat.le_of_ble_eq_true rfl) ?_
    rintro _ _ ⟨rfl, rfl⟩
    exact e_iret rfl dX2_tell_45 (⟨by rw [hsw]; rfl, rfl⟩)
set_option maxRecDepth 20000 in
theorem ct_X2_put (x0 : 0 ≤ x.toInt) (x1 : x.toInt < 16) : ev_Ct G l mX2_put 1 0 0 [.ref (c + 8), .int x, .int y, .int z, .int w] (ch G c σ h) (fun v a => v = none ∧ a = ch G c (sPut σ x.toInt.toNat y z w) h) (fun _ _ => False) := by
  refine ev_Ct.of (by decide +kernel) (Nat.le_of_ble_eq_true rfl) ?_
  have h16 := ar_16
  refine e_iload_n dX2_put_0 rfl rfl ?_
  refine e_if_lt (tgt := 32) dX2_put_1 (by decide) (fun c1 => ?_) (fun c1 => ?_)
  · omega
  · refine e_iload_n dX2_put_4 rfl rfl ?_
    refine e_bipush (v := 16) dX2_put_5 (by decide) ?_
    refine e_icmp_ge (tgt := 32) dX2_put_7 (by decide) (fun c7 => ?_) (fun c7 => ?_)
    · omega
    · refine e_aload_n dX2_put_10 rfl rfl ?_
      refine ch_g2_1 wF_X2_9 dX2_put_11 ?_
      refine e_iload_n dX2_put_14 rfl rfl ?_
      refine e_iload_n dX2_put_15 rfl rfl ?_
      refine ch_s9 x0 x1 dX2_put_16 ?_
      refine e_aload_n dX2_put_17 rfl rfl ?_
      refine ch_g2_2 wF_X2_15 dX2_put_18 ?_
      refine e_iload_n dX2_put_21 rfl rfl ?_
      refine e_iload_n dX2_put_22 rfl rfl ?_
      refine ch_s10 x0 x1 dX2_put_23 ?_
      refine e_aload_n dX2_put_24 rfl rfl ?_
      refine ch_g2_3 wF_X2_18 dX2_put_25 ?_
      refine e_iload_n dX2_put_28 rfl rfl ?_
      refine e_iload dX2_put_29 rfl ?_
      refine ch_s11 x0 x1 dX2_put_31 ?_
      exact e_vret rfl dX2_put_32 (⟨rfl, rfl⟩)
set_option maxRecDepth 20000 in
theorem ct_X2_isLater (x0 : 0 ≤ x.toInt) (x1 : x.toInt < 16) : ev_Ct G l mX2_isLater 2 0 0 [.ref (c + 8), .int x, .int y, .int z] (ch G c σ h) (fun v a => v = some (.int (if y.toInt < (σ.2.2 7 x.toInt.toNat).toInt ∨ (σ.2.2 7 x.toInt.toNat = y ∧ z.toInt < (σ.2.2 8 x.toInt.toNat).toInt) then 1 else 0)) ∧ a = ch G c σ h) (fun _ _ => False) := by
  refine ev_Ct.of (by decide +kernel) (Nat.le_of_ble_eq_true rfl) ?_
  refine e_aload_n dX2_isLater_0 rfl rfl ?_
  refine e_iload_n dX2_isLater_1 rfl rfl ?_
  refine e_invV (mcY := 0) (msY := 0) (ct_X2_tickOf x0 x1) vX2_tickOf wM_X2_29 (ch_at G c _ h 8 (by decide)) rfl dX2_isLater_2 rfl rfl (Nat.le_of_ble_eq_true rfl) (Nat.le_of_ble_eq_true rfl) ?_
  rintro _ _ ⟨rfl, rfl⟩
  refine e_iload_n dX2_isLater_5 rfl rfl ?_
  refine e_icmp_gt (tgt := 27) dX2_isLater_6 (by decide) (fun c6 => ?_) (fun c6 => ?_)
  · refine e_iconst (v := 1) dX2_isLater_27 (by decide) ?_
    refine e_goto (tgt := 32) dX2_isLater_28 (by decide) ?_
    exact e_zret (ty := .boolean) rfl rfl dX2_isLater_32 (⟨by
        first
          | (rw [if_pos (Or.inl c6)]; done)
          | (rw [if_pos (Or.inr ⟨c15, c24⟩)]; done)
          | (rw [if_neg (fun q => q.elim (fun q => by omega) (fun q => c15 q.1))]; done)
          | (rw [if_neg (fun q => q.elim (fun q => by omega) (fun q => by have := q.2; omega))]; done), rfl⟩)
  · refine e_aload_n dX2_isLater_9 rfl rfl ?_
    refine e_iload_n dX2_isLater_10 rfl rfl ?_
    refine e_invV (mcY := 0) (msY := 0) (ct_X2_tickOf x0 x1) vX2_tickOf wM_X2_29 (ch_at G c _ h 8 (by decide)) rfl dX2_isLater_11 rfl rfl (Nat.le_of_ble_eq_true rfl) (Nat.le_of_ble_eq_true rfl) ?_
    rintro _ _ ⟨rfl, rfl⟩
    refine e_iload_n dX2_isLater_14 rfl rfl ?_
    refine e_icmp_ne (tgt := 31) dX2_isLater_15 (by decide) (fun c15 => ?_) (fun c15 => ?_)
    · refine e_iconst (v := 0) dX2_isLater_31 (by decide) ?_
      exact e_zret (ty := .boolean) rfl rfl dX2_isLater_32 (⟨by
          first
            | (rw [if_pos (Or.inl c6)]; done)
            | (rw [if_pos (Or.inr ⟨c15, c24⟩)]; done)
            | (rw [if_neg (fun q => q.elim (fun q => by omega) (fun q => c15 q.1))]; done)
            | (rw [if_neg (fun q => q.elim (fun q => by omega) (fun q => by have := q.2; omega))]; done), rfl⟩)
    · refine e_aload_n dX2_isLater_18 rfl rfl ?_
      refine e_iload_n dX2_isLater_19 rfl rfl ?_
      refine e_invV (mcY := 0) (msY := 0) (ct_X2_massOf x0 x1) vX2_massOf wM_X2_33 (ch_at G c _ h 8 (by decide)) rfl dX2_isLater_20 rfl rfl (Nat.le_of_ble_eq_true rfl) (Nat.le_of_ble_eq_true rfl) ?_
      rintro _ _ ⟨rfl, rfl⟩
      refine e_iload_n dX2_isLater_23 rfl rfl ?_
      refine e_icmp_le (tgt := 31) dX2_isLater_24 (by decide) (fun c24 => ?_) (fun c24 => ?_)
      · refine e_iconst (v := 0) dX2_isLater_31 (by decide) ?_
        exact e_zret (ty := .boolean) rfl rfl dX2_isLater_32 (⟨by
            first
              | (rw [if_pos (Or.inl c6)]; done)
              | (rw [if_pos (Or.inr ⟨c15, c24⟩)]; done)
              | (rw [if_neg (fun q => q.elim (fun q => by omega) (fun q => c15 q.1))]; done)
              | (rw [if_neg (fun q => q.elim (fun q => by omega) (fun q => by have := q.2; omega))]; done), rfl⟩)
      · refine e_iconst (v := 1) dX2_isLater_27 (by decide) ?_
        refine e_goto (tgt := 32) dX2_isLater_28 (by decide) ?_
        exact e_zret (ty := .boolean) rfl rfl dX2_isLater_32 (⟨by
            first
              | (rw [if_pos (Or.inl c6)]; done)
              | (rw [if_pos (Or.inr ⟨c15, c24⟩)]; done)
              | (rw [if_neg (fun q => q.elim (fun q => by omega) (fun q => c15 q.1))]; done)
              | (rw [if_neg (fun q => q.elim (fun q => by omega) (fun q => by have := q.2; omega))]; done), rfl⟩)
set_option maxRecDepth 20000 in
theorem lp_countOfTick {J : ev_K} {k n : Nat} (hJ : 2 ≤ J.2.2.1) (hi : sIok σ) (t : Int32) (hk : ∀ y : Int32, y.toInt = (sDue σ t : Int) → ev_V G l mX2_countOfTick J 25 [none, none, some (.int y)] [] (ch G c σ h) k n) : ∀ (r i : Nat) (x : Int32), r + i = sIn σ → x.toInt = (i : Int) → sDueF σ t r i = sDue σ t → ev_V G l mX2_countOfTick J 2 [some (.ref (c + 8)), some (.int t), some (.int x)] [] (ch G c σ h) k n := by
  intro r
  induction r using Nat.strongRecOn with
  | ind r ih =>
    intro i x hr hx hq
    have hn : x.toInt.toNat = i := ar_nat hx
    have hin := hi.nat
    refine e_iload_n dX2_countOfTick_2 rfl rfl ?_
    refine e_aload_n dX2_countOfTick_3 rfl rfl ?_
    refine ch_g2_0 wF_X2_21 dX2_countOfTick_4 ?_
    refine e_icmp_ge (tgt := 25) dX2_countOfTick_7 (by decide) (fun c7 => ?_) (fun c7 => ?_)
    · obtain rfl : r = 0 := by omega
      refine ev_lc (hk x ?_) ⟨rfl, trivial⟩
      rw [hx, ← hq]
      first
        | rfl
        | (rw [hn] at c16; unfold sDueF; rw [if_neg c16])
    · refine e_aload_n dX2_countOfTick_10 rfl rfl ?_
      refine e_iload_n dX2_countOfTick_11 rfl rfl ?_
      refine e_invV (mcY := 0) (msY := 0) (ct_X2_tickOf (by omega) (by omega)) vX2_tickOf wM_X2_29 (ch_at G c _ h 8 (by decide)) rfl dX2_countOfTick_12 rfl rfl (Nat.le_of_ble_eq_true rfl) (Nat.le_trans (Nat.le_of_ble_eq_true rfl) hJ) ?_
      rintro _ _ ⟨rfl, rfl⟩
      refine e_iload_n dX2_countOfTick_15 rfl rfl ?_
      refine e_icmp_ne (tgt := 25) dX2_countOfTick_16 (by decide) (fun c16 => ?_) (fun c16 => ?_)
      · obtain ⟨r, rfl⟩ : ∃ r1, r = r1 + 1 := ⟨r - 1, by omega⟩
        refine ev_lc (hk x ?_) ⟨rfl, trivial⟩
        rw [hx, ← hq]
        first
          | rfl
          | (rw [hn] at c16; unfold sDueF; rw [if_neg c16])
      · obtain ⟨r, rfl⟩ : ∃ r1, r = r1 + 1 := ⟨r - 1, by omega⟩
        refine e_iinc dX2_countOfTick_19 rfl rfl (Nat.le_of_ble_eq_true rfl) ?_
        refine e_goto (tgt := 2) dX2_countOfTick_22 (by decide) ?_
        refine ih r (by omega) (i + 1) _ (by omega) (ar_inc hx (by omega)) ?_
        rw [← hq]
        rw [hn] at c16
        show _ = (if σ.2.2 7 i = t then sDueF σ t r (i + 1) else i)
        rw [if_pos c16]
set_option maxRecDepth 20000 in
theorem ct_X2_countOfTick (hi : sIok σ) : ev_Ct G l mX2_countOfTick 2 0 0 [.ref (c + 8), .int x] (ch G c σ h) (fun v a => (∃ y : Int32, v = some (.int y) ∧ y.toInt = (sDue σ x : Int)) ∧ a = ch G c σ h) (fun _ _ => False) := by
  refine ev_Ct.of (by decide +kernel) (Nat.le_of_ble_eq_true rfl) ?_
  refine e_iconst (v := 0) dX2_countOfTick_0 (by decide) ?_
  refine e_istore_n dX2_countOfTick_1 rfl (Nat.le_of_ble_eq_true rfl) ?_
  refine ev_loc (L' := [some (.ref (c + 8)), some (.int x), some (.int 0)]) ⟨rfl, rfl, rfl, trivial⟩ ?_
  exact lp_countOfTick (Nat.le_refl _) hi x (fun y hy => e_iload_n dX2_countOfTick_25 rfl rfl (e_iret rfl dX2_countOfTick_26 (by exact ⟨⟨y, rfl, hy⟩, rfl⟩))) (sIn σ) 0 0 (by omega) ar_0 rfl
set_option maxRecDepth 20000 in
theorem lp_dropFirst {J : ev_K} {k n : Nat} (hJ : 2 ≤ J.2.2.1) (hi : sIok σ) (d : Nat) (y : Int32) (hy : y.toInt = (d : Int)) (hk : ev_V G l mX2_dropFirst J 38 [some (.ref (c + 8)), some (.int y)] [] (ch G c (cs_T σ (sDropF (σ.2.2 7) d (sIn σ)) (sDropF (σ.2.2 8) d (sIn σ)) (sDropF (σ.2.2 9) d (sIn σ))) h) k n) : ∀ (r i : Nat) (x : Int32), r + i = sIn σ → x.toInt = (i : Int) → d ≤ i → ev_V G l mX2_dropFirst J 2 [some (.ref (c + 8)), some (.int y), some (.int x)] [] (ch G c (cs_T σ (sDropF (σ.2.2 7) d i) (sDropF (σ.2.2 8) d i) (sDropF (σ.2.2 9) d i)) h) k n := by
  intro r
  induction r using Nat.strongRecOn with
  | ind r ih =>
    intro i x
    intro hr hx hdi
    have hn : x.toInt.toNat = i := ar_nat hx
    have hin := hi.nat
    have hxy : (x - y).toInt = (i : Int) - (d : Int) := by rw [ar_sub (by omega) (by omega), hx, hy]
    have hxn : (x - y).toInt.toNat = i - d := by omega
    refine e_iload_n dX2_dropFirst_2 rfl rfl ?_
    refine e_aload_n dX2_dropFirst_3 rfl rfl ?_
    refine ch_g2_0 wF_X2_21 dX2_dropFirst_4 ?_
    refine e_icmp_ge (tgt := 38) dX2_dropFirst_7 (by decide) (fun c7 => ?_) (fun c7 => ?_)
    · have c7b : (σ.1 5).toInt ≤ x.toInt := c7
      obtain rfl : i = sIn σ := by omega
      exact ev_lc hk ⟨rfl, rfl, trivial⟩
    · have c7b : x.toInt < (σ.1 5).toInt := c7
      refine e_aload_n dX2_dropFirst_10 rfl rfl ?_
      refine e_iload_n dX2_dropFirst_11 rfl rfl ?_
      refine e_iload_n dX2_dropFirst_12 rfl rfl ?_
      refine e_isub dX2_dropFirst_13 ?_
      refine e_aload_n dX2_dropFirst_14 rfl rfl ?_
      refine e_iload_n dX2_dropFirst_15 rfl rfl ?_
      refine e_invV (mcY := 0) (msY := 0) (ct_X2_tickOf (by omega) (by show x.toInt < 16; have : ((cs_T σ (sDropF (σ.2.2 7) d i) (sDropF (σ.2.2 8) d i) (sDropF (σ.2.2 9) d i)).1 5).toInt = (σ.1 5).toInt := rfl; omega)) vX2_tickOf wM_X2_29 (ch_at G c _ h 8 (by decide)) rfl dX2_dropFirst_16 rfl rfl (Nat.le_of_ble_eq_true rfl) (Nat.le_trans (Nat.le_of_ble_eq_true rfl) hJ) ?_
      rintro _ _ ⟨rfl, rfl⟩
      refine e_aload_n dX2_dropFirst_19 rfl rfl ?_
      refine e_iload_n dX2_dropFirst_20 rfl rfl ?_
      refine e_invV (mcY := 0) (msY := 0) (ct_X2_massOf (by omega) (by omega)) vX2_massOf wM_X2_33 (ch_at G c _ h 8 (by decide)) rfl dX2_dropFirst_21 rfl rfl (Nat.le_of_ble_eq_true rfl) (Nat.le_trans (Nat.le_of_ble_eq_true rfl) hJ) ?_
      rintro _ _ ⟨rfl, rfl⟩
      refine e_aload_n dX2_dropFirst_24 rfl rfl ?_
      refine e_iload_n dX2_dropFirst_25 rfl rfl ?_
      refine e_invV (mcY := 0) (msY := 0) (ct_X2_strengthOf (by omega) (by omega)) vX2_strengthOf wM_X2_36 (ch_at G c _ h 8 (by decide)) rfl dX2_dropFirst_26 rfl rfl (Nat.le_of_ble_eq_true rfl) (Nat.le_trans (Nat.le_of_ble_eq_true rfl) hJ) ?_
      rintro _ _ ⟨rfl, rfl⟩
      refine e_invV (mcY := 0) (msY := 0) (ct_X2_put (x := x - y) (by omega) (by omega)) vX2_put wM_X2_25 (ch_at G c _ h 8 (by decide)) rfl dX2_dropFirst_29 rfl rfl (Nat.le_of_ble_eq_true rfl) (Nat.le_trans (Nat.le_of_ble_eq_true rfl) hJ) ?_
      rintro _ _ ⟨rfl, rfl⟩
      refine e_iinc dX2_dropFirst_32 rfl rfl (Nat.le_of_ble_eq_true rfl) ?_
      refine e_goto (tgt := 2) dX2_dropFirst_35 (by decide) ?_
      refine ev_as ?_ (ih (r - 1) (by omega) (i + 1) _ (by omega) (ar_inc hx (by omega)) (by omega))
      rw [sPut_T, hxn]
      have e7 : (cs_T σ (sDropF (σ.2.2 7) d i) (sDropF (σ.2.2 8) d i) (sDropF (σ.2.2 9) d i)).2.2 7 x.toInt.toNat = σ.2.2 7 i := by rw [hn]; exact sDropF_at _ _ _
      have e8 : (cs_T σ (sDropF (σ.2.2 7) d i) (sDropF (σ.2.2 8) d i) (sDropF (σ.2.2 9) d i)).2.2 8 x.toInt.toNat = σ.2.2 8 i := by rw [hn]; exact sDropF_at _ _ _
      have e9 : (cs_T σ (sDropF (σ.2.2 7) d i) (sDropF (σ.2.2 8) d i) (sDropF (σ.2.2 9) d i)).2.2 9 x.toInt.toNat = σ.2.2 9 i := by rw [hn]; exact sDropF_at _ _ _
      rw [e7, e8, e9, sDropF_up _ _ _ hdi, sDropF_up _ _ _ hdi, sDropF_up _ _ _ hdi]
set_option maxRecDepth 20000 in
theorem ct_X2_dropFirst (hi : sIok σ) (d : Nat) (hd : d ≤ sIn σ) (hy : y.toInt = (d : Int)) : ev_Ct G l mX2_dropFirst 2 0 0 [.ref (c + 8), .int y] (ch G c σ h) (fun v a => v = none ∧ a = ch G c (sDrop σ d y) h) (fun _ _ => False) := by
  refine ev_Ct.of (by decide +kernel) (Nat.le_of_ble_eq_true rfl) ?_
  refine e_iload_n dX2_dropFirst_0 rfl rfl ?_
  refine e_istore_n dX2_dropFirst_1 rfl (Nat.le_of_ble_eq_true rfl) ?_
  refine ev_as (a' := ch G c (cs_T σ (sDropF (σ.2.2 7) d d) (sDropF (σ.2.2 8) d d) (sDropF (σ.2.2 9) d d)) h) (by rw [sDropF_0, sDropF_0, sDropF_0, cs_T_self]) ?_
  refine ev_loc (L' := [some (.ref (c + 8)), some (.int y), some (.int y)]) ⟨rfl, rfl, rfl, trivial⟩ ?_
  refine lp_dropFirst (Nat.le_refl _) hi d y hy ?_ (sIn σ - d) d _ (by omega) hy (Nat.le_refl _)
  refine e_aload_n dX2_dropFirst_38 rfl rfl ?_
  refine e_dup dX2_dropFirst_39 rfl ?_
  refine ch_g2_0 wF_X2_21 dX2_dropFirst_40 ?_
  refine e_iload_n dX2_dropFirst_43 rfl rfl ?_
  refine e_isub dX2_dropFirst_44 ?_
  refine ch_p2_0 wF_X2_21 dX2_dropFirst_45 ?_
  exact e_vret rfl dX2_dropFirst_48 (⟨rfl, rfl⟩)
end K4
