/-! an impulse told, a pattern noted, a tick -/
section K5
variable {G : ev_G} {l : Launch} {c : Nat} {σ : CS} {h : ev_H} {x y z w : Int32}
set_option maxRecDepth 20000 in
theorem lp_insert {J : ev_K} {k n : Nat} (hJ : 3 ≤ J.2.2.1) (hi : sIok σ) (h16 : sIn σ < 16) (t m s : Int32) (hk : ∀ x : Int32, x.toInt = (sInsP σ t m : Int) → ev_V G l mX2_insert J 70 [some (.ref (c + 8)), some (.int t), some (.int m), some (.int s), some (.int x)] [] (ch G c (cs_T σ (sShiftF (σ.2.2 7) (sInsP σ t m) (sIn σ)) (sShiftF (σ.2.2 8) (sInsP σ t m) (sIn σ)) (sShiftF (σ.2.2 9) (sInsP σ t m) (sIn σ))) h) k n) : ∀ (i : Nat) (x : Int32), i ≤ sIn σ → x.toInt = (i : Int) → sPlaceF σ t m i = sInsP σ t m → ev_V G l mX2_insert J 16 [some (.ref (c + 8)), some (.int t), some (.int m), some (.int s), some (.int x)] [] (ch G c (cs_T σ (sShiftF (σ.2.2 7) i (sIn σ)) (sShiftF (σ.2.2 8) i (sIn σ)) (sShiftF (σ.2.2 9) i (sIn σ))) h) k n := by
  intro i
  induction i with
  | zero =>
    intro x hle hx hq
    refine e_iload dX2_insert_16 rfl ?_
    refine e_if_le (tgt := 70) dX2_insert_18 (by decide) (fun c18 => ?_) (fun c18 => ?_)
    · rw [show (0 : Nat) = sInsP σ t m from hq]
      exact hk x (by rw [hx, ← hq]; rfl)
    · omega
  | succ i ih =>
    intro x hle hx hq
    have hxp : (x - 1).toInt = (i : Int) := by rw [ar_sub (by rw [ar_1]; omega) (by rw [ar_1]; omega), hx, ar_1]; omega
    have hxn : (x - 1).toInt.toNat = i := ar_nat hxp
    have hn : x.toInt.toNat = i + 1 := ar_nat hx
    have e7 : (cs_T σ (sShiftF (σ.2.2 7) (i + 1) (sIn σ)) (sShiftF (σ.2.2 8) (i + 1) (sIn σ)) (sShiftF (σ.2.2 9) (i + 1) (sIn σ))).2.2 7 (x - 1).toInt.toNat = σ.2.2 7 i := by rw [hxn]; exact sShiftF_at _ _ _ (by omega)
    have e8 : (cs_T σ (sShiftF (σ.2.2 7) (i + 1) (sIn σ)) (sShiftF (σ.2.2 8) (i + 1) (sIn σ)) (sShiftF (σ.2.2 9) (i + 1) (sIn σ))).2.2 8 (x - 1).toInt.toNat = σ.2.2 8 i := by rw [hxn]; exact sShiftF_at _ _ _ (by omega)
    have e9 : (cs_T σ (sShiftF (σ.2.2 7) (i + 1) (sIn σ)) (sShiftF (σ.2.2 8) (i + 1) (sIn σ)) (sShiftF (σ.2.2 9) (i + 1) (sIn σ))).2.2 9 (x - 1).toInt.toNat = σ.2.2 9 i := by rw [hxn]; exact sShiftF_at _ _ _ (by omega)
    refine e_iload dX2_insert_16 rfl ?_
    refine e_if_le (tgt := 70) dX2_insert_18 (by decide) (fun c18 => ?_) (fun c18 => ?_)
    · omega
    · refine e_aload_n dX2_insert_21 rfl rfl ?_
      refine e_iload dX2_insert_22 rfl ?_
      refine e_iconst (v := 1) dX2_insert_24 (by decide) ?_
      refine e_isub dX2_insert_25 ?_
      refine e_iload_n dX2_insert_26 rfl rfl ?_
      refine e_iload_n dX2_insert_27 rfl rfl ?_
      refine e_invV (mcY := 0) (msY := 0) (ct_X2_isLater (x := x - 1) (by omega) (by omega)) vX2_isLater wM_X2_39 (ch_at G c _ h 8 (by decide)) rfl dX2_insert_28 rfl rfl (Nat.le_of_ble_eq_true rfl) (Nat.le_trans (Nat.le_of_ble_eq_true rfl) hJ) ?_
      rintro _ _ ⟨rfl, rfl⟩
      refine e_if_eq (tgt := 70) dX2_insert_31 (by decide) (fun c31 => ?_) (fun c31 => ?_)
      · rw [e7, e8] at c31
        have hno : ¬ (t.toInt < (σ.2.2 7 i).toInt ∨ (σ.2.2 7 i = t ∧ m.toInt < (σ.2.2 8 i).toInt)) := fun q => by rw [if_pos q] at c31; exact absurd c31 (by decide)
        have hp : sInsP σ t m = i + 1 := by rw [← hq]; unfold sPlaceF; rw [if_neg hno]
        rw [← hp]
        exact hk x (by rw [hx, hp])
      · rw [e7, e8] at c31
        have hye : t.toInt < (σ.2.2 7 i).toInt ∨ (σ.2.2 7 i = t ∧ m.toInt < (σ.2.2 8 i).toInt) := Classical.byContradiction (fun q => c31 (if_neg q))
        refine e_aload_n dX2_insert_34 rfl rfl ?_
        refine e_iload dX2_insert_35 rfl ?_
        refine e_aload_n dX2_insert_37 rfl rfl ?_
        refine e_iload dX2_insert_38 rfl ?_
        refine e_iconst (v := 1) dX2_insert_40 (by decide) ?_
        refine e_isub dX2_insert_41 ?_
        refine e_invV (mcY := 0) (msY := 0) (ct_X2_tickOf (x := x - 1) (by omega) (by omega)) vX2_tickOf wM_X2_29 (ch_at G c _ h 8 (by decide)) rfl dX2_insert_42 rfl rfl (Nat.le_of_ble_eq_true rfl) (Nat.le_trans (Nat.le_of_ble_eq_true rfl) hJ) ?_
        rintro _ _ ⟨rfl, rfl⟩
        refine e_aload_n dX2_insert_45 rfl rfl ?_
        refine e_iload dX2_insert_46 rfl ?_
        refine e_iconst (v := 1) dX2_insert_48 (by decide) ?_
        refine e_isub dX2_insert_49 ?_
        refine e_invV (mcY := 0) (msY := 0) (ct_X2_massOf (x := x - 1) (by omega) (by omega)) vX2_massOf wM_X2_33 (ch_at G c _ h 8 (by decide)) rfl dX2_insert_50 rfl rfl (Nat.le_of_ble_eq_true rfl) (Nat.le_trans (Nat.le_of_ble_eq_true rfl) hJ) ?_
        rintro _ _ ⟨rfl, rfl⟩
        refine e_aload_n dX2_insert_53 rfl rfl ?_
        refine e_iload dX2_insert_54 rfl ?_
        refine e_iconst (v := 1) dX2_insert_56 (by decide) ?_
        refine e_isub dX2_insert_57 ?_
        refine e_invV (mcY := 0) (msY := 0) (ct_X2_strengthOf (x := x - 1) (by omega) (by omega)) vX2_strengthOf wM_X2_36 (ch_at G c _ h 8 (by decide)) rfl dX2_insert_58 rfl rfl (Nat.le_of_ble_eq_true rfl) (Nat.le_trans (Nat.le_of_ble_eq_true rfl) hJ) ?_
        rintro _ _ ⟨rfl, rfl⟩
        refine e_invV (mcY := 0) (msY := 0) (ct_X2_put (x := x) (by omega) (by omega)) vX2_put wM_X2_25 (ch_at G c _ h 8 (by decide)) rfl dX2_insert_61 rfl rfl (Nat.le_of_ble_eq_true rfl) (Nat.le_trans (Nat.le_of_ble_eq_true rfl) hJ) ?_
        rintro _ _ ⟨rfl, rfl⟩
        refine e_iinc dX2_insert_64 rfl rfl (Nat.le_of_ble_eq_true rfl) ?_
        refine e_goto (tgt := 16) dX2_insert_67 (by decide) ?_
        refine ev_as ?_ (ih _ (by omega) ?_ ?_)
        · rw [sPut_T, e7, e8, e9, hn, sShiftF_down _ _ _ hle, sShiftF_down _ _ _ hle, sShiftF_down _ _ _ hle]
        · rw [ar_im1, ar_add (by rw [ar_m1]; omega) (by rw [ar_m1]; omega), ar_m1]
          omega
        · rw [← hq]
          show _ = (if t.toInt < (σ.2.2 7 i).toInt ∨ (σ.2.2 7 i = t ∧ m.toInt < (σ.2.2 8 i).toInt) then sPlaceF σ t m i else i + 1)
          rw [if_pos hye]
set_option maxRecDepth 20000 in
theorem ct_X2_insert (hi : sIok σ) (h16 : sIn σ < 16) : ev_Ct G l mX2_insert 3 0 0 [.ref (c + 8), .int x, .int y, .int z] (ch G c σ h) (fun v a => v = none ∧ a = ch G c (sIns σ x y z) h) (fun _ _ => False) := by
  refine ev_Ct.of (by decide +kernel) (Nat.le_of_ble_eq_true rfl) ?_
  have hin := hi.nat
  have a16 := ar_16
  refine e_aload_n dX2_insert_0 rfl rfl ?_
  refine ch_g2_0 wF_X2_21 dX2_insert_1 ?_
  refine e_bipush (v := 16) dX2_insert_4 (by decide) ?_
  refine e_icmp_lt (tgt := 10) dX2_insert_6 (by decide) (fun c6 => ?_) (fun c6 => ?_)
  · refine e_aload_n dX2_insert_10 rfl rfl ?_
    refine ch_g2_0 wF_X2_21 dX2_insert_11 ?_
    refine e_istore dX2_insert_14 (Nat.le_of_ble_eq_true rfl) ?_
    refine ev_as (a' := ch G c (cs_T σ (sShiftF (σ.2.2 7) (sIn σ) (sIn σ)) (sShiftF (σ.2.2 8) (sIn σ) (sIn σ)) (sShiftF (σ.2.2 9) (sIn σ) (sIn σ))) h) (by rw [sShiftF_0, sShiftF_0, sShiftF_0, cs_T_self]) ?_
    refine ev_loc (L' := [some (.ref (c + 8)), some (.int x), some (.int y), some (.int z), some (.int (σ.1 5))]) ⟨rfl, rfl, rfl, rfl, rfl, trivial⟩ ?_
    refine lp_insert (Nat.le_refl _) hi h16 x y z (fun w hw => ?_) (sIn σ) _ (Nat.le_refl _) (by omega) rfl
    have hwn : w.toInt.toNat = sInsP σ x y := ar_nat hw
    have hple := sPlaceF_le σ x y (sIn σ)
    have hpd : sInsP σ x y = sPlaceF σ x y (sIn σ) := rfl
    refine e_aload_n dX2_insert_70 rfl rfl ?_
    refine e_iload dX2_insert_71 rfl ?_
    refine e_iload_n dX2_insert_73 rfl rfl ?_
    refine e_iload_n dX2_insert_74 rfl rfl ?_
    refine e_iload_n dX2_insert_75 rfl rfl ?_
    refine e_invV (mcY := 0) (msY := 0) (ct_X2_put (x := w) (by omega) (by omega)) vX2_put wM_X2_25 (ch_at G c _ h 8 (by decide)) rfl dX2_insert_76 rfl rfl (Nat.le_of_ble_eq_true rfl) (Nat.le_of_ble_eq_true rfl) ?_
    rintro _ _ ⟨rfl, rfl⟩
    refine e_aload_n dX2_insert_79 rfl rfl ?_
    refine e_dup dX2_insert_80 rfl ?_
    refine ch_g2_0 wF_X2_21 dX2_insert_81 ?_
    refine e_iconst (v := 1) dX2_insert_84 (by decide) ?_
    refine e_iadd dX2_insert_85 ?_
    refine ch_p2_0 wF_X2_21 dX2_insert_86 ?_
    exact e_vret rfl dX2_insert_89 (⟨rfl, by rw [hwn]; rfl⟩)
  · omega
set_option maxRecDepth 20000 in
theorem lp_note {J : ev_K} {k n : Nat} (hp0 : 0 ≤ (σ.1 6).toInt) (hp1 : (σ.1 6).toInt ≤ 32) (t : Int32) (hP : J.2.2.2.2.2.1 none (ch G c (sNote σ t) h)) : ∀ (r i : Nat) (x : Int32), r + i = 32 → x.toInt = (i : Int) → sNoteF σ t r i = sNote σ t → ev_V G l mX4_note J 2 [some (.ref (c + 12)), some (.int t), some (.int x)] [] (ch G c σ h) k n := by
  intro r
  induction r with
  | zero =>
    intro i x hr hx hq
    have h32 := ar_32c
    refine e_iload_n dX4_note_2 rfl rfl ?_
    refine e_bipush (v := 32) dX4_note_3 (by decide) ?_
    refine e_icmp_ge (tgt := 68) dX4_note_5 (by decide) (fun c5 => ?_) (fun c5 => ?_)
    · exact e_vret rfl dX4_note_68 (by rw [← hq] at hP; exact hP)
    · omega
  | succ r ih =>
    intro i x hr hx hq
    have h32 := ar_32c
    have hn : x.toInt.toNat = i := ar_nat hx
    refine e_iload_n dX4_note_2 rfl rfl ?_
    refine e_bipush (v := 32) dX4_note_3 (by decide) ?_
    refine e_icmp_ge (tgt := 68) dX4_note_5 (by decide) (fun c5 => ?_) (fun c5 => ?_)
    · omega
    · refine e_iload_n dX4_note_8 rfl rfl ?_
      refine e_aload_n dX4_note_9 rfl rfl ?_
      refine ch_g4_0 wF_X4_18 dX4_note_10 ?_
      refine e_icmp_lt (tgt := 41) dX4_note_13 (by decide) (fun c13 => ?_) (fun c13 => ?_)
      · refine e_aload_n dX4_note_41 rfl rfl ?_
        refine ch_g4_1 wF_X4_9 dX4_note_42 ?_
        refine e_iload_n dX4_note_45 rfl rfl ?_
        refine ch_l13 (by omega) (by omega) dX4_note_46 ?_
        refine e_iload_n dX4_note_47 rfl rfl ?_
        refine e_icmp_ne (tgt := 62) dX4_note_48 (by decide) (fun c48 => ?_) (fun c48 => ?_)
        · rw [hn] at c48
          refine e_iinc dX4_note_62 rfl rfl (Nat.le_of_ble_eq_true rfl) ?_
          refine e_goto (tgt := 2) dX4_note_65 (by decide) ?_
          refine ih (i + 1) _ (by omega) (ar_inc hx (by omega)) ?_
          rw [← hq]
          show _ = (if (σ.1 6).toInt ≤ (i : Int) then _ else if σ.2.2 10 i = t then _ else sNoteF σ t r (i + 1))
          rw [if_neg (by omega), if_neg c48]
        · rw [hn] at c48
          have hs : sNote σ t = cs_A σ 11 (ev_u (σ.2.2 11) i (σ.2.2 11 i + 1)) := by
            rw [← hq]
            show (if (σ.1 6).toInt ≤ (i : Int) then _ else if σ.2.2 10 i = t then _ else _) = _
            rw [if_neg (by omega), if_pos c48]
          refine e_aload_n dX4_note_51 rfl rfl ?_
          refine ch_g4_2 wF_X4_15 dX4_note_52 ?_
          refine e_iload_n dX4_note_55 rfl rfl ?_
          refine e_dup2 dX4_note_56 rfl rfl ?_
          refine ch_l14 (by omega) (by omega) dX4_note_57 ?_
          refine e_iconst (v := 1) dX4_note_58 (by decide) ?_
          refine e_iadd dX4_note_59 ?_
          refine ch_s14 (by omega) (by omega) dX4_note_60 ?_
          exact e_vret rfl dX4_note_61 (by rw [hs] at hP; rw [hn]; exact hP)
      · have hs : sNote σ t = cs_I (cs_A (cs_A σ 10 (ev_u (σ.2.2 10) i t)) 11 (ev_u (σ.2.2 11) i 1)) 6 (σ.1 6 + 1) := by
          rw [← hq]
          show (if (σ.1 6).toInt ≤ (i : Int) then _ else _) = _
          rw [if_pos (by omega)]
        refine e_aload_n dX4_note_16 rfl rfl ?_
        refine ch_g4_1 wF_X4_9 dX4_note_17 ?_
        refine e_iload_n dX4_note_20 rfl rfl ?_
        refine e_iload_n dX4_note_21 rfl rfl ?_
        refine ch_s13 (by omega) (by omega) dX4_note_22 ?_
        refine e_aload_n dX4_note_23 rfl rfl ?_
        refine ch_g4_2 wF_X4_15 dX4_note_24 ?_
        refine e_iload_n dX4_note_27 rfl rfl ?_
        refine e_iconst (v := 1) dX4_note_28 (by decide) ?_
        refine ch_s14 (by omega) (by omega) dX4_note_29 ?_
        refine e_aload_n dX4_note_30 rfl rfl ?_
        refine e_dup dX4_note_31 rfl ?_
        refine ch_g4_0 wF_X4_18 dX4_note_32 ?_
        refine e_iconst (v := 1) dX4_note_35 (by decide) ?_
        refine e_iadd dX4_note_36 ?_
        refine ch_p4_0 wF_X4_18 dX4_note_37 ?_
        exact e_vret rfl dX4_note_40 (by rw [hs] at hP; rw [hn]; exact hP)
set_option maxRecDepth 20000 in
theorem ct_X4_note (hp0 : 0 ≤ (σ.1 6).toInt) (hp1 : (σ.1 6).toInt ≤ 32) : ev_Ct G l mX4_note 1 0 0 [.ref (c + 12), .int x] (ch G c σ h) (fun v a => v = none ∧ a = ch G c (sNote σ x) h) (fun _ _ => False) := by
  refine ev_Ct.of (by decide +kernel) (Nat.le_of_ble_eq_true rfl) ?_
  refine e_iconst (v := 0) dX4_note_0 (by decide) ?_
  refine e_istore_n dX4_note_1 rfl (Nat.le_of_ble_eq_true rfl) ?_
  refine ev_loc (L' := [some (.ref (c + 12)), some (.int x), some (.int 0)]) ⟨rfl, rfl, rfl, trivial⟩ ?_
  exact lp_note hp0 hp1 x (by exact ⟨rfl, rfl⟩) 32 0 0 rfl ar_0 rfl
set_option maxRecDepth 20000 in
theorem ct_X4_tell (x0 : 0 ≤ x.toInt) (x1 : x.toInt < 32) : ev_Ct G l mX4_tell 1 0 0 [.ref (c + 12), .int x, .int y] (ch G c σ h) (fun v a => v = some (.int (if y = 0 then σ.2.2 10 x.toInt.toNat else σ.2.2 11 x.toInt.toNat)) ∧ a = ch G c σ h) (fun _ _ => False) := by
  refine ev_Ct.of (by decide +kernel) (Nat.le_of_ble_eq_true rfl) ?_
  have h32 := ar_32c
  refine e_iload_n dX4_tell_0 rfl rfl ?_
  refine e_if_lt (tgt := 10) dX4_tell_1 (by decide) (fun c1 => ?_) (fun c1 => ?_)
  · omega
  · refine e_iload_n dX4_tell_4 rfl rfl ?_
    refine e_bipush (v := 32) dX4_tell_5 (by decide) ?_
    refine e_icmp_lt (tgt := 12) dX4_tell_7 (by decide) (fun c7 => ?_) (fun c7 => ?_)
    · refine e_iload_n dX4_tell_12 rfl rfl ?_
      refine e_if_ne (tgt := 25) dX4_tell_13 (by decide) (fun c13 => ?_) (fun c13 => ?_)
      · refine e_aload_n dX4_tell_25 rfl rfl ?_
        refine ch_g4_2 wF_X4_15 dX4_tell_26 ?_
        refine e_iload_n dX4_tell_29 rfl rfl ?_
        refine ch_l14 x0 x1 dX4_tell_30 ?_
        exact e_iret rfl dX4_tell_31 (⟨by first | rw [if_pos c13] | rw [if_neg c13], rfl⟩)
      · refine e_aload_n dX4_tell_16 rfl rfl ?_
        refine ch_g4_1 wF_X4_9 dX4_tell_17 ?_
        refine e_iload_n dX4_tell_20 rfl rfl ?_
        refine ch_l13 x0 x1 dX4_tell_21 ?_
        refine e_goto (tgt := 31) dX4_tell_22 (by decide) ?_
        exact e_iret rfl dX4_tell_31 (⟨by first | rw [if_pos c13] | rw [if_neg c13], rfl⟩)
    · omega
def sTP1 (σ : CS) (i : Nat) : CS := cs_A σ 6 (fillTo i (sPull σ) (σ.2.2 6))
def sMom1 (σ : CS) (j : Nat) : Int32 := σ.2.2 2 j + (sPull σ (j + 1) - sPull σ j)
def sTP2 (σ : CS) (i : Nat) : CS := cs_A (sTP1 σ (sNm σ + 1)) 2 (fillTo i (sMom1 σ) (σ.2.2 2))
/-- behind takePulls -/
def sTP (σ : CS) : CS := cs_J (cs_J (sTP2 σ (sNm σ)) 0 (σ.2.1 0 - (sPull σ 0).toInt64)) 1 (σ.2.1 1 + (sPull σ (sNm σ)).toInt64)
def sTake (σ : CS) (j : Nat) : Int32 := ((σ.2.2 2 j).toInt64 * (σ.1 2).toInt64 / 1000).toInt32
def sDMi (σ : CS) (i : Nat) : CS := cs_J (cs_A σ 2 (fillTo i (fun j => σ.2.2 2 j - sTake σ j) (σ.2.2 2))) 3 (accL (σ.2.1 3) (fun j => (sTake σ j).toInt64) i)
def sDM (σ : CS) : CS := sDMi σ (sNm σ)
def sMl (σ : CS) (j : Nat) : Int32 := sLim (σ.2.2 2 j).toInt64 100000000
def sLMi (σ : CS) (i : Nat) : CS := cs_J (cs_A σ 2 (fillTo i (sMl σ) (σ.2.2 2))) 4 (accL (σ.2.1 4) (fun j => (σ.2.2 2 j - sMl σ j).toInt64) i)
def sLM (σ : CS) : CS := sLMi σ (sNm σ)
def sDl (σ : CS) (j : Nat) : Int32 := sLim ((σ.2.2 1 j).toInt64 + (sVel σ j).toInt64) 1000000
def sSMi (σ : CS) (i : Nat) : CS := cs_A σ 1 (fillTo i (sDl σ) (σ.2.2 1))
def sSM (σ : CS) : CS := sSMi σ (sNm σ)
def sBr1 (σ : CS) (s : Nat) : Int32 := if σ.2.2 5 s = 0 ∧ (σ.2.2 4 s ≠ 0 ∧ (σ.2.2 4 s).toInt < (sAbs (sStr σ s)).toInt) then 1 else 0
def sBr2 (σ : CS) (s : Nat) : Int32 := if σ.2.2 5 s = 0 ∧ (σ.2.2 4 s ≠ 0 ∧ (σ.2.2 4 s).toInt < (sAbs (sStr σ s)).toInt) then 1 else σ.2.2 5 s
def sBSi (σ : CS) (i : Nat) : CS := cs_A σ 5 (fillTo i (sBr2 σ) (σ.2.2 5))
def sBS (σ : CS) : CS := sBSi σ (sNm σ + 1)
def sGiv (σ : CS) : Nat → CS
  | 0 => σ
  | j + 1 => cs_J (cs_A (sGiv σ j) 2 (ev_u ((sGiv σ j).2.2 2) (σ.2.2 8 j).toInt.toNat ((sGiv σ j).2.2 2 (σ.2.2 8 j).toInt.toNat + σ.2.2 9 j))) 2 ((sGiv σ j).2.1 2 + (σ.2.2 9 j).toInt64)
theorem sGiv_keep (σ : CS) : ∀ j, (sGiv σ j).1 = σ.1 ∧ ∀ k, k ≠ 2 → (sGiv σ j).2.2 k = σ.2.2 k
  | 0 => ⟨rfl, fun _ _ => rfl⟩
  | j + 1 => by
    obtain ⟨h1, h2⟩ := sGiv_keep σ j
    refine ⟨h1, fun k hk => ?_⟩
    show ev_u (sGiv σ j).2.2 2 _ k = _
    rw [ev_u_ne _ _ hk]
    exact h2 k hk
/-- the impulses' masses are there -/
def sIm (σ : CS) : Prop := ∀ j, j < sIn σ → 0 ≤ (σ.2.2 8 j).toInt ∧ (σ.2.2 8 j).toInt < sM σ
def sGI (σ : CS) : CS := sDrop (sGiv σ (sDue σ (σ.1 1))) (sDue σ (σ.1 1)) (Int32.ofNat (sDue σ (σ.1 1)))
/-- row 6 is a ghost: no cell shows it -/
theorem ch_cong (G : ev_G) (c : Nat) (σ σ' : CS) (h : ev_H) (e : ∀ j, j < 15 → ch_cell G c σ j = ch_cell G c σ' j) : ch G c σ h = ch G c σ' h := by
  refine Prod.ext (funext fun b => ?_) rfl
  show (if c ≤ b ∧ b < c + 15 then some (ch_cell G c σ (b - c)) else h.1 b) = (if c ≤ b ∧ b < c + 15 then some (ch_cell G c σ' (b - c)) else h.1 b)
  by_cases hi : c ≤ b ∧ b < c + 15
  · rw [if_pos hi, if_pos hi, e (b - c) (by omega)]
  · rw [if_neg hi, if_neg hi]
def sTPq (σ : CS) (i : Nat) : CS := cs_A σ 2 (fillTo i (sMom1 σ) (σ.2.2 2))
theorem sMom1_as (x y z : Int32) : x + y - z = x + (y - z) := by rw [Int32.sub_eq_add_neg, Int32.sub_eq_add_neg, Int32.add_assoc]
theorem ch_TP (G : ev_G) (c : Nat) (σ : CS) (h : ev_H) : ch G c (cs_J (cs_J (sTPq σ (sNm σ)) 0 (σ.2.1 0 - (sPull σ 0).toInt64)) 1 (σ.2.1 1 + (sPull σ (sNm σ)).toInt64)) h = ch G c (sTP σ) h := by
  refine ch_cong G c _ _ h (fun j hj => ?_)
  rcases (show j = 0 ∨ j = 1 ∨ j = 2 ∨ j = 3 ∨ j = 4 ∨ j = 5 ∨ j = 6 ∨ j = 7 ∨ j = 8 ∨ j = 9 ∨ j = 10 ∨ j = 11 ∨ j = 12 ∨ j = 13 ∨ j = 14 by omega) with rfl | rfl | rfl | rfl | rfl | rfl | rfl | rfl | rfl | rfl | rfl | rfl | rfl | rfl | rfl <;> rfl
set_option maxRecDepth 20000 in
theorem lp_takePulls2 {J : ev_K} {k n : Nat} (hJ : 5 ≤ J.2.2.1) (hm : sOk σ) (hk : ev_V G l mX0_takePulls J 40 [some (.ref c)] [] (ch G c (sTPq σ (sNm σ)) h) k n) : ∀ (r i : Nat) (x : Int32), r + i = sNm σ → x.toInt = (i : Int) → ev_V G l mX0_takePulls J 2 [some (.ref c), some (.int x)] [] (ch G c (sTPq σ i) h) k n := by
  intro r
  induction r using Nat.strongRecOn with
  | ind r ih =>
    intro i x
    intro hr hx
    have hn : x.toInt.toNat = i := ar_nat hx
    have hmn := hm.nat
    have hmu : (σ.1 0).toInt = sM σ := rfl
    have hm1 : ((sTPq σ i).1 0).toInt = sM σ := rfl
    have hm2 : sOk (sTPq σ i) := hm
    have hm3 : sM (sTPq σ i) = sM σ := rfl
    have hx1 : (x + 1).toInt = ((i + 1 : Nat) : Int) := by have := ar_inc hx (by omega); rwa [ar_i1] at this
    have hx1n := ar_nat hx1
    have e2 : (sTPq σ i).2.2 2 = fillTo i (sMom1 σ) (σ.2.2 2) := by unfold sTPq; rw [cs_A_get]
    refine e_iload_n dX0_takePulls_2 rfl rfl ?_
    refine e_aload_n dX0_takePulls_3 rfl rfl ?_
    refine ch_g0_0 wF_X0_65 dX0_takePulls_4 ?_
    refine e_icmp_ge (tgt := 40) dX0_takePulls_7 (by decide) (fun c7 => ?_) (fun c7 => ?_)
    · have hi : i = sNm σ := by omega
      subst hi
      exact ev_lc hk ⟨rfl, trivial⟩
    · refine e_aload_n dX0_takePulls_10 rfl rfl ?_
      refine e_iload_n dX0_takePulls_11 rfl rfl ?_
      refine e_aload_n dX0_takePulls_12 rfl rfl ?_
      refine e_iload_n dX0_takePulls_13 rfl rfl ?_
      refine e_invV (mcY := 0) (msY := 0) (ct_X0_momentumOf (x := x) (by omega) (by omega) hm2) vX0_momentumOf wM_X0_106 (ch_at G c _ h 0 (by decide)) rfl dX0_takePulls_14 rfl rfl (Nat.le_of_ble_eq_true rfl) (Nat.le_trans (Nat.le_of_ble_eq_true rfl) hJ) ?_
      rintro _ _ ⟨rfl, rfl⟩
      refine e_aload_n dX0_takePulls_17 rfl rfl ?_
      refine e_iload_n dX0_takePulls_18 rfl rfl ?_
      refine e_iconst (v := 1) dX0_takePulls_19 (by decide) ?_
      refine e_iadd dX0_takePulls_20 ?_
      refine e_invV (mcY := 0) (msY := 0) (ct_X0_pullOf (x := x + 1) (by omega) (by omega) hm2) vX0_pullOf wM_X0_168 (ch_at G c _ h 0 (by decide)) rfl dX0_takePulls_21 rfl rfl (Nat.le_of_ble_eq_true rfl) (Nat.le_trans (Nat.le_of_ble_eq_true rfl) hJ) ?_
      rintro _ _ ⟨rfl, rfl⟩
      refine e_iadd dX0_takePulls_24 ?_
      refine e_aload_n dX0_takePulls_25 rfl rfl ?_
      refine e_iload_n dX0_takePulls_26 rfl rfl ?_
      refine e_invV (mcY := 0) (msY := 0) (ct_X0_pullOf (x := x) (by omega) (by omega) hm2) vX0_pullOf wM_X0_168 (ch_at G c _ h 0 (by decide)) rfl dX0_takePulls_27 rfl rfl (Nat.le_of_ble_eq_true rfl) (Nat.le_trans (Nat.le_of_ble_eq_true rfl) hJ) ?_
      rintro _ _ ⟨rfl, rfl⟩
      refine e_isub dX0_takePulls_30 ?_
      refine e_invV (mcY := 0) (msY := 0) (ct_X0_putMomentum (x := x) (by omega) (by omega) hm2) vX0_putMomentum wM_X0_135 (ch_at G c _ h 0 (by decide)) rfl dX0_takePulls_31 rfl rfl (Nat.le_of_ble_eq_true rfl) (Nat.le_trans (Nat.le_of_ble_eq_true rfl) hJ) ?_
      rintro _ _ ⟨rfl, rfl⟩
      refine e_iinc dX0_takePulls_34 rfl rfl (Nat.le_of_ble_eq_true rfl) ?_
      refine e_goto (tgt := 2) dX0_takePulls_37 (by decide) ?_
      refine ev_as ?_ (ih (r - 1) (by omega) (i + 1) _ (by omega) (ar_inc hx (by omega)))
      rw [hx1n, hn, e2]
      show ch G c (cs_A (cs_A σ 2 (fillTo i (sMom1 σ) (σ.2.2 2))) 2 (ev_u (fillTo i (sMom1 σ) (σ.2.2 2)) i (fillTo i (sMom1 σ) (σ.2.2 2) i + sPull σ (i + 1) - sPull σ i))) h = _
      rw [cs_A_A, fillTo_at, sMom1_as]
      exact congrArg (fun f => ch G c (cs_A σ 2 f) h) (fillTo_up i (sMom1 σ) (σ.2.2 2) _ rfl)
set_option maxRecDepth 20000 in
theorem ct_X0_takePulls (hm : sOk σ) : ev_Ct G l mX0_takePulls 5 0 0 [.ref c] (ch G c σ h) (fun v a => v = none ∧ a = ch G c (sTP σ) h) (fun _ _ => False) := by
  refine ev_Ct.of (by decide +kernel) (Nat.le_of_ble_eq_true rfl) ?_
  have hmn := hm.nat
  have hmu : (σ.1 0).toInt = sM σ := rfl
  have hm1 : ((sTPq σ (sNm σ)).1 0).toInt = sM σ := rfl
  refine e_iconst (v := 0) dX0_takePulls_0 (by decide) ?_
  refine e_istore_n dX0_takePulls_1 rfl (Nat.le_of_ble_eq_true rfl) ?_
  refine ev_as (a' := ch G c (sTPq σ 0) h) (by unfold sTPq; rw [fillTo_0, cs_A_self]) ?_
  refine ev_loc (L' := [some (.ref c), some (.int 0)]) ⟨rfl, rfl, trivial⟩ ?_
  refine lp_takePulls2 (Nat.le_refl _) hm ?_ (sNm σ) 0 0 (by omega) ar_0
  refine e_aload_n dX0_takePulls_40 rfl rfl ?_
  refine ch_g0_5 wF_X0_34 dX0_takePulls_41 ?_
  refine e_dup dX0_takePulls_44 rfl ?_
  refine ch_g3_0 wF_X0_171 dX0_takePulls_45 ?_
  refine e_aload_n dX0_takePulls_48 rfl rfl ?_
  refine e_iconst (v := 0) dX0_takePulls_49 (by decide) ?_
  refine e_invV (mcY := 0) (msY := 0) (ct_X0_pullOf (σ := sTPq σ (sNm σ)) (x := 0) (by rw [ar_0]; decide) (by rw [ar_0]; show (0 : Int) ≤ sM σ; omega) hm) vX0_pullOf wM_X0_168 (ch_at G c _ h 0 (by decide)) rfl dX0_takePulls_50 rfl rfl (Nat.le_of_ble_eq_true rfl) (Nat.le_of_ble_eq_true rfl) ?_
  rintro _ _ ⟨rfl, rfl⟩
  refine e_i2l dX0_takePulls_53 ?_
  refine e_lsub dX0_takePulls_54 ?_
  refine ch_p3_0 wF_X0_171 dX0_takePulls_55 ?_
  refine e_aload_n dX0_takePulls_58 rfl rfl ?_
  refine ch_g0_5 wF_X0_34 dX0_takePulls_59 ?_
  refine e_dup dX0_takePulls_62 rfl ?_
  refine ch_g3_1 wF_X0_174 dX0_takePulls_63 ?_
  refine e_aload_n dX0_takePulls_66 rfl rfl ?_
  refine e_aload_n dX0_takePulls_67 rfl rfl ?_
  refine ch_g0_0 wF_X0_65 dX0_takePulls_68 ?_
  refine e_invV (mcY := 0) (msY := 0) (ct_X0_pullOf (σ := cs_J (sTPq σ (sNm σ)) 0 _) (x := σ.1 0) (by show 0 ≤ (σ.1 0).toInt; omega) (by show (σ.1 0).toInt ≤ sM σ; omega) hm) vX0_pullOf wM_X0_168 (ch_at G c _ h 0 (by decide)) rfl dX0_takePulls_71 rfl rfl (Nat.le_of_ble_eq_true rfl) (Nat.le_of_ble_eq_true rfl) ?_
  rintro _ _ ⟨rfl, rfl⟩
  refine e_i2l dX0_takePulls_74 ?_
  refine e_ladd dX0_takePulls_75 ?_
  refine ch_p3_1 wF_X0_174 dX0_takePulls_76 ?_
  exact e_vret rfl dX0_takePulls_79 (⟨rfl, (ch_TP G c σ h).symm ▸ rfl⟩)
set_option maxRecDepth 20000 in
theorem lp_dampMomenta {J : ev_K} {k n : Nat} (hJ : 3 ≤ J.2.2.1) (hm : sOk σ) (hk : ev_V G l mX0_dampMomenta J 60 [some (.ref c)] [] (ch G c (sDMi σ (sNm σ)) h) k n) : ∀ (r i : Nat) (x : Int32), r + i = sNm σ → x.toInt = (i : Int) → ev_V G l mX0_dampMomenta J 2 [some (.ref c), some (.int x)] [] (ch G c (sDMi σ i) h) k n := by
  intro r
  induction r using Nat.strongRecOn with
  | ind r ih =>
    intro i x
    intro hr hx
    have hn : x.toInt.toNat = i := ar_nat hx
    have hmn := hm.nat
    have hmu : (σ.1 0).toInt = sM σ := rfl
    have hm1 : ((sDMi σ i).1 0).toInt = sM σ := rfl
    have hm2 : sOk (sDMi σ i) := hm
    have hm3 : sM (sDMi σ i) = sM σ := rfl
    have e2 : (sDMi σ i).2.2 2 x.toInt.toNat = σ.2.2 2 i := by rw [hn]; show fillTo i (fun j => σ.2.2 2 j - sTake σ j) (σ.2.2 2) i = _; rw [fillTo_at]
    refine e_iload_n dX0_dampMomenta_2 rfl rfl ?_
    refine e_aload_n dX0_dampMomenta_3 rfl rfl ?_
    refine ch_g0_0 wF_X0_65 dX0_dampMomenta_4 ?_
    refine e_icmp_ge (tgt := 60) dX0_dampMomenta_7 (by decide) (fun c7 => ?_) (fun c7 => ?_)
    · have hi : i = sNm σ := by omega
      subst hi
      exact ev_lc hk ⟨rfl, trivial⟩
    · refine e_aload_n dX0_dampMomenta_10 rfl rfl ?_
      refine e_iload_n dX0_dampMomenta_11 rfl rfl ?_
      refine e_invV (mcY := 0) (msY := 0) (ct_X0_momentumOf (x := x) (by omega) (by omega) hm2) vX0_momentumOf wM_X0_106 (ch_at G c _ h 0 (by decide)) rfl dX0_dampMomenta_12 rfl rfl (Nat.le_of_ble_eq_true rfl) (Nat.le_trans (Nat.le_of_ble_eq_true rfl) hJ) ?_
      rintro _ _ ⟨rfl, rfl⟩
      refine e_i2l dX0_dampMomenta_15 ?_
      refine e_aload_n dX0_dampMomenta_16 rfl rfl ?_
      refine ch_g0_2 wF_X0_72 dX0_dampMomenta_17 ?_
      refine e_i2l dX0_dampMomenta_20 ?_
      refine e_lmul dX0_dampMomenta_21 ?_
      refine e_ldc2 dX0_dampMomenta_22 wK_X0_189 ?_
      refine e_ldiv dX0_dampMomenta_25 (by decide) ?_
      refine e_l2i dX0_dampMomenta_26 ?_
      refine e_istore_n dX0_dampMomenta_27 rfl (Nat.le_of_ble_eq_true rfl) ?_
      refine e_aload_n dX0_dampMomenta_28 rfl rfl ?_
      refine e_iload_n dX0_dampMomenta_29 rfl rfl ?_
      refine e_aload_n dX0_dampMomenta_30 rfl rfl ?_
      refine e_iload_n dX0_dampMomenta_31 rfl rfl ?_
      refine e_invV (mcY := 0) (msY := 0) (ct_X0_momentumOf (x := x) (by omega) (by omega) hm2) vX0_momentumOf wM_X0_106 (ch_at G c _ h 0 (by decide)) rfl dX0_dampMomenta_32 rfl rfl (Nat.le_of_ble_eq_true rfl) (Nat.le_trans (Nat.le_of_ble_eq_true rfl) hJ) ?_
      rintro _ _ ⟨rfl, rfl⟩
      refine e_iload_n dX0_dampMomenta_35 rfl rfl ?_
      refine e_isub dX0_dampMomenta_36 ?_
      refine e_invV (mcY := 0) (msY := 0) (ct_X0_putMomentum (x := x) (by omega) (by omega) hm2) vX0_putMomentum wM_X0_135 (ch_at G c _ h 0 (by decide)) rfl dX0_dampMomenta_37 rfl rfl (Nat.le_of_ble_eq_true rfl) (Nat.le_trans (Nat.le_of_ble_eq_true rfl) hJ) ?_
      rintro _ _ ⟨rfl, rfl⟩
      refine e_aload_n dX0_dampMomenta_40 rfl rfl ?_
      refine ch_g0_5 wF_X0_34 dX0_dampMomenta_41 ?_
      refine e_dup dX0_dampMomenta_44 rfl ?_
      refine ch_g3_3 wF_X0_191 dX0_dampMomenta_45 ?_
      refine e_iload_n dX0_dampMomenta_48 rfl rfl ?_
      refine e_i2l dX0_dampMomenta_49 ?_
      refine e_ladd dX0_dampMomenta_50 ?_
      refine ch_p3_3 wF_X0_191 dX0_dampMomenta_51 ?_
      refine e_iinc dX0_dampMomenta_54 rfl rfl (Nat.le_of_ble_eq_true rfl) ?_
      refine e_goto (tgt := 2) dX0_dampMomenta_57 (by decide) ?_
      refine ev_loc (L' := [some (.ref c), some (.int _)]) ⟨rfl, rfl, trivial⟩ ?_
      refine ev_as ?_ (ih (r - 1) (by omega) (i + 1) _ (by omega) (ar_inc hx (by omega)))
      rw [e2]
      show ch G c (cs_J (cs_A (cs_J (cs_A σ 2 (fillTo i (fun j => σ.2.2 2 j - sTake σ j) (σ.2.2 2))) 3 _) 2 (ev_u (fillTo i (fun j => σ.2.2 2 j - sTake σ j) (σ.2.2 2)) x.toInt.toNat _)) 3 _) h = _
      rw [cs_A_J, cs_A_A, cs_J_J, hn]
      exact congrArg (fun f => ch G c (cs_J (cs_A σ 2 f) 3 (accL (σ.2.1 3) (fun j => (sTake σ j).toInt64) (i + 1))) h) (fillTo_up i (fun j => σ.2.2 2 j - sTake σ j) (σ.2.2 2) _ rfl)
set_option maxRecDepth 20000 in
theorem ct_X0_dampMomenta (hm : sOk σ) : ev_Ct G l mX0_dampMomenta 3 0 0 [.ref c] (ch G c σ h) (fun v a => v = none ∧ a = ch G c (sDM σ) h) (fun _ _ => False) := by
  refine ev_Ct.of (by decide +kernel) (Nat.le_of_ble_eq_true rfl) ?_
  have hmn := hm.nat
  have hmu : (σ.1 0).toInt = sM σ := rfl
  refine e_iconst (v := 0) dX0_dampMomenta_0 (by decide) ?_
  refine e_istore_n dX0_dampMomenta_1 rfl (Nat.le_of_ble_eq_true rfl) ?_
  refine ev_as (a' := ch G c (sDMi σ 0) h) (by unfold sDMi; rw [fillTo_0, cs_A_self]; show _ = ch G c (cs_J σ 3 (σ.2.1 3)) h; rw [cs_J_self]) ?_
  refine ev_loc (L' := [some (.ref c), some (.int 0)]) ⟨rfl, rfl, trivial⟩ ?_
  refine lp_dampMomenta (Nat.le_refl _) hm ?_ (sNm σ) 0 0 (by omega) ar_0
  exact e_vret rfl dX0_dampMomenta_60 ⟨rfl, rfl⟩
set_option maxRecDepth 20000 in
theorem lp_limitMomenta {J : ev_K} {k n : Nat} (hJ : 3 ≤ J.2.2.1) (hm : sOk σ) (hk : ev_V G l mX0_limitMomenta J 54 [some (.ref c)] [] (ch G c (sLMi σ (sNm σ)) h) k n) : ∀ (r i : Nat) (x : Int32), r + i = sNm σ → x.toInt = (i : Int) → ev_V G l mX0_limitMomenta J 2 [some (.ref c), some (.int x)] [] (ch G c (sLMi σ i) h) k n := by
  intro r
  induction r using Nat.strongRecOn with
  | ind r ih =>
    intro i x
    intro hr hx
    have hn : x.toInt.toNat = i := ar_nat hx
    have hmn := hm.nat
    have hmu : (σ.1 0).toInt = sM σ := rfl
    have hm1 : ((sLMi σ i).1 0).toInt = sM σ := rfl
    have hm2 : sOk (sLMi σ i) := hm
    have hm3 : sM (sLMi σ i) = sM σ := rfl
    have e2 : (sLMi σ i).2.2 2 x.toInt.toNat = σ.2.2 2 i := by rw [hn]; show fillTo i _ (σ.2.2 2) i = _; rw [fillTo_at]
    refine e_iload_n dX0_limitMomenta_2 rfl rfl ?_
    refine e_aload_n dX0_limitMomenta_3 rfl rfl ?_
    refine ch_g0_0 wF_X0_65 dX0_limitMomenta_4 ?_
    refine e_icmp_ge (tgt := 54) dX0_limitMomenta_7 (by decide) (fun c7 => ?_) (fun c7 => ?_)
    · have hi : i = sNm σ := by omega
      subst hi
      exact ev_lc hk ⟨rfl, trivial⟩
    · refine e_aload_n dX0_limitMomenta_10 rfl rfl ?_
      refine e_iload_n dX0_limitMomenta_11 rfl rfl ?_
      refine e_invV (mcY := 0) (msY := 0) (ct_X0_momentumOf (x := x) (by omega) (by omega) hm2) vX0_momentumOf wM_X0_106 (ch_at G c _ h 0 (by decide)) rfl dX0_limitMomenta_12 rfl rfl (Nat.le_of_ble_eq_true rfl) (Nat.le_trans (Nat.le_of_ble_eq_true rfl) hJ) ?_
      rintro _ _ ⟨rfl, rfl⟩
      refine e_istore_n dX0_limitMomenta_15 rfl (Nat.le_of_ble_eq_true rfl) ?_
      refine e_aload_n dX0_limitMomenta_16 rfl rfl ?_
      refine e_iload_n dX0_limitMomenta_17 rfl rfl ?_
      refine e_iload_n dX0_limitMomenta_18 rfl rfl ?_
      refine e_i2l dX0_limitMomenta_19 ?_
      refine e_ldc dX0_limitMomenta_20 wK_X0_130 ?_
      refine e_invN (host := "SpringChain") (mcY := 0) (msY := 0) (ct_X6_limited) vX6_limited (ev_nw_ok 784 (by decide +kernel) rfl) dX0_limitMomenta_22 rfl rfl (Nat.le_of_ble_eq_true rfl) (Nat.le_trans (Nat.le_of_ble_eq_true rfl) hJ) ?_
      rintro _ _ ⟨rfl, rfl⟩
      refine e_invV (mcY := 0) (msY := 0) (ct_X0_putMomentum (x := x) (by omega) (by omega) hm2) vX0_putMomentum wM_X0_135 (ch_at G c _ h 0 (by decide)) rfl dX0_limitMomenta_25 rfl rfl (Nat.le_of_ble_eq_true rfl) (Nat.le_trans (Nat.le_of_ble_eq_true rfl) hJ) ?_
      rintro _ _ ⟨rfl, rfl⟩
      refine e_aload_n dX0_limitMomenta_28 rfl rfl ?_
      refine ch_g0_5 wF_X0_34 dX0_limitMomenta_29 ?_
      refine e_dup dX0_limitMomenta_32 rfl ?_
      refine ch_g3_4 wF_X0_194 dX0_limitMomenta_33 ?_
      refine e_iload_n dX0_limitMomenta_36 rfl rfl ?_
      refine e_aload_n dX0_limitMomenta_37 rfl rfl ?_
      refine e_iload_n dX0_limitMomenta_38 rfl rfl ?_
      refine e_invV (mcY := 0) (msY := 0) (ct_X0_momentumOf (σ := cs_A (sLMi σ i) 2 _) (x := x) (by omega) (by show x.toInt < sM σ; omega) hm) vX0_momentumOf wM_X0_106 (ch_at G c _ h 0 (by decide)) rfl dX0_limitMomenta_39 rfl rfl (Nat.le_of_ble_eq_true rfl) (Nat.le_trans (Nat.le_of_ble_eq_true rfl) hJ) ?_
      rintro _ _ ⟨rfl, rfl⟩
      refine e_isub dX0_limitMomenta_42 ?_
      refine e_i2l dX0_limitMomenta_43 ?_
      refine e_ladd dX0_limitMomenta_44 ?_
      refine ch_p3_4 wF_X0_194 dX0_limitMomenta_45 ?_
      refine e_iinc dX0_limitMomenta_48 rfl rfl (Nat.le_of_ble_eq_true rfl) ?_
      refine e_goto (tgt := 2) dX0_limitMomenta_51 (by decide) ?_
      refine ev_loc (L' := [some (.ref c), some (.int _)]) ⟨rfl, rfl, trivial⟩ ?_
      refine ev_as ?_ (ih (r - 1) (by omega) (i + 1) _ (by omega) (ar_inc hx (by omega)))
      rw [e2, cs_A_get, ev_u_self]
      show ch G c (cs_J (cs_A (cs_J (cs_A σ 2 (fillTo i (sMl σ) (σ.2.2 2))) 4 _) 2 (ev_u (fillTo i (sMl σ) (σ.2.2 2)) x.toInt.toNat _)) 4 _) h = _
      rw [cs_A_J, cs_A_A, cs_J_J, hn]
      exact congrArg (fun f => ch G c (cs_J (cs_A σ 2 f) 4 (accL (σ.2.1 4) (fun j => (σ.2.2 2 j - sMl σ j).toInt64) (i + 1))) h) (fillTo_up i (sMl σ) (σ.2.2 2) _ rfl)
set_option maxRecDepth 20000 in
theorem ct_X0_limitMomenta (hm : sOk σ) : ev_Ct G l mX0_limitMomenta 3 0 0 [.ref c] (ch G c σ h) (fun v a => v = none ∧ a = ch G c (sLM σ) h) (fun _ _ => False) := by
  refine ev_Ct.of (by decide +kernel) (Nat.le_of_ble_eq_true rfl) ?_
  have hmn := hm.nat
  have hmu : (σ.1 0).toInt = sM σ := rfl
  refine e_iconst (v := 0) dX0_limitMomenta_0 (by decide) ?_
  refine e_istore_n dX0_limitMomenta_1 rfl (Nat.le_of_ble_eq_true rfl) ?_
  refine ev_as (a' := ch G c (sLMi σ 0) h) (by unfold sLMi; rw [fillTo_0, cs_A_self]; show _ = ch G c (cs_J σ 4 (σ.2.1 4)) h; rw [cs_J_self]) ?_
  refine ev_loc (L' := [some (.ref c), some (.int 0)]) ⟨rfl, rfl, trivial⟩ ?_
  refine lp_limitMomenta (Nat.le_refl _) hm ?_ (sNm σ) 0 0 (by omega) ar_0
  exact e_vret rfl dX0_limitMomenta_54 ⟨rfl, rfl⟩
set_option maxRecDepth 20000 in
theorem lp_shiftMasses {J : ev_K} {k n : Nat} (hJ : 4 ≤ J.2.2.1) (hm : sOk σ) (hw : sWt σ) (hk : ev_V G l mX0_shiftMasses J 39 [some (.ref c)] [] (ch G c (sSMi σ (sNm σ)) h) k n) : ∀ (r i : Nat) (x : Int32), r + i = sNm σ → x.toInt = (i : Int) → ev_V G l mX0_shiftMasses J 2 [some (.ref c), some (.int x)] [] (ch G c (sSMi σ i) h) k n := by
  intro r
  induction r using Nat.strongRecOn with
  | ind r ih =>
    intro i x
    intro hr hx
    have hn : x.toInt.toNat = i := ar_nat hx
    have hmn := hm.nat
    have hmu : (σ.1 0).toInt = sM σ := rfl
    have hm1 : ((sSMi σ i).1 0).toInt = sM σ := rfl
    have hm2 : sOk (sSMi σ i) := hm
    have hm3 : sM (sSMi σ i) = sM σ := rfl
    have hw2 : (sSMi σ i).2.2 0 x.toInt.toNat = σ.2.2 0 x.toInt.toNat := rfl
    have e2 : (sSMi σ i).2.2 1 x.toInt.toNat = σ.2.2 1 i := by rw [hn]; show fillTo i _ (σ.2.2 1) i = _; rw [fillTo_at]
    refine e_iload_n dX0_shiftMasses_2 rfl rfl ?_
    refine e_aload_n dX0_shiftMasses_3 rfl rfl ?_
    refine ch_g0_0 wF_X0_65 dX0_shiftMasses_4 ?_
    refine e_icmp_ge (tgt := 39) dX0_shiftMasses_7 (by decide) (fun c7 => ?_) (fun c7 => ?_)
    · have hi : i = sNm σ := by omega
      subst hi
      exact ev_lc hk ⟨rfl, trivial⟩
    · refine e_aload_n dX0_shiftMasses_10 rfl rfl ?_
      refine e_iload_n dX0_shiftMasses_11 rfl rfl ?_
      refine e_aload_n dX0_shiftMasses_12 rfl rfl ?_
      refine e_iload_n dX0_shiftMasses_13 rfl rfl ?_
      refine e_invV (mcY := 0) (msY := 0) (ct_X0_displacementOf (x := x) (by omega) (by omega) hm2) vX0_displacementOf wM_X0_112 (ch_at G c _ h 0 (by decide)) rfl dX0_shiftMasses_14 rfl rfl (Nat.le_of_ble_eq_true rfl) (Nat.le_trans (Nat.le_of_ble_eq_true rfl) hJ) ?_
      rintro _ _ ⟨rfl, rfl⟩
      refine e_i2l dX0_shiftMasses_17 ?_
      refine e_aload_n dX0_shiftMasses_18 rfl rfl ?_
      refine e_iload_n dX0_shiftMasses_19 rfl rfl ?_
      refine e_invV (mcY := 0) (msY := 0) (ct_X0_velocityOf (x := x) (by omega) (by omega) hm2 (by rw [hw2]; exact hw.ne (by omega))) vX0_velocityOf wM_X0_197 (ch_at G c _ h 0 (by decide)) rfl dX0_shiftMasses_20 rfl rfl (Nat.le_of_ble_eq_true rfl) (Nat.le_trans (Nat.le_of_ble_eq_true rfl) hJ) ?_
      rintro _ _ ⟨rfl, rfl⟩
      refine e_i2l dX0_shiftMasses_23 ?_
      refine e_ladd dX0_shiftMasses_24 ?_
      refine e_ldc dX0_shiftMasses_25 wK_X0_200 ?_
      refine e_invN (host := "SpringChain") (mcY := 0) (msY := 0) (ct_X6_limited) vX6_limited (ev_nw_ok 784 (by decide +kernel) rfl) dX0_shiftMasses_27 rfl rfl (Nat.le_of_ble_eq_true rfl) (Nat.le_trans (Nat.le_of_ble_eq_true rfl) hJ) ?_
      rintro _ _ ⟨rfl, rfl⟩
      refine e_invV (mcY := 0) (msY := 0) (ct_X0_displace (x := x) (by omega) (by omega) hm2) vX0_displace wM_X0_201 (ch_at G c _ h 0 (by decide)) rfl dX0_shiftMasses_30 rfl rfl (Nat.le_of_ble_eq_true rfl) (Nat.le_trans (Nat.le_of_ble_eq_true rfl) hJ) ?_
      rintro _ _ ⟨rfl, rfl⟩
      refine e_iinc dX0_shiftMasses_33 rfl rfl (Nat.le_of_ble_eq_true rfl) ?_
      refine e_goto (tgt := 2) dX0_shiftMasses_36 (by decide) ?_
      refine ev_as ?_ (ih (r - 1) (by omega) (i + 1) _ (by omega) (ar_inc hx (by omega)))
      rw [e2, hn]
      show ch G c (cs_A (cs_A σ 1 (fillTo i (sDl σ) (σ.2.2 1))) 1 (ev_u (fillTo i (sDl σ) (σ.2.2 1)) i _)) h = _
      rw [cs_A_A]
      exact congrArg (fun f => ch G c (cs_A σ 1 f) h) (fillTo_up i (sDl σ) (σ.2.2 1) _ rfl)
set_option maxRecDepth 20000 in
theorem ct_X0_shiftMasses (hm : sOk σ) (hw : sWt σ) : ev_Ct G l mX0_shiftMasses 4 0 0 [.ref c] (ch G c σ h) (fun v a => v = none ∧ a = ch G c (sSM σ) h) (fun _ _ => False) := by
  refine ev_Ct.of (by decide +kernel) (Nat.le_of_ble_eq_true rfl) ?_
  have hmn := hm.nat
  have hmu : (σ.1 0).toInt = sM σ := rfl
  refine e_iconst (v := 0) dX0_shiftMasses_0 (by decide) ?_
  refine e_istore_n dX0_shiftMasses_1 rfl (Nat.le_of_ble_eq_true rfl) ?_
  refine ev_as (a' := ch G c (sSMi σ 0) h) (by unfold sSMi; rw [fillTo_0, cs_A_self]) ?_
  refine ev_loc (L' := [some (.ref c), some (.int 0)]) ⟨rfl, rfl, trivial⟩ ?_
  refine lp_shiftMasses (Nat.le_refl _) hm hw ?_ (sNm σ) 0 0 (by omega) ar_0
  exact e_vret rfl dX0_shiftMasses_39 ⟨rfl, rfl⟩
set_option maxRecDepth 20000 in
theorem lp_breakSprings {J : ev_K} {k n : Nat} (hJ : 5 ≤ J.2.2.1) (hm : sOk σ) (hk : ∀ y : Int32, y = acc32 0 (sBr1 σ) (sNm σ + 1) → ev_V G l mX0_breakSprings J 43 [some (.ref c), some (.int y)] [] (ch G c (sBSi σ (sNm σ + 1)) h) k n) : ∀ (r i : Nat) (x : Int32) (y : Int32), r + i = sNm σ + 1 → x.toInt = (i : Int) → y = acc32 0 (sBr1 σ) i → ev_V G l mX0_breakSprings J 4 [some (.ref c), some (.int y), some (.int x)] [] (ch G c (sBSi σ i) h) k n := by
  intro r
  induction r using Nat.strongRecOn with
  | ind r ih =>
    intro i x y
    intro hr hx hy
    have hn : x.toInt.toNat = i := ar_nat hx
    have hmn := hm.nat
    have hmu : (σ.1 0).toInt = sM σ := rfl
    have hm1 : ((sBSi σ i).1 0).toInt = sM σ := rfl
    have hm2 : sOk (sBSi σ i) := hm
    have hm3 : sM (sBSi σ i) = sM σ := rfl
    have e2 : (sBSi σ i).2.2 5 x.toInt.toNat = σ.2.2 5 i := by rw [hn]; show fillTo i _ (σ.2.2 5) i = _; rw [fillTo_at]
    refine e_iload_n dX0_breakSprings_4 rfl rfl ?_
    refine e_aload_n dX0_breakSprings_5 rfl rfl ?_
    refine ch_g0_0 wF_X0_65 dX0_breakSprings_6 ?_
    refine e_icmp_gt (tgt := 43) dX0_breakSprings_9 (by decide) (fun c9 => ?_) (fun c9 => ?_)
    · have hi : i = sNm σ + 1 := by omega
      subst hi
      exact ev_lc (hk y hy) ⟨rfl, rfl, trivial⟩
    · refine e_aload_n dX0_breakSprings_12 rfl rfl ?_
      refine e_iload_n dX0_breakSprings_13 rfl rfl ?_
      refine e_invV (mcY := 0) (msY := 0) (ct_X0_isBroken (x := x) (by omega) (by omega) hm2) vX0_isBroken wM_X0_115 (ch_at G c _ h 0 (by decide)) rfl dX0_breakSprings_14 rfl rfl (Nat.le_of_ble_eq_true rfl) (Nat.le_trans (Nat.le_of_ble_eq_true rfl) hJ) ?_
      rintro _ _ ⟨rfl, rfl⟩
      refine e_if_ne (tgt := 37) dX0_breakSprings_17 (by decide) (fun c17 => ?_) (fun c17 => ?_)
      · rw [ar_ite0, e2] at c17
        have hB : ¬ (σ.2.2 5 i = 0 ∧ (σ.2.2 4 i ≠ 0 ∧ (σ.2.2 4 i).toInt < (sAbs (sStr σ i)).toInt)) := fun q => c17 q.1
        refine e_iinc dX0_breakSprings_37 rfl rfl (Nat.le_of_ble_eq_true rfl) ?_
        refine e_goto (tgt := 4) dX0_breakSprings_40 (by decide) ?_
        refine ev_as ?_ (ih (r - 1) (by omega) (i + 1) _ _ (by omega) (ar_inc hx (by omega)) ?_)
        · first
            | (have hv : σ.2.2 5 i = sBr2 σ i := by unfold sBr2; rw [if_neg hB]
               unfold sBSi
               rw [← fillTo_up i (sBr2 σ) (σ.2.2 5) (σ.2.2 5 i) hv]
               congr 2
               funext j
               unfold ev_u
               by_cases e : j = i
               · subst e; rw [if_pos rfl, fillTo_at]
               · rw [if_neg e]
               done)
            | (have hv : (vp_nar .boolean 1) = sBr2 σ i := by unfold sBr2; rw [if_pos hB]; rfl
               unfold sBSi
               rw [cs_A_get, cs_A_A, hn, fillTo_up _ _ _ _ hv])
        · rw [hy]
          show _ = acc32 0 (sBr1 σ) i + sBr1 σ i
          unfold sBr1
          first
            | (rw [if_neg hB, Int32.add_zero]; done)
            | (rw [if_pos hB]; rfl)
      · rw [ar_ite0, e2] at c17
        refine e_aload_n dX0_breakSprings_20 rfl rfl ?_
        refine e_iload_n dX0_breakSprings_21 rfl rfl ?_
        refine e_invV (mcY := 0) (msY := 0) (ct_X0_isOverstretched (x := x) (by omega) (by omega) hm2) vX0_isOverstretched wM_X0_204 (ch_at G c _ h 0 (by decide)) rfl dX0_breakSprings_22 rfl rfl (Nat.le_of_ble_eq_true rfl) (Nat.le_trans (Nat.le_of_ble_eq_true rfl) hJ) ?_
        rintro _ _ ⟨rfl, rfl⟩
        refine e_if_eq (tgt := 37) dX0_breakSprings_25 (by decide) (fun c25 => ?_) (fun c25 => ?_)
        · have hB : ¬ (σ.2.2 5 i = 0 ∧ (σ.2.2 4 i ≠ 0 ∧ (σ.2.2 4 i).toInt < (sAbs (sStr σ i)).toInt)) := fun q => by
            rw [hn] at c25
            have q2 := q.2
            unfold sAbs at q2
            have c25b : (if σ.2.2 4 i ≠ 0 ∧ (σ.2.2 4 i).toInt < (if 0 ≤ sStr σ i then sStr σ i else 0 - sStr σ i).toInt then (1 : Int32) else 0) = 0 := c25
            rw [if_pos q2] at c25b
            exact absurd c25b (by decide)
          refine e_iinc dX0_breakSprings_37 rfl rfl (Nat.le_of_ble_eq_true rfl) ?_
          refine e_goto (tgt := 4) dX0_breakSprings_40 (by decide) ?_
          refine ev_as ?_ (ih (r - 1) (by omega) (i + 1) _ _ (by omega) (ar_inc hx (by omega)) ?_)
          · first
              | (have hv : σ.2.2 5 i = sBr2 σ i := by unfold sBr2; rw [if_neg hB]
                 unfold sBSi
                 rw [← fillTo_up i (sBr2 σ) (σ.2.2 5) (σ.2.2 5 i) hv]
                 congr 2
                 funext j
                 unfold ev_u
                 by_cases e : j = i
                 · subst e; rw [if_pos rfl, fillTo_at]
                 · rw [if_neg e]
                 done)
              | (have hv : (vp_nar .boolean 1) = sBr2 σ i := by unfold sBr2; rw [if_pos hB]; rfl
                 unfold sBSi
                 rw [cs_A_get, cs_A_A, hn, fillTo_up _ _ _ _ hv])
          · rw [hy]
            show _ = acc32 0 (sBr1 σ) i + sBr1 σ i
            unfold sBr1
            first
              | (rw [if_neg hB, Int32.add_zero]; done)
              | (rw [if_pos hB]; rfl)
        · have hB : σ.2.2 5 i = 0 ∧ (σ.2.2 4 i ≠ 0 ∧ (σ.2.2 4 i).toInt < (sAbs (sStr σ i)).toInt) := by
            refine ⟨c17, Classical.byContradiction (fun q => c25 ?_)⟩
            rw [hn]
            unfold sAbs at q
            show (if σ.2.2 4 i ≠ 0 ∧ (σ.2.2 4 i).toInt < (if 0 ≤ sStr σ i then sStr σ i else 0 - sStr σ i).toInt then (1 : Int32) else 0) = 0
            rw [if_neg q]
          refine e_aload_n dX0_breakSprings_28 rfl rfl ?_
          refine e_iload_n dX0_breakSprings_29 rfl rfl ?_
          refine e_iconst (v := 1) dX0_breakSprings_30 (by decide) ?_
          refine e_invV (mcY := 0) (msY := 0) (ct_X0_setBroken (x := x) (by omega) (by omega) hm2) vX0_setBroken wM_X0_207 (ch_at G c _ h 0 (by decide)) rfl dX0_breakSprings_31 rfl rfl (Nat.le_of_ble_eq_true rfl) (Nat.le_trans (Nat.le_of_ble_eq_true rfl) hJ) ?_
          rintro _ _ ⟨rfl, rfl⟩
          refine e_iinc dX0_breakSprings_34 rfl rfl (Nat.le_of_ble_eq_true rfl) ?_
          refine e_iinc dX0_breakSprings_37 rfl rfl (Nat.le_of_ble_eq_true rfl) ?_
          refine e_goto (tgt := 4) dX0_breakSprings_40 (by decide) ?_
          refine ev_as ?_ (ih (r - 1) (by omega) (i + 1) _ _ (by omega) (ar_inc hx (by omega)) ?_)
          · first
              | (have hv : σ.2.2 5 i = sBr2 σ i := by unfold sBr2; rw [if_neg hB]
                 unfold sBSi
                 rw [← fillTo_up i (sBr2 σ) (σ.2.2 5) (σ.2.2 5 i) hv]
                 congr 2
                 funext j
                 unfold ev_u
                 by_cases e : j = i
                 · subst e; rw [if_pos rfl, fillTo_at]
                 · rw [if_neg e]
                 done)
              | (have hv : (vp_nar .boolean 1) = sBr2 σ i := by unfold sBr2; rw [if_pos hB]; rfl
                 unfold sBSi
                 rw [cs_A_get, cs_A_A, hn, fillTo_up _ _ _ _ hv])
          · rw [hy]
            show _ = acc32 0 (sBr1 σ) i + sBr1 σ i
            unfold sBr1
            first
              | (rw [if_neg hB, Int32.add_zero]; done)
              | (rw [if_pos hB]; rfl)
set_option maxRecDepth 20000 in
theorem ct_X0_breakSprings (hm : sOk σ) : ev_Ct G l mX0_breakSprings 5 0 0 [.ref c] (ch G c σ h) (fun v a => v = some (.int (acc32 0 (sBr1 σ) (sNm σ + 1))) ∧ a = ch G c (sBS σ) h) (fun _ _ => False) := by
  refine ev_Ct.of (by decide +kernel) (Nat.le_of_ble_eq_true rfl) ?_
  have hmn := hm.nat
  have hmu : (σ.1 0).toInt = sM σ := rfl
  refine e_iconst (v := 0) dX0_breakSprings_0 (by decide) ?_
  refine e_istore_n dX0_breakSprings_1 rfl (Nat.le_of_ble_eq_true rfl) ?_
  refine e_iconst (v := 0) dX0_breakSprings_2 (by decide) ?_
  refine e_istore_n dX0_breakSprings_3 rfl (Nat.le_of_ble_eq_true rfl) ?_
  refine ev_as (a' := ch G c (sBSi σ 0) h) (by unfold sBSi; rw [fillTo_0, cs_A_self]) ?_
  refine ev_loc (L' := [some (.ref c), some (.int 0), some (.int 0)]) ⟨rfl, rfl, rfl, trivial⟩ ?_
  refine lp_breakSprings (Nat.le_refl _) hm (fun y hy => ?_) (sNm σ + 1) 0 0 _ (by omega) ar_0 rfl
  subst hy
  exact e_iload_n dX0_breakSprings_43 rfl rfl (e_iret rfl dX0_breakSprings_44 ⟨rfl, rfl⟩)
end K5
