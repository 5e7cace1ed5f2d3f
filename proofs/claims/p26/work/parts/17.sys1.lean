/-! guards and history -/
def xA : String := "java/lang/IllegalArgumentException"
def xI : String := "java/lang/IndexOutOfBoundsException"
def xN : String := "java/util/NoSuchElementException"
def xS : String := "java/lang/IllegalStateException"
section Y1
variable {G : ev_G} {l : Launch} {b : Nat} {S : SS} {h : ev_H} {x y z w : Int32}
set_option maxRecDepth 20000 in
theorem ct_X6_requireWithin (hl0 : l.stackTraces = false) {q : ev_H} (hq : q.2 = none) : ev_Ct G l mX6_requireWithin 6 1 6 [.int x, .int y, .int z] (q) (fun v a => (v = none ∧ a = q) ∧ (y.toInt ≤ x.toInt ∧ x.toInt ≤ z.toInt)) (fun E a => (E = xA ∧ a = q) ∧ ¬ (y.toInt ≤ x.toInt ∧ x.toInt ≤ z.toInt)) := by
  refine ev_Ct.of (by decide +kernel) (Nat.le_of_ble_eq_true rfl) ?_
  refine e_iload_n dX6_requireWithin_0 rfl rfl ?_
  refine e_iload_n dX6_requireWithin_1 rfl rfl ?_
  refine e_icmp_lt (tgt := 10) dX6_requireWithin_2 (by decide) (fun c2 => ?_) (fun c2 => ?_)
  · exact e_throwS (E := "java/lang/IllegalArgumentException") (tx := "a number out of range") (j := 0) hl0 (by decide +kernel) thr_n wL_X6_157 wN_java_lang_IllegalArgumentException (by decide +kernel) thr_161 thr_g161 dX6_requireWithin_10 dX6_requireWithin_13 dX6_requireWithin_14 dX6_requireWithin_16 dX6_requireWithin_19 rfl rfl (Nat.le_of_ble_eq_true rfl) (Nat.le_of_ble_eq_true rfl) (⟨⟨rfl, Prod.ext rfl hq.symm⟩, by omega⟩)
  · refine e_iload_n dX6_requireWithin_5 rfl rfl ?_
    refine e_iload_n dX6_requireWithin_6 rfl rfl ?_
    refine e_icmp_le (tgt := 20) dX6_requireWithin_7 (by decide) (fun c7 => ?_) (fun c7 => ?_)
    · exact e_vret rfl dX6_requireWithin_20 (⟨⟨rfl, rfl⟩, by omega, by omega⟩)
    · exact e_throwS (E := "java/lang/IllegalArgumentException") (tx := "a number out of range") (j := 0) hl0 (by decide +kernel) thr_n wL_X6_157 wN_java_lang_IllegalArgumentException (by decide +kernel) thr_161 thr_g161 dX6_requireWithin_10 dX6_requireWithin_13 dX6_requireWithin_14 dX6_requireWithin_16 dX6_requireWithin_19 rfl rfl (Nat.le_of_ble_eq_true rfl) (Nat.le_of_ble_eq_true rfl) (⟨⟨rfl, Prod.ext rfl hq.symm⟩, by omega⟩)
set_option maxRecDepth 20000 in
theorem ct_X6_requireElement (hl0 : l.stackTraces = false) {q : ev_H} (hq : q.2 = none) : ev_Ct G l mX6_requireElement 6 1 6 [.int x, .int y] (q) (fun v a => (v = none ∧ a = q) ∧ (0 ≤ x.toInt ∧ x.toInt < y.toInt)) (fun E a => (E = xN ∧ a = q) ∧ ¬ (0 ≤ x.toInt ∧ x.toInt < y.toInt)) := by
  refine ev_Ct.of (by decide +kernel) (Nat.le_of_ble_eq_true rfl) ?_
  refine e_iload_n dX6_requireElement_0 rfl rfl ?_
  refine e_if_lt (tgt := 9) dX6_requireElement_1 (by decide) (fun c1 => ?_) (fun c1 => ?_)
  · exact e_throwN (tx := "there are not so many") (j := 14) hl0 wL_X6_211 wN_java_util_NoSuchElementException (by decide +kernel) dX6_requireElement_9 dX6_requireElement_12 dX6_requireElement_13 dX6_requireElement_15 dX6_requireElement_18 rfl rfl (Nat.le_of_ble_eq_true rfl) (Nat.le_of_ble_eq_true rfl) (⟨⟨rfl, Prod.ext rfl hq.symm⟩, by omega⟩)
  · refine e_iload_n dX6_requireElement_4 rfl rfl ?_
    refine e_iload_n dX6_requireElement_5 rfl rfl ?_
    refine e_icmp_lt (tgt := 19) dX6_requireElement_6 (by decide) (fun c6 => ?_) (fun c6 => ?_)
    · exact e_vret rfl dX6_requireElement_19 (⟨⟨rfl, rfl⟩, by omega, by omega⟩)
    · exact e_throwN (tx := "there are not so many") (j := 14) hl0 wL_X6_211 wN_java_util_NoSuchElementException (by decide +kernel) dX6_requireElement_9 dX6_requireElement_12 dX6_requireElement_13 dX6_requireElement_15 dX6_requireElement_18 rfl rfl (Nat.le_of_ble_eq_true rfl) (Nat.le_of_ble_eq_true rfl) (⟨⟨rfl, Prod.ext rfl hq.symm⟩, by omega⟩)
set_option maxRecDepth 20000 in
theorem ct_X6_requireMass (hl0 : l.stackTraces = false) (hq : h.2 = none) : ev_Ct G l mX6_requireMass 6 1 6 [.ref b, .int x] (sy G b S h) (fun v a => (v = none ∧ a = sy G b S h) ∧ (0 ≤ x.toInt ∧ x.toInt < sM (S.2.2.2 0))) (fun E a => (E = xI ∧ a = sy G b S h) ∧ ¬ (0 ≤ x.toInt ∧ x.toInt < sM (S.2.2.2 0))) := by
  refine ev_Ct.of (by decide +kernel) (Nat.le_of_ble_eq_true rfl) ?_
  have hsm : sM (S.2.2.2 0) = ((S.2.2.2 0).1 0).toInt := rfl
  refine e_iload_n dX6_requireMass_0 rfl rfl ?_
  refine e_if_lt (tgt := 15) dX6_requireMass_1 (by decide) (fun c1 => ?_) (fun c1 => ?_)
  · exact e_throwS (E := "java/lang/IndexOutOfBoundsException") (tx := "no such mass") (j := 15) hl0 (by decide +kernel) thr_n wL_X6_204 wN_java_lang_IndexOutOfBoundsException (by decide +kernel) thr_208 thr_g208 dX6_requireMass_15 dX6_requireMass_18 dX6_requireMass_19 dX6_requireMass_21 dX6_requireMass_24 rfl rfl (Nat.le_of_ble_eq_true rfl) (Nat.le_of_ble_eq_true rfl) (⟨⟨rfl, Prod.ext rfl hq.symm⟩, by omega⟩)
  · refine e_iload_n dX6_requireMass_4 rfl rfl ?_
    refine e_aload_n dX6_requireMass_5 rfl rfl ?_
    refine sy_g6_2 wF_X6_23 dX6_requireMass_6 ?_
    refine ev_as (sy_as G b _ h 0 (by decide)) (ch_g0_0 (c := sc b 0) wF_X6_67 dX6_requireMass_9 (ev_as (sy_as G b _ h 0 (by decide)).symm ?_))
    refine e_icmp_lt (tgt := 25) dX6_requireMass_12 (by decide) (fun c12 => ?_) (fun c12 => ?_)
    · exact e_vret rfl dX6_requireMass_25 (⟨⟨rfl, rfl⟩, by omega, by omega⟩)
    · exact e_throwS (E := "java/lang/IndexOutOfBoundsException") (tx := "no such mass") (j := 15) hl0 (by decide +kernel) thr_n wL_X6_204 wN_java_lang_IndexOutOfBoundsException (by decide +kernel) thr_208 thr_g208 dX6_requireMass_15 dX6_requireMass_18 dX6_requireMass_19 dX6_requireMass_21 dX6_requireMass_24 rfl rfl (Nat.le_of_ble_eq_true rfl) (Nat.le_of_ble_eq_true rfl) (⟨⟨rfl, Prod.ext rfl hq.symm⟩, by omega⟩)
set_option maxRecDepth 20000 in
theorem ct_X6_requireSpring (hl0 : l.stackTraces = false) (hq : h.2 = none) : ev_Ct G l mX6_requireSpring 6 1 6 [.ref b, .int x] (sy G b S h) (fun v a => (v = none ∧ a = sy G b S h) ∧ (0 ≤ x.toInt ∧ x.toInt ≤ sM (S.2.2.2 0))) (fun E a => (E = xI ∧ a = sy G b S h) ∧ ¬ (0 ≤ x.toInt ∧ x.toInt ≤ sM (S.2.2.2 0))) := by
  refine ev_Ct.of (by decide +kernel) (Nat.le_of_ble_eq_true rfl) ?_
  have hsm : sM (S.2.2.2 0) = ((S.2.2.2 0).1 0).toInt := rfl
  refine e_iload_n dX6_requireSpring_0 rfl rfl ?_
  refine e_if_lt (tgt := 15) dX6_requireSpring_1 (by decide) (fun c1 => ?_) (fun c1 => ?_)
  · exact e_throwS (E := "java/lang/IndexOutOfBoundsException") (tx := "no such spring") (j := 18) hl0 (by decide +kernel) thr_n wL_X6_204 wN_java_lang_IndexOutOfBoundsException (by decide +kernel) thr_208 thr_g208 dX6_requireSpring_15 dX6_requireSpring_18 dX6_requireSpring_19 dX6_requireSpring_21 dX6_requireSpring_24 rfl rfl (Nat.le_of_ble_eq_true rfl) (Nat.le_of_ble_eq_true rfl) (⟨⟨rfl, Prod.ext rfl hq.symm⟩, by omega⟩)
  · refine e_iload_n dX6_requireSpring_4 rfl rfl ?_
    refine e_aload_n dX6_requireSpring_5 rfl rfl ?_
    refine sy_g6_2 wF_X6_23 dX6_requireSpring_6 ?_
    refine ev_as (sy_as G b _ h 0 (by decide)) (ch_g0_0 (c := sc b 0) wF_X6_67 dX6_requireSpring_9 (ev_as (sy_as G b _ h 0 (by decide)).symm ?_))
    refine e_icmp_le (tgt := 25) dX6_requireSpring_12 (by decide) (fun c12 => ?_) (fun c12 => ?_)
    · exact e_vret rfl dX6_requireSpring_25 (⟨⟨rfl, rfl⟩, by omega, by omega⟩)
    · exact e_throwS (E := "java/lang/IndexOutOfBoundsException") (tx := "no such spring") (j := 18) hl0 (by decide +kernel) thr_n wL_X6_204 wN_java_lang_IndexOutOfBoundsException (by decide +kernel) thr_208 thr_g208 dX6_requireSpring_15 dX6_requireSpring_18 dX6_requireSpring_19 dX6_requireSpring_21 dX6_requireSpring_24 rfl rfl (Nat.le_of_ble_eq_true rfl) (Nat.le_of_ble_eq_true rfl) (⟨⟨rfl, Prod.ext rfl hq.symm⟩, by omega⟩)
set_option maxRecDepth 20000 in
theorem ct_X1_placeAt (x0 : 0 ≤ x.toInt) (x1 : x.toInt < 8) : ev_Ct G l mX1_placeAt 1 0 0 [.ref (b + 35), .int x] (sy G b S h) (fun v a => v = some (.ref (sc b (2 + x.toInt.toNat))) ∧ a = sy G b S h) (fun _ _ => False) := by
  refine ev_Ct.of (by decide +kernel) (Nat.le_of_ble_eq_true rfl) ?_
  have a8 : (8 : Int32).toInt = 8 := by decide +kernel
  refine e_iload_n dX1_placeAt_0 rfl rfl ?_
  refine e_if_lt (tgt := 22) dX1_placeAt_1 (by decide) (fun c1 => ?_) (fun c1 => ?_)
  · omega
  · refine e_iload_n dX1_placeAt_4 rfl rfl ?_
    refine e_aload_n dX1_placeAt_5 rfl rfl ?_
    refine sy_g1_2 wF_X1_11 dX1_placeAt_6 ?_
    refine sy_n38 (v := 8) (by decide +kernel) dX1_placeAt_9 ?_
    refine e_icmp_ge (tgt := 22) dX1_placeAt_10 (by decide) (fun c10 => ?_) (fun c10 => ?_)
    · omega
    · refine e_aload_n dX1_placeAt_13 rfl rfl ?_
      refine sy_g1_2 wF_X1_11 dX1_placeAt_14 ?_
      refine e_iload_n dX1_placeAt_17 rfl rfl ?_
      refine sy_l38 x0 x1 dX1_placeAt_18 ?_
      refine e_goto (tgt := 23) dX1_placeAt_19 (by decide) ?_
      exact e_aret rfl (by first | exact Or.inl ⟨_, rfl⟩ | exact Or.inr ⟨_, rfl⟩) (Or.inr ⟨_, rfl⟩) dX1_placeAt_23 (⟨rfl, rfl⟩)
/-- the history in order: how many, and where the next goes -/
def hOk (S : SS) : Prop := (0 ≤ (S.1 2).toInt ∧ (S.1 2).toInt ≤ 8) ∧ (0 ≤ (S.1 3).toInt ∧ (S.1 3).toInt < 8)
/-- behind keep -/
def sKeep (S : SS) : SS := ss_I (ss_I (ss_C S (2 + (S.1 3).toInt.toNat) (sBec (S.2.2.2 (2 + (S.1 3).toInt.toNat)) (S.2.2.2 0))) 3 (if (S.1 3).toInt + 1 < 8 then S.1 3 + 1 else 0)) 2 (if (S.1 2).toInt < 8 then S.1 2 + 1 else 8)
theorem h_inc8 {x : Int32} (h0 : 0 ≤ x.toInt) (h1 : x.toInt ≤ 8) : (x + 1).toInt = x.toInt + 1 := by rw [ar_add (by rw [ar_1]; omega) (by rw [ar_1]; omega), ar_1]
theorem ar_8 : (8 : Int32).toInt = 8 := by decide +kernel
set_option maxRecDepth 20000 in
theorem ct_X1_keep (hh : hOk S) : ev_Ct G l mX1_keep 4 0 0 [.ref (b + 35), .ref (sc b 0)] (sy G b S h) (fun v a => v = none ∧ a = sy G b (sKeep S) h) (fun _ _ => False) := by
  refine ev_Ct.of (by decide +kernel) (Nat.le_of_ble_eq_true rfl) ?_
  obtain ⟨⟨c0, c1⟩, n0, n1⟩ := hh
  have a8 := ar_8
  have hn := h_inc8 n0 (by omega)
  have hc := h_inc8 c0 c1
  have hmin : (if S.1 2 + 1 < 8 then S.1 2 + 1 else 8) = (if (S.1 2).toInt < 8 then S.1 2 + 1 else 8) := by
    by_cases q : (S.1 2).toInt < 8
    · rw [if_pos q]
      by_cases r : S.1 2 + 1 < 8
      · rw [if_pos r]
      · rw [if_neg r]
        have := (not_congr ev_lt32).mp r
        exact ar_eq (by omega)
    · rw [if_neg q, if_neg (fun r => by have := ev_lt32.mp r; omega)]
  refine e_aload_n dX1_keep_0 rfl rfl ?_
  refine e_aload_n dX1_keep_1 rfl rfl ?_
  refine sy_g1_1 wF_X1_22 dX1_keep_2 ?_
  refine e_invV (mcY := 0) (msY := 0) (ct_X1_placeAt n0 n1) vX1_placeAt wM_X1_25 (sy_at G b _ h 35 (by decide)) rfl dX1_keep_5 rfl rfl (Nat.le_of_ble_eq_true rfl) (Nat.le_of_ble_eq_true rfl) ?_
  rintro _ _ ⟨rfl, rfl⟩
  refine e_astore_n dX1_keep_8 rfl (Nat.le_of_ble_eq_true rfl) ?_
  refine e_aload_n dX1_keep_9 rfl rfl ?_
  refine e_ifnull dX1_keep_10 ?_
  refine e_aload_n dX1_keep_13 rfl rfl ?_
  refine e_aload_n dX1_keep_14 rfl rfl ?_
  refine ev_as (sy_as2 G b _ h (2 + (S.1 3).toInt.toNat) 0 (by omega) (by decide)) ?_
  refine e_invV (mcY := 0) (msY := 0) (ct_X0_become (c := sc b (2 + (S.1 3).toInt.toNat)) (e := sc b 0) (sc_apart b _ 0 (by omega) (by decide) (by omega))) vX0_become wM_X1_29 (ch_at G (sc b (2 + (S.1 3).toInt.toNat)) _ (ch G (sc b 0) _ (sy G b _ h)) 0 (by decide)) rfl dX1_keep_15 rfl rfl (Nat.le_of_ble_eq_true rfl) (Nat.le_of_ble_eq_true rfl) ?_
  rintro _ _ ⟨rfl, rfl⟩
  refine ev_as (sy_ch2 G b _ h (2 + (S.1 3).toInt.toNat) 0 _ (by omega) (by decide)) ?_
  refine e_aload_n dX1_keep_18 rfl rfl ?_
  refine e_aload_n dX1_keep_19 rfl rfl ?_
  refine sy_g1_1 wF_X1_22 dX1_keep_20 ?_
  refine e_iconst (v := 1) dX1_keep_23 (by decide) ?_
  refine e_iadd dX1_keep_24 ?_
  refine e_bipush (v := 8) dX1_keep_25 (by decide) ?_
  refine e_icmp_ge (tgt := 39) dX1_keep_27 (by decide) (fun c27 => ?_) (fun c27 => ?_)
  · have c27b : (8 : Int32).toInt ≤ (S.1 3 + 1).toInt := c27
    refine e_iconst (v := 0) dX1_keep_39 (by decide) ?_
    refine sy_p1_1 wF_X1_22 dX1_keep_40 ?_
    refine e_aload_n dX1_keep_43 rfl rfl ?_
    refine e_bipush (v := 8) dX1_keep_44 (by decide) ?_
    refine e_aload_n dX1_keep_46 rfl rfl ?_
    refine sy_g1_0 wF_X1_18 dX1_keep_47 ?_
    refine e_iconst (v := 1) dX1_keep_50 (by decide) ?_
    refine e_iadd dX1_keep_51 ?_
    refine e_mmin wM_X1_33 (Nat.le_of_ble_eq_true rfl) (Nat.le_of_ble_eq_true rfl) dX1_keep_52 ?_
    refine sy_p1_0 wF_X1_18 dX1_keep_55 ?_
    exact e_vret rfl dX1_keep_58 (⟨rfl, by
        unfold sKeep
        first
          | (rw [if_pos (show (S.1 3).toInt + 1 < 8 by omega), ← hmin]; rfl)
          | (rw [if_neg (show ¬ (S.1 3).toInt + 1 < 8 by omega), ← hmin]; rfl)⟩)
  · have c27b : (S.1 3 + 1).toInt < (8 : Int32).toInt := c27
    refine e_aload_n dX1_keep_30 rfl rfl ?_
    refine sy_g1_1 wF_X1_22 dX1_keep_31 ?_
    refine e_iconst (v := 1) dX1_keep_34 (by decide) ?_
    refine e_iadd dX1_keep_35 ?_
    refine e_goto (tgt := 40) dX1_keep_36 (by decide) ?_
    refine sy_p1_1 wF_X1_22 dX1_keep_40 ?_
    refine e_aload_n dX1_keep_43 rfl rfl ?_
    refine e_bipush (v := 8) dX1_keep_44 (by decide) ?_
    refine e_aload_n dX1_keep_46 rfl rfl ?_
    refine sy_g1_0 wF_X1_18 dX1_keep_47 ?_
    refine e_iconst (v := 1) dX1_keep_50 (by decide) ?_
    refine e_iadd dX1_keep_51 ?_
    refine e_mmin wM_X1_33 (Nat.le_of_ble_eq_true rfl) (Nat.le_of_ble_eq_true rfl) dX1_keep_52 ?_
    refine sy_p1_0 wF_X1_18 dX1_keep_55 ?_
    exact e_vret rfl dX1_keep_58 (⟨rfl, by
        unfold sKeep
        first
          | (rw [if_pos (show (S.1 3).toInt + 1 < 8 by omega), ← hmin]; rfl)
          | (rw [if_neg (show ¬ (S.1 3).toInt + 1 < 8 by omega), ← hmin]; rfl)⟩)
/-- the place of the latest kept one -/
def hLast (S : SS) : Nat := if 0 < (S.1 3).toInt then (S.1 3).toInt.toNat - 1 else 7
def sBack (S : SS) : SS := ss_I (ss_I (ss_C S 0 (sBec (S.2.2.2 0) (S.2.2.2 (2 + hLast S)))) 3 (if 0 < (S.1 3).toInt then S.1 3 - 1 else 7)) 2 (S.1 2 - 1)
set_option maxRecDepth 20000 in
theorem ct_X1_takeBack (hh : hOk S) (hp : 0 < (S.1 2).toInt) : ev_Ct G l mX1_takeBack 4 0 0 [.ref (b + 35), .ref (sc b 0)] (sy G b S h) (fun v a => v = none ∧ a = sy G b (sBack S) h) (fun _ _ => False) := by
  refine ev_Ct.of (by decide +kernel) (Nat.le_of_ble_eq_true rfl) ?_
  obtain ⟨⟨c0, c1⟩, n0, n1⟩ := hh
  have a1 := ar_1
  have a7 : (7 : Int32).toInt = 7 := by decide +kernel
  have hl : hLast S < 8 := by unfold hLast; split <;> omega
  refine e_aload_n dX1_takeBack_0 rfl rfl ?_
  refine sy_g1_1 wF_X1_22 dX1_takeBack_1 ?_
  refine e_if_le (tgt := 16) dX1_takeBack_4 (by decide) (fun c4 => ?_) (fun c4 => ?_)
  · have hx : (7 : Int32).toInt.toNat = hLast S := by unfold hLast; rw [if_neg (by omega), a7]; rfl
    refine e_bipush (v := 7) dX1_takeBack_16 (by decide) ?_
    refine e_istore_n dX1_takeBack_18 rfl (Nat.le_of_ble_eq_true rfl) ?_
    refine e_aload_n dX1_takeBack_19 rfl rfl ?_
    refine e_iload_n dX1_takeBack_20 rfl rfl ?_
    refine e_invV (mcY := 0) (msY := 0) (ct_X1_placeAt (by omega) (by omega)) vX1_placeAt wM_X1_25 (sy_at G b _ h 35 (by decide)) rfl dX1_takeBack_21 rfl rfl (Nat.le_of_ble_eq_true rfl) (Nat.le_of_ble_eq_true rfl) ?_
    rintro _ _ ⟨rfl, rfl⟩
    rw [hx]
    refine e_astore_n dX1_takeBack_24 rfl (Nat.le_of_ble_eq_true rfl) ?_
    refine e_aload_n dX1_takeBack_25 rfl rfl ?_
    refine e_ifnull dX1_takeBack_26 ?_
    refine e_aload_n dX1_takeBack_29 rfl rfl ?_
    refine sy_g1_0 wF_X1_18 dX1_takeBack_30 ?_
    refine e_if_le (tgt := 56) dX1_takeBack_33 (by decide) (fun c33 => ?_) (fun c33 => ?_)
    · omega
    · refine e_aload_n dX1_takeBack_36 rfl rfl ?_
      refine e_aload_n dX1_takeBack_37 rfl rfl ?_
      refine ev_as (sy_as2 G b _ h 0 (2 + hLast S) (by decide) (by omega)) ?_
      refine e_invV (mcY := 0) (msY := 0) (ct_X0_become (c := sc b 0) (e := sc b (2 + hLast S)) (sc_apart b 0 _ (by decide) (by omega) (by omega))) vX0_become wM_X1_29 (ch_at G (sc b 0) _ (ch G (sc b (2 + hLast S)) _ (sy G b _ h)) 0 (by decide)) rfl dX1_takeBack_38 rfl rfl (Nat.le_of_ble_eq_true rfl) (Nat.le_of_ble_eq_true rfl) ?_
      rintro _ _ ⟨rfl, rfl⟩
      refine ev_as (sy_ch2 G b _ h 0 (2 + hLast S) _ (by decide) (by omega)) ?_
      refine e_aload_n dX1_takeBack_41 rfl rfl ?_
      refine e_iload_n dX1_takeBack_42 rfl rfl ?_
      refine sy_p1_1 wF_X1_22 dX1_takeBack_43 ?_
      refine e_aload_n dX1_takeBack_46 rfl rfl ?_
      refine e_dup dX1_takeBack_47 rfl ?_
      refine sy_g1_0 wF_X1_18 dX1_takeBack_48 ?_
      refine e_iconst (v := 1) dX1_takeBack_51 (by decide) ?_
      refine e_isub dX1_takeBack_52 ?_
      refine sy_p1_0 wF_X1_18 dX1_takeBack_53 ?_
      exact e_vret rfl dX1_takeBack_56 (⟨rfl, by
          unfold sBack
          first
            | (rw [if_neg (show ¬ 0 < (S.1 3).toInt by omega)]; rfl)
            | (rw [if_pos (show 0 < (S.1 3).toInt by omega)]; rfl)⟩)
  · have hs : (S.1 3 - 1).toInt = (S.1 3).toInt - 1 := by rw [ar_sub (by omega) (by omega), a1]
    have hx : (S.1 3 - 1).toInt.toNat = hLast S := by unfold hLast; rw [if_pos (by omega)]; omega
    refine e_aload_n dX1_takeBack_7 rfl rfl ?_
    refine sy_g1_1 wF_X1_22 dX1_takeBack_8 ?_
    refine e_iconst (v := 1) dX1_takeBack_11 (by decide) ?_
    refine e_isub dX1_takeBack_12 ?_
    refine e_goto (tgt := 18) dX1_takeBack_13 (by decide) ?_
    refine e_istore_n dX1_takeBack_18 rfl (Nat.le_of_ble_eq_true rfl) ?_
    refine e_aload_n dX1_takeBack_19 rfl rfl ?_
    refine e_iload_n dX1_takeBack_20 rfl rfl ?_
    refine e_invV (mcY := 0) (msY := 0) (ct_X1_placeAt (by omega) (by omega)) vX1_placeAt wM_X1_25 (sy_at G b _ h 35 (by decide)) rfl dX1_takeBack_21 rfl rfl (Nat.le_of_ble_eq_true rfl) (Nat.le_of_ble_eq_true rfl) ?_
    rintro _ _ ⟨rfl, rfl⟩
    rw [hx]
    refine e_astore_n dX1_takeBack_24 rfl (Nat.le_of_ble_eq_true rfl) ?_
    refine e_aload_n dX1_takeBack_25 rfl rfl ?_
    refine e_ifnull dX1_takeBack_26 ?_
    refine e_aload_n dX1_takeBack_29 rfl rfl ?_
    refine sy_g1_0 wF_X1_18 dX1_takeBack_30 ?_
    refine e_if_le (tgt := 56) dX1_takeBack_33 (by decide) (fun c33 => ?_) (fun c33 => ?_)
    · omega
    · refine e_aload_n dX1_takeBack_36 rfl rfl ?_
      refine e_aload_n dX1_takeBack_37 rfl rfl ?_
      refine ev_as (sy_as2 G b _ h 0 (2 + hLast S) (by decide) (by omega)) ?_
      refine e_invV (mcY := 0) (msY := 0) (ct_X0_become (c := sc b 0) (e := sc b (2 + hLast S)) (sc_apart b 0 _ (by decide) (by omega) (by omega))) vX0_become wM_X1_29 (ch_at G (sc b 0) _ (ch G (sc b (2 + hLast S)) _ (sy G b _ h)) 0 (by decide)) rfl dX1_takeBack_38 rfl rfl (Nat.le_of_ble_eq_true rfl) (Nat.le_of_ble_eq_true rfl) ?_
      rintro _ _ ⟨rfl, rfl⟩
      refine ev_as (sy_ch2 G b _ h 0 (2 + hLast S) _ (by decide) (by omega)) ?_
      refine e_aload_n dX1_takeBack_41 rfl rfl ?_
      refine e_iload_n dX1_takeBack_42 rfl rfl ?_
      refine sy_p1_1 wF_X1_22 dX1_takeBack_43 ?_
      refine e_aload_n dX1_takeBack_46 rfl rfl ?_
      refine e_dup dX1_takeBack_47 rfl ?_
      refine sy_g1_0 wF_X1_18 dX1_takeBack_48 ?_
      refine e_iconst (v := 1) dX1_takeBack_51 (by decide) ?_
      refine e_isub dX1_takeBack_52 ?_
      refine sy_p1_0 wF_X1_18 dX1_takeBack_53 ?_
      exact e_vret rfl dX1_takeBack_56 (⟨rfl, by
          unfold sBack
          first
            | (rw [if_neg (show ¬ 0 < (S.1 3).toInt by omega)]; rfl)
            | (rw [if_pos (show 0 < (S.1 3).toInt by omega)]; rfl)⟩)
end Y1
