/-! the class's own methods, but load -/
def tickN : Nat → CS → CS
  | 0, σ => σ
  | n + 1, σ => sTick (tickN n σ)
theorem sInv_tickN {σ : CS} (hv : sInv σ) : ∀ n, sInv (tickN n σ)
  | 0 => hv
  | n + 1 => sInv_tick (sInv_tickN hv n)
def sBrks (σ : CS) (n : Nat) : Int32 := acc32 0 (fun j => sBrN (tickN j σ)) n
def sGr (σ : CS) (m : Nat) : Nat → Int32
  | 0 => 0
  | n + 1 => if sGr σ m n < sAbs ((tickN (n + 1) σ).2.2 1 m) then sAbs ((tickN (n + 1) σ).2.2 1 m) else sGr σ m n
def sPerF (σ : CS) (m : Nat) : Nat → Nat → Nat → Int
  | 0, _, _ => -1
  | f + 1, k, first => if ((tickN k σ).2.2 1 m).toInt ≤ 0 ∧ 0 < ((tickN (k + 1) σ).2.2 1 m).toInt then (if 0 < first then (k + 1 : Int) - first else sPerF σ m f (k + 1) (k + 1)) else sPerF σ m f (k + 1) first
def sBrkF (σ : CS) : Nat → Nat → Int
  | 0, _ => -1
  | f + 1, k => if 0 < (sBrN (tickN k σ)).toInt then k + 1 else sBrkF σ f (k + 1)
def ckA (z : Int64) (f : Nat → Int64) : Nat → Int64
  | 0 => z
  | n + 1 => 31 * ckA z f n + f n
def ckB (z : Int64) (g : Nat → Nat → Int64) (w : Nat) : Nat → Int64
  | 0 => z
  | n + 1 => ckA (ckB z g w n) (g n) w
def sNo (σ : CS) (k w : Nat) : Int32 := if w = 0 then σ.2.2 10 k else σ.2.2 11 k
def sPn (σ : CS) : Nat := (σ.1 6).toInt.toNat
def ck1 (σ : CS) : Int64 := ckA 0 (fun w => (sTell σ w).toInt64) 12
def ck2 (σ : CS) : Int64 := ckA (ck1 σ) (fun w => sAcc σ w) 8
def ck3 (σ : CS) : Int64 := ckB (ck2 σ) (fun j w => (sTellM σ j w).toInt64) 4 (sNm σ)
def ck4 (σ : CS) : Int64 := ckB (ck3 σ) (fun j w => (sTellS σ j w).toInt64) 5 (sNm σ + 1)
def sCk (σ : CS) : Int64 := ckB (ck4 σ) (fun k w => (sNo σ k w).toInt64) 2 (sPn σ)
theorem ss_C_at (S : SS) (i : Nat) (τ : CS) : (ss_C S i τ).2.2.2 i = τ := ev_u_self _ _ _
theorem sKeep_0 (S : SS) : (sKeep S).2.2.2 0 = S.2.2.2 0 := by
  show ev_u S.2.2.2 (2 + (S.1 3).toInt.toNat) _ 0 = _
  rw [ev_u_ne _ _ (by omega)]
section Y2
variable {G : ev_G} {l : Launch} {b : Nat} {S : SS} {h : ev_H} {x y z w : Int32}
set_option maxRecDepth 20000 in
theorem ct_X6_state (hl0 : l.stackTraces = false) (hq : h.2 = none) (hv : sInv (S.2.2.2 0)) : ev_Ct G l mX6_state 7 1 6 [.ref b, .int x] (sy G b S h) (fun v a => (v = some (.int (sTell (S.2.2.2 0) x.toInt.toNat)) ∧ a = sy G b S h) ∧ (0 ≤ x.toInt ∧ x.toInt ≤ 11)) (fun E a => (E = xA ∧ a = sy G b S h) ∧ ¬ (0 ≤ x.toInt ∧ x.toInt ≤ 11)) := by
  refine ev_Ct.of (by decide +kernel) (Nat.le_of_ble_eq_true rfl) ?_
  have w0 : (0 : Int32).toInt = 0 := by decide +kernel
  have w11 : (11 : Int32).toInt = 11 := by decide +kernel
  refine e_iload_n dX6_state_0 rfl rfl ?_
  refine e_iconst (v := 0) dX6_state_1 (by decide) ?_
  refine e_bipush (v := 11) dX6_state_2 (by decide) ?_
  refine e_invSX (mcY := 1) (msY := 6) (ct_X6_requireWithin hl0 (q := sy G b S h) hq) vX6_requireWithin wM_X6_48 dX6_state_4 rfl rfl (Nat.le_of_ble_eq_true rfl) (Nat.le_of_ble_eq_true rfl) rfl rfl (fun E c q => ⟨q.1, by have := q.2; omega⟩) ?_
  rintro _ _ ⟨⟨rfl, rfl⟩, g1, g2⟩
  refine e_aload_n dX6_state_7 rfl rfl ?_
  refine sy_g6_2 wF_X6_23 dX6_state_8 ?_
  refine e_iload_n dX6_state_11 rfl rfl ?_
  refine ev_as (sy_as G b _ h 0 (by decide)) ?_
  refine e_invV (mcY := 0) (msY := 0) (ct_X0_tellState hv.1 (by omega) (by omega)) vX0_tellState wM_X6_70 (ch_at G (sc b 0) _ (sy G b _ h) 0 (by decide)) rfl dX6_state_12 rfl rfl (Nat.le_of_ble_eq_true rfl) (Nat.le_of_ble_eq_true rfl) ?_
  rintro _ _ ⟨rfl, rfl⟩
  refine ev_as (sy_as G b _ h 0 (by decide)).symm ?_
  exact e_iret rfl dX6_state_15 (⟨⟨rfl, rfl⟩, by omega, by omega⟩)
set_option maxRecDepth 20000 in
theorem ct_X6_account (hl0 : l.stackTraces = false) (hq : h.2 = none) (hv : sInv (S.2.2.2 0)) : ev_Ct G l mX6_account 7 1 6 [.ref b, .int x] (sy G b S h) (fun v a => (v = some (.long (sAcc (S.2.2.2 0) x.toInt.toNat)) ∧ a = sy G b S h) ∧ (0 ≤ x.toInt ∧ x.toInt ≤ 7)) (fun E a => (E = xA ∧ a = sy G b S h) ∧ ¬ (0 ≤ x.toInt ∧ x.toInt ≤ 7)) := by
  refine ev_Ct.of (by decide +kernel) (Nat.le_of_ble_eq_true rfl) ?_
  have w0 : (0 : Int32).toInt = 0 := by decide +kernel
  have w7 : (7 : Int32).toInt = 7 := by decide +kernel
  refine e_iload_n dX6_account_0 rfl rfl ?_
  refine e_iconst (v := 0) dX6_account_1 (by decide) ?_
  refine e_bipush (v := 7) dX6_account_2 (by decide) ?_
  refine e_invSX (mcY := 1) (msY := 6) (ct_X6_requireWithin hl0 (q := sy G b S h) hq) vX6_requireWithin wM_X6_48 dX6_account_4 rfl rfl (Nat.le_of_ble_eq_true rfl) (Nat.le_of_ble_eq_true rfl) rfl rfl (fun E c q => ⟨q.1, by have := q.2; omega⟩) ?_
  rintro _ _ ⟨⟨rfl, rfl⟩, g1, g2⟩
  refine e_aload_n dX6_account_7 rfl rfl ?_
  refine sy_g6_2 wF_X6_23 dX6_account_8 ?_
  refine e_iload_n dX6_account_11 rfl rfl ?_
  refine ev_as (sy_as G b _ h 0 (by decide)) ?_
  refine e_invV (mcY := 0) (msY := 0) (ct_X0_tellAccount hv.1 hv.2.1 (by omega) (by omega)) vX0_tellAccount wM_X6_74 (ch_at G (sc b 0) _ (sy G b _ h) 0 (by decide)) rfl dX6_account_12 rfl rfl (Nat.le_of_ble_eq_true rfl) (Nat.le_of_ble_eq_true rfl) ?_
  rintro _ _ ⟨rfl, rfl⟩
  refine ev_as (sy_as G b _ h 0 (by decide)).symm ?_
  exact e_lret rfl dX6_account_15 (⟨⟨rfl, rfl⟩, by omega, by omega⟩)
set_option maxRecDepth 20000 in
theorem ct_X6_mass (hl0 : l.stackTraces = false) (hq : h.2 = none) (hv : sInv (S.2.2.2 0)) : ev_Ct G l mX6_mass 7 2 12 [.ref b, .int x, .int y] (sy G b S h) (fun v a => (v = some (.int (sTellM (S.2.2.2 0) x.toInt.toNat y.toInt.toNat)) ∧ a = sy G b S h) ∧ (0 ≤ x.toInt ∧ x.toInt < sM (S.2.2.2 0)) ∧ (0 ≤ y.toInt ∧ y.toInt ≤ 3)) (fun E a => ((E = xI ∧ a = sy G b S h) ∧ ¬ (0 ≤ x.toInt ∧ x.toInt < sM (S.2.2.2 0))) ∨ ((E = xA ∧ a = sy G b S h) ∧ (0 ≤ x.toInt ∧ x.toInt < sM (S.2.2.2 0)) ∧ ¬ (0 ≤ y.toInt ∧ y.toInt ≤ 3))) := by
  refine ev_Ct.of (by decide +kernel) (Nat.le_of_ble_eq_true rfl) ?_
  have w0 : (0 : Int32).toInt = 0 := by decide +kernel
  have w3 : (3 : Int32).toInt = 3 := by decide +kernel
  refine e_aload_n dX6_mass_0 rfl rfl ?_
  refine e_iload_n dX6_mass_1 rfl rfl ?_
  refine e_invVX (mcY := 1) (msY := 6) (ct_X6_requireMass hl0 hq) vX6_requireMass wM_X6_78 (sy_at G b _ h 0 (by decide)) rfl dX6_mass_2 rfl rfl (Nat.le_of_ble_eq_true rfl) (Nat.le_of_ble_eq_true rfl) rfl rfl (fun E c q => Or.inl q) ?_
  rintro _ _ ⟨⟨rfl, rfl⟩, m1, m2⟩
  refine e_iload_n dX6_mass_5 rfl rfl ?_
  refine e_iconst (v := 0) dX6_mass_6 (by decide) ?_
  refine e_iconst (v := 3) dX6_mass_7 (by decide) ?_
  refine e_invSX (mcY := 1) (msY := 6) (ct_X6_requireWithin hl0 (q := sy G b S h) hq) vX6_requireWithin wM_X6_48 dX6_mass_8 rfl rfl (Nat.le_of_ble_eq_true rfl) (Nat.le_of_ble_eq_true rfl) rfl rfl (fun E c q => Or.inr ⟨q.1, ⟨m1, m2⟩, by have := q.2; omega⟩) ?_
  rintro _ _ ⟨⟨rfl, rfl⟩, g1, g2⟩
  refine e_aload_n dX6_mass_11 rfl rfl ?_
  refine sy_g6_2 wF_X6_23 dX6_mass_12 ?_
  refine e_iload_n dX6_mass_15 rfl rfl ?_
  refine e_iload_n dX6_mass_16 rfl rfl ?_
  refine ev_as (sy_as G b _ h 0 (by decide)) ?_
  refine e_invV (mcY := 0) (msY := 0) (ct_X0_tellMass m1 m2 hv.1 hv.2.1 (by omega) (by omega)) vX0_tellMass wM_X6_81 (ch_at G (sc b 0) _ (sy G b _ h) 0 (by decide)) rfl dX6_mass_17 rfl rfl (Nat.le_of_ble_eq_true rfl) (Nat.le_of_ble_eq_true rfl) ?_
  rintro _ _ ⟨rfl, rfl⟩
  refine ev_as (sy_as G b _ h 0 (by decide)).symm ?_
  exact e_iret rfl dX6_mass_20 (⟨⟨rfl, rfl⟩, ⟨m1, m2⟩, by omega, by omega⟩)
set_option maxRecDepth 20000 in
theorem ct_X6_spring (hl0 : l.stackTraces = false) (hq : h.2 = none) (hv : sInv (S.2.2.2 0)) : ev_Ct G l mX6_spring 7 2 12 [.ref b, .int x, .int y] (sy G b S h) (fun v a => (v = some (.int (sTellS (S.2.2.2 0) x.toInt.toNat y.toInt.toNat)) ∧ a = sy G b S h) ∧ (0 ≤ x.toInt ∧ x.toInt ≤ sM (S.2.2.2 0)) ∧ (0 ≤ y.toInt ∧ y.toInt ≤ 4)) (fun E a => ((E = xI ∧ a = sy G b S h) ∧ ¬ (0 ≤ x.toInt ∧ x.toInt ≤ sM (S.2.2.2 0))) ∨ ((E = xA ∧ a = sy G b S h) ∧ (0 ≤ x.toInt ∧ x.toInt ≤ sM (S.2.2.2 0)) ∧ ¬ (0 ≤ y.toInt ∧ y.toInt ≤ 4))) := by
  refine ev_Ct.of (by decide +kernel) (Nat.le_of_ble_eq_true rfl) ?_
  have w0 : (0 : Int32).toInt = 0 := by decide +kernel
  have w4 : (4 : Int32).toInt = 4 := by decide +kernel
  refine e_aload_n dX6_spring_0 rfl rfl ?_
  refine e_iload_n dX6_spring_1 rfl rfl ?_
  refine e_invVX (mcY := 1) (msY := 6) (ct_X6_requireSpring hl0 hq) vX6_requireSpring wM_X6_85 (sy_at G b _ h 0 (by decide)) rfl dX6_spring_2 rfl rfl (Nat.le_of_ble_eq_true rfl) (Nat.le_of_ble_eq_true rfl) rfl rfl (fun E c q => Or.inl q) ?_
  rintro _ _ ⟨⟨rfl, rfl⟩, m1, m2⟩
  refine e_iload_n dX6_spring_5 rfl rfl ?_
  refine e_iconst (v := 0) dX6_spring_6 (by decide) ?_
  refine e_iconst (v := 4) dX6_spring_7 (by decide) ?_
  refine e_invSX (mcY := 1) (msY := 6) (ct_X6_requireWithin hl0 (q := sy G b S h) hq) vX6_requireWithin wM_X6_48 dX6_spring_8 rfl rfl (Nat.le_of_ble_eq_true rfl) (Nat.le_of_ble_eq_true rfl) rfl rfl (fun E c q => Or.inr ⟨q.1, ⟨m1, m2⟩, by have := q.2; omega⟩) ?_
  rintro _ _ ⟨⟨rfl, rfl⟩, g1, g2⟩
  refine e_aload_n dX6_spring_11 rfl rfl ?_
  refine sy_g6_2 wF_X6_23 dX6_spring_12 ?_
  refine e_iload_n dX6_spring_15 rfl rfl ?_
  refine e_iload_n dX6_spring_16 rfl rfl ?_
  refine ev_as (sy_as G b _ h 0 (by decide)) ?_
  refine e_invV (mcY := 0) (msY := 0) (ct_X0_tellSpring m1 m2 hv.1 (by omega) (by omega)) vX0_tellSpring wM_X6_88 (ch_at G (sc b 0) _ (sy G b _ h) 0 (by decide)) rfl dX6_spring_17 rfl rfl (Nat.le_of_ble_eq_true rfl) (Nat.le_of_ble_eq_true rfl) ?_
  rintro _ _ ⟨rfl, rfl⟩
  refine ev_as (sy_as G b _ h 0 (by decide)).symm ?_
  exact e_iret rfl dX6_spring_20 (⟨⟨rfl, rfl⟩, ⟨m1, m2⟩, by omega, by omega⟩)
set_option maxRecDepth 20000 in
theorem ct_X6_noted (hl0 : l.stackTraces = false) (hq : h.2 = none) (hv : sInv (S.2.2.2 0)) : ev_Ct G l mX6_noted 7 2 12 [.ref b, .int x, .int y] (sy G b S h) (fun v a => (v = some (.int (if y = 0 then (S.2.2.2 0).2.2 10 x.toInt.toNat else (S.2.2.2 0).2.2 11 x.toInt.toNat)) ∧ a = sy G b S h) ∧ (0 ≤ x.toInt ∧ x.toInt < ((S.2.2.2 0).1 6).toInt) ∧ (0 ≤ y.toInt ∧ y.toInt ≤ 1)) (fun E a => ((E = xN ∧ a = sy G b S h) ∧ ¬ (0 ≤ x.toInt ∧ x.toInt < ((S.2.2.2 0).1 6).toInt)) ∨ ((E = xA ∧ a = sy G b S h) ∧ (0 ≤ x.toInt ∧ x.toInt < ((S.2.2.2 0).1 6).toInt) ∧ ¬ (0 ≤ y.toInt ∧ y.toInt ≤ 1))) := by
  refine ev_Ct.of (by decide +kernel) (Nat.le_of_ble_eq_true rfl) ?_
  have w0 : (0 : Int32).toInt = 0 := by decide +kernel
  have w1 : (1 : Int32).toInt = 1 := by decide +kernel
  refine e_iload_n dX6_noted_0 rfl rfl ?_
  refine e_aload_n dX6_noted_1 rfl rfl ?_
  refine sy_g6_2 wF_X6_23 dX6_noted_2 ?_
  refine ev_as (sy_as G b _ h 0 (by decide)) (ch_g0_7 (c := sc b 0) wF_X6_91 dX6_noted_5 (ev_as (sy_as G b _ h 0 (by decide)).symm ?_))
  refine ev_as (sy_as G b _ h 0 (by decide)) (ch_g4_0 (c := sc b 0) wF_X6_95 dX6_noted_8 (ev_as (sy_as G b _ h 0 (by decide)).symm ?_))
  refine e_invSX (mcY := 1) (msY := 6) (ct_X6_requireElement hl0 (q := sy G b S h) hq) vX6_requireElement wM_X6_100 dX6_noted_11 rfl rfl (Nat.le_of_ble_eq_true rfl) (Nat.le_of_ble_eq_true rfl) rfl rfl (fun E c q => Or.inl q) ?_
  rintro _ _ ⟨⟨rfl, rfl⟩, m1, m2⟩
  refine e_iload_n dX6_noted_14 rfl rfl ?_
  refine e_iconst (v := 0) dX6_noted_15 (by decide) ?_
  refine e_iconst (v := 1) dX6_noted_16 (by decide) ?_
  refine e_invSX (mcY := 1) (msY := 6) (ct_X6_requireWithin hl0 (q := sy G b S h) hq) vX6_requireWithin wM_X6_48 dX6_noted_17 rfl rfl (Nat.le_of_ble_eq_true rfl) (Nat.le_of_ble_eq_true rfl) rfl rfl (fun E c q => Or.inr ⟨q.1, ⟨m1, m2⟩, by have := q.2; omega⟩) ?_
  rintro _ _ ⟨⟨rfl, rfl⟩, g1, g2⟩
  refine e_aload_n dX6_noted_20 rfl rfl ?_
  refine sy_g6_2 wF_X6_23 dX6_noted_21 ?_
  refine ev_as (sy_as G b _ h 0 (by decide)) (ch_g0_7 (c := sc b 0) wF_X6_91 dX6_noted_24 (ev_as (sy_as G b _ h 0 (by decide)).symm ?_))
  refine e_iload_n dX6_noted_27 rfl rfl ?_
  refine e_iload_n dX6_noted_28 rfl rfl ?_
  refine ev_as (sy_as G b _ h 0 (by decide)) ?_
  refine e_invV (mcY := 0) (msY := 0) (ct_X4_tell (c := sc b 0) m1 (Int.lt_of_lt_of_le m2 hv.2.2.2.2.2)) vX4_tell wM_X6_104 (ch_at G (sc b 0) _ (sy G b _ h) 12 (by decide)) rfl dX6_noted_29 rfl rfl (Nat.le_of_ble_eq_true rfl) (Nat.le_of_ble_eq_true rfl) ?_
  rintro _ _ ⟨rfl, rfl⟩
  refine ev_as (sy_as G b _ h 0 (by decide)).symm ?_
  exact e_iret rfl dX6_noted_32 (⟨⟨rfl, rfl⟩, ⟨m1, m2⟩, by omega, by omega⟩)
set_option maxRecDepth 20000 in
theorem ct_X6_waiting (hl0 : l.stackTraces = false) (hq : h.2 = none) (hv : sInv (S.2.2.2 0)) : ev_Ct G l mX6_waiting 7 2 12 [.ref b, .int x, .int y] (sy G b S h) (fun v a => (v = some (.int (if y.toInt = 0 then (S.2.2.2 0).2.2 7 x.toInt.toNat else if y.toInt = 1 then (S.2.2.2 0).2.2 8 x.toInt.toNat else (S.2.2.2 0).2.2 9 x.toInt.toNat)) ∧ a = sy G b S h) ∧ (0 ≤ x.toInt ∧ x.toInt < ((S.2.2.2 0).1 5).toInt) ∧ (0 ≤ y.toInt ∧ y.toInt ≤ 2)) (fun E a => ((E = xN ∧ a = sy G b S h) ∧ ¬ (0 ≤ x.toInt ∧ x.toInt < ((S.2.2.2 0).1 5).toInt)) ∨ ((E = xA ∧ a = sy G b S h) ∧ (0 ≤ x.toInt ∧ x.toInt < ((S.2.2.2 0).1 5).toInt) ∧ ¬ (0 ≤ y.toInt ∧ y.toInt ≤ 2))) := by
  refine ev_Ct.of (by decide +kernel) (Nat.le_of_ble_eq_true rfl) ?_
  have w0 : (0 : Int32).toInt = 0 := by decide +kernel
  have w2 : (2 : Int32).toInt = 2 := by decide +kernel
  refine e_iload_n dX6_waiting_0 rfl rfl ?_
  refine e_aload_n dX6_waiting_1 rfl rfl ?_
  refine sy_g6_2 wF_X6_23 dX6_waiting_2 ?_
  refine ev_as (sy_as G b _ h 0 (by decide)) (ch_g0_6 (c := sc b 0) wF_X6_107 dX6_waiting_5 (ev_as (sy_as G b _ h 0 (by decide)).symm ?_))
  refine ev_as (sy_as G b _ h 0 (by decide)) (ch_g2_0 (c := sc b 0) wF_X6_111 dX6_waiting_8 (ev_as (sy_as G b _ h 0 (by decide)).symm ?_))
  refine e_invSX (mcY := 1) (msY := 6) (ct_X6_requireElement hl0 (q := sy G b S h) hq) vX6_requireElement wM_X6_100 dX6_waiting_11 rfl rfl (Nat.le_of_ble_eq_true rfl) (Nat.le_of_ble_eq_true rfl) rfl rfl (fun E c q => Or.inl q) ?_
  rintro _ _ ⟨⟨rfl, rfl⟩, m1, m2⟩
  refine e_iload_n dX6_waiting_14 rfl rfl ?_
  refine e_iconst (v := 0) dX6_waiting_15 (by decide) ?_
  refine e_iconst (v := 2) dX6_waiting_16 (by decide) ?_
  refine e_invSX (mcY := 1) (msY := 6) (ct_X6_requireWithin hl0 (q := sy G b S h) hq) vX6_requireWithin wM_X6_48 dX6_waiting_17 rfl rfl (Nat.le_of_ble_eq_true rfl) (Nat.le_of_ble_eq_true rfl) rfl rfl (fun E c q => Or.inr ⟨q.1, ⟨m1, m2⟩, by have := q.2; omega⟩) ?_
  rintro _ _ ⟨⟨rfl, rfl⟩, g1, g2⟩
  refine e_aload_n dX6_waiting_20 rfl rfl ?_
  refine sy_g6_2 wF_X6_23 dX6_waiting_21 ?_
  refine ev_as (sy_as G b _ h 0 (by decide)) (ch_g0_6 (c := sc b 0) wF_X6_107 dX6_waiting_24 (ev_as (sy_as G b _ h 0 (by decide)).symm ?_))
  refine e_iload_n dX6_waiting_27 rfl rfl ?_
  refine e_iload_n dX6_waiting_28 rfl rfl ?_
  refine ev_as (sy_as G b _ h 0 (by decide)) ?_
  refine e_invV (mcY := 0) (msY := 0) (ct_X2_tell (c := sc b 0) m1 (Int.lt_of_lt_of_le m2 hv.2.2.1.2) (by omega) (by omega)) vX2_tell wM_X6_114 (ch_at G (sc b 0) _ (sy G b _ h) 8 (by decide)) rfl dX6_waiting_29 rfl rfl (Nat.le_of_ble_eq_true rfl) (Nat.le_of_ble_eq_true rfl) ?_
  rintro _ _ ⟨rfl, rfl⟩
  refine ev_as (sy_as G b _ h 0 (by decide)).symm ?_
  exact e_iret rfl dX6_waiting_32 (⟨⟨rfl, rfl⟩, ⟨m1, m2⟩, by omega, by omega⟩)
set_option maxRecDepth 20000 in
theorem ct_X6_errorOffset  : ev_Ct G l mX6_errorOffset 1 0 0 [.ref b] (sy G b S h) (fun v a => v = some (.int (S.1 1)) ∧ a = sy G b S h) (fun _ _ => False) := by
  refine ev_Ct.of (by decide +kernel) (Nat.le_of_ble_eq_true rfl) ?_
  refine e_aload_n dX6_errorOffset_0 rfl rfl ?_
  refine sy_g6_6 wF_X6_41 dX6_errorOffset_1 ?_
  exact e_iret rfl dX6_errorOffset_4 (⟨rfl, rfl⟩)
set_option maxRecDepth 20000 in
theorem lp_pass {J : ev_K} {k n : Nat} (hJ : 7 ≤ J.2.2.1) (hh : hOk S) (hv : sInv (S.2.2.2 0)) (y : Int32) (d : Nat) (hy : y.toInt = (d : Int)) (hd : d ≤ 50) (hk : ev_V G l mX6_pass J 43 [some (.ref b), none, some (.int (sBrks (S.2.2.2 0) d))] [] (sy G b (ss_C (sKeep S) 0 (tickN d (S.2.2.2 0))) h) k n) : ∀ (r i : Nat) (x : Int32) (z : Int32), r + i = d → x.toInt = (i : Int) → z = sBrks (S.2.2.2 0) i → ev_V G l mX6_pass J 22 [some (.ref b), some (.int y), some (.int z), some (.int x)] [] (sy G b (ss_C (sKeep S) 0 (tickN i (S.2.2.2 0))) h) k n := by
  intro r
  induction r using Nat.strongRecOn with
  | ind r ih =>
    intro i x z
    intro hr hx hz
    have hn : x.toInt.toNat = i := ar_nat hx
    have hvi := sInv_tickN hv i
    refine e_iload_n dX6_pass_22 rfl rfl ?_
    refine e_iload_n dX6_pass_23 rfl rfl ?_
    refine e_icmp_ge (tgt := 43) dX6_pass_24 (by decide) (fun c24 => ?_) (fun c24 => ?_)
    · have hi : i = d := by omega
      subst hi
      subst hz
      exact ev_lc hk ⟨rfl, rfl, trivial⟩
    · refine e_iload_n dX6_pass_27 rfl rfl ?_
      refine e_aload_n dX6_pass_28 rfl rfl ?_
      refine sy_g6_2 wF_X6_23 dX6_pass_29 ?_
      refine ev_as (sy_as G b _ h 0 (by decide)) ?_
      refine e_invV (mcY := 0) (msY := 0) (ct_X0_tick (c := sc b 0) (σ := (ss_C (sKeep S) 0 (tickN i (S.2.2.2 0))).2.2.2 0) hvi) vX0_tick wM_X6_115 (ch_at G (sc b 0) _ (sy G b _ h) 0 (by decide)) rfl dX6_pass_32 rfl rfl (Nat.le_of_ble_eq_true rfl) (Nat.le_trans (Nat.le_of_ble_eq_true rfl) hJ) ?_
      rintro _ _ ⟨rfl, rfl⟩
      refine ev_as (sy_chset G b _ h 0 _ (by decide)) ?_
      refine e_iadd dX6_pass_35 ?_
      refine e_istore_n dX6_pass_36 rfl (Nat.le_of_ble_eq_true rfl) ?_
      refine e_iinc dX6_pass_37 rfl rfl (Nat.le_of_ble_eq_true rfl) ?_
      refine e_goto (tgt := 22) dX6_pass_40 (by decide) ?_
      refine ev_as ?_ (ih (r - 1) (by omega) (i + 1) _ _ (by omega) (ar_inc hx (by omega)) ?_)
      · rw [ss_C_C]; rfl
      · rw [hz]; rfl
set_option maxRecDepth 20000 in
theorem ct_X6_pass (hl0 : l.stackTraces = false) (hq : h.2 = none) (hh : hOk S) (hv : sInv (S.2.2.2 0)) : ev_Ct G l mX6_pass 8 1 6 [.ref b, .int x] (sy G b S h) (fun v a => (v = some (.int (sBrks (S.2.2.2 0) x.toInt.toNat)) ∧ a = sy G b (ss_C (sKeep S) 0 (tickN x.toInt.toNat (S.2.2.2 0))) h) ∧ (1 ≤ x.toInt ∧ x.toInt ≤ 50)) (fun E a => (E = xA ∧ a = sy G b S h) ∧ ¬ (1 ≤ x.toInt ∧ x.toInt ≤ 50)) := by
  refine ev_Ct.of (by decide +kernel) (Nat.le_of_ble_eq_true rfl) ?_
  have w1 : (1 : Int32).toInt = 1 := by decide +kernel
  have w50 : (50 : Int32).toInt = 50 := by decide +kernel
  refine e_iload_n dX6_pass_0 rfl rfl ?_
  refine e_iconst (v := 1) dX6_pass_1 (by decide) ?_
  refine e_bipush (v := 50) dX6_pass_2 (by decide) ?_
  refine e_invSX (mcY := 1) (msY := 6) (ct_X6_requireWithin hl0 (q := sy G b S h) hq) vX6_requireWithin wM_X6_48 dX6_pass_4 rfl rfl (Nat.le_of_ble_eq_true rfl) (Nat.le_of_ble_eq_true rfl) rfl rfl (fun E c q => ⟨q.1, by have := q.2; omega⟩) ?_
  rintro _ _ ⟨⟨rfl, rfl⟩, g1, g2⟩
  refine e_aload_n dX6_pass_7 rfl rfl ?_
  refine sy_g6_4 wF_X6_33 dX6_pass_8 ?_
  refine e_aload_n dX6_pass_11 rfl rfl ?_
  refine sy_g6_2 wF_X6_23 dX6_pass_12 ?_
  refine e_invV (mcY := 0) (msY := 0) (ct_X1_keep hh) vX1_keep wM_X6_60 (sy_at G b _ h 35 (by decide)) rfl dX6_pass_15 rfl rfl (Nat.le_of_ble_eq_true rfl) (Nat.le_of_ble_eq_true rfl) ?_
  rintro _ _ ⟨rfl, rfl⟩
  have k0 := sKeep_0 S
  refine e_iconst (v := 0) dX6_pass_18 (by decide) ?_
  refine e_istore_n dX6_pass_19 rfl (Nat.le_of_ble_eq_true rfl) ?_
  refine e_iconst (v := 0) dX6_pass_20 (by decide) ?_
  refine e_istore_n dX6_pass_21 rfl (Nat.le_of_ble_eq_true rfl) ?_
  refine ev_as (a' := sy G b (ss_C (sKeep S) 0 (tickN 0 (S.2.2.2 0))) h) (by show _ = sy G b (ss_C (sKeep S) 0 (S.2.2.2 0)) h; rw [← k0, ss_C_self]) ?_
  refine ev_loc (L' := [some (.ref b), some (.int x), some (.int 0), some (.int 0)]) ⟨rfl, rfl, rfl, rfl, trivial⟩ ?_
  refine lp_pass (Nat.le_of_ble_eq_true rfl) hh hv x x.toInt.toNat (by omega) (by omega) ?_ x.toInt.toNat 0 _ _ (by omega) ar_0 rfl
  exact e_iload_n dX6_pass_43 rfl rfl (e_iret rfl dX6_pass_44 (by exact ⟨⟨rfl, rfl⟩, by omega, by omega⟩))
end Y2
