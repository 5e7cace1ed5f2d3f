/-! the model's parser: a statement -/
/-- the outcome of a whole statement -/
def oZ (G : ev_G) (c : Nat) (h : ev_H) (T : Int) (S : SS) (μ : MS) (B : Nat → Int32) (n : Nat) (f : Int32) (r : PR) (a : ev_H) : Prop :=
  (r.1 = 0 ∧ B (sk B n r.2.1) = 59 ∧ ∃ (μ' : MS) (s' : Int32), DR T (aS r.2.2 S) μ' ∧ FRM μ μ' ∧ a = mo G c (qS μ' (sk B n r.2.1 + 1) s' 0 f) h) ∨
  (∃ k w : Nat, ((r.1 = 0 ∧ B (sk B n r.2.1) ≠ 59 ∧ k = 2 ∧ w = sk B n r.2.1) ∨ (r.1 ≠ 0 ∧ k = r.1 ∧ w = r.2.1)) ∧ ∃ (μ' : MS) (p' : Nat) (s' e' : Int32), FRM μ μ' ∧ e' ≠ 0 ∧ e'.toInt = -(k : Int) ∧ a = mo G c (qS μ' p' s' e' (Int32.ofNat w)) h)
section P5
variable {G : ev_G} {l : Launch} {c n p q j : Nat} {μ : MS} {h : ev_H} {B : Nat → Int32} {x y z s f e : Int32} {lo hi : Int} {T : Int} {S : SS}
set_option maxRecDepth 20000 in
theorem lp_stmE {J : ev_K} {k m : Nat} {r : PR} {a : ev_H} (hJ : 3 ≤ J.2.2.1) (hB : MB B n μ) (hq : oQ G c h T S μ f r a) (hr : r.1 = 0 → r.2.1 ≤ n) (hF : ∀ a, oZ G c h T S μ B n f r a → J.2.2.2.2.2.1 none a) : ev_V G l mX7_statement J 223 [some (.ref c)] [] a k m := by
  rcases hq with ⟨hr0, μ2, s2, hD2, hF2, rfl⟩ | ⟨hr0, μ2, p2, s2, e2, hF2, he2, hv2, rfl⟩
  · have hr1 := hr hr0
    have hB2 := hF2.mb hB
    refine e_aload_n dX7_statement_223 rfl rfl ?_
    refine e_bipush (v := 59) dX7_statement_224 (by decide) ?_
    refine e_invV (mcY := 0) (msY := 0) (ct_X7_expect1 hB2 hr1 (by decide)) vX7_expect wM_X7_180 (mo_at G c _ h 0 (by decide)) rfl dX7_statement_226 rfl rfl (Nat.le_of_ble_eq_true rfl) (Nat.le_trans (Nat.le_of_ble_eq_true rfl) hJ) ?_
    rintro _ a3 ⟨rfl, hz⟩
    exact e_vret rfl dX7_statement_229 (hF _ (by
        rcases hz with ⟨hz, rfl⟩ | ⟨hz, rfl⟩
        · exact Or.inl ⟨hr0, hz, μ2, s2, hD2, hF2, rfl⟩
        · exact Or.inr ⟨2, _, Or.inl ⟨hr0, hz, rfl, rfl⟩, μ2, _, _, -2, hF2, by decide, by decide +kernel, rfl⟩))
  · refine e_aload_n dX7_statement_223 rfl rfl ?_
    refine e_bipush (v := 59) dX7_statement_224 (by decide) ?_
    refine e_invV (mcY := 0) (msY := 0) (ct_X7_expect0 he2) vX7_expect wM_X7_180 (mo_at G c _ h 0 (by decide)) rfl dX7_statement_226 rfl rfl (Nat.le_of_ble_eq_true rfl) (Nat.le_trans (Nat.le_of_ble_eq_true rfl) hJ) ?_
    rintro _ _ ⟨rfl, rfl⟩
    exact e_vret rfl dX7_statement_229 (hF _ (Or.inr ⟨r.1, r.2.1, Or.inr ⟨hr0, rfl, rfl⟩, μ2, p2, s2, e2, hF2, he2, hv2, rfl⟩))
set_option maxRecDepth 20000 in
theorem ct_X7_statement (hB : MB B n μ) (hp : p ≤ n) (hD : DR T S μ) : ev_Ct G l mX7_statement 7 0 0 [.ref c] (mo G c (qS μ p s 0 f) h) (fun v a => v = none ∧ oZ G c h T S μ B n f (pStm B n (sM (S.2.2.2 1)) ((S.2.2.2 1).1 5).toInt (S.1 9) (S.2.1 1) (S.2.1 2) (sk B n p)) a) (fun _ _ => False) := by
  refine ev_Ct.of (by decide +kernel) (Nat.le_of_ble_eq_true rfl) ?_
  have hn2 := hB.2.1
  have hK := hD.1
  have hR := hK.1
  have hv := hK.2.1
  have hmn := hv.1.nat
  have hM : ((S.2.2.2 1).1 0).toInt = sM (S.2.2.2 1) := rfl
  have z0 := ar_0
  have z1 := ar_1
  have f1 : (μ.2.1 1 (1 : Int32).toInt.toNat).toInt32 = (S.2.2.2 1).1 0 := by rw [z1]; show (μ.2.1 1 1).toInt32 = _; rw [hR.1.2.1, ar_6432]
  have em : ((S.2.2.2 1).1 0 - 1).toInt = sM (S.2.2.2 1) - 1 := by rw [ar_sub (by omega) (by omega), z1, hM]
  have z12 : (12 : Int32).toInt = ((12 : Nat) : Int) := ar_12
  have z48 : (48 : Int32).toInt = ((48 : Nat) : Int) := by decide +kernel
  have w2 : (2 : Int32).toInt = ((2 : Nat) : Int) := by decide +kernel
  have hsr := sk_rng B hp
  have w99 : (99 : Int32).toInt = 99 := by decide +kernel
  have w999 : (999 : Int32).toInt = 999 := by decide +kernel
  have w4' : (4 : Int32).toInt = 4 := by decide +kernel
  have c4n : (4 : Int32).toInt.toNat = 4 := by decide +kernel
  have hok : okR n (sk B n p) (sM (S.2.2.2 1)) ((S.2.2.2 1).1 5).toInt (pStm B n (sM (S.2.2.2 1)) ((S.2.2.2 1).1 5).toInt (S.1 9) (S.2.1 1) (S.2.1 2) (sk B n p)) := ok_Stm hB.2.2.2
  have hB11 : MB B n (ms_I μ 11 1) := (FRM.int μ 1 (Or.inr (Or.inr rfl))).mb hB
  have hpos : (pStm B n (sM (S.2.2.2 1)) ((S.2.2.2 1).1 5).toInt (S.1 9) (S.2.1 1) (S.2.1 2) (sk B n p)).1 = 0 → (pStm B n (sM (S.2.2.2 1)) ((S.2.2.2 1).1 5).toInt (S.1 9) (S.2.1 1) (S.2.1 2) (sk B n p)).2.1 ≤ n := fun q => (hok q).2.1
  refine e_aload_n dX7_statement_0 rfl rfl ?_
  refine e_invV (mcY := 0) (msY := 0) (ct_X7_ahead hB hp) vX7_ahead wM_X7_73 (mo_at G c _ h 0 (by decide)) rfl dX7_statement_1 rfl rfl (Nat.le_of_ble_eq_true rfl) (Nat.le_of_ble_eq_true rfl) ?_
  rintro _ _ ⟨rfl, rfl⟩
  refine e_pop dX7_statement_4 rfl ?_
  refine e_aload_n dX7_statement_5 rfl rfl ?_
  refine qS_g4 wF_X7_52 dX7_statement_6 ?_
  refine e_istore_n dX7_statement_9 rfl (Nat.le_of_ble_eq_true rfl) ?_
  refine e_aload_n dX7_statement_10 rfl rfl ?_
  refine e_ldcS (j := 2) (tx := "mass") dX7_statement_11 (by decide +kernel) ?_
  refine e_invV (mcY := 0) (msY := 0) (ct_X7_takeWord1 hB hsr.2 (j := 2) (by decide)) vX7_takeWord wM_X7_107 (mo_at G c _ h 0 (by decide)) rfl dX7_statement_13 rfl rfl (Nat.le_of_ble_eq_true rfl) (Nat.le_of_ble_eq_true rfl) ?_
  rintro _ _ hc
  rw [sk_sk B hp] at hc
  rcases hc with ⟨hw, rfl, rfl⟩ | ⟨hw, rfl, rfl⟩
  · rw [show ev_len.getD 2 0 = 4 from rfl]
    have hL : sk B n p + 4 ≤ n := wAt_n hB.2.2.2 hw (by decide)
    have w2 := wB_iff.mpr hw
    refine e_if_eq (tgt := 57) dX7_statement_16 (by decide) (fun c16 => ?_) (fun c16 => ?_)
    · first | exact absurd c16 (by decide) | exact absurd rfl c16
    · refine e_aload_n dX7_statement_19 rfl rfl ?_
      refine e_invV (mcY := 0) (msY := 0) (ct_X7_massOfTextL hB hL hD) vX7_massOfText wM_X7_112 (mo_at G c _ h 0 (by decide)) rfl dX7_statement_20 rfl rfl (Nat.le_of_ble_eq_true rfl) (Nat.le_of_ble_eq_true rfl) ?_
      rintro _ _ hc
      generalize er1 : pN B n (0) ((sM (S.2.2.2 1)) - 1) (sk B n p + 4) = r1 at hc
      obtain ⟨k1, q1, m1⟩ := r1
      dsimp only at hc
      rcases hc with ⟨hr1, rfl, rfl⟩ | ⟨hr1, rfl, p1, s1, e1, he1, hv1, rfl⟩
      · subst hr1
        have g1 := pN_0 hB.2.2.2 hL (lo := 0) (hi := (sM (S.2.2.2 1)) - 1) (by rw [er1])
        rw [er1] at g1
        change sk B n p + 4 < q1 ∧ q1 ≤ n ∧ 0 ≤ m1 ∧ m1 ≤ (sM (S.2.2.2 1)) - 1 at g1
        refine e_istore_n dX7_statement_23 rfl (Nat.le_of_ble_eq_true rfl) ?_
        refine e_aload_n dX7_statement_24 rfl rfl ?_
        refine e_iconst (v := 1) dX7_statement_25 (by decide) ?_
        refine e_bipush (v := 99) dX7_statement_26 (by decide) ?_
        refine e_invV (mcY := 0) (msY := 0) (ct_num (lo := 1) (hi := 99) hB g1.2.1 ar_1 w99 (by omega) (by omega)) vX7_number wM_X7_102 (mo_at G c _ h 0 (by decide)) rfl dX7_statement_28 rfl rfl (Nat.le_of_ble_eq_true rfl) (Nat.le_of_ble_eq_true rfl) ?_
        rintro _ _ hc
        generalize er2 : pN B n (1) (99) (q1) = r2 at hc
        obtain ⟨k2, q2, m2⟩ := r2
        dsimp only at hc
        rcases hc with ⟨hr2, rfl, rfl⟩ | ⟨hr2, rfl, p2, s2, e2, he2, hv2, rfl⟩
        · subst hr2
          have g2 := pN_0 hB.2.2.2 g1.2.1 (lo := 1) (hi := 99) (by rw [er2])
          rw [er2] at g2
          change q1 < q2 ∧ q2 ≤ n ∧ 1 ≤ m2 ∧ m2 ≤ 99 at g2
          refine e_istore_n dX7_statement_31 rfl (Nat.le_of_ble_eq_true rfl) ?_
          refine e_aload_n dX7_statement_32 rfl rfl ?_
          refine e_invV (mcY := 0) (msY := 0) (ct_X7_isGood1) vX7_isGood wM_X7_69 (mo_at G c _ h 0 (by decide)) rfl dX7_statement_33 rfl rfl (Nat.le_of_ble_eq_true rfl) (Nat.le_of_ble_eq_true rfl) ?_
          rintro _ _ ⟨rfl, rfl⟩
          refine e_if_eq (tgt := 54) dX7_statement_36 (by decide) (fun c36 => ?_) (fun c36 => ?_)
          · first | exact absurd c36 (by decide) | exact absurd rfl c36
          · refine e_aload_n dX7_statement_39 rfl rfl ?_
            refine qS_g9 wF_X7_21 dX7_statement_40 ?_
            refine e_bipush (v := 12) dX7_statement_43 (by decide) ?_
            refine e_iconst (v := 3) dX7_statement_45 (by decide) ?_
            refine e_iload_n dX7_statement_46 rfl rfl ?_
            refine e_imul dX7_statement_47 ?_
            refine e_iadd dX7_statement_48 ?_
            refine e_iconst (v := 0) dX7_statement_49 (by decide) ?_
            refine e_iadd dX7_statement_50 ?_
            refine e_iload_n dX7_statement_51 rfl rfl ?_
            refine e_i2l dX7_statement_52 ?_
            refine qS_s3 (by rw [(ar_ix (j := (m1).toNat) (w := 0) z12 (show (Int32.ofInt m1).toInt = ((m1).toNat : Int) by rw [ar_ofI (by omega) (by omega)]; omega) ar_0 (by omega) (by omega) (by omega))]; omega) (by rw [(ar_ix (j := (m1).toNat) (w := 0) z12 (show (Int32.ofInt m1).toInt = ((m1).toNat : Int) by rw [ar_ofI (by omega) (by omega)]; omega) ar_0 (by omega) (by omega) (by omega))]; omega) dX7_statement_53 ?_
            refine e_goto (tgt := 223) dX7_statement_54 (by decide) ?_
            first
              | exact ev_lc (lp_stmE (Nat.le_of_ble_eq_true rfl) hB hq hpos (fun a hz => ⟨rfl, hz⟩)) ⟨rfl, trivial⟩
              | exact ev_lc (lp_stmE (Nat.le_of_ble_eq_true rfl) hB (oQ_no (by unfold pStm; rw [w2, cond_true]; unfold pWt; rw [er1]; exact pb_no hr1) hr1 (FRM.refl μ) he1 hv1 rfl) hpos (fun a hz => ⟨rfl, hz⟩)) ⟨rfl, trivial⟩
              | exact ev_lc (lp_stmE (Nat.le_of_ble_eq_true rfl) hB (oQ_no (by unfold pStm; rw [w2, cond_true]; unfold pWt; rw [er1, pb_ok rfl]; show pb (pN B n 1 99 q1) _ = _; rw [er2]; exact pb_no hr2) hr2 (FRM.refl μ) he2 hv2 rfl) hpos (fun a hz => ⟨rfl, hz⟩)) ⟨rfl, trivial⟩
              | (have a2 : (Int32.ofInt m2).toInt = m2 := ar_ofI (by omega) (by omega)
                 refine ev_lc (lp_stmE (Nat.le_of_ble_eq_true rfl) hB (oQ_ok (s' := Int32.ofNat (sk B n q1)) (t := (0, m1, m2, 0)) (by unfold pStm; rw [w2, cond_true]; unfold pWt; rw [er1, pb_ok rfl]; show pb (pN B n 1 99 q1) _ = _; rw [er2]; rfl) (hD.s0 (a := m1) (b := m2) (d := 0) (KR.wt (y := Int32.ofInt m2) (j := m1.toNat) hK (by omega) (by omega) (by omega))) (FRM.row μ _) ?_) hpos (fun a hz => ⟨rfl, hz⟩)) ⟨rfl, trivial⟩
                 rw [ar_nat (ar_ix (j := (m1).toNat) (w := 0) z12 (show (Int32.ofInt m1).toInt = ((m1).toNat : Int) by rw [ar_ofI (by omega) (by omega)]; omega) ar_0 (by omega) (by omega) (by omega))])
              | exact ev_lc (lp_stmE (Nat.le_of_ble_eq_true rfl) hB (oQ_no (k := 2) (by unfold pStm; rw [n2, cond_false, n3, cond_false, n4, cond_false, n6, cond_false, w7, cond_true]; unfold pDm; exact if_neg hdt) (by decide) ((FRM.int μ (k := 11) 1 (by decide)).trans (FRM.row _ _)) (by decide) (by decide +kernel) rfl) hpos (fun a hz => ⟨rfl, hz⟩)) ⟨rfl, trivial⟩
              | exact ev_lc (lp_stmE (Nat.le_of_ble_eq_true rfl) hB (oQ_no (by unfold pStm; rw [n2, cond_false, n3, cond_false, n4, cond_false, n6, cond_false, w7, cond_true]; unfold pDm; rw [if_pos hdt, er1]; exact pb_no hr1) hr1 ((FRM.int μ (k := 11) 1 (by decide)).trans (FRM.row _ _)) he1 hv1 rfl) hpos (fun a hz => ⟨rfl, hz⟩)) ⟨rfl, trivial⟩
              | (have a1 : (Int32.ofInt m1).toInt = m1 := ar_ofI (by omega) (by omega)
                 exact ev_lc (lp_stmE (Nat.le_of_ble_eq_true rfl) hB (oQ_ok (t := (4, m1, 0, 0)) (by unfold pStm; rw [n2, cond_false, n3, cond_false, n4, cond_false, n6, cond_false, w7, cond_true]; unfold pDm; rw [if_pos hdt, er1]; rfl) (hD.s4 (a := m1) (b := 0) (d := 0) (KR.damp (y := Int32.ofInt m1) hK (by omega) (by omega))) ((FRM.int μ (k := 11) 1 (by decide)).trans (FRM.row _ _)) (by rw [c4n]; rfl)) hpos (fun a hz => ⟨rfl, hz⟩)) ⟨rfl, trivial⟩)
              | exact ev_lc (lp_stmE (Nat.le_of_ble_eq_true rfl) hB (oQ_no (k := 2) (by unfold pStm; rw [n2, cond_false, n3, cond_false, n4, cond_false, n6, cond_false, n7, cond_false, n8, cond_false, n9, cond_false, n10, cond_false, n13, cond_false]) (by decide) (FRM.refl μ) (by decide) (by decide +kernel) rfl) hpos (fun a hz => ⟨rfl, hz⟩)) ⟨rfl, trivial⟩
        · refine e_istore_n dX7_statement_31 rfl (Nat.le_of_ble_eq_true rfl) ?_
          refine e_aload_n dX7_statement_32 rfl rfl ?_
          refine e_invV (mcY := 0) (msY := 0) (ct_X7_isGood0 he2) vX7_isGood wM_X7_69 (mo_at G c _ h 0 (by decide)) rfl dX7_statement_33 rfl rfl (Nat.le_of_ble_eq_true rfl) (Nat.le_of_ble_eq_true rfl) ?_
          rintro _ _ ⟨rfl, rfl⟩
          refine e_if_eq (tgt := 54) dX7_statement_36 (by decide) (fun c36 => ?_) (fun c36 => ?_)
          · refine e_goto (tgt := 223) dX7_statement_54 (by decide) ?_
            first
              | exact ev_lc (lp_stmE (Nat.le_of_ble_eq_true rfl) hB hq hpos (fun a hz => ⟨rfl, hz⟩)) ⟨rfl, trivial⟩
              | exact ev_lc (lp_stmE (Nat.le_of_ble_eq_true rfl) hB (oQ_no (by unfold pStm; rw [w2, cond_true]; unfold pWt; rw [er1]; exact pb_no hr1) hr1 (FRM.refl μ) he1 hv1 rfl) hpos (fun a hz => ⟨rfl, hz⟩)) ⟨rfl, trivial⟩
              | exact ev_lc (lp_stmE (Nat.le_of_ble_eq_true rfl) hB (oQ_no (by unfold pStm; rw [w2, cond_true]; unfold pWt; rw [er1, pb_ok rfl]; show pb (pN B n 1 99 q1) _ = _; rw [er2]; exact pb_no hr2) hr2 (FRM.refl μ) he2 hv2 rfl) hpos (fun a hz => ⟨rfl, hz⟩)) ⟨rfl, trivial⟩
              | (have a2 : (Int32.ofInt m2).toInt = m2 := ar_ofI (by omega) (by omega)
                 refine ev_lc (lp_stmE (Nat.le_of_ble_eq_true rfl) hB (oQ_ok (s' := Int32.ofNat (sk B n q1)) (t := (0, m1, m2, 0)) (by unfold pStm; rw [w2, cond_true]; unfold pWt; rw [er1, pb_ok rfl]; show pb (pN B n 1 99 q1) _ = _; rw [er2]; rfl) (hD.s0 (a := m1) (b := m2) (d := 0) (KR.wt (y := Int32.ofInt m2) (j := m1.toNat) hK (by omega) (by omega) (by omega))) (FRM.row μ _) ?_) hpos (fun a hz => ⟨rfl, hz⟩)) ⟨rfl, trivial⟩
                 rw [ar_nat (ar_ix (j := (m1).toNat) (w := 0) z12 (show (Int32.ofInt m1).toInt = ((m1).toNat : Int) by rw [ar_ofI (by omega) (by omega)]; omega) ar_0 (by omega) (by omega) (by omega))])
              | exact ev_lc (lp_stmE (Nat.le_of_ble_eq_true rfl) hB (oQ_no (k := 2) (by unfold pStm; rw [n2, cond_false, n3, cond_false, n4, cond_false, n6, cond_false, w7, cond_true]; unfold pDm; exact if_neg hdt) (by decide) ((FRM.int μ (k := 11) 1 (by decide)).trans (FRM.row _ _)) (by decide) (by decide +kernel) rfl) hpos (fun a hz => ⟨rfl, hz⟩)) ⟨rfl, trivial⟩
              | exact ev_lc (lp_stmE (Nat.le_of_ble_eq_true rfl) hB (oQ_no (by unfold pStm; rw [n2, cond_false, n3, cond_false, n4, cond_false, n6, cond_false, w7, cond_true]; unfold pDm; rw [if_pos hdt, er1]; exact pb_no hr1) hr1 ((FRM.int μ (k := 11) 1 (by decide)).trans (FRM.row _ _)) he1 hv1 rfl) hpos (fun a hz => ⟨rfl, hz⟩)) ⟨rfl, trivial⟩
              | (have a1 : (Int32.ofInt m1).toInt = m1 := ar_ofI (by omega) (by omega)
                 exact ev_lc (lp_stmE (Nat.le_of_ble_eq_true rfl) hB (oQ_ok (t := (4, m1, 0, 0)) (by unfold pStm; rw [n2, cond_false, n3, cond_false, n4, cond_false, n6, cond_false, w7, cond_true]; unfold pDm; rw [if_pos hdt, er1]; rfl) (hD.s4 (a := m1) (b := 0) (d := 0) (KR.damp (y := Int32.ofInt m1) hK (by omega) (by omega))) ((FRM.int μ (k := 11) 1 (by decide)).trans (FRM.row _ _)) (by rw [c4n]; rfl)) hpos (fun a hz => ⟨rfl, hz⟩)) ⟨rfl, trivial⟩)
              | exact ev_lc (lp_stmE (Nat.le_of_ble_eq_true rfl) hB (oQ_no (k := 2) (by unfold pStm; rw [n2, cond_false, n3, cond_false, n4, cond_false, n6, cond_false, n7, cond_false, n8, cond_false, n9, cond_false, n10, cond_false, n13, cond_false]) (by decide) (FRM.refl μ) (by decide) (by decide +kernel) rfl) hpos (fun a hz => ⟨rfl, hz⟩)) ⟨rfl, trivial⟩
          · first | exact absurd c36 (by decide) | exact absurd rfl c36
      · refine e_istore_n dX7_statement_23 rfl (Nat.le_of_ble_eq_true rfl) ?_
        refine e_aload_n dX7_statement_24 rfl rfl ?_
        refine e_iconst (v := 1) dX7_statement_25 (by decide) ?_
        refine e_bipush (v := 99) dX7_statement_26 (by decide) ?_
        refine e_invV (mcY := 0) (msY := 0) (ct_X7_number0 he1) vX7_number wM_X7_102 (mo_at G c _ h 0 (by decide)) rfl dX7_statement_28 rfl rfl (Nat.le_of_ble_eq_true rfl) (Nat.le_of_ble_eq_true rfl) ?_
        rintro _ _ ⟨rfl, rfl⟩
        refine e_istore_n dX7_statement_31 rfl (Nat.le_of_ble_eq_true rfl) ?_
        refine e_aload_n dX7_statement_32 rfl rfl ?_
        refine e_invV (mcY := 0) (msY := 0) (ct_X7_isGood0 he1) vX7_isGood wM_X7_69 (mo_at G c _ h 0 (by decide)) rfl dX7_statement_33 rfl rfl (Nat.le_of_ble_eq_true rfl) (Nat.le_of_ble_eq_true rfl) ?_
        rintro _ _ ⟨rfl, rfl⟩
        refine e_if_eq (tgt := 54) dX7_statement_36 (by decide) (fun c36 => ?_) (fun c36 => ?_)
        · refine e_goto (tgt := 223) dX7_statement_54 (by decide) ?_
          first
            | exact ev_lc (lp_stmE (Nat.le_of_ble_eq_true rfl) hB hq hpos (fun a hz => ⟨rfl, hz⟩)) ⟨rfl, trivial⟩
            | exact ev_lc (lp_stmE (Nat.le_of_ble_eq_true rfl) hB (oQ_no (by unfold pStm; rw [w2, cond_true]; unfold pWt; rw [er1]; exact pb_no hr1) hr1 (FRM.refl μ) he1 hv1 rfl) hpos (fun a hz => ⟨rfl, hz⟩)) ⟨rfl, trivial⟩
            | exact ev_lc (lp_stmE (Nat.le_of_ble_eq_true rfl) hB (oQ_no (by unfold pStm; rw [w2, cond_true]; unfold pWt; rw [er1, pb_ok rfl]; show pb (pN B n 1 99 q1) _ = _; rw [er2]; exact pb_no hr2) hr2 (FRM.refl μ) he2 hv2 rfl) hpos (fun a hz => ⟨rfl, hz⟩)) ⟨rfl, trivial⟩
            | (have a2 : (Int32.ofInt m2).toInt = m2 := ar_ofI (by omega) (by omega)
               refine ev_lc (lp_stmE (Nat.le_of_ble_eq_true rfl) hB (oQ_ok (s' := Int32.ofNat (sk B n q1)) (t := (0, m1, m2, 0)) (by unfold pStm; rw [w2, cond_true]; unfold pWt; rw [er1, pb_ok rfl]; show pb (pN B n 1 99 q1) _ = _; rw [er2]; rfl) (hD.s0 (a := m1) (b := m2) (d := 0) (KR.wt (y := Int32.ofInt m2) (j := m1.toNat) hK (by omega) (by omega) (by omega))) (FRM.row μ _) ?_) hpos (fun a hz => ⟨rfl, hz⟩)) ⟨rfl, trivial⟩
               rw [ar_nat (ar_ix (j := (m1).toNat) (w := 0) z12 (show (Int32.ofInt m1).toInt = ((m1).toNat : Int) by rw [ar_ofI (by omega) (by omega)]; omega) ar_0 (by omega) (by omega) (by omega))])
            | exact ev_lc (lp_stmE (Nat.le_of_ble_eq_true rfl) hB (oQ_no (k := 2) (by unfold pStm; rw [n2, cond_false, n3, cond_false, n4, cond_false, n6, cond_false, w7, cond_true]; unfold pDm; exact if_neg hdt) (by decide) ((FRM.int μ (k := 11) 1 (by decide)).trans (FRM.row _ _)) (by decide) (by decide +kernel) rfl) hpos (fun a hz => ⟨rfl, hz⟩)) ⟨rfl, trivial⟩
            | exact ev_lc (lp_stmE (Nat.le_of_ble_eq_true rfl) hB (oQ_no (by unfold pStm; rw [n2, cond_false, n3, cond_false, n4, cond_false, n6, cond_false, w7, cond_true]; unfold pDm; rw [if_pos hdt, er1]; exact pb_no hr1) hr1 ((FRM.int μ (k := 11) 1 (by decide)).trans (FRM.row _ _)) he1 hv1 rfl) hpos (fun a hz => ⟨rfl, hz⟩)) ⟨rfl, trivial⟩
            | (have a1 : (Int32.ofInt m1).toInt = m1 := ar_ofI (by omega) (by omega)
               exact ev_lc (lp_stmE (Nat.le_of_ble_eq_true rfl) hB (oQ_ok (t := (4, m1, 0, 0)) (by unfold pStm; rw [n2, cond_false, n3, cond_false, n4, cond_false, n6, cond_false, w7, cond_true]; unfold pDm; rw [if_pos hdt, er1]; rfl) (hD.s4 (a := m1) (b := 0) (d := 0) (KR.damp (y := Int32.ofInt m1) hK (by omega) (by omega))) ((FRM.int μ (k := 11) 1 (by decide)).trans (FRM.row _ _)) (by rw [c4n]; rfl)) hpos (fun a hz => ⟨rfl, hz⟩)) ⟨rfl, trivial⟩)
            | exact ev_lc (lp_stmE (Nat.le_of_ble_eq_true rfl) hB (oQ_no (k := 2) (by unfold pStm; rw [n2, cond_false, n3, cond_false, n4, cond_false, n6, cond_false, n7, cond_false, n8, cond_false, n9, cond_false, n10, cond_false, n13, cond_false]) (by decide) (FRM.refl μ) (by decide) (by decide +kernel) rfl) hpos (fun a hz => ⟨rfl, hz⟩)) ⟨rfl, trivial⟩
        · first | exact absurd c36 (by decide) | exact absurd rfl c36
  · have n2 := wB_no hw
    clear hw
    refine e_if_eq (tgt := 57) dX7_statement_16 (by decide) (fun c16 => ?_) (fun c16 => ?_)
    · refine e_aload_n dX7_statement_57 rfl rfl ?_
      refine e_ldcS (j := 3) (tx := "masses") dX7_statement_58 (by decide +kernel) ?_
      refine e_invV (mcY := 0) (msY := 0) (ct_X7_takeWord1 hB hsr.2 (j := 3) (by decide)) vX7_takeWord wM_X7_107 (mo_at G c _ h 0 (by decide)) rfl dX7_statement_60 rfl rfl (Nat.le_of_ble_eq_true rfl) (Nat.le_of_ble_eq_true rfl) ?_
      rintro _ _ hc
      rw [sk_sk B hp] at hc
      rcases hc with ⟨hw, rfl, rfl⟩ | ⟨hw, rfl, rfl⟩
      · rw [show ev_len.getD 3 0 = 6 from rfl]
        have hL : sk B n p + 6 ≤ n := wAt_n hB.2.2.2 hw (by decide)
        have w3 := wB_iff.mpr hw
        refine e_if_eq (tgt := 73) dX7_statement_63 (by decide) (fun c63 => ?_) (fun c63 => ?_)
        · first | exact absurd c63 (by decide) | exact absurd rfl c63
        · refine e_aload_n dX7_statement_66 rfl rfl ?_
          refine e_invV (mcY := 0) (msY := 0) (ct_X7_readMasses hB hL hD) vX7_readMasses wM_X7_140 (mo_at G c _ h 0 (by decide)) rfl dX7_statement_67 rfl rfl (Nat.le_of_ble_eq_true rfl) (Nat.le_of_ble_eq_true rfl) ?_
          rintro _ a2 ⟨rfl, hq⟩
          have er : pStm B n (sM (S.2.2.2 1)) ((S.2.2.2 1).1 5).toInt (S.1 9) (S.2.1 1) (S.2.1 2) (sk B n p) = pAW B n (sk B n p + 6) := by unfold pStm; rw [n2, cond_false, w3, cond_true]
          rw [← er] at hq
          refine e_goto (tgt := 223) dX7_statement_70 (by decide) ?_
          first
            | exact ev_lc (lp_stmE (Nat.le_of_ble_eq_true rfl) hB hq hpos (fun a hz => ⟨rfl, hz⟩)) ⟨rfl, trivial⟩
            | exact ev_lc (lp_stmE (Nat.le_of_ble_eq_true rfl) hB (oQ_no (by unfold pStm; rw [w2, cond_true]; unfold pWt; rw [er1]; exact pb_no hr1) hr1 (FRM.refl μ) he1 hv1 rfl) hpos (fun a hz => ⟨rfl, hz⟩)) ⟨rfl, trivial⟩
            | exact ev_lc (lp_stmE (Nat.le_of_ble_eq_true rfl) hB (oQ_no (by unfold pStm; rw [w2, cond_true]; unfold pWt; rw [er1, pb_ok rfl]; show pb (pN B n 1 99 q1) _ = _; rw [er2]; exact pb_no hr2) hr2 (FRM.refl μ) he2 hv2 rfl) hpos (fun a hz => ⟨rfl, hz⟩)) ⟨rfl, trivial⟩
            | (have a2 : (Int32.ofInt m2).toInt = m2 := ar_ofI (by omega) (by omega)
               refine ev_lc (lp_stmE (Nat.le_of_ble_eq_true rfl) hB (oQ_ok (s' := Int32.ofNat (sk B n q1)) (t := (0, m1, m2, 0)) (by unfold pStm; rw [w2, cond_true]; unfold pWt; rw [er1, pb_ok rfl]; show pb (pN B n 1 99 q1) _ = _; rw [er2]; rfl) (hD.s0 (a := m1) (b := m2) (d := 0) (KR.wt (y := Int32.ofInt m2) (j := m1.toNat) hK (by omega) (by omega) (by omega))) (FRM.row μ _) ?_) hpos (fun a hz => ⟨rfl, hz⟩)) ⟨rfl, trivial⟩
               rw [ar_nat (ar_ix (j := (m1).toNat) (w := 0) z12 (show (Int32.ofInt m1).toInt = ((m1).toNat : Int) by rw [ar_ofI (by omega) (by omega)]; omega) ar_0 (by omega) (by omega) (by omega))])
            | exact ev_lc (lp_stmE (Nat.le_of_ble_eq_true rfl) hB (oQ_no (k := 2) (by unfold pStm; rw [n2, cond_false, n3, cond_false, n4, cond_false, n6, cond_false, w7, cond_true]; unfold pDm; exact if_neg hdt) (by decide) ((FRM.int μ (k := 11) 1 (by decide)).trans (FRM.row _ _)) (by decide) (by decide +kernel) rfl) hpos (fun a hz => ⟨rfl, hz⟩)) ⟨rfl, trivial⟩
            | exact ev_lc (lp_stmE (Nat.le_of_ble_eq_true rfl) hB (oQ_no (by unfold pStm; rw [n2, cond_false, n3, cond_false, n4, cond_false, n6, cond_false, w7, cond_true]; unfold pDm; rw [if_pos hdt, er1]; exact pb_no hr1) hr1 ((FRM.int μ (k := 11) 1 (by decide)).trans (FRM.row _ _)) he1 hv1 rfl) hpos (fun a hz => ⟨rfl, hz⟩)) ⟨rfl, trivial⟩
            | (have a1 : (Int32.ofInt m1).toInt = m1 := ar_ofI (by omega) (by omega)
               exact ev_lc (lp_stmE (Nat.le_of_ble_eq_true rfl) hB (oQ_ok (t := (4, m1, 0, 0)) (by unfold pStm; rw [n2, cond_false, n3, cond_false, n4, cond_false, n6, cond_false, w7, cond_true]; unfold pDm; rw [if_pos hdt, er1]; rfl) (hD.s4 (a := m1) (b := 0) (d := 0) (KR.damp (y := Int32.ofInt m1) hK (by omega) (by omega))) ((FRM.int μ (k := 11) 1 (by decide)).trans (FRM.row _ _)) (by rw [c4n]; rfl)) hpos (fun a hz => ⟨rfl, hz⟩)) ⟨rfl, trivial⟩)
            | exact ev_lc (lp_stmE (Nat.le_of_ble_eq_true rfl) hB (oQ_no (k := 2) (by unfold pStm; rw [n2, cond_false, n3, cond_false, n4, cond_false, n6, cond_false, n7, cond_false, n8, cond_false, n9, cond_false, n10, cond_false, n13, cond_false]) (by decide) (FRM.refl μ) (by decide) (by decide +kernel) rfl) hpos (fun a hz => ⟨rfl, hz⟩)) ⟨rfl, trivial⟩
      · have n3 := wB_no hw
        clear hw
        refine e_if_eq (tgt := 73) dX7_statement_63 (by decide) (fun c63 => ?_) (fun c63 => ?_)
        · refine e_aload_n dX7_statement_73 rfl rfl ?_
          refine e_ldcS (j := 4) (tx := "spring") dX7_statement_74 (by decide +kernel) ?_
          refine e_invV (mcY := 0) (msY := 0) (ct_X7_takeWord1 hB hsr.2 (j := 4) (by decide)) vX7_takeWord wM_X7_107 (mo_at G c _ h 0 (by decide)) rfl dX7_statement_76 rfl rfl (Nat.le_of_ble_eq_true rfl) (Nat.le_of_ble_eq_true rfl) ?_
          rintro _ _ hc
          rw [sk_sk B hp] at hc
          rcases hc with ⟨hw, rfl, rfl⟩ | ⟨hw, rfl, rfl⟩
          · rw [show ev_len.getD 4 0 = 6 from rfl]
            have hL : sk B n p + 6 ≤ n := wAt_n hB.2.2.2 hw (by decide)
            have w4 := wB_iff.mpr hw
            refine e_if_eq (tgt := 89) dX7_statement_79 (by decide) (fun c79 => ?_) (fun c79 => ?_)
            · first | exact absurd c79 (by decide) | exact absurd rfl c79
            · refine e_aload_n dX7_statement_82 rfl rfl ?_
              refine e_invV (mcY := 0) (msY := 0) (ct_X7_readSpring hB hL hD) vX7_readSpring wM_X7_145 (mo_at G c _ h 0 (by decide)) rfl dX7_statement_83 rfl rfl (Nat.le_of_ble_eq_true rfl) (Nat.le_of_ble_eq_true rfl) ?_
              rintro _ a2 ⟨rfl, hq⟩
              have er : pStm B n (sM (S.2.2.2 1)) ((S.2.2.2 1).1 5).toInt (S.1 9) (S.2.1 1) (S.2.1 2) (sk B n p) = pSp B n (sM (S.2.2.2 1)) (sk B n p + 6) := by unfold pStm; rw [n2, cond_false, n3, cond_false, w4, cond_true]
              rw [← er] at hq
              refine e_goto (tgt := 223) dX7_statement_86 (by decide) ?_
              first
                | exact ev_lc (lp_stmE (Nat.le_of_ble_eq_true rfl) hB hq hpos (fun a hz => ⟨rfl, hz⟩)) ⟨rfl, trivial⟩
                | exact ev_lc (lp_stmE (Nat.le_of_ble_eq_true rfl) hB (oQ_no (by unfold pStm; rw [w2, cond_true]; unfold pWt; rw [er1]; exact pb_no hr1) hr1 (FRM.refl μ) he1 hv1 rfl) hpos (fun a hz => ⟨rfl, hz⟩)) ⟨rfl, trivial⟩
                | exact ev_lc (lp_stmE (Nat.le_of_ble_eq_true rfl) hB (oQ_no (by unfold pStm; rw [w2, cond_true]; unfold pWt; rw [er1, pb_ok rfl]; show pb (pN B n 1 99 q1) _ = _; rw [er2]; exact pb_no hr2) hr2 (FRM.refl μ) he2 hv2 rfl) hpos (fun a hz => ⟨rfl, hz⟩)) ⟨rfl, trivial⟩
                | (have a2 : (Int32.ofInt m2).toInt = m2 := ar_ofI (by omega) (by omega)
                   refine ev_lc (lp_stmE (Nat.le_of_ble_eq_true rfl) hB (oQ_ok (s' := Int32.ofNat (sk B n q1)) (t := (0, m1, m2, 0)) (by unfold pStm; rw [w2, cond_true]; unfold pWt; rw [er1, pb_ok rfl]; show pb (pN B n 1 99 q1) _ = _; rw [er2]; rfl) (hD.s0 (a := m1) (b := m2) (d := 0) (KR.wt (y := Int32.ofInt m2) (j := m1.toNat) hK (by omega) (by omega) (by omega))) (FRM.row μ _) ?_) hpos (fun a hz => ⟨rfl, hz⟩)) ⟨rfl, trivial⟩
                   rw [ar_nat (ar_ix (j := (m1).toNat) (w := 0) z12 (show (Int32.ofInt m1).toInt = ((m1).toNat : Int) by rw [ar_ofI (by omega) (by omega)]; omega) ar_0 (by omega) (by omega) (by omega))])
                | exact ev_lc (lp_stmE (Nat.le_of_ble_eq_true rfl) hB (oQ_no (k := 2) (by unfold pStm; rw [n2, cond_false, n3, cond_false, n4, cond_false, n6, cond_false, w7, cond_true]; unfold pDm; exact if_neg hdt) (by decide) ((FRM.int μ (k := 11) 1 (by decide)).trans (FRM.row _ _)) (by decide) (by decide +kernel) rfl) hpos (fun a hz => ⟨rfl, hz⟩)) ⟨rfl, trivial⟩
                | exact ev_lc (lp_stmE (Nat.le_of_ble_eq_true rfl) hB (oQ_no (by unfold pStm; rw [n2, cond_false, n3, cond_false, n4, cond_false, n6, cond_false, w7, cond_true]; unfold pDm; rw [if_pos hdt, er1]; exact pb_no hr1) hr1 ((FRM.int μ (k := 11) 1 (by decide)).trans (FRM.row _ _)) he1 hv1 rfl) hpos (fun a hz => ⟨rfl, hz⟩)) ⟨rfl, trivial⟩
                | (have a1 : (Int32.ofInt m1).toInt = m1 := ar_ofI (by omega) (by omega)
                   exact ev_lc (lp_stmE (Nat.le_of_ble_eq_true rfl) hB (oQ_ok (t := (4, m1, 0, 0)) (by unfold pStm; rw [n2, cond_false, n3, cond_false, n4, cond_false, n6, cond_false, w7, cond_true]; unfold pDm; rw [if_pos hdt, er1]; rfl) (hD.s4 (a := m1) (b := 0) (d := 0) (KR.damp (y := Int32.ofInt m1) hK (by omega) (by omega))) ((FRM.int μ (k := 11) 1 (by decide)).trans (FRM.row _ _)) (by rw [c4n]; rfl)) hpos (fun a hz => ⟨rfl, hz⟩)) ⟨rfl, trivial⟩)
                | exact ev_lc (lp_stmE (Nat.le_of_ble_eq_true rfl) hB (oQ_no (k := 2) (by unfold pStm; rw [n2, cond_false, n3, cond_false, n4, cond_false, n6, cond_false, n7, cond_false, n8, cond_false, n9, cond_false, n10, cond_false, n13, cond_false]) (by decide) (FRM.refl μ) (by decide) (by decide +kernel) rfl) hpos (fun a hz => ⟨rfl, hz⟩)) ⟨rfl, trivial⟩
          · have n4 := wB_no hw
            clear hw
            refine e_if_eq (tgt := 89) dX7_statement_79 (by decide) (fun c79 => ?_) (fun c79 => ?_)
            · refine e_aload_n dX7_statement_89 rfl rfl ?_
              refine e_ldcS (j := 6) (tx := "springs") dX7_statement_90 (by decide +kernel) ?_
              refine e_invV (mcY := 0) (msY := 0) (ct_X7_takeWord1 hB hsr.2 (j := 6) (by decide)) vX7_takeWord wM_X7_107 (mo_at G c _ h 0 (by decide)) rfl dX7_statement_92 rfl rfl (Nat.le_of_ble_eq_true rfl) (Nat.le_of_ble_eq_true rfl) ?_
              rintro _ _ hc
              rw [sk_sk B hp] at hc
              rcases hc with ⟨hw, rfl, rfl⟩ | ⟨hw, rfl, rfl⟩
              · rw [show ev_len.getD 6 0 = 7 from rfl]
                have hL : sk B n p + 7 ≤ n := wAt_n hB.2.2.2 hw (by decide)
                have w6 := wB_iff.mpr hw
                refine e_if_eq (tgt := 105) dX7_statement_95 (by decide) (fun c95 => ?_) (fun c95 => ?_)
                · first | exact absurd c95 (by decide) | exact absurd rfl c95
                · refine e_aload_n dX7_statement_98 rfl rfl ?_
                  refine e_invV (mcY := 0) (msY := 0) (ct_X7_readSprings hB hL hD) vX7_readSprings wM_X7_150 (mo_at G c _ h 0 (by decide)) rfl dX7_statement_99 rfl rfl (Nat.le_of_ble_eq_true rfl) (Nat.le_of_ble_eq_true rfl) ?_
                  rintro _ a2 ⟨rfl, hq⟩
                  have er : pStm B n (sM (S.2.2.2 1)) ((S.2.2.2 1).1 5).toInt (S.1 9) (S.2.1 1) (S.2.1 2) (sk B n p) = pAS B n (sk B n p + 7) := by unfold pStm; rw [n2, cond_false, n3, cond_false, n4, cond_false, w6, cond_true]
                  rw [← er] at hq
                  refine e_goto (tgt := 223) dX7_statement_102 (by decide) ?_
                  first
                    | exact ev_lc (lp_stmE (Nat.le_of_ble_eq_true rfl) hB hq hpos (fun a hz => ⟨rfl, hz⟩)) ⟨rfl, trivial⟩
                    | exact ev_lc (lp_stmE (Nat.le_of_ble_eq_true rfl) hB (oQ_no (by unfold pStm; rw [w2, cond_true]; unfold pWt; rw [er1]; exact pb_no hr1) hr1 (FRM.refl μ) he1 hv1 rfl) hpos (fun a hz => ⟨rfl, hz⟩)) ⟨rfl, trivial⟩
                    | exact ev_lc (lp_stmE (Nat.le_of_ble_eq_true rfl) hB (oQ_no (by unfold pStm; rw [w2, cond_true]; unfold pWt; rw [er1, pb_ok rfl]; show pb (pN B n 1 99 q1) _ = _; rw [er2]; exact pb_no hr2) hr2 (FRM.refl μ) he2 hv2 rfl) hpos (fun a hz => ⟨rfl, hz⟩)) ⟨rfl, trivial⟩
                    | (have a2 : (Int32.ofInt m2).toInt = m2 := ar_ofI (by omega) (by omega)
                       refine ev_lc (lp_stmE (Nat.le_of_ble_eq_true rfl) hB (oQ_ok (s' := Int32.ofNat (sk B n q1)) (t := (0, m1, m2, 0)) (by unfold pStm; rw [w2, cond_true]; unfold pWt; rw [er1, pb_ok rfl]; show pb (pN B n 1 99 q1) _ = _; rw [er2]; rfl) (hD.s0 (a := m1) (b := m2) (d := 0) (KR.wt (y := Int32.ofInt m2) (j := m1.toNat) hK (by omega) (by omega) (by omega))) (FRM.row μ _) ?_) hpos (fun a hz => ⟨rfl, hz⟩)) ⟨rfl, trivial⟩
                       rw [ar_nat (ar_ix (j := (m1).toNat) (w := 0) z12 (show (Int32.ofInt m1).toInt = ((m1).toNat : Int) by rw [ar_ofI (by omega) (by omega)]; omega) ar_0 (by omega) (by omega) (by omega))])
                    | exact ev_lc (lp_stmE (Nat.le_of_ble_eq_true rfl) hB (oQ_no (k := 2) (by unfold pStm; rw [n2, cond_false, n3, cond_false, n4, cond_false, n6, cond_false, w7, cond_true]; unfold pDm; exact if_neg hdt) (by decide) ((FRM.int μ (k := 11) 1 (by decide)).trans (FRM.row _ _)) (by decide) (by decide +kernel) rfl) hpos (fun a hz => ⟨rfl, hz⟩)) ⟨rfl, trivial⟩
                    | exact ev_lc (lp_stmE (Nat.le_of_ble_eq_true rfl) hB (oQ_no (by unfold pStm; rw [n2, cond_false, n3, cond_false, n4, cond_false, n6, cond_false, w7, cond_true]; unfold pDm; rw [if_pos hdt, er1]; exact pb_no hr1) hr1 ((FRM.int μ (k := 11) 1 (by decide)).trans (FRM.row _ _)) he1 hv1 rfl) hpos (fun a hz => ⟨rfl, hz⟩)) ⟨rfl, trivial⟩
                    | (have a1 : (Int32.ofInt m1).toInt = m1 := ar_ofI (by omega) (by omega)
                       exact ev_lc (lp_stmE (Nat.le_of_ble_eq_true rfl) hB (oQ_ok (t := (4, m1, 0, 0)) (by unfold pStm; rw [n2, cond_false, n3, cond_false, n4, cond_false, n6, cond_false, w7, cond_true]; unfold pDm; rw [if_pos hdt, er1]; rfl) (hD.s4 (a := m1) (b := 0) (d := 0) (KR.damp (y := Int32.ofInt m1) hK (by omega) (by omega))) ((FRM.int μ (k := 11) 1 (by decide)).trans (FRM.row _ _)) (by rw [c4n]; rfl)) hpos (fun a hz => ⟨rfl, hz⟩)) ⟨rfl, trivial⟩)
                    | exact ev_lc (lp_stmE (Nat.le_of_ble_eq_true rfl) hB (oQ_no (k := 2) (by unfold pStm; rw [n2, cond_false, n3, cond_false, n4, cond_false, n6, cond_false, n7, cond_false, n8, cond_false, n9, cond_false, n10, cond_false, n13, cond_false]) (by decide) (FRM.refl μ) (by decide) (by decide +kernel) rfl) hpos (fun a hz => ⟨rfl, hz⟩)) ⟨rfl, trivial⟩
              · have n6 := wB_no hw
                clear hw
                refine e_if_eq (tgt := 105) dX7_statement_95 (by decide) (fun c95 => ?_) (fun c95 => ?_)
                · refine e_aload_n dX7_statement_105 rfl rfl ?_
                  refine e_ldcS (j := 7) (tx := "damp") dX7_statement_106 (by decide +kernel) ?_
                  refine e_invV (mcY := 0) (msY := 0) (ct_X7_takeWord1 hB hsr.2 (j := 7) (by decide)) vX7_takeWord wM_X7_107 (mo_at G c _ h 0 (by decide)) rfl dX7_statement_108 rfl rfl (Nat.le_of_ble_eq_true rfl) (Nat.le_of_ble_eq_true rfl) ?_
                  rintro _ _ hc
                  rw [sk_sk B hp] at hc
                  rcases hc with ⟨hw, rfl, rfl⟩ | ⟨hw, rfl, rfl⟩
                  · rw [show ev_len.getD 7 0 = 4 from rfl]
                    have hL : sk B n p + 4 ≤ n := wAt_n hB.2.2.2 hw (by decide)
                    have w7 := wB_iff.mpr hw
                    refine e_if_eq (tgt := 151) dX7_statement_111 (by decide) (fun c111 => ?_) (fun c111 => ?_)
                    · first | exact absurd c111 (by decide) | exact absurd rfl c111
                    · refine e_aload_n dX7_statement_114 rfl rfl ?_
                      refine qS_g16 wF_X7_155 dX7_statement_115 ?_
                      refine e_if_eq (tgt := 128) dX7_statement_118 (by decide) (fun c118 => ?_) (fun c118 => ?_)
                      · have hdt : S.1 9 = 0 := by rw [← hD.2.2.2.1.1]; exact c118
                        refine e_aload_n dX7_statement_128 rfl rfl ?_
                        refine e_iconst (v := 1) dX7_statement_129 (by decide) ?_
                        refine qS_p16_1 wF_X7_155 dX7_statement_130 ?_
                        refine e_aload_n dX7_statement_133 rfl rfl ?_
                        refine qS_g9 wF_X7_21 dX7_statement_134 ?_
                        refine e_iconst (v := 4) dX7_statement_137 (by decide) ?_
                        refine e_aload_n dX7_statement_138 rfl rfl ?_
                        refine e_iconst (v := 0) dX7_statement_139 (by decide) ?_
                        refine e_sipush (v := 999) dX7_statement_140 (by decide) ?_
                        refine e_invV (mcY := 0) (msY := 0) (ct_num (lo := 0) (hi := 999) hB11 hL ar_0 w999 (by omega) (by omega)) vX7_number wM_X7_102 (mo_at G c _ h 0 (by decide)) rfl dX7_statement_143 rfl rfl (Nat.le_of_ble_eq_true rfl) (Nat.le_of_ble_eq_true rfl) ?_
                        rintro _ _ hc
                        generalize er1 : pN B n (0) (999) (sk B n p + 4) = r1 at hc
                        obtain ⟨k1, q1, m1⟩ := r1
                        dsimp only at hc
                        rcases hc with ⟨hr1, rfl, rfl⟩ | ⟨hr1, rfl, p1, s1, e1, he1, hv1, rfl⟩
                        · subst hr1
                          have g1 := pN_0 hB.2.2.2 hL (lo := 0) (hi := 999) (by rw [er1])
                          rw [er1] at g1
                          change sk B n p + 4 < q1 ∧ q1 ≤ n ∧ 0 ≤ m1 ∧ m1 ≤ 999 at g1
                          refine e_i2l dX7_statement_146 ?_
                          refine qS_s3 (by omega) (by omega) dX7_statement_147 ?_
                          refine e_goto (tgt := 223) dX7_statement_148 (by decide) ?_
                          first
                            | exact ev_lc (lp_stmE (Nat.le_of_ble_eq_true rfl) hB hq hpos (fun a hz => ⟨rfl, hz⟩)) ⟨rfl, trivial⟩
                            | exact ev_lc (lp_stmE (Nat.le_of_ble_eq_true rfl) hB (oQ_no (by unfold pStm; rw [w2, cond_true]; unfold pWt; rw [er1]; exact pb_no hr1) hr1 (FRM.refl μ) he1 hv1 rfl) hpos (fun a hz => ⟨rfl, hz⟩)) ⟨rfl, trivial⟩
                            | exact ev_lc (lp_stmE (Nat.le_of_ble_eq_true rfl) hB (oQ_no (by unfold pStm; rw [w2, cond_true]; unfold pWt; rw [er1, pb_ok rfl]; show pb (pN B n 1 99 q1) _ = _; rw [er2]; exact pb_no hr2) hr2 (FRM.refl μ) he2 hv2 rfl) hpos (fun a hz => ⟨rfl, hz⟩)) ⟨rfl, trivial⟩
                            | (have a2 : (Int32.ofInt m2).toInt = m2 := ar_ofI (by omega) (by omega)
                               refine ev_lc (lp_stmE (Nat.le_of_ble_eq_true rfl) hB (oQ_ok (s' := Int32.ofNat (sk B n q1)) (t := (0, m1, m2, 0)) (by unfold pStm; rw [w2, cond_true]; unfold pWt; rw [er1, pb_ok rfl]; show pb (pN B n 1 99 q1) _ = _; rw [er2]; rfl) (hD.s0 (a := m1) (b := m2) (d := 0) (KR.wt (y := Int32.ofInt m2) (j := m1.toNat) hK (by omega) (by omega) (by omega))) (FRM.row μ _) ?_) hpos (fun a hz => ⟨rfl, hz⟩)) ⟨rfl, trivial⟩
                               rw [ar_nat (ar_ix (j := (m1).toNat) (w := 0) z12 (show (Int32.ofInt m1).toInt = ((m1).toNat : Int) by rw [ar_ofI (by omega) (by omega)]; omega) ar_0 (by omega) (by omega) (by omega))])
                            | exact ev_lc (lp_stmE (Nat.le_of_ble_eq_true rfl) hB (oQ_no (k := 2) (by unfold pStm; rw [n2, cond_false, n3, cond_false, n4, cond_false, n6, cond_false, w7, cond_true]; unfold pDm; exact if_neg hdt) (by decide) ((FRM.int μ (k := 11) 1 (by decide)).trans (FRM.row _ _)) (by decide) (by decide +kernel) rfl) hpos (fun a hz => ⟨rfl, hz⟩)) ⟨rfl, trivial⟩
                            | exact ev_lc (lp_stmE (Nat.le_of_ble_eq_true rfl) hB (oQ_no (by unfold pStm; rw [n2, cond_false, n3, cond_false, n4, cond_false, n6, cond_false, w7, cond_true]; unfold pDm; rw [if_pos hdt, er1]; exact pb_no hr1) hr1 ((FRM.int μ (k := 11) 1 (by decide)).trans (FRM.row _ _)) he1 hv1 rfl) hpos (fun a hz => ⟨rfl, hz⟩)) ⟨rfl, trivial⟩
                            | (have a1 : (Int32.ofInt m1).toInt = m1 := ar_ofI (by omega) (by omega)
                               exact ev_lc (lp_stmE (Nat.le_of_ble_eq_true rfl) hB (oQ_ok (t := (4, m1, 0, 0)) (by unfold pStm; rw [n2, cond_false, n3, cond_false, n4, cond_false, n6, cond_false, w7, cond_true]; unfold pDm; rw [if_pos hdt, er1]; rfl) (hD.s4 (a := m1) (b := 0) (d := 0) (KR.damp (y := Int32.ofInt m1) hK (by omega) (by omega))) ((FRM.int μ (k := 11) 1 (by decide)).trans (FRM.row _ _)) (by rw [c4n]; rfl)) hpos (fun a hz => ⟨rfl, hz⟩)) ⟨rfl, trivial⟩)
                            | exact ev_lc (lp_stmE (Nat.le_of_ble_eq_true rfl) hB (oQ_no (k := 2) (by unfold pStm; rw [n2, cond_false, n3, cond_false, n4, cond_false, n6, cond_false, n7, cond_false, n8, cond_false, n9, cond_false, n10, cond_false, n13, cond_false]) (by decide) (FRM.refl μ) (by decide) (by decide +kernel) rfl) hpos (fun a hz => ⟨rfl, hz⟩)) ⟨rfl, trivial⟩
                        · refine e_i2l dX7_statement_146 ?_
                          refine qS_s3 (by omega) (by omega) dX7_statement_147 ?_
                          refine e_goto (tgt := 223) dX7_statement_148 (by decide) ?_
                          first
                            | exact ev_lc (lp_stmE (Nat.le_of_ble_eq_true rfl) hB hq hpos (fun a hz => ⟨rfl, hz⟩)) ⟨rfl, trivial⟩
                            | exact ev_lc (lp_stmE (Nat.le_of_ble_eq_true rfl) hB (oQ_no (by unfold pStm; rw [w2, cond_true]; unfold pWt; rw [er1]; exact pb_no hr1) hr1 (FRM.refl μ) he1 hv1 rfl) hpos (fun a hz => ⟨rfl, hz⟩)) ⟨rfl, trivial⟩
                            | exact ev_lc (lp_stmE (Nat.le_of_ble_eq_true rfl) hB (oQ_no (by unfold pStm; rw [w2, cond_true]; unfold pWt; rw [er1, pb_ok rfl]; show pb (pN B n 1 99 q1) _ = _; rw [er2]; exact pb_no hr2) hr2 (FRM.refl μ) he2 hv2 rfl) hpos (fun a hz => ⟨rfl, hz⟩)) ⟨rfl, trivial⟩
                            | (have a2 : (Int32.ofInt m2).toInt = m2 := ar_ofI (by omega) (by omega)
                               refine ev_lc (lp_stmE (Nat.le_of_ble_eq_true rfl) hB (oQ_ok (s' := Int32.ofNat (sk B n q1)) (t := (0, m1, m2, 0)) (by unfold pStm; rw [w2, cond_true]; unfold pWt; rw [er1, pb_ok rfl]; show pb (pN B n 1 99 q1) _ = _; rw [er2]; rfl) (hD.s0 (a := m1) (b := m2) (d := 0) (KR.wt (y := Int32.ofInt m2) (j := m1.toNat) hK (by omega) (by omega) (by omega))) (FRM.row μ _) ?_) hpos (fun a hz => ⟨rfl, hz⟩)) ⟨rfl, trivial⟩
                               rw [ar_nat (ar_ix (j := (m1).toNat) (w := 0) z12 (show (Int32.ofInt m1).toInt = ((m1).toNat : Int) by rw [ar_ofI (by omega) (by omega)]; omega) ar_0 (by omega) (by omega) (by omega))])
                            | exact ev_lc (lp_stmE (Nat.le_of_ble_eq_true rfl) hB (oQ_no (k := 2) (by unfold pStm; rw [n2, cond_false, n3, cond_false, n4, cond_false, n6, cond_false, w7, cond_true]; unfold pDm; exact if_neg hdt) (by decide) ((FRM.int μ (k := 11) 1 (by decide)).trans (FRM.row _ _)) (by decide) (by decide +kernel) rfl) hpos (fun a hz => ⟨rfl, hz⟩)) ⟨rfl, trivial⟩
                            | exact ev_lc (lp_stmE (Nat.le_of_ble_eq_true rfl) hB (oQ_no (by unfold pStm; rw [n2, cond_false, n3, cond_false, n4, cond_false, n6, cond_false, w7, cond_true]; unfold pDm; rw [if_pos hdt, er1]; exact pb_no hr1) hr1 ((FRM.int μ (k := 11) 1 (by decide)).trans (FRM.row _ _)) he1 hv1 rfl) hpos (fun a hz => ⟨rfl, hz⟩)) ⟨rfl, trivial⟩
                            | (have a1 : (Int32.ofInt m1).toInt = m1 := ar_ofI (by omega) (by omega)
                               exact ev_lc (lp_stmE (Nat.le_of_ble_eq_true rfl) hB (oQ_ok (t := (4, m1, 0, 0)) (by unfold pStm; rw [n2, cond_false, n3, cond_false, n4, cond_false, n6, cond_false, w7, cond_true]; unfold pDm; rw [if_pos hdt, er1]; rfl) (hD.s4 (a := m1) (b := 0) (d := 0) (KR.damp (y := Int32.ofInt m1) hK (by omega) (by omega))) ((FRM.int μ (k := 11) 1 (by decide)).trans (FRM.row _ _)) (by rw [c4n]; rfl)) hpos (fun a hz => ⟨rfl, hz⟩)) ⟨rfl, trivial⟩)
                            | exact ev_lc (lp_stmE (Nat.le_of_ble_eq_true rfl) hB (oQ_no (k := 2) (by unfold pStm; rw [n2, cond_false, n3, cond_false, n4, cond_false, n6, cond_false, n7, cond_false, n8, cond_false, n9, cond_false, n10, cond_false, n13, cond_false]) (by decide) (FRM.refl μ) (by decide) (by decide +kernel) rfl) hpos (fun a hz => ⟨rfl, hz⟩)) ⟨rfl, trivial⟩
                      · have hdt : ¬ S.1 9 = 0 := fun q => c118 (by rw [hD.2.2.2.1.1]; exact q)
                        refine e_aload_n dX7_statement_121 rfl rfl ?_
                        refine e_bipush (v := (-2)) dX7_statement_122 (by decide) ?_
                        refine e_iload_n dX7_statement_124 rfl rfl ?_
                        refine e_invV (mcY := 0) (msY := 0) (ct_X7_report1) vX7_report wM_X7_86 (mo_at G c _ h 0 (by decide)) rfl dX7_statement_125 rfl rfl (Nat.le_of_ble_eq_true rfl) (Nat.le_of_ble_eq_true rfl) ?_
                        rintro _ _ ⟨rfl, rfl⟩
                        refine e_aload_n dX7_statement_128 rfl rfl ?_
                        refine e_iconst (v := 1) dX7_statement_129 (by decide) ?_
                        refine qS_p16_1 wF_X7_155 dX7_statement_130 ?_
                        refine e_aload_n dX7_statement_133 rfl rfl ?_
                        refine qS_g9 wF_X7_21 dX7_statement_134 ?_
                        refine e_iconst (v := 4) dX7_statement_137 (by decide) ?_
                        refine e_aload_n dX7_statement_138 rfl rfl ?_
                        refine e_iconst (v := 0) dX7_statement_139 (by decide) ?_
                        refine e_sipush (v := 999) dX7_statement_140 (by decide) ?_
                        refine e_invV (mcY := 0) (msY := 0) (ct_X7_number0 (by decide)) vX7_number wM_X7_102 (mo_at G c _ h 0 (by decide)) rfl dX7_statement_143 rfl rfl (Nat.le_of_ble_eq_true rfl) (Nat.le_of_ble_eq_true rfl) ?_
                        rintro _ _ ⟨rfl, rfl⟩
                        refine e_i2l dX7_statement_146 ?_
                        refine qS_s3 (by omega) (by omega) dX7_statement_147 ?_
                        refine e_goto (tgt := 223) dX7_statement_148 (by decide) ?_
                        first
                          | exact ev_lc (lp_stmE (Nat.le_of_ble_eq_true rfl) hB hq hpos (fun a hz => ⟨rfl, hz⟩)) ⟨rfl, trivial⟩
                          | exact ev_lc (lp_stmE (Nat.le_of_ble_eq_true rfl) hB (oQ_no (by unfold pStm; rw [w2, cond_true]; unfold pWt; rw [er1]; exact pb_no hr1) hr1 (FRM.refl μ) he1 hv1 rfl) hpos (fun a hz => ⟨rfl, hz⟩)) ⟨rfl, trivial⟩
                          | exact ev_lc (lp_stmE (Nat.le_of_ble_eq_true rfl) hB (oQ_no (by unfold pStm; rw [w2, cond_true]; unfold pWt; rw [er1, pb_ok rfl]; show pb (pN B n 1 99 q1) _ = _; rw [er2]; exact pb_no hr2) hr2 (FRM.refl μ) he2 hv2 rfl) hpos (fun a hz => ⟨rfl, hz⟩)) ⟨rfl, trivial⟩
                          | (have a2 : (Int32.ofInt m2).toInt = m2 := ar_ofI (by omega) (by omega)
                             refine ev_lc (lp_stmE (Nat.le_of_ble_eq_true rfl) hB (oQ_ok (s' := Int32.ofNat (sk B n q1)) (t := (0, m1, m2, 0)) (by unfold pStm; rw [w2, cond_true]; unfold pWt; rw [er1, pb_ok rfl]; show pb (pN B n 1 99 q1) _ = _; rw [er2]; rfl) (hD.s0 (a := m1) (b := m2) (d := 0) (KR.wt (y := Int32.ofInt m2) (j := m1.toNat) hK (by omega) (by omega) (by omega))) (FRM.row μ _) ?_) hpos (fun a hz => ⟨rfl, hz⟩)) ⟨rfl, trivial⟩
                             rw [ar_nat (ar_ix (j := (m1).toNat) (w := 0) z12 (show (Int32.ofInt m1).toInt = ((m1).toNat : Int) by rw [ar_ofI (by omega) (by omega)]; omega) ar_0 (by omega) (by omega) (by omega))])
                          | exact ev_lc (lp_stmE (Nat.le_of_ble_eq_true rfl) hB (oQ_no (k := 2) (by unfold pStm; rw [n2, cond_false, n3, cond_false, n4, cond_false, n6, cond_false, w7, cond_true]; unfold pDm; exact if_neg hdt) (by decide) ((FRM.int μ (k := 11) 1 (by decide)).trans (FRM.row _ _)) (by decide) (by decide +kernel) rfl) hpos (fun a hz => ⟨rfl, hz⟩)) ⟨rfl, trivial⟩
                          | exact ev_lc (lp_stmE (Nat.le_of_ble_eq_true rfl) hB (oQ_no (by unfold pStm; rw [n2, cond_false, n3, cond_false, n4, cond_false, n6, cond_false, w7, cond_true]; unfold pDm; rw [if_pos hdt, er1]; exact pb_no hr1) hr1 ((FRM.int μ (k := 11) 1 (by decide)).trans (FRM.row _ _)) he1 hv1 rfl) hpos (fun a hz => ⟨rfl, hz⟩)) ⟨rfl, trivial⟩
                          | (have a1 : (Int32.ofInt m1).toInt = m1 := ar_ofI (by omega) (by omega)
                             exact ev_lc (lp_stmE (Nat.le_of_ble_eq_true rfl) hB (oQ_ok (t := (4, m1, 0, 0)) (by unfold pStm; rw [n2, cond_false, n3, cond_false, n4, cond_false, n6, cond_false, w7, cond_true]; unfold pDm; rw [if_pos hdt, er1]; rfl) (hD.s4 (a := m1) (b := 0) (d := 0) (KR.damp (y := Int32.ofInt m1) hK (by omega) (by omega))) ((FRM.int μ (k := 11) 1 (by decide)).trans (FRM.row _ _)) (by rw [c4n]; rfl)) hpos (fun a hz => ⟨rfl, hz⟩)) ⟨rfl, trivial⟩)
                          | exact ev_lc (lp_stmE (Nat.le_of_ble_eq_true rfl) hB (oQ_no (k := 2) (by unfold pStm; rw [n2, cond_false, n3, cond_false, n4, cond_false, n6, cond_false, n7, cond_false, n8, cond_false, n9, cond_false, n10, cond_false, n13, cond_false]) (by decide) (FRM.refl μ) (by decide) (by decide +kernel) rfl) hpos (fun a hz => ⟨rfl, hz⟩)) ⟨rfl, trivial⟩
                  · have n7 := wB_no hw
                    clear hw
                    refine e_if_eq (tgt := 151) dX7_statement_111 (by decide) (fun c111 => ?_) (fun c111 => ?_)
                    · refine e_aload_n dX7_statement_151 rfl rfl ?_
                      refine e_ldcS (j := 8) (tx := "pluck") dX7_statement_152 (by decide +kernel) ?_
                      refine e_invV (mcY := 0) (msY := 0) (ct_X7_takeWord1 hB hsr.2 (j := 8) (by decide)) vX7_takeWord wM_X7_107 (mo_at G c _ h 0 (by decide)) rfl dX7_statement_154 rfl rfl (Nat.le_of_ble_eq_true rfl) (Nat.le_of_ble_eq_true rfl) ?_
                      rintro _ _ hc
                      rw [sk_sk B hp] at hc
                      rcases hc with ⟨hw, rfl, rfl⟩ | ⟨hw, rfl, rfl⟩
                      · rw [show ev_len.getD 8 0 = 5 from rfl]
                        have hL : sk B n p + 5 ≤ n := wAt_n hB.2.2.2 hw (by decide)
                        have w8 := wB_iff.mpr hw
                        refine e_if_eq (tgt := 167) dX7_statement_157 (by decide) (fun c157 => ?_) (fun c157 => ?_)
                        · first | exact absurd c157 (by decide) | exact absurd rfl c157
                        · refine e_aload_n dX7_statement_160 rfl rfl ?_
                          refine e_invV (mcY := 0) (msY := 0) (ct_X7_readPluck hB hL hD) vX7_readPluck wM_X7_161 (mo_at G c _ h 0 (by decide)) rfl dX7_statement_161 rfl rfl (Nat.le_of_ble_eq_true rfl) (Nat.le_of_ble_eq_true rfl) ?_
                          rintro _ a2 ⟨rfl, hq⟩
                          have er : pStm B n (sM (S.2.2.2 1)) ((S.2.2.2 1).1 5).toInt (S.1 9) (S.2.1 1) (S.2.1 2) (sk B n p) = pPl B n (sM (S.2.2.2 1)) (S.2.1 1) (sk B n p + 5) := by unfold pStm; rw [n2, cond_false, n3, cond_false, n4, cond_false, n6, cond_false, n7, cond_false, w8, cond_true]
                          rw [← er] at hq
                          refine e_goto (tgt := 223) dX7_statement_164 (by decide) ?_
                          first
                            | exact ev_lc (lp_stmE (Nat.le_of_ble_eq_true rfl) hB hq hpos (fun a hz => ⟨rfl, hz⟩)) ⟨rfl, trivial⟩
                            | exact ev_lc (lp_stmE (Nat.le_of_ble_eq_true rfl) hB (oQ_no (by unfold pStm; rw [w2, cond_true]; unfold pWt; rw [er1]; exact pb_no hr1) hr1 (FRM.refl μ) he1 hv1 rfl) hpos (fun a hz => ⟨rfl, hz⟩)) ⟨rfl, trivial⟩
                            | exact ev_lc (lp_stmE (Nat.le_of_ble_eq_true rfl) hB (oQ_no (by unfold pStm; rw [w2, cond_true]; unfold pWt; rw [er1, pb_ok rfl]; show pb (pN B n 1 99 q1) _ = _; rw [er2]; exact pb_no hr2) hr2 (FRM.refl μ) he2 hv2 rfl) hpos (fun a hz => ⟨rfl, hz⟩)) ⟨rfl, trivial⟩
                            | (have a2 : (Int32.ofInt m2).toInt = m2 := ar_ofI (by omega) (by omega)
                               refine ev_lc (lp_stmE (Nat.le_of_ble_eq_true rfl) hB (oQ_ok (s' := Int32.ofNat (sk B n q1)) (t := (0, m1, m2, 0)) (by unfold pStm; rw [w2, cond_true]; unfold pWt; rw [er1, pb_ok rfl]; show pb (pN B n 1 99 q1) _ = _; rw [er2]; rfl) (hD.s0 (a := m1) (b := m2) (d := 0) (KR.wt (y := Int32.ofInt m2) (j := m1.toNat) hK (by omega) (by omega) (by omega))) (FRM.row μ _) ?_) hpos (fun a hz => ⟨rfl, hz⟩)) ⟨rfl, trivial⟩
                               rw [ar_nat (ar_ix (j := (m1).toNat) (w := 0) z12 (show (Int32.ofInt m1).toInt = ((m1).toNat : Int) by rw [ar_ofI (by omega) (by omega)]; omega) ar_0 (by omega) (by omega) (by omega))])
                            | exact ev_lc (lp_stmE (Nat.le_of_ble_eq_true rfl) hB (oQ_no (k := 2) (by unfold pStm; rw [n2, cond_false, n3, cond_false, n4, cond_false, n6, cond_false, w7, cond_true]; unfold pDm; exact if_neg hdt) (by decide) ((FRM.int μ (k := 11) 1 (by decide)).trans (FRM.row _ _)) (by decide) (by decide +kernel) rfl) hpos (fun a hz => ⟨rfl, hz⟩)) ⟨rfl, trivial⟩
                            | exact ev_lc (lp_stmE (Nat.le_of_ble_eq_true rfl) hB (oQ_no (by unfold pStm; rw [n2, cond_false, n3, cond_false, n4, cond_false, n6, cond_false, w7, cond_true]; unfold pDm; rw [if_pos hdt, er1]; exact pb_no hr1) hr1 ((FRM.int μ (k := 11) 1 (by decide)).trans (FRM.row _ _)) he1 hv1 rfl) hpos (fun a hz => ⟨rfl, hz⟩)) ⟨rfl, trivial⟩
                            | (have a1 : (Int32.ofInt m1).toInt = m1 := ar_ofI (by omega) (by omega)
                               exact ev_lc (lp_stmE (Nat.le_of_ble_eq_true rfl) hB (oQ_ok (t := (4, m1, 0, 0)) (by unfold pStm; rw [n2, cond_false, n3, cond_false, n4, cond_false, n6, cond_false, w7, cond_true]; unfold pDm; rw [if_pos hdt, er1]; rfl) (hD.s4 (a := m1) (b := 0) (d := 0) (KR.damp (y := Int32.ofInt m1) hK (by omega) (by omega))) ((FRM.int μ (k := 11) 1 (by decide)).trans (FRM.row _ _)) (by rw [c4n]; rfl)) hpos (fun a hz => ⟨rfl, hz⟩)) ⟨rfl, trivial⟩)
                            | exact ev_lc (lp_stmE (Nat.le_of_ble_eq_true rfl) hB (oQ_no (k := 2) (by unfold pStm; rw [n2, cond_false, n3, cond_false, n4, cond_false, n6, cond_false, n7, cond_false, n8, cond_false, n9, cond_false, n10, cond_false, n13, cond_false]) (by decide) (FRM.refl μ) (by decide) (by decide +kernel) rfl) hpos (fun a hz => ⟨rfl, hz⟩)) ⟨rfl, trivial⟩
                      · have n8 := wB_no hw
                        clear hw
                        refine e_if_eq (tgt := 167) dX7_statement_157 (by decide) (fun c157 => ?_) (fun c157 => ?_)
                        · refine e_aload_n dX7_statement_167 rfl rfl ?_
                          refine e_ldcS (j := 9) (tx := "strike") dX7_statement_168 (by decide +kernel) ?_
                          refine e_invV (mcY := 0) (msY := 0) (ct_X7_takeWord1 hB hsr.2 (j := 9) (by decide)) vX7_takeWord wM_X7_107 (mo_at G c _ h 0 (by decide)) rfl dX7_statement_170 rfl rfl (Nat.le_of_ble_eq_true rfl) (Nat.le_of_ble_eq_true rfl) ?_
                          rintro _ _ hc
                          rw [sk_sk B hp] at hc
                          rcases hc with ⟨hw, rfl, rfl⟩ | ⟨hw, rfl, rfl⟩
                          · rw [show ev_len.getD 9 0 = 6 from rfl]
                            have hL : sk B n p + 6 ≤ n := wAt_n hB.2.2.2 hw (by decide)
                            have w9 := wB_iff.mpr hw
                            refine e_if_eq (tgt := 183) dX7_statement_173 (by decide) (fun c173 => ?_) (fun c173 => ?_)
                            · first | exact absurd c173 (by decide) | exact absurd rfl c173
                            · refine e_aload_n dX7_statement_176 rfl rfl ?_
                              refine e_invV (mcY := 0) (msY := 0) (ct_X7_readStrike hB hL hD) vX7_readStrike wM_X7_166 (mo_at G c _ h 0 (by decide)) rfl dX7_statement_177 rfl rfl (Nat.le_of_ble_eq_true rfl) (Nat.le_of_ble_eq_true rfl) ?_
                              rintro _ a2 ⟨rfl, hq⟩
                              have er : pStm B n (sM (S.2.2.2 1)) ((S.2.2.2 1).1 5).toInt (S.1 9) (S.2.1 1) (S.2.1 2) (sk B n p) = pSr B n (sM (S.2.2.2 1)) (S.2.1 2) (sk B n p + 6) := by unfold pStm; rw [n2, cond_false, n3, cond_false, n4, cond_false, n6, cond_false, n7, cond_false, n8, cond_false, w9, cond_true]
                              rw [← er] at hq
                              refine e_goto (tgt := 223) dX7_statement_180 (by decide) ?_
                              first
                                | exact ev_lc (lp_stmE (Nat.le_of_ble_eq_true rfl) hB hq hpos (fun a hz => ⟨rfl, hz⟩)) ⟨rfl, trivial⟩
                                | exact ev_lc (lp_stmE (Nat.le_of_ble_eq_true rfl) hB (oQ_no (by unfold pStm; rw [w2, cond_true]; unfold pWt; rw [er1]; exact pb_no hr1) hr1 (FRM.refl μ) he1 hv1 rfl) hpos (fun a hz => ⟨rfl, hz⟩)) ⟨rfl, trivial⟩
                                | exact ev_lc (lp_stmE (Nat.le_of_ble_eq_true rfl) hB (oQ_no (by unfold pStm; rw [w2, cond_true]; unfold pWt; rw [er1, pb_ok rfl]; show pb (pN B n 1 99 q1) _ = _; rw [er2]; exact pb_no hr2) hr2 (FRM.refl μ) he2 hv2 rfl) hpos (fun a hz => ⟨rfl, hz⟩)) ⟨rfl, trivial⟩
                                | (have a2 : (Int32.ofInt m2).toInt = m2 := ar_ofI (by omega) (by omega)
                                   refine ev_lc (lp_stmE (Nat.le_of_ble_eq_true rfl) hB (oQ_ok (s' := Int32.ofNat (sk B n q1)) (t := (0, m1, m2, 0)) (by unfold pStm; rw [w2, cond_true]; unfold pWt; rw [er1, pb_ok rfl]; show pb (pN B n 1 99 q1) _ = _; rw [er2]; rfl) (hD.s0 (a := m1) (b := m2) (d := 0) (KR.wt (y := Int32.ofInt m2) (j := m1.toNat) hK (by omega) (by omega) (by omega))) (FRM.row μ _) ?_) hpos (fun a hz => ⟨rfl, hz⟩)) ⟨rfl, trivial⟩
                                   rw [ar_nat (ar_ix (j := (m1).toNat) (w := 0) z12 (show (Int32.ofInt m1).toInt = ((m1).toNat : Int) by rw [ar_ofI (by omega) (by omega)]; omega) ar_0 (by omega) (by omega) (by omega))])
                                | exact ev_lc (lp_stmE (Nat.le_of_ble_eq_true rfl) hB (oQ_no (k := 2) (by unfold pStm; rw [n2, cond_false, n3, cond_false, n4, cond_false, n6, cond_false, w7, cond_true]; unfold pDm; exact if_neg hdt) (by decide) ((FRM.int μ (k := 11) 1 (by decide)).trans (FRM.row _ _)) (by decide) (by decide +kernel) rfl) hpos (fun a hz => ⟨rfl, hz⟩)) ⟨rfl, trivial⟩
                                | exact ev_lc (lp_stmE (Nat.le_of_ble_eq_true rfl) hB (oQ_no (by unfold pStm; rw [n2, cond_false, n3, cond_false, n4, cond_false, n6, cond_false, w7, cond_true]; unfold pDm; rw [if_pos hdt, er1]; exact pb_no hr1) hr1 ((FRM.int μ (k := 11) 1 (by decide)).trans (FRM.row _ _)) he1 hv1 rfl) hpos (fun a hz => ⟨rfl, hz⟩)) ⟨rfl, trivial⟩
                                | (have a1 : (Int32.ofInt m1).toInt = m1 := ar_ofI (by omega) (by omega)
                                   exact ev_lc (lp_stmE (Nat.le_of_ble_eq_true rfl) hB (oQ_ok (t := (4, m1, 0, 0)) (by unfold pStm; rw [n2, cond_false, n3, cond_false, n4, cond_false, n6, cond_false, w7, cond_true]; unfold pDm; rw [if_pos hdt, er1]; rfl) (hD.s4 (a := m1) (b := 0) (d := 0) (KR.damp (y := Int32.ofInt m1) hK (by omega) (by omega))) ((FRM.int μ (k := 11) 1 (by decide)).trans (FRM.row _ _)) (by rw [c4n]; rfl)) hpos (fun a hz => ⟨rfl, hz⟩)) ⟨rfl, trivial⟩)
                                | exact ev_lc (lp_stmE (Nat.le_of_ble_eq_true rfl) hB (oQ_no (k := 2) (by unfold pStm; rw [n2, cond_false, n3, cond_false, n4, cond_false, n6, cond_false, n7, cond_false, n8, cond_false, n9, cond_false, n10, cond_false, n13, cond_false]) (by decide) (FRM.refl μ) (by decide) (by decide +kernel) rfl) hpos (fun a hz => ⟨rfl, hz⟩)) ⟨rfl, trivial⟩
                          · have n9 := wB_no hw
                            clear hw
                            refine e_if_eq (tgt := 183) dX7_statement_173 (by decide) (fun c173 => ?_) (fun c173 => ?_)
                            · refine e_aload_n dX7_statement_183 rfl rfl ?_
                              refine e_ldcS (j := 10) (tx := "end") dX7_statement_184 (by decide +kernel) ?_
                              refine e_invV (mcY := 0) (msY := 0) (ct_X7_takeWord1 hB hsr.2 (j := 10) (by decide)) vX7_takeWord wM_X7_107 (mo_at G c _ h 0 (by decide)) rfl dX7_statement_186 rfl rfl (Nat.le_of_ble_eq_true rfl) (Nat.le_of_ble_eq_true rfl) ?_
                              rintro _ _ hc
                              rw [sk_sk B hp] at hc
                              rcases hc with ⟨hw, rfl, rfl⟩ | ⟨hw, rfl, rfl⟩
                              · rw [show ev_len.getD 10 0 = 3 from rfl]
                                have hL : sk B n p + 3 ≤ n := wAt_n hB.2.2.2 hw (by decide)
                                have w10 := wB_iff.mpr hw
                                refine e_if_eq (tgt := 199) dX7_statement_189 (by decide) (fun c189 => ?_) (fun c189 => ?_)
                                · first | exact absurd c189 (by decide) | exact absurd rfl c189
                                · refine e_aload_n dX7_statement_192 rfl rfl ?_
                                  refine e_invV (mcY := 0) (msY := 0) (ct_X7_readEnd hB hL hD) vX7_readEnd wM_X7_171 (mo_at G c _ h 0 (by decide)) rfl dX7_statement_193 rfl rfl (Nat.le_of_ble_eq_true rfl) (Nat.le_of_ble_eq_true rfl) ?_
                                  rintro _ a2 ⟨rfl, hq⟩
                                  have er : pStm B n (sM (S.2.2.2 1)) ((S.2.2.2 1).1 5).toInt (S.1 9) (S.2.1 1) (S.2.1 2) (sk B n p) = pEn B n (sk B n p + 3) := by unfold pStm; rw [n2, cond_false, n3, cond_false, n4, cond_false, n6, cond_false, n7, cond_false, n8, cond_false, n9, cond_false, w10, cond_true]
                                  rw [← er] at hq
                                  refine e_goto (tgt := 223) dX7_statement_196 (by decide) ?_
                                  first
                                    | exact ev_lc (lp_stmE (Nat.le_of_ble_eq_true rfl) hB hq hpos (fun a hz => ⟨rfl, hz⟩)) ⟨rfl, trivial⟩
                                    | exact ev_lc (lp_stmE (Nat.le_of_ble_eq_true rfl) hB (oQ_no (by unfold pStm; rw [w2, cond_true]; unfold pWt; rw [er1]; exact pb_no hr1) hr1 (FRM.refl μ) he1 hv1 rfl) hpos (fun a hz => ⟨rfl, hz⟩)) ⟨rfl, trivial⟩
                                    | exact ev_lc (lp_stmE (Nat.le_of_ble_eq_true rfl) hB (oQ_no (by unfold pStm; rw [w2, cond_true]; unfold pWt; rw [er1, pb_ok rfl]; show pb (pN B n 1 99 q1) _ = _; rw [er2]; exact pb_no hr2) hr2 (FRM.refl μ) he2 hv2 rfl) hpos (fun a hz => ⟨rfl, hz⟩)) ⟨rfl, trivial⟩
                                    | (have a2 : (Int32.ofInt m2).toInt = m2 := ar_ofI (by omega) (by omega)
                                       refine ev_lc (lp_stmE (Nat.le_of_ble_eq_true rfl) hB (oQ_ok (s' := Int32.ofNat (sk B n q1)) (t := (0, m1, m2, 0)) (by unfold pStm; rw [w2, cond_true]; unfold pWt; rw [er1, pb_ok rfl]; show pb (pN B n 1 99 q1) _ = _; rw [er2]; rfl) (hD.s0 (a := m1) (b := m2) (d := 0) (KR.wt (y := Int32.ofInt m2) (j := m1.toNat) hK (by omega) (by omega) (by omega))) (FRM.row μ _) ?_) hpos (fun a hz => ⟨rfl, hz⟩)) ⟨rfl, trivial⟩
                                       rw [ar_nat (ar_ix (j := (m1).toNat) (w := 0) z12 (show (Int32.ofInt m1).toInt = ((m1).toNat : Int) by rw [ar_ofI (by omega) (by omega)]; omega) ar_0 (by omega) (by omega) (by omega))])
                                    | exact ev_lc (lp_stmE (Nat.le_of_ble_eq_true rfl) hB (oQ_no (k := 2) (by unfold pStm; rw [n2, cond_false, n3, cond_false, n4, cond_false, n6, cond_false, w7, cond_true]; unfold pDm; exact if_neg hdt) (by decide) ((FRM.int μ (k := 11) 1 (by decide)).trans (FRM.row _ _)) (by decide) (by decide +kernel) rfl) hpos (fun a hz => ⟨rfl, hz⟩)) ⟨rfl, trivial⟩
                                    | exact ev_lc (lp_stmE (Nat.le_of_ble_eq_true rfl) hB (oQ_no (by unfold pStm; rw [n2, cond_false, n3, cond_false, n4, cond_false, n6, cond_false, w7, cond_true]; unfold pDm; rw [if_pos hdt, er1]; exact pb_no hr1) hr1 ((FRM.int μ (k := 11) 1 (by decide)).trans (FRM.row _ _)) he1 hv1 rfl) hpos (fun a hz => ⟨rfl, hz⟩)) ⟨rfl, trivial⟩
                                    | (have a1 : (Int32.ofInt m1).toInt = m1 := ar_ofI (by omega) (by omega)
                                       exact ev_lc (lp_stmE (Nat.le_of_ble_eq_true rfl) hB (oQ_ok (t := (4, m1, 0, 0)) (by unfold pStm; rw [n2, cond_false, n3, cond_false, n4, cond_false, n6, cond_false, w7, cond_true]; unfold pDm; rw [if_pos hdt, er1]; rfl) (hD.s4 (a := m1) (b := 0) (d := 0) (KR.damp (y := Int32.ofInt m1) hK (by omega) (by omega))) ((FRM.int μ (k := 11) 1 (by decide)).trans (FRM.row _ _)) (by rw [c4n]; rfl)) hpos (fun a hz => ⟨rfl, hz⟩)) ⟨rfl, trivial⟩)
                                    | exact ev_lc (lp_stmE (Nat.le_of_ble_eq_true rfl) hB (oQ_no (k := 2) (by unfold pStm; rw [n2, cond_false, n3, cond_false, n4, cond_false, n6, cond_false, n7, cond_false, n8, cond_false, n9, cond_false, n10, cond_false, n13, cond_false]) (by decide) (FRM.refl μ) (by decide) (by decide +kernel) rfl) hpos (fun a hz => ⟨rfl, hz⟩)) ⟨rfl, trivial⟩
                              · have n10 := wB_no hw
                                clear hw
                                refine e_if_eq (tgt := 199) dX7_statement_189 (by decide) (fun c189 => ?_) (fun c189 => ?_)
                                · refine e_aload_n dX7_statement_199 rfl rfl ?_
                                  refine e_ldcS (j := 13) (tx := "impulse") dX7_statement_200 (by decide +kernel) ?_
                                  refine e_invV (mcY := 0) (msY := 0) (ct_X7_takeWord1 hB hsr.2 (j := 13) (by decide)) vX7_takeWord wM_X7_107 (mo_at G c _ h 0 (by decide)) rfl dX7_statement_202 rfl rfl (Nat.le_of_ble_eq_true rfl) (Nat.le_of_ble_eq_true rfl) ?_
                                  rintro _ _ hc
                                  rw [sk_sk B hp] at hc
                                  rcases hc with ⟨hw, rfl, rfl⟩ | ⟨hw, rfl, rfl⟩
                                  · rw [show ev_len.getD 13 0 = 7 from rfl]
                                    have hL : sk B n p + 7 ≤ n := wAt_n hB.2.2.2 hw (by decide)
                                    have w13 := wB_iff.mpr hw
                                    refine e_if_eq (tgt := 216) dX7_statement_205 (by decide) (fun c205 => ?_) (fun c205 => ?_)
                                    · first | exact absurd c205 (by decide) | exact absurd rfl c205
                                    · refine e_aload_n dX7_statement_208 rfl rfl ?_
                                      refine e_iload_n dX7_statement_209 rfl rfl ?_
                                      refine e_invV (mcY := 0) (msY := 0) (ct_X7_readImpulse hB hL hD (q := sk B n p)) vX7_readImpulse wM_X7_176 (mo_at G c _ h 0 (by decide)) rfl dX7_statement_210 rfl rfl (Nat.le_of_ble_eq_true rfl) (Nat.le_of_ble_eq_true rfl) ?_
                                      rintro _ a2 ⟨rfl, hq⟩
                                      have er : pStm B n (sM (S.2.2.2 1)) ((S.2.2.2 1).1 5).toInt (S.1 9) (S.2.1 1) (S.2.1 2) (sk B n p) = pIm B n (sM (S.2.2.2 1)) ((S.2.2.2 1).1 5).toInt (sk B n p) (sk B n p + 7) := by unfold pStm; rw [n2, cond_false, n3, cond_false, n4, cond_false, n6, cond_false, n7, cond_false, n8, cond_false, n9, cond_false, n10, cond_false, w13, cond_true]
                                      rw [← er] at hq
                                      refine e_goto (tgt := 223) dX7_statement_213 (by decide) ?_
                                      first
                                        | exact ev_lc (lp_stmE (Nat.le_of_ble_eq_true rfl) hB hq hpos (fun a hz => ⟨rfl, hz⟩)) ⟨rfl, trivial⟩
                                        | exact ev_lc (lp_stmE (Nat.le_of_ble_eq_true rfl) hB (oQ_no (by unfold pStm; rw [w2, cond_true]; unfold pWt; rw [er1]; exact pb_no hr1) hr1 (FRM.refl μ) he1 hv1 rfl) hpos (fun a hz => ⟨rfl, hz⟩)) ⟨rfl, trivial⟩
                                        | exact ev_lc (lp_stmE (Nat.le_of_ble_eq_true rfl) hB (oQ_no (by unfold pStm; rw [w2, cond_true]; unfold pWt; rw [er1, pb_ok rfl]; show pb (pN B n 1 99 q1) _ = _; rw [er2]; exact pb_no hr2) hr2 (FRM.refl μ) he2 hv2 rfl) hpos (fun a hz => ⟨rfl, hz⟩)) ⟨rfl, trivial⟩
                                        | (have a2 : (Int32.ofInt m2).toInt = m2 := ar_ofI (by omega) (by omega)
                                           refine ev_lc (lp_stmE (Nat.le_of_ble_eq_true rfl) hB (oQ_ok (s' := Int32.ofNat (sk B n q1)) (t := (0, m1, m2, 0)) (by unfold pStm; rw [w2, cond_true]; unfold pWt; rw [er1, pb_ok rfl]; show pb (pN B n 1 99 q1) _ = _; rw [er2]; rfl) (hD.s0 (a := m1) (b := m2) (d := 0) (KR.wt (y := Int32.ofInt m2) (j := m1.toNat) hK (by omega) (by omega) (by omega))) (FRM.row μ _) ?_) hpos (fun a hz => ⟨rfl, hz⟩)) ⟨rfl, trivial⟩
                                           rw [ar_nat (ar_ix (j := (m1).toNat) (w := 0) z12 (show (Int32.ofInt m1).toInt = ((m1).toNat : Int) by rw [ar_ofI (by omega) (by omega)]; omega) ar_0 (by omega) (by omega) (by omega))])
                                        | exact ev_lc (lp_stmE (Nat.le_of_ble_eq_true rfl) hB (oQ_no (k := 2) (by unfold pStm; rw [n2, cond_false, n3, cond_false, n4, cond_false, n6, cond_false, w7, cond_true]; unfold pDm; exact if_neg hdt) (by decide) ((FRM.int μ (k := 11) 1 (by decide)).trans (FRM.row _ _)) (by decide) (by decide +kernel) rfl) hpos (fun a hz => ⟨rfl, hz⟩)) ⟨rfl, trivial⟩
                                        | exact ev_lc (lp_stmE (Nat.le_of_ble_eq_true rfl) hB (oQ_no (by unfold pStm; rw [n2, cond_false, n3, cond_false, n4, cond_false, n6, cond_false, w7, cond_true]; unfold pDm; rw [if_pos hdt, er1]; exact pb_no hr1) hr1 ((FRM.int μ (k := 11) 1 (by decide)).trans (FRM.row _ _)) he1 hv1 rfl) hpos (fun a hz => ⟨rfl, hz⟩)) ⟨rfl, trivial⟩
                                        | (have a1 : (Int32.ofInt m1).toInt = m1 := ar_ofI (by omega) (by omega)
                                           exact ev_lc (lp_stmE (Nat.le_of_ble_eq_true rfl) hB (oQ_ok (t := (4, m1, 0, 0)) (by unfold pStm; rw [n2, cond_false, n3, cond_false, n4, cond_false, n6, cond_false, w7, cond_true]; unfold pDm; rw [if_pos hdt, er1]; rfl) (hD.s4 (a := m1) (b := 0) (d := 0) (KR.damp (y := Int32.ofInt m1) hK (by omega) (by omega))) ((FRM.int μ (k := 11) 1 (by decide)).trans (FRM.row _ _)) (by rw [c4n]; rfl)) hpos (fun a hz => ⟨rfl, hz⟩)) ⟨rfl, trivial⟩)
                                        | exact ev_lc (lp_stmE (Nat.le_of_ble_eq_true rfl) hB (oQ_no (k := 2) (by unfold pStm; rw [n2, cond_false, n3, cond_false, n4, cond_false, n6, cond_false, n7, cond_false, n8, cond_false, n9, cond_false, n10, cond_false, n13, cond_false]) (by decide) (FRM.refl μ) (by decide) (by decide +kernel) rfl) hpos (fun a hz => ⟨rfl, hz⟩)) ⟨rfl, trivial⟩
                                  · have n13 := wB_no hw
                                    clear hw
                                    refine e_if_eq (tgt := 216) dX7_statement_205 (by decide) (fun c205 => ?_) (fun c205 => ?_)
                                    · refine e_aload_n dX7_statement_216 rfl rfl ?_
                                      refine e_bipush (v := (-2)) dX7_statement_217 (by decide) ?_
                                      refine e_iload_n dX7_statement_219 rfl rfl ?_
                                      refine e_invV (mcY := 0) (msY := 0) (ct_X7_report1) vX7_report wM_X7_86 (mo_at G c _ h 0 (by decide)) rfl dX7_statement_220 rfl rfl (Nat.le_of_ble_eq_true rfl) (Nat.le_of_ble_eq_true rfl) ?_
                                      rintro _ _ ⟨rfl, rfl⟩
                                      first
                                        | exact ev_lc (lp_stmE (Nat.le_of_ble_eq_true rfl) hB hq hpos (fun a hz => ⟨rfl, hz⟩)) ⟨rfl, trivial⟩
                                        | exact ev_lc (lp_stmE (Nat.le_of_ble_eq_true rfl) hB (oQ_no (by unfold pStm; rw [w2, cond_true]; unfold pWt; rw [er1]; exact pb_no hr1) hr1 (FRM.refl μ) he1 hv1 rfl) hpos (fun a hz => ⟨rfl, hz⟩)) ⟨rfl, trivial⟩
                                        | exact ev_lc (lp_stmE (Nat.le_of_ble_eq_true rfl) hB (oQ_no (by unfold pStm; rw [w2, cond_true]; unfold pWt; rw [er1, pb_ok rfl]; show pb (pN B n 1 99 q1) _ = _; rw [er2]; exact pb_no hr2) hr2 (FRM.refl μ) he2 hv2 rfl) hpos (fun a hz => ⟨rfl, hz⟩)) ⟨rfl, trivial⟩
                                        | (have a2 : (Int32.ofInt m2).toInt = m2 := ar_ofI (by omega) (by omega)
                                           refine ev_lc (lp_stmE (Nat.le_of_ble_eq_true rfl) hB (oQ_ok (s' := Int32.ofNat (sk B n q1)) (t := (0, m1, m2, 0)) (by unfold pStm; rw [w2, cond_true]; unfold pWt; rw [er1, pb_ok rfl]; show pb (pN B n 1 99 q1) _ = _; rw [er2]; rfl) (hD.s0 (a := m1) (b := m2) (d := 0) (KR.wt (y := Int32.ofInt m2) (j := m1.toNat) hK (by omega) (by omega) (by omega))) (FRM.row μ _) ?_) hpos (fun a hz => ⟨rfl, hz⟩)) ⟨rfl, trivial⟩
                                           rw [ar_nat (ar_ix (j := (m1).toNat) (w := 0) z12 (show (Int32.ofInt m1).toInt = ((m1).toNat : Int) by rw [ar_ofI (by omega) (by omega)]; omega) ar_0 (by omega) (by omega) (by omega))])
                                        | exact ev_lc (lp_stmE (Nat.le_of_ble_eq_true rfl) hB (oQ_no (k := 2) (by unfold pStm; rw [n2, cond_false, n3, cond_false, n4, cond_false, n6, cond_false, w7, cond_true]; unfold pDm; exact if_neg hdt) (by decide) ((FRM.int μ (k := 11) 1 (by decide)).trans (FRM.row _ _)) (by decide) (by decide +kernel) rfl) hpos (fun a hz => ⟨rfl, hz⟩)) ⟨rfl, trivial⟩
                                        | exact ev_lc (lp_stmE (Nat.le_of_ble_eq_true rfl) hB (oQ_no (by unfold pStm; rw [n2, cond_false, n3, cond_false, n4, cond_false, n6, cond_false, w7, cond_true]; unfold pDm; rw [if_pos hdt, er1]; exact pb_no hr1) hr1 ((FRM.int μ (k := 11) 1 (by decide)).trans (FRM.row _ _)) he1 hv1 rfl) hpos (fun a hz => ⟨rfl, hz⟩)) ⟨rfl, trivial⟩
                                        | (have a1 : (Int32.ofInt m1).toInt = m1 := ar_ofI (by omega) (by omega)
                                           exact ev_lc (lp_stmE (Nat.le_of_ble_eq_true rfl) hB (oQ_ok (t := (4, m1, 0, 0)) (by unfold pStm; rw [n2, cond_false, n3, cond_false, n4, cond_false, n6, cond_false, w7, cond_true]; unfold pDm; rw [if_pos hdt, er1]; rfl) (hD.s4 (a := m1) (b := 0) (d := 0) (KR.damp (y := Int32.ofInt m1) hK (by omega) (by omega))) ((FRM.int μ (k := 11) 1 (by decide)).trans (FRM.row _ _)) (by rw [c4n]; rfl)) hpos (fun a hz => ⟨rfl, hz⟩)) ⟨rfl, trivial⟩)
                                        | exact ev_lc (lp_stmE (Nat.le_of_ble_eq_true rfl) hB (oQ_no (k := 2) (by unfold pStm; rw [n2, cond_false, n3, cond_false, n4, cond_false, n6, cond_false, n7, cond_false, n8, cond_false, n9, cond_false, n10, cond_false, n13, cond_false]) (by decide) (FRM.refl μ) (by decide) (by decide +kernel) rfl) hpos (fun a hz => ⟨rfl, hz⟩)) ⟨rfl, trivial⟩
                                    · first | exact absurd c205 (by decide) | exact absurd rfl c205
                                · first | exact absurd c189 (by decide) | exact absurd rfl c189
                            · first | exact absurd c173 (by decide) | exact absurd rfl c173
                        · first | exact absurd c157 (by decide) | exact absurd rfl c157
                    · first | exact absurd c111 (by decide) | exact absurd rfl c111
                · first | exact absurd c95 (by decide) | exact absurd rfl c95
            · first | exact absurd c79 (by decide) | exact absurd rfl c79
        · first | exact absurd c63 (by decide) | exact absurd rfl c63
    · first | exact absurd c16 (by decide) | exact absurd rfl c16
end P5
