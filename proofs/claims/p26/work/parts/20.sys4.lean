/-! periods, breaks foretold, the checksum, append -/
theorem ar_inc2 {x : Int32} {i : Nat} (h : x.toInt = (i : Int)) (hi : i < 2147483647) : (x + 1).toInt = ((i + 1 : Nat) : Int) := by have := ar_inc h hi; rwa [ar_i1] at this
section Y4
variable {G : ev_G} {l : Launch} {b : Nat} {S : SS} {h : ev_H} {x y z w : Int32}
set_option maxRecDepth 20000 in
theorem lp_breaksIn {J : ev_K} {k n : Nat} (hJ : 7 ≤ J.2.2.1) (hvd : sInv (sDr S)) (y : Int32) (d : Nat) (hy : y.toInt = (d : Int)) (hd : d ≤ 300) (hP : ∀ (r : Int32) (τ : CS), r.toInt = sBrkF (sDr S) d 0 → J.2.2.2.2.2.1 (some (.int r)) (sy G b (ss_C S 1 τ) h)) : ∀ (r i : Nat) (x : Int32), r + i = d → x.toInt = ((i + 1 : Nat) : Int) → sBrkF (sDr S) r i = sBrkF (sDr S) d 0 → ev_V G l mX6_breaksIn J 21 [some (.ref b), some (.int y), some (.int x)] [] (sy G b (ss_C S 1 (tickN (i) (sDr S))) h) k n := by
  intro r
  induction r with
  | zero =>
    intro i x hr hx hq
    refine e_iload_n dX6_breaksIn_21 rfl rfl ?_
    refine e_iload_n dX6_breaksIn_22 rfl rfl ?_
    refine e_icmp_gt (tgt := 44) dX6_breaksIn_23 (by decide) (fun c23 => ?_) (fun c23 => ?_)
    · refine e_iconst (v := (-1)) dX6_breaksIn_44 (by decide) ?_
      exact e_iret rfl dX6_breaksIn_45 (hP _ _ (by rw [← hq, ar_m1]; rfl))
    · omega
  | succ r ih =>
    intro i x hr hx hq
    have hvi := sInv_tickN hvd i
    refine e_iload_n dX6_breaksIn_21 rfl rfl ?_
    refine e_iload_n dX6_breaksIn_22 rfl rfl ?_
    refine e_icmp_gt (tgt := 44) dX6_breaksIn_23 (by decide) (fun c23 => ?_) (fun c23 => ?_)
    · omega
    · refine e_aload_n dX6_breaksIn_26 rfl rfl ?_
      refine sy_g6_3 wF_X6_27 dX6_breaksIn_27 ?_
      refine ev_as (sy_as G b _ h 1 (by decide)) ?_
      refine e_invV (mcY := 0) (msY := 0) (ct_X0_tick (c := sc b 1) (σ := (ss_C S 1 (tickN (i) (sDr S))).2.2.2 1) hvi) vX0_tick wM_X6_115 (ch_at G (sc b 1) _ (sy G b _ h) 0 (by decide)) rfl dX6_breaksIn_30 rfl rfl (Nat.le_of_ble_eq_true rfl) (Nat.le_trans (Nat.le_of_ble_eq_true rfl) hJ) ?_
      rintro _ _ ⟨rfl, rfl⟩
      refine ev_as (sy_chset G b _ h 1 _ (by decide)) ?_
      refine e_if_le (tgt := 38) dX6_breaksIn_33 (by decide) (fun c33 => ?_) (fun c33 => ?_)
      · skip
        refine e_iinc dX6_breaksIn_38 rfl rfl (Nat.le_of_ble_eq_true rfl) ?_
        refine e_goto (tgt := 21) dX6_breaksIn_41 (by decide) ?_
        refine ev_as ?_ (ih (i + 1) _ (by omega) (ar_inc hx (by omega)) ?_)
        · rw [ss_C_C]; rfl
        · rw [← hq]
          show _ = (if 0 < (sBrN (tickN i (sDr S))).toInt then ((i : Int) + 1) else sBrkF (sDr S) r (i + 1))
          have c33b : (sBrN (tickN i (sDr S))).toInt ≤ 0 := c33
          rw [if_neg (by omega)]
      · refine e_iload_n dX6_breaksIn_36 rfl rfl ?_
        skip
        refine e_iret rfl dX6_breaksIn_37 ?_
        rw [ss_C_C]
        exact hP _ _ (by rw [hx, ← hq]; show _ = (if 0 < (sBrN (tickN i (sDr S))).toInt then ((i : Int) + 1) else sBrkF (sDr S) r (i + 1)); have c33b : 0 < (sBrN (tickN i (sDr S))).toInt := c33; rw [if_pos c33b]; omega)
set_option maxRecDepth 20000 in
theorem ct_X6_breaksIn (hl0 : l.stackTraces = false) (hq : h.2 = none) (hvd : sInv (sDr S)) : ev_Ct G l mX6_breaksIn 8 1 6 [.ref b, .int x] (sy G b S h) (fun v a => (∃ r : Int32, v = some (.int r) ∧ r.toInt = sBrkF (sDr S) x.toInt.toNat 0) ∧ (∃ τ, a = sy G b (ss_C S 1 τ) h) ∧ (1 ≤ x.toInt ∧ x.toInt ≤ 200)) (fun E a => (E = xA ∧ a = sy G b S h) ∧ ¬ (1 ≤ x.toInt ∧ x.toInt ≤ 200)) := by
  refine ev_Ct.of (by decide +kernel) (Nat.le_of_ble_eq_true rfl) ?_
  have w1 : (1 : Int32).toInt = 1 := by decide +kernel
  have w200 : (200 : Int32).toInt = 200 := by decide +kernel
  refine e_iload_n dX6_breaksIn_0 rfl rfl ?_
  refine e_iconst (v := 1) dX6_breaksIn_1 (by decide) ?_
  refine e_sipush (v := 200) dX6_breaksIn_2 (by decide) ?_
  refine e_invSX (mcY := 1) (msY := 6) (ct_X6_requireWithin hl0 (q := sy G b S h) hq) vX6_requireWithin wM_X6_48 dX6_breaksIn_5 rfl rfl (Nat.le_of_ble_eq_true rfl) (Nat.le_of_ble_eq_true rfl) rfl rfl (fun E c q => ⟨q.1, by have := q.2; omega⟩) ?_
  rintro _ _ ⟨⟨rfl, rfl⟩, g1, g2⟩
  refine e_aload_n dX6_breaksIn_8 rfl rfl ?_
  refine sy_g6_3 wF_X6_27 dX6_breaksIn_9 ?_
  refine e_aload_n dX6_breaksIn_12 rfl rfl ?_
  refine sy_g6_2 wF_X6_23 dX6_breaksIn_13 ?_
  refine ev_as (sy_as2 G b _ h 1 0 (by decide) (by decide)) ?_
  refine e_invV (mcY := 0) (msY := 0) (ct_X0_become (c := sc b 1) (e := sc b 0) (sc_apart b 1 0 (by decide) (by decide) (by decide))) vX0_become wM_X6_64 (ch_at G (sc b 1) _ (ch G (sc b 0) _ (sy G b _ h)) 0 (by decide)) rfl dX6_breaksIn_16 rfl rfl (Nat.le_of_ble_eq_true rfl) (Nat.le_of_ble_eq_true rfl) ?_
  rintro _ _ ⟨rfl, rfl⟩
  refine ev_as (sy_ch2 G b _ h 1 0 _ (by decide) (by decide)) ?_
  refine e_iconst (v := 1) dX6_breaksIn_19 (by decide) ?_
  refine e_istore_n dX6_breaksIn_20 rfl (Nat.le_of_ble_eq_true rfl) ?_
  refine ev_loc (L' := [some (.ref b), some (.int x), some (.int 1)]) ⟨rfl, rfl, rfl, trivial⟩ ?_
  exact lp_breaksIn (Nat.le_of_ble_eq_true rfl) hvd x x.toInt.toNat (by omega) (by omega) (fun r τ hr => by exact ⟨⟨r, rfl, hr⟩, ⟨τ, rfl⟩, by omega, by omega⟩) x.toInt.toNat 0 _ (by omega) ar_1 rfl
set_option maxRecDepth 20000 in
theorem lp_period {J : ev_K} {k n : Nat} (hJ : 7 ≤ J.2.2.1) (hvd : sInv (sDr S)) (m : Int32) (m1 : 0 ≤ m.toInt) (m2 : m.toInt < sM (S.2.2.2 0)) (y : Int32) (d : Nat) (hy : y.toInt = (d : Int)) (hd : d ≤ 300) (hP : ∀ (r : Int32) (τ : CS), r.toInt = sPerF (sDr S) m.toInt.toNat d 0 0 → J.2.2.2.2.2.1 (some (.int r)) (sy G b (ss_C S 1 τ) h)) : ∀ (r i f : Nat) (x z : Int32), r + i = d → x.toInt = ((i + 1 : Nat) : Int) → z.toInt = (f : Int) → f ≤ i → sPerF (sDr S) m.toInt.toNat r i f = sPerF (sDr S) m.toInt.toNat d 0 0 → ev_V G l mX6_period J 29 [some (.ref b), some (.int m), some (.int y), some (.int z), some (.int x)] [] (sy G b (ss_C S 1 (tickN (i) (sDr S))) h) k n := by
  intro r
  induction r with
  | zero =>
    intro i f x z hr hx hz hfi hq
    refine e_iload dX6_period_29 rfl ?_
    refine e_iload_n dX6_period_31 rfl rfl ?_
    refine e_icmp_gt (tgt := 95) dX6_period_32 (by decide) (fun c32 => ?_) (fun c32 => ?_)
    · refine e_iconst (v := (-1)) dX6_period_95 (by decide) ?_
      exact e_iret rfl dX6_period_96 (hP _ _ (by rw [← hq, ar_m1]; rfl))
    · omega
  | succ r ih =>
    intro i f x z hr hx hz hfi hq
    have hvi := sInv_tickN hvd i
    have hvi1 := sInv_tickN hvd (i + 1)
    have hsm : sM (tickN i (sDr S)) = sM (S.2.2.2 0) := sM_tickN _ i
    have hsm1 : sM (tickN (i + 1) (sDr S)) = sM (S.2.2.2 0) := sM_tickN _ (i + 1)
    have hq2 : (if ((tickN i (sDr S)).2.2 1 m.toInt.toNat).toInt ≤ 0 ∧ 0 < ((tickN (i + 1) (sDr S)).2.2 1 m.toInt.toNat).toInt then (if 0 < f then ((i : Int) + 1 : Int) - f else sPerF (sDr S) m.toInt.toNat r (i + 1) (i + 1)) else sPerF (sDr S) m.toInt.toNat r (i + 1) f) = sPerF (sDr S) m.toInt.toNat d 0 0 := hq
    refine e_iload dX6_period_29 rfl ?_
    refine e_iload_n dX6_period_31 rfl rfl ?_
    refine e_icmp_gt (tgt := 95) dX6_period_32 (by decide) (fun c32 => ?_) (fun c32 => ?_)
    · omega
    · refine e_aload_n dX6_period_35 rfl rfl ?_
      refine sy_g6_3 wF_X6_27 dX6_period_36 ?_
      refine e_iload_n dX6_period_39 rfl rfl ?_
      refine ev_as (sy_as G b _ h 1 (by decide)) ?_
      refine e_invV (mcY := 0) (msY := 0) (ct_X0_displacementOf (c := sc b 1) (σ := (ss_C S 1 (tickN (i) (sDr S))).2.2.2 1) m1 (by show m.toInt < sM (tickN i (sDr S)); omega) hvi.1) vX0_displacementOf wM_X6_119 (ch_at G (sc b 1) _ (sy G b _ h) 0 (by decide)) rfl dX6_period_40 rfl rfl (Nat.le_of_ble_eq_true rfl) (Nat.le_trans (Nat.le_of_ble_eq_true rfl) hJ) ?_
      rintro _ _ ⟨rfl, rfl⟩
      refine ev_as (sy_as G b _ h 1 (by decide)).symm ?_
      refine e_if_gt (tgt := 50) dX6_period_43 (by decide) (fun c43 => ?_) (fun c43 => ?_)
      · have c43b : 0 < ((tickN i (sDr S)).2.2 1 m.toInt.toNat).toInt := c43
        rw [if_neg (by omega)] at hq2
        refine e_iconst (v := 0) dX6_period_50 (by decide) ?_
        refine e_istore dX6_period_51 (Nat.le_of_ble_eq_true rfl) ?_
        refine e_aload_n dX6_period_53 rfl rfl ?_
        refine sy_g6_3 wF_X6_27 dX6_period_54 ?_
        refine ev_as (sy_as G b _ h 1 (by decide)) ?_
        refine e_invV (mcY := 0) (msY := 0) (ct_X0_tick (c := sc b 1) (σ := (ss_C S 1 (tickN (i) (sDr S))).2.2.2 1) hvi) vX0_tick wM_X6_115 (ch_at G (sc b 1) _ (sy G b _ h) 0 (by decide)) rfl dX6_period_57 rfl rfl (Nat.le_of_ble_eq_true rfl) (Nat.le_trans (Nat.le_of_ble_eq_true rfl) hJ) ?_
        rintro _ _ ⟨rfl, rfl⟩
        refine ev_as (sy_chset G b _ h 1 _ (by decide)) ?_
        refine e_pop dX6_period_60 rfl ?_
        refine e_iload dX6_period_61 rfl ?_
        refine e_if_eq (tgt := 89) dX6_period_63 (by decide) (fun c63 => ?_) (fun c63 => ?_)
        · refine e_iinc dX6_period_89 rfl rfl (Nat.le_of_ble_eq_true rfl) ?_
          refine e_goto (tgt := 29) dX6_period_92 (by decide) ?_
          refine ev_loc (L' := [some (.ref b), some (.int m), some (.int y), some (.int _), some (.int _)]) ⟨rfl, rfl, rfl, rfl, rfl, trivial⟩ ?_
          first
            | exact ev_as (by rw [ss_C_C]; rfl) (ih (i + 1) f _ _ (by omega) (ar_inc hx (by omega)) hz (by omega) hq2)
            | exact ev_as (by rw [ss_C_C]; rfl) (ih (i + 1) (i + 1) _ _ (by omega) (ar_inc hx (by omega)) hx (by omega) hq2)
        · first | exact absurd c63 (by decide) | exact absurd rfl c63
      · have c43b : ((tickN i (sDr S)).2.2 1 m.toInt.toNat).toInt ≤ 0 := c43
        refine e_iconst (v := 1) dX6_period_46 (by decide) ?_
        refine e_goto (tgt := 51) dX6_period_47 (by decide) ?_
        refine e_istore dX6_period_51 (Nat.le_of_ble_eq_true rfl) ?_
        refine e_aload_n dX6_period_53 rfl rfl ?_
        refine sy_g6_3 wF_X6_27 dX6_period_54 ?_
        refine ev_as (sy_as G b _ h 1 (by decide)) ?_
        refine e_invV (mcY := 0) (msY := 0) (ct_X0_tick (c := sc b 1) (σ := (ss_C S 1 (tickN (i) (sDr S))).2.2.2 1) hvi) vX0_tick wM_X6_115 (ch_at G (sc b 1) _ (sy G b _ h) 0 (by decide)) rfl dX6_period_57 rfl rfl (Nat.le_of_ble_eq_true rfl) (Nat.le_trans (Nat.le_of_ble_eq_true rfl) hJ) ?_
        rintro _ _ ⟨rfl, rfl⟩
        refine ev_as (sy_chset G b _ h 1 _ (by decide)) ?_
        refine e_pop dX6_period_60 rfl ?_
        refine e_iload dX6_period_61 rfl ?_
        refine e_if_eq (tgt := 89) dX6_period_63 (by decide) (fun c63 => ?_) (fun c63 => ?_)
        · first | exact absurd c63 (by decide) | exact absurd rfl c63
        · refine e_aload_n dX6_period_66 rfl rfl ?_
          refine sy_g6_3 wF_X6_27 dX6_period_67 ?_
          refine e_iload_n dX6_period_70 rfl rfl ?_
          refine ev_as (sy_as G b _ h 1 (by decide)) ?_
          refine e_invV (mcY := 0) (msY := 0) (ct_X0_displacementOf (c := sc b 1) (σ := (ss_C (ss_C S 1 (tickN (i) (sDr S))) 1 (sTick ((ss_C S 1 (tickN (i) (sDr S))).2.2.2 1))).2.2.2 1) m1 (by rw [ss_C_at]; show m.toInt < sM (tickN (i + 1) (sDr S)); omega) (by rw [ss_C_at]; exact hvi1.1)) vX0_displacementOf wM_X6_119 (ch_at G (sc b 1) _ (sy G b _ h) 0 (by decide)) rfl dX6_period_71 rfl rfl (Nat.le_of_ble_eq_true rfl) (Nat.le_trans (Nat.le_of_ble_eq_true rfl) hJ) ?_
          rintro _ _ ⟨rfl, rfl⟩
          refine ev_as (sy_as G b _ h 1 (by decide)).symm ?_
          refine e_if_le (tgt := 89) dX6_period_74 (by decide) (fun c74 => ?_) (fun c74 => ?_)
          · have c74b : ((tickN (i + 1) (sDr S)).2.2 1 m.toInt.toNat).toInt ≤ 0 := c74
            rw [if_neg (by omega)] at hq2
            refine e_iinc dX6_period_89 rfl rfl (Nat.le_of_ble_eq_true rfl) ?_
            refine e_goto (tgt := 29) dX6_period_92 (by decide) ?_
            refine ev_loc (L' := [some (.ref b), some (.int m), some (.int y), some (.int _), some (.int _)]) ⟨rfl, rfl, rfl, rfl, rfl, trivial⟩ ?_
            first
              | exact ev_as (by rw [ss_C_C]; rfl) (ih (i + 1) f _ _ (by omega) (ar_inc hx (by omega)) hz (by omega) hq2)
              | exact ev_as (by rw [ss_C_C]; rfl) (ih (i + 1) (i + 1) _ _ (by omega) (ar_inc hx (by omega)) hx (by omega) hq2)
          · have c74b : 0 < ((tickN (i + 1) (sDr S)).2.2 1 m.toInt.toNat).toInt := c74
            rw [if_pos ⟨c43b, c74b⟩] at hq2
            refine e_iload_n dX6_period_77 rfl rfl ?_
            refine e_if_le (tgt := 86) dX6_period_78 (by decide) (fun c78 => ?_) (fun c78 => ?_)
            · rw [if_neg (by omega)] at hq2
              refine e_iload dX6_period_86 rfl ?_
              refine e_istore_n dX6_period_88 rfl (Nat.le_of_ble_eq_true rfl) ?_
              refine e_iinc dX6_period_89 rfl rfl (Nat.le_of_ble_eq_true rfl) ?_
              refine e_goto (tgt := 29) dX6_period_92 (by decide) ?_
              refine ev_loc (L' := [some (.ref b), some (.int m), some (.int y), some (.int _), some (.int _)]) ⟨rfl, rfl, rfl, rfl, rfl, trivial⟩ ?_
              first
                | exact ev_as (by rw [ss_C_C]; rfl) (ih (i + 1) f _ _ (by omega) (ar_inc hx (by omega)) hz (by omega) hq2)
                | exact ev_as (by rw [ss_C_C]; rfl) (ih (i + 1) (i + 1) _ _ (by omega) (ar_inc hx (by omega)) hx (by omega) hq2)
            · rw [if_pos (by omega)] at hq2
              refine e_iload dX6_period_81 rfl ?_
              refine e_iload_n dX6_period_83 rfl rfl ?_
              refine e_isub dX6_period_84 ?_
              refine e_iret rfl dX6_period_85 ?_
              rw [ss_C_C]
              exact hP _ _ (by rw [← hq2, ar_sub (by omega) (by omega), hx, hz]; omega)
set_option maxRecDepth 20000 in
theorem ct_X6_period (hl0 : l.stackTraces = false) (hq : h.2 = none) (hvd : sInv (sDr S)) : ev_Ct G l mX6_period 8 2 12 [.ref b, .int x, .int y] (sy G b S h) (fun v a => (∃ r : Int32, v = some (.int r) ∧ r.toInt = sPerF (sDr S) x.toInt.toNat y.toInt.toNat 0 0) ∧ (∃ τ, a = sy G b (ss_C S 1 τ) h) ∧ (0 ≤ x.toInt ∧ x.toInt < sM (S.2.2.2 0)) ∧ (1 ≤ y.toInt ∧ y.toInt ≤ 300)) (fun E a => ((E = xI ∧ a = sy G b S h) ∧ ¬ (0 ≤ x.toInt ∧ x.toInt < sM (S.2.2.2 0))) ∨ ((E = xA ∧ a = sy G b S h) ∧ (0 ≤ x.toInt ∧ x.toInt < sM (S.2.2.2 0)) ∧ ¬ (1 ≤ y.toInt ∧ y.toInt ≤ 300))) := by
  refine ev_Ct.of (by decide +kernel) (Nat.le_of_ble_eq_true rfl) ?_
  have w1 : (1 : Int32).toInt = 1 := by decide +kernel
  have w300 : (300 : Int32).toInt = 300 := by decide +kernel
  refine e_aload_n dX6_period_0 rfl rfl ?_
  refine e_iload_n dX6_period_1 rfl rfl ?_
  refine e_invVX (mcY := 1) (msY := 6) (ct_X6_requireMass hl0 hq) vX6_requireMass wM_X6_78 (sy_at G b _ h 0 (by decide)) rfl dX6_period_2 rfl rfl (Nat.le_of_ble_eq_true rfl) (Nat.le_of_ble_eq_true rfl) rfl rfl (fun E c q => Or.inl q) ?_
  rintro _ _ ⟨⟨rfl, rfl⟩, m1, m2⟩
  refine e_iload_n dX6_period_5 rfl rfl ?_
  refine e_iconst (v := 1) dX6_period_6 (by decide) ?_
  refine e_sipush (v := 300) dX6_period_7 (by decide) ?_
  refine e_invSX (mcY := 1) (msY := 6) (ct_X6_requireWithin hl0 (q := sy G b S h) hq) vX6_requireWithin wM_X6_48 dX6_period_10 rfl rfl (Nat.le_of_ble_eq_true rfl) (Nat.le_of_ble_eq_true rfl) rfl rfl (fun E c q => Or.inr ⟨q.1, ⟨m1, m2⟩, by have := q.2; omega⟩) ?_
  rintro _ _ ⟨⟨rfl, rfl⟩, g1, g2⟩
  refine e_aload_n dX6_period_13 rfl rfl ?_
  refine sy_g6_3 wF_X6_27 dX6_period_14 ?_
  refine e_aload_n dX6_period_17 rfl rfl ?_
  refine sy_g6_2 wF_X6_23 dX6_period_18 ?_
  refine ev_as (sy_as2 G b _ h 1 0 (by decide) (by decide)) ?_
  refine e_invV (mcY := 0) (msY := 0) (ct_X0_become (c := sc b 1) (e := sc b 0) (sc_apart b 1 0 (by decide) (by decide) (by decide))) vX0_become wM_X6_64 (ch_at G (sc b 1) _ (ch G (sc b 0) _ (sy G b _ h)) 0 (by decide)) rfl dX6_period_21 rfl rfl (Nat.le_of_ble_eq_true rfl) (Nat.le_of_ble_eq_true rfl) ?_
  rintro _ _ ⟨rfl, rfl⟩
  refine ev_as (sy_ch2 G b _ h 1 0 _ (by decide) (by decide)) ?_
  refine e_iconst (v := 0) dX6_period_24 (by decide) ?_
  refine e_istore_n dX6_period_25 rfl (Nat.le_of_ble_eq_true rfl) ?_
  refine e_iconst (v := 1) dX6_period_26 (by decide) ?_
  refine e_istore dX6_period_27 (Nat.le_of_ble_eq_true rfl) ?_
  refine ev_loc (L' := [some (.ref b), some (.int x), some (.int y), some (.int 0), some (.int 1)]) ⟨rfl, rfl, rfl, rfl, rfl, trivial⟩ ?_
  exact lp_period (Nat.le_of_ble_eq_true rfl) hvd x m1 m2 y y.toInt.toNat (by omega) (by omega) (fun r τ hr => by exact ⟨⟨r, rfl, hr⟩, ⟨τ, rfl⟩, ⟨m1, m2⟩, by omega, by omega⟩) y.toInt.toNat 0 0 _ _ (by omega) ar_1 ar_0 (Nat.le_refl _) rfl

end Y4
