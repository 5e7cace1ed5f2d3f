/-! the cases: pluck, strike -/
section LWB
variable {G : ev_G} {l : Launch} {J : ev_K} {k n : Nat} {a : ev_H} {b u r q8 z pB N j : Nat} {K : KPT} {S : SS} {A : Nat → Nat} {nI : Nat} {mI : Nat → TI} {g : Nat → Option Nat} {q0 : Nat} {x2 x7 x9 x10 k13 i14 : Int32} {T : Int}
set_option maxRecDepth 20000 in
theorem lw_2 (hub : ¬ (b ≤ u ∧ u < b + 157)) (hq8 : q8 ≠ b + 36) (hl0 : l.stackTraces = false) (hJ : 15 ≤ J.2.2.1) (h : ST G b u r q8 K S A (S.2.2.2 0) nI mI g a) (hz : a.2 = some z) (hh : hOk S) (hI : IV T (S.2.2.2 0) nI mI) (hT : T ≤ 1000) (hN : sNm (S.2.2.2 0) = N) (h7 : x7.toInt = (N : Int)) (hN1 : 1 ≤ N) (hN6 : N ≤ 6) (h13 : k13.toInt = (j : Int)) (hj : j ≤ N) (h14 : i14 = if j < N then 1 else 0) (hk : ∀ (fl : Int32) (S2 : SS) (A2 : Nat → Nat) (σ2 : CS) (n2 : Nat) (m2 : Nat → TI) (a2 : ev_H) (z2 : Nat), ((fl = 0 ∧ S2 = S) ∨ (fl = 1 ∧ S2 = ss_C (sKeep S) 0 σ2)) → ST G b u r q8 K S2 A2 σ2 n2 m2 g a2 → S2.2.2.2 0 = σ2 → IV (T + 8) σ2 n2 m2 → sNm σ2 = N → A2 0 = A 0 → a2.2 = some z2 → ev_V G l mL_law J 1142 [some (.ref q0), some (.int 1), some (.int x2), some (.ref b), some (.ref u), some (.ref r), some (.ref (A 0)), some (.int x7), some (.ref q8), some (.int x9), some (.int x10), some (.ref pB), some (.int fl)] [] a2 k n) : ev_V G l mL_law J 440 [some (.ref q0), some (.int 1), some (.int x2), some (.ref b), some (.ref u), some (.ref r), some (.ref (A 0)), some (.int x7), some (.ref q8), some (.int x9), some (.int x10), some (.ref pB), some (.int 1), some (.int k13), some (.int i14)] [] a (k + 2) (n + 12) := by
  have hsM : sM (S.2.2.2 0) = (N : Int) := by have := hI.1.1.nat; omega
  have hjn := ar_nat h13
  have w10000 : (10000 : Int32).toInt = 10000 := by decide +kernel
  refine e_aload dL_law_440 rfl ?_
  refine e_sipush (v := 21001) dL_law_442 (by decide) ?_
  refine st_bel h hz (by decide +kernel) wM_L_131 dL_law_445 (Nat.le_of_ble_eq_true rfl) (Nat.le_trans (Nat.le_of_ble_eq_true rfl) hJ) ?_
  intro v a_v v0 v1 h hz
  have w_v : (21001 : Int32).toInt = 21001 := by decide +kernel
  rw [w_v] at v1
  refine e_sipush (v := 10500) dL_law_448 (by decide) ?_
  refine e_isub dL_law_451 ?_
  have hw : (v - (10500 : Int32)).toInt = v.toInt - 10500 := by
    have wk : (10500 : Int32).toInt = 10500 := by decide +kernel
    rw [ar_sub (by rw [wk]; omega) (by rw [wk]; omega), wk]
  generalize v - (10500 : Int32) = w at hw ⊢
  refine e_istore dL_law_452 (Nat.le_of_ble_eq_true rfl) ?_
  by_cases hjN : j < N
  · obtain rfl : i14 = 1 := by rw [h14, if_pos hjN]
    refine e_iload dL_law_454 rfl ?_
    refine e_if_eq (tgt := 474) dL_law_456 (by decide) (fun q => absurd q (by decide)) (fun _ => ?_)
    refine e_iload dL_law_459 rfl ?_
    refine e_mabs wM_L_125 (Nat.le_of_ble_eq_true rfl) (Nat.le_trans (Nat.le_of_ble_eq_true rfl) hJ) dL_law_461 ?_
    refine e_sipush (v := 10000) dL_law_464 (by decide) ?_
    have hab := mabs_nat (x := w) (by omega) (by omega)
    refine e_icmp_gt (tgt := 474) dL_law_467 (by decide) (fun c9 => ?_) (fun c9 => ?_)
    · rw [hab, w10000] at c9
      refine e_iconst (v := 0) dL_law_474 (by decide) ?_
      refine e_istore dL_law_475 (Nat.le_of_ble_eq_true rfl) ?_
      refine e_iload dL_law_477 rfl ?_
      refine e_if_eq (tgt := 497) dL_law_479 (by decide) (fun q => absurd q (by decide)) (fun _ => ?_)
      refine e_aload dL_law_482 rfl ?_
      refine lc_g4 h.2.2.2.2.1 wF_L_150 dL_law_484 ?_
      refine e_iload dL_law_487 rfl ?_
      refine lc_q1 h.2.2.2.2.1 h13 (show j < sNm (S.2.2.2 0) by omega) dL_law_489 ?_
      refine lc_m1 h.2.2.2.2.1 (show j < sNm (S.2.2.2 0) by omega) wF_L_184 dL_law_490 ?_
      refine e_l2i dL_law_493 ?_
      rw [ar_6432]
      refine e_goto (tgt := 498) dL_law_494 (by decide) ?_
      refine e_istore dL_law_498 (Nat.le_of_ble_eq_true rfl) ?_
      refine e_iload dL_law_500 rfl ?_
      refine e_if_eq (tgt := 519) dL_law_502 (by decide) (fun _ => ?_) (fun q => absurd rfl q)
      refine e_aload_n dL_law_519 rfl rfl ?_
      refine e_iload dL_law_520 rfl ?_
      refine e_iload dL_law_522 rfl ?_
      refine st_call h hq8 hub (lh_pluck_A (x := k13) (y := w) hl0 rfl hh hI.1 (by omega) (by omega)) vL_pluck wM_L_249 dL_law_524 (as := [.ref b, .int k13, .int w]) rfl rfl (Nat.le_of_ble_eq_true rfl) (Nat.le_trans (Nat.le_of_ble_eq_true rfl) hJ) ?_
      intro a_pluck z h hz
      refine e_iload dL_law_527 rfl ?_
      refine e_if_eq (tgt := 537) dL_law_529 (by decide) (fun _ => ?_) (fun q => absurd rfl q)
      refine e_iload dL_law_537 rfl ?_
      refine e_if_eq (tgt := 547) dL_law_539 (by decide) (fun q => absurd q (by decide)) (fun _ => ?_)
      refine e_ldc dL_law_542 wK_L_42 ?_
      refine e_goto (tgt := 549) dL_law_544 (by decide) ?_
      refine e_icmp_ne (tgt := 556) dL_law_549 (by decide) (fun q => absurd (rfl) q) (fun _ => ?_)
      refine e_iconst (v := 1) dL_law_552 (by decide) ?_
      refine e_goto (tgt := 557) dL_law_553 (by decide) ?_
      refine e_istore_n dL_law_557 rfl (Nat.le_of_ble_eq_true rfl) ?_
      refine e_goto (tgt := 1142) dL_law_558 (by decide) ?_
      exact ev_lc (hk 0 S A _ nI mI _ _ (Or.inl ⟨rfl, rfl⟩) h rfl (hI.up (by omega)) hN rfl hz) ⟨rfl, rfl, rfl, rfl, rfl, rfl, rfl, rfl, rfl, rfl, rfl, rfl, rfl, trivial⟩
    · rw [hab, w10000] at c9
      refine e_iconst (v := 1) dL_law_470 (by decide) ?_
      refine e_goto (tgt := 475) dL_law_471 (by decide) ?_
      refine e_istore dL_law_475 (Nat.le_of_ble_eq_true rfl) ?_
      refine e_iload dL_law_477 rfl ?_
      refine e_if_eq (tgt := 497) dL_law_479 (by decide) (fun q => absurd q (by decide)) (fun _ => ?_)
      refine e_aload dL_law_482 rfl ?_
      refine lc_g4 h.2.2.2.2.1 wF_L_150 dL_law_484 ?_
      refine e_iload dL_law_487 rfl ?_
      refine lc_q1 h.2.2.2.2.1 h13 (show j < sNm (S.2.2.2 0) by omega) dL_law_489 ?_
      refine lc_m1 h.2.2.2.2.1 (show j < sNm (S.2.2.2 0) by omega) wF_L_184 dL_law_490 ?_
      refine e_l2i dL_law_493 ?_
      rw [ar_6432]
      refine e_goto (tgt := 498) dL_law_494 (by decide) ?_
      refine e_istore dL_law_498 (Nat.le_of_ble_eq_true rfl) ?_
      refine e_iload dL_law_500 rfl ?_
      refine e_if_eq (tgt := 519) dL_law_502 (by decide) (fun q => absurd q (by decide)) (fun _ => ?_)
      refine e_aload dL_law_505 rfl ?_
      refine lc_g4 h.2.2.2.2.1 wF_L_150 dL_law_507 ?_
      refine e_iload dL_law_510 rfl ?_
      refine lc_q1 h.2.2.2.2.1 h13 (show j < sNm (S.2.2.2 0) by omega) dL_law_512 ?_
      refine e_iload dL_law_513 rfl ?_
      refine e_i2l dL_law_515 ?_
      refine lc_wm1 (y := w) h.2.2.2.2.1 (show j < sNm (S.2.2.2 0) by omega) rfl wF_L_184 dL_law_516 ?_
      intro a2 C2 f2 z2
      have h := h.wr C2 f2 (fun q hq => Or.inl hq)
      have hz := z2.trans hz
      refine e_aload_n dL_law_519 rfl rfl ?_
      refine e_iload dL_law_520 rfl ?_
      refine e_iload dL_law_522 rfl ?_
      refine st_call h hq8 hub (lh_pluck_ok (x := k13) (y := w) hl0 rfl hh hI.1 (by omega) (by omega)) vL_pluck wM_L_249 dL_law_524 (as := [.ref b, .int k13, .int w]) rfl rfl (Nat.le_of_ble_eq_true rfl) (Nat.le_trans (Nat.le_of_ble_eq_true rfl) hJ) ?_
      intro a_pluck z h hz
      refine e_iload dL_law_527 rfl ?_
      refine e_if_eq (tgt := 537) dL_law_529 (by decide) (fun q => absurd q (by decide)) (fun _ => ?_)
      refine e_iload dL_law_532 rfl ?_
      refine e_goto (tgt := 549) dL_law_534 (by decide) ?_
      refine e_icmp_ne (tgt := 556) dL_law_549 (by decide) (fun q => absurd (by rw [hjn]) q) (fun _ => ?_)
      refine e_iconst (v := 1) dL_law_552 (by decide) ?_
      refine e_goto (tgt := 557) dL_law_553 (by decide) ?_
      refine e_istore_n dL_law_557 rfl (Nat.le_of_ble_eq_true rfl) ?_
      refine e_goto (tgt := 1142) dL_law_558 (by decide) ?_
      rw [hjn] at h
      exact ev_lc (hk 1 _ A _ nI mI _ _ (Or.inr ⟨rfl, rfl⟩) h (ss_C_at _ _ _) ((hI.pluck (show j < sNm (S.2.2.2 0) by omega) (by omega) (by omega)).up (by omega)) (hN) rfl hz) ⟨rfl, rfl, rfl, rfl, rfl, rfl, rfl, rfl, rfl, rfl, rfl, rfl, rfl, trivial⟩
  · obtain rfl : i14 = 0 := by rw [h14, if_neg hjN]
    refine e_iload dL_law_454 rfl ?_
    refine e_if_eq (tgt := 474) dL_law_456 (by decide) (fun _ => ?_) (fun q => absurd rfl q)
    refine e_iconst (v := 0) dL_law_474 (by decide) ?_
    refine e_istore dL_law_475 (Nat.le_of_ble_eq_true rfl) ?_
    refine e_iload dL_law_477 rfl ?_
    refine e_if_eq (tgt := 497) dL_law_479 (by decide) (fun _ => ?_) (fun q => absurd rfl q)
    refine e_iconst (v := 0) dL_law_497 (by decide) ?_
    refine e_istore dL_law_498 (Nat.le_of_ble_eq_true rfl) ?_
    refine e_iload dL_law_500 rfl ?_
    refine e_if_eq (tgt := 519) dL_law_502 (by decide) (fun _ => ?_) (fun q => absurd rfl q)
    refine e_aload_n dL_law_519 rfl rfl ?_
    refine e_iload dL_law_520 rfl ?_
    refine e_iload dL_law_522 rfl ?_
    refine st_call h hq8 hub (lh_pluck_I (x := k13) (y := w) hl0 rfl hh hI.1 (by omega)) vL_pluck wM_L_249 dL_law_524 (as := [.ref b, .int k13, .int w]) rfl rfl (Nat.le_of_ble_eq_true rfl) (Nat.le_trans (Nat.le_of_ble_eq_true rfl) hJ) ?_
    intro a_pluck z h hz
    refine e_iload dL_law_527 rfl ?_
    refine e_if_eq (tgt := 537) dL_law_529 (by decide) (fun _ => ?_) (fun q => absurd rfl q)
    refine e_iload dL_law_537 rfl ?_
    refine e_if_eq (tgt := 547) dL_law_539 (by decide) (fun _ => ?_) (fun q => absurd rfl q)
    refine e_ldc dL_law_547 wK_L_58 ?_
    refine e_icmp_ne (tgt := 556) dL_law_549 (by decide) (fun q => absurd (rfl) q) (fun _ => ?_)
    refine e_iconst (v := 1) dL_law_552 (by decide) ?_
    refine e_goto (tgt := 557) dL_law_553 (by decide) ?_
    refine e_istore_n dL_law_557 rfl (Nat.le_of_ble_eq_true rfl) ?_
    refine e_goto (tgt := 1142) dL_law_558 (by decide) ?_
    exact ev_lc (hk 0 S A _ nI mI _ _ (Or.inl ⟨rfl, rfl⟩) h rfl (hI.up (by omega)) hN rfl hz) ⟨rfl, rfl, rfl, rfl, rfl, rfl, rfl, rfl, rfl, rfl, rfl, rfl, rfl, trivial⟩
set_option maxRecDepth 20000 in
theorem lw_3 (hub : ¬ (b ≤ u ∧ u < b + 157)) (hq8 : q8 ≠ b + 36) (hl0 : l.stackTraces = false) (hJ : 15 ≤ J.2.2.1) (h : ST G b u r q8 K S A (S.2.2.2 0) nI mI g a) (hz : a.2 = some z) (hh : hOk S) (hI : IV T (S.2.2.2 0) nI mI) (hT : T ≤ 1000) (hN : sNm (S.2.2.2 0) = N) (h7 : x7.toInt = (N : Int)) (hN1 : 1 ≤ N) (hN6 : N ≤ 6) (h13 : k13.toInt = (j : Int)) (hj : j ≤ N) (h14 : i14 = if j < N then 1 else 0) (hk : ∀ (fl : Int32) (S2 : SS) (A2 : Nat → Nat) (σ2 : CS) (n2 : Nat) (m2 : Nat → TI) (a2 : ev_H) (z2 : Nat), ((fl = 0 ∧ S2 = S) ∨ (fl = 1 ∧ S2 = ss_C (sKeep S) 0 σ2)) → ST G b u r q8 K S2 A2 σ2 n2 m2 g a2 → S2.2.2.2 0 = σ2 → IV (T + 8) σ2 n2 m2 → sNm σ2 = N → A2 0 = A 0 → a2.2 = some z2 → ev_V G l mL_law J 1142 [some (.ref q0), some (.int 1), some (.int x2), some (.ref b), some (.ref u), some (.ref r), some (.ref (A 0)), some (.int x7), some (.ref q8), some (.int x9), some (.int x10), some (.ref pB), some (.int fl)] [] a2 k n) : ev_V G l mL_law J 561 [some (.ref q0), some (.int 1), some (.int x2), some (.ref b), some (.ref u), some (.ref r), some (.ref (A 0)), some (.int x7), some (.ref q8), some (.int x9), some (.int x10), some (.ref pB), some (.int 1), some (.int k13), some (.int i14)] [] a (k + 2) (n + 12) := by
  have hsM : sM (S.2.2.2 0) = (N : Int) := by have := hI.1.1.nat; omega
  have hjn := ar_nat h13
  have w7 : (7 : Int32).toInt = 7 := by decide +kernel
  refine e_bipush (v := 7) dL_law_561 (by decide) ?_
  refine e_aload dL_law_563 rfl ?_
  refine e_sipush (v := 28001) dL_law_565 (by decide) ?_
  refine st_bel h hz (by decide +kernel) wM_L_131 dL_law_568 (Nat.le_of_ble_eq_true rfl) (Nat.le_trans (Nat.le_of_ble_eq_true rfl) hJ) ?_
  intro v a_v v0 v1 h hz
  have w_v : (28001 : Int32).toInt = 28001 := by decide +kernel
  rw [w_v] at v1
  refine e_sipush (v := 14000) dL_law_571 (by decide) ?_
  refine e_isub dL_law_574 ?_
  have hw : (v - (14000 : Int32)).toInt = v.toInt - 14000 := by
    have wk : (14000 : Int32).toInt = 14000 := by decide +kernel
    rw [ar_sub (by rw [wk]; omega) (by rw [wk]; omega), wk]
  generalize v - (14000 : Int32) = w at hw ⊢
  refine e_imul dL_law_575 ?_
  have hm : ((7 : Int32) * w).toInt = 7 * w.toInt := by rw [ar_mul (by rw [w7]; omega) (by rw [w7]; omega), w7]
  generalize (7 : Int32) * w = m at hm ⊢
  refine e_istore dL_law_576 (Nat.le_of_ble_eq_true rfl) ?_
  by_cases hjN : j < N
  · obtain rfl : i14 = 1 := by rw [h14, if_pos hjN]
    refine e_iload dL_law_578 rfl ?_
    refine e_istore dL_law_580 (Nat.le_of_ble_eq_true rfl) ?_
    refine e_iload dL_law_582 rfl ?_
    refine e_if_eq (tgt := 647) dL_law_584 (by decide) (fun q => absurd q (by decide)) (fun _ => ?_)
    refine e_aload dL_law_587 rfl ?_
    refine lc_g4 h.2.2.2.2.1 wF_L_150 dL_law_589 ?_
    refine e_iload dL_law_592 rfl ?_
    refine lc_q1 h.2.2.2.2.1 h13 (show j < sNm (S.2.2.2 0) by omega) dL_law_594 ?_
    refine lc_m2 h.2.2.2.2.1 (show j < sNm (S.2.2.2 0) by omega) wF_L_189 dL_law_595 ?_
    refine e_iload dL_law_598 rfl ?_
    refine e_i2l dL_law_600 ?_
    refine e_ladd dL_law_601 ?_
    refine e_ldc2 dL_law_602 wK_L_277 ?_
    refine e_invS (mcY := 0) (msY := 0) (ct_L_limited (by decide +kernel)) vL_limited wM_L_279 dL_law_605 (as := [.long (((S.2.2.2 0).2.2 2 j).toInt64 + m.toInt64), .long 100000000]) rfl rfl (Nat.le_of_ble_eq_true rfl) (Nat.le_trans (Nat.le_of_ble_eq_true rfl) hJ) ?_
    rintro v9 c9 ⟨rfl, e9⟩
    rw [e9]
    have wl : mWi (((S.2.2.2 0).2.2 2 j).toInt64 + m.toInt64) 100000000 = (sLim (((S.2.2.2 0).2.2 2 j).toInt64 + m.toInt64) 100000000).toInt64 := mWi_lim (by decide +kernel) (by decide +kernel)
    rw [wl]
    refine e_lstore dL_law_608 (Nat.le_of_ble_eq_true rfl) ?_
    have hb2 := hI.2.1.2.1 j (by omega)
    have w8 : (100000000 : Int32).toInt = 100000000 := by decide +kernel
    have hlb := sLim_b (x := ((S.2.2.2 0).2.2 2 j).toInt64 + m.toInt64) (b := 100000000) (by rw [w8]; decide)
    rw [w8] at hlb
    have e64 : ((sLim (((S.2.2.2 0).2.2 2 j).toInt64 + m.toInt64) 100000000) - (S.2.2.2 0).2.2 2 j).toInt64 = (sLim (((S.2.2.2 0).2.2 2 j).toInt64 + m.toInt64) 100000000).toInt64 - ((S.2.2.2 0).2.2 2 j).toInt64 := ar_64sub (by omega) (by omega)
    refine e_aload dL_law_610 rfl ?_
    refine lc_g8 h.2.2.2.2.1 wF_L_192 dL_law_612 ?_
    refine e_iconst (v := 3) dL_law_615 (by decide) ?_
    refine e_dup2 dL_law_616 rfl rfl ?_
    refine lc_a1 (w := 2) h.2.2.2.2.1 (show (3 : Int32).toInt = ((2 + 1 : Nat) : Int) by decide +kernel) (by decide) dL_law_617 ?_
    refine e_lload dL_law_618 rfl ?_
    refine e_aload dL_law_620 rfl ?_
    refine lc_g4 h.2.2.2.2.1 wF_L_150 dL_law_622 ?_
    refine e_iload dL_law_625 rfl ?_
    refine lc_q1 h.2.2.2.2.1 h13 (show j < sNm (S.2.2.2 0) by omega) dL_law_627 ?_
    refine lc_m2 h.2.2.2.2.1 (show j < sNm (S.2.2.2 0) by omega) wF_L_189 dL_law_628 ?_
    refine e_lsub dL_law_631 ?_
    refine e_ladd dL_law_632 ?_
    rw [← e64]
    refine lc_wa1 (w := 2) h.2.2.2.2.1 (show (3 : Int32).toInt = ((2 + 1 : Nat) : Int) by decide +kernel) (by decide) dL_law_633 ?_
    intro a2 C2 f2 z2
    have h := h.wr C2 f2 (fun q hq => Or.inl hq)
    have hz := z2.trans hz
    refine e_aload dL_law_634 rfl ?_
    refine lc_g4 h.2.2.2.2.1 wF_L_150 dL_law_636 ?_
    refine e_iload dL_law_639 rfl ?_
    refine lc_q1 h.2.2.2.2.1 h13 (show j < sNm (S.2.2.2 0) by omega) dL_law_641 ?_
    refine e_lload dL_law_642 rfl ?_
    refine lc_wm2 (y := (sLim (((S.2.2.2 0).2.2 2 j).toInt64 + m.toInt64) 100000000)) h.2.2.2.2.1 (show j < sNm (S.2.2.2 0) by omega) rfl wF_L_189 dL_law_644 ?_
    intro a2 C2 f2 z2
    have h := h.wr C2 f2 (fun q hq => Or.inl hq)
    have hz := z2.trans hz
    have h : ST G b u r q8 K S A (sHit (S.2.2.2 0) j m) nI mI g a2 := h
    refine e_aload_n dL_law_647 rfl rfl ?_
    refine e_iload dL_law_648 rfl ?_
    refine e_iload dL_law_650 rfl ?_
    refine st_call h hq8 hub (lh_strike_ok (x := k13) (y := m) hl0 rfl hh hI.1 (by omega) (by omega)) vL_strike wM_L_252 dL_law_652 (as := [.ref b, .int k13, .int m]) rfl rfl (Nat.le_of_ble_eq_true rfl) (Nat.le_trans (Nat.le_of_ble_eq_true rfl) hJ) ?_
    intro a_strike z h hz
    refine e_iload dL_law_655 rfl ?_
    refine e_if_eq (tgt := 675) dL_law_657 (by decide) (fun q => absurd q (by decide)) (fun _ => ?_)
    rw [hjn] at h ⊢
    refine e_aload dL_law_660 rfl ?_
    refine lc_g4 h.2.2.2.2.1 wF_L_150 dL_law_662 ?_
    refine e_iload dL_law_665 rfl ?_
    refine lc_q1 h.2.2.2.2.1 h13 (show j < sNm (S.2.2.2 0) by omega) dL_law_667 ?_
    refine lc_m2 (σ := sHit (S.2.2.2 0) j m) h.2.2.2.2.1 (show j < sNm (S.2.2.2 0) by omega) wF_L_189 dL_law_668 ?_
    refine e_l2i dL_law_671 ?_
    rw [ar_6432]
    refine e_goto (tgt := 677) dL_law_672 (by decide) ?_
    refine e_icmp_ne (tgt := 684) dL_law_677 (by decide) (fun q => absurd (rfl) q) (fun _ => ?_)
    refine e_iconst (v := 1) dL_law_680 (by decide) ?_
    refine e_goto (tgt := 685) dL_law_681 (by decide) ?_
    refine e_istore_n dL_law_685 rfl (Nat.le_of_ble_eq_true rfl) ?_
    refine e_goto (tgt := 1142) dL_law_686 (by decide) ?_
    exact ev_lc (hk 1 _ A _ nI mI _ _ (Or.inr ⟨rfl, rfl⟩) h (ss_C_at _ _ _) ((hI.hit (show j < sNm (S.2.2.2 0) by omega)).up (by omega)) (hN) rfl hz) ⟨rfl, rfl, rfl, rfl, rfl, rfl, rfl, rfl, rfl, rfl, rfl, rfl, rfl, trivial⟩
  · obtain rfl : i14 = 0 := by rw [h14, if_neg hjN]
    refine e_iload dL_law_578 rfl ?_
    refine e_istore dL_law_580 (Nat.le_of_ble_eq_true rfl) ?_
    refine e_iload dL_law_582 rfl ?_
    refine e_if_eq (tgt := 647) dL_law_584 (by decide) (fun _ => ?_) (fun q => absurd rfl q)
    refine e_aload_n dL_law_647 rfl rfl ?_
    refine e_iload dL_law_648 rfl ?_
    refine e_iload dL_law_650 rfl ?_
    refine st_call h hq8 hub (lh_strike_I (x := k13) (y := m) hl0 rfl hh hI.1 (by omega)) vL_strike wM_L_252 dL_law_652 (as := [.ref b, .int k13, .int m]) rfl rfl (Nat.le_of_ble_eq_true rfl) (Nat.le_trans (Nat.le_of_ble_eq_true rfl) hJ) ?_
    intro a_strike z h hz
    refine e_iload dL_law_655 rfl ?_
    refine e_if_eq (tgt := 675) dL_law_657 (by decide) (fun _ => ?_) (fun q => absurd rfl q)
    refine e_ldc dL_law_675 wK_L_58 ?_
    refine e_icmp_ne (tgt := 684) dL_law_677 (by decide) (fun q => absurd (rfl) q) (fun _ => ?_)
    refine e_iconst (v := 1) dL_law_680 (by decide) ?_
    refine e_goto (tgt := 685) dL_law_681 (by decide) ?_
    refine e_istore_n dL_law_685 rfl (Nat.le_of_ble_eq_true rfl) ?_
    refine e_goto (tgt := 1142) dL_law_686 (by decide) ?_
    exact ev_lc (hk 0 S A _ nI mI _ _ (Or.inl ⟨rfl, rfl⟩) h rfl (hI.up (by omega)) hN rfl hz) ⟨rfl, rfl, rfl, rfl, rfl, rfl, rfl, rfl, rfl, rfl, rfl, rfl, rfl, trivial⟩
end LWB
