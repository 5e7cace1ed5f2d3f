/-! the random chain: mass by mass, the left end -/
section RNE
variable {G : ev_G} {l : Launch} {J : ev_K} {k n : Nat} {a0 : ev_H} {b u r z0 c0 np ns t cc ni j : Nat} {S0 : SS} {D0 : CS} {x3 dt y5 : Int32}
set_option maxRecDepth 20000 in
theorem rs_E1 (hub : ¬ (b ≤ u ∧ u < b + 157)) (ht0 : ∀ (q : Nat) (e : va_E), a0.1 q = some e → q < z0) (hJ : 14 ≤ J.2.2.1) (h3 : 1 ≤ x3.toInt ∧ x3.toInt ≤ 6) (hx : y5.toInt = (j : Int)) (hj : (j : Int) < x3.toInt) (htt : t + 10 ≤ 480) (hcc : cc + 1 < 500) (hk : ∀ a, RX G a0 b u r z0 S0 D0 c0 x3 dt np ns (t + 10) (cc + 1) ni a → ev_V G l mL_randomChain J 453 [some (.ref b), some (.ref u), some (.ref r), some (.int x3), some (.ref c0), some (.int y5)] [] a k n) {a : ev_H} (h : RX G a0 b u r z0 S0 D0 c0 x3 dt np ns t cc ni a) : ev_V G l mL_randomChain J 390 [some (.ref b), some (.ref u), some (.ref r), some (.int x3), some (.ref c0), some (.int y5)] [] a (k + 1) (n + 2) := by
  obtain ⟨T, A, D, mI, c, hR, hP, hI, h3x, hs, hT, hc, rfl⟩ := h
  have hv := hI.1
  have hmn := hv.1.nat
  have hN : (D.1 0).toInt = ((sNm D : Nat) : Int) := hmn.1.symm
  rw [h3x] at hN
  have hxn := ar_nat hx
  have lx := nmW_le (x := y5) (m := 1) (by omega) (by omega) (by omega) (by omega)
  refine e_aload_n dL_randomChain_390 rfl rfl ?_
  refine e_iconst (v := 3) dL_randomChain_391 (by decide) ?_
  refine rc_bel hR (by decide +kernel) wM_L_131 dL_randomChain_392 (Nat.le_of_ble_eq_true rfl) (Nat.le_trans (Nat.le_of_ble_eq_true rfl) hJ) ?_
  intro p a_p p0 p1 hR
  have w_p : (3 : Int32).toInt = 3 := by decide +kernel
  rw [w_p] at p1
  refine e_if_ne (tgt := 453) dL_randomChain_395 (by decide) (fun _ => e_wide (k0 := k) (n0 := n) (by omega) (by omega) (ev_lc (hk _ ⟨T, A, D, mI, c, hR, hP, hI, h3x, hs, by omega, by omega, rfl⟩) ⟨rfl, rfl, rfl, rfl, rfl, rfl, trivial⟩)) (fun _ => ?_)
  refine e_aload dL_randomChain_398 rfl ?_
  refine lc_g4 hR.2.1 wF_L_150 dL_randomChain_400 ?_
  refine e_iload dL_randomChain_403 rfl ?_
  refine lc_q1 (σ := D) hR.2.1 hx (show j < sNm D by omega) dL_randomChain_405 ?_
  refine e_iconst (v := 1) dL_randomChain_406 (by decide) ?_
  refine e_aload_n dL_randomChain_407 rfl rfl ?_
  refine e_bipush (v := 99) dL_randomChain_408 (by decide) ?_
  refine rc_bel hR (by decide +kernel) wM_L_131 dL_randomChain_410 (Nat.le_of_ble_eq_true rfl) (Nat.le_trans (Nat.le_of_ble_eq_true rfl) hJ) ?_
  intro v a_v v0 v1 hR
  have w_v : (99 : Int32).toInt = 99 := by decide +kernel
  rw [w_v] at v1
  refine e_iadd dL_randomChain_413 ?_
  have hw : ((1 : Int32) + v).toInt = 1 + v.toInt := by rw [ar_add (by rw [ar_1]; omega) (by rw [ar_1]; omega), ar_1]
  generalize (1 : Int32) + v = w at hw ⊢
  refine lc_wm0 (σ := D) hR.2.1 (show j < sNm D by omega) wF_L_154 dL_randomChain_414 ?_
  intro a2 C2 f2 z2
  have hR := hR.wr ht0 C2 f2 z2 (fun q hq => hq)
  have r0 : (cs_A D 0 (ev_u (D.2.2 0) j w)).2.2 0 j = w := by rw [cs_A_2, ev_u_self]
  have lw := nmW_le (x := w) (m := 2) (by omega) (by omega) (by omega) (by omega)
  refine e_aload_n dL_randomChain_417 rfl rfl ?_
  refine e_aload_n dL_randomChain_418 rfl rfl ?_
  refine e_ldcS (j := 2) (tx := "mass") dL_randomChain_419 (by decide +kernel) ?_
  refine e_iconst (v := 2) dL_randomChain_421 (by decide) ?_
  refine rc_arr (N := 2) hR (show (2 : Int32).toInt = ((2 : Nat) : Int) by decide +kernel) (by decide) dL_randomChain_422 ?_
  intro z hz ht
  refine e_dup dL_randomChain_424 rfl ?_
  refine e_iconst (v := 0) dL_randomChain_425 (by decide) ?_
  refine e_iload dL_randomChain_426 rfl ?_
  refine rc_iast (j := 0) (show (0 : Int32).toInt = ((0 : Nat) : Int) by decide +kernel) (by decide) dL_randomChain_428 ?_
  refine e_dup dL_randomChain_429 rfl ?_
  refine e_iconst (v := 1) dL_randomChain_430 (by decide) ?_
  refine e_aload dL_randomChain_431 rfl ?_
  refine lc_g4 (hR.nw hz ht (.inl (G.2.1 0, 2, .inl _))).2.1 wF_L_150 dL_randomChain_433 ?_
  refine e_iload dL_randomChain_436 rfl ?_
  refine lc_q1 (σ := cs_A D 0 (ev_u (D.2.2 0) j w)) (hR.nw hz ht (.inl (G.2.1 0, 2, .inl _))).2.1 hx (show j < sNm D by omega) dL_randomChain_438 ?_
  refine lc_m0 (σ := cs_A D 0 (ev_u (D.2.2 0) j w)) (hR.nw hz ht (.inl (G.2.1 0, 2, .inl _))).2.1 (show j < sNm D by omega) wF_L_154 dL_randomChain_439 ?_
  rw [r0]
  refine rc_iast (j := 1) (show (1 : Int32).toInt = ((1 : Nat) : Int) by decide +kernel) (by decide) dL_randomChain_442 ?_
  refine rc_all hub hR hz ht (j := 2) (by decide) (by decide) (rng2 ⟨by omega, by omega⟩ ⟨by omega, by omega⟩) (by rw [nms2_]; simp only [List.length_append, txtl]; omega) wM_L_144 dL_randomChain_443 (Nat.le_of_ble_eq_true rfl) (Nat.le_trans (Nat.le_of_ble_eq_true rfl) hJ) ?_
  intro a_w hR
  rw [nms2_] at hR
  refine e_aload_n dL_randomChain_446 rfl rfl ?_
  refine e_aload_n dL_randomChain_447 rfl rfl ?_
  refine e_ldcS (j := 22) (tx := ";") dL_randomChain_448 (by decide +kernel) ?_
  refine rc_word hub hR (j := 22) (by decide) (by simp only [List.length_append, txtl]; show _ + 1 ≤ 480; omega) wM_L_117 dL_randomChain_450 (Nat.le_of_ble_eq_true rfl) (Nat.le_trans (Nat.le_of_ble_eq_true rfl) hJ) ?_
  intro a_v hR
  have eT : T ++ txtN 2 ++ (nmW y5 ++ nmW w) ++ txtN 22 = T ++ (txtN 2 ++ (nmW y5 ++ (nmW w ++ [59]))) := by
    rw [txt22]; simp only [List.append_assoc]
  rw [eT] at hR
  have hP2 := hP.mass (x := y5) (y := w) (by omega) (by omega) (show 0 ≤ y5.toInt ∧ y5.toInt < sM D by rw [← hmn.1]; omega) (by omega)
  rw [hxn] at hP2
  refine ev_lc (hk _ ⟨_, A, _, mI, _, hR, hP2, hI.wt (by omega) (by omega), h3x, hs, ?_, by omega, rfl⟩) ⟨rfl, rfl, rfl, rfl, rfl, rfl, trivial⟩
  rw [← eT]
  simp only [List.length_append, txtl]
  omega
set_option maxRecDepth 20000 in
theorem rs_E2 (hub : ¬ (b ≤ u ∧ u < b + 157)) (ht0 : ∀ (q : Nat) (e : va_E), a0.1 q = some e → q < z0) (hJ : 14 ≤ J.2.2.1) (h3 : 1 ≤ x3.toInt ∧ x3.toInt ≤ 6) (hx : y5.toInt = (j : Int)) (hj : (j : Int) < x3.toInt) (htt : t + 14 ≤ 480) (hcc : cc + 1 < 500) (hnp : np ≤ j) (hk : ∀ a, RX G a0 b u r z0 S0 D0 c0 x3 dt (j + 1) ns (t + 14) (cc + 1) ni a → ev_V G l mL_randomChain J 521 [some (.ref b), some (.ref u), some (.ref r), some (.int x3), some (.ref c0), some (.int y5)] [] a k n) {a : ev_H} (h : RX G a0 b u r z0 S0 D0 c0 x3 dt np ns t cc ni a) : ev_V G l mL_randomChain J 453 [some (.ref b), some (.ref u), some (.ref r), some (.int x3), some (.ref c0), some (.int y5)] [] a (k + 1) (n + 2) := by
  obtain ⟨T, A, D, mI, c, hR, hP, hI, h3x, hs, hT, hc, rfl⟩ := h
  have hv := hI.1
  have hmn := hv.1.nat
  have hN : (D.1 0).toInt = ((sNm D : Nat) : Int) := hmn.1.symm
  rw [h3x] at hN
  have hxn := ar_nat hx
  have lx := nmW_le (x := y5) (m := 1) (by omega) (by omega) (by omega) (by omega)
  refine e_aload_n dL_randomChain_453 rfl rfl ?_
  refine e_iconst (v := 2) dL_randomChain_454 (by decide) ?_
  refine rc_bel hR (by decide +kernel) wM_L_131 dL_randomChain_455 (Nat.le_of_ble_eq_true rfl) (Nat.le_trans (Nat.le_of_ble_eq_true rfl) hJ) ?_
  intro p a_p p0 p1 hR
  have w_p : (2 : Int32).toInt = 2 := by decide +kernel
  rw [w_p] at p1
  refine e_if_ne (tgt := 521) dL_randomChain_458 (by decide) (fun _ => e_wide (k0 := k) (n0 := n) (by omega) (by omega) (ev_lc (hk _ ⟨T, A, D, mI, c, hR, hP.up (by omega) (Nat.le_refl _), hI, h3x, hs, by omega, by omega, rfl⟩) ⟨rfl, rfl, rfl, rfl, rfl, rfl, trivial⟩)) (fun _ => ?_)
  refine e_aload dL_randomChain_461 rfl ?_
  refine lc_g4 hR.2.1 wF_L_150 dL_randomChain_463 ?_
  refine e_iload dL_randomChain_466 rfl ?_
  refine lc_q1 (σ := D) hR.2.1 hx (show j < sNm D by omega) dL_randomChain_468 ?_
  refine e_aload_n dL_randomChain_469 rfl rfl ?_
  refine e_sipush (v := 4001) dL_randomChain_470 (by decide) ?_
  refine rc_bel hR (by decide +kernel) wM_L_131 dL_randomChain_473 (Nat.le_of_ble_eq_true rfl) (Nat.le_trans (Nat.le_of_ble_eq_true rfl) hJ) ?_
  intro v a_v v0 v1 hR
  have w_v : (4001 : Int32).toInt = 4001 := by decide +kernel
  rw [w_v] at v1
  refine e_sipush (v := 2000) dL_randomChain_476 (by decide) ?_
  refine e_isub dL_randomChain_479 ?_
  have hw : (v - (2000 : Int32)).toInt = v.toInt - 2000 := by
    have wk : (2000 : Int32).toInt = 2000 := by decide +kernel
    rw [ar_sub (by rw [wk]; omega) (by rw [wk]; omega), wk]
  generalize v - (2000 : Int32) = w at hw ⊢
  refine e_i2l dL_randomChain_480 ?_
  refine lc_wm1 (σ := D) (y := w) hR.2.1 (show j < sNm D by omega) rfl wF_L_184 dL_randomChain_481 ?_
  intro a2 C2 f2 z2
  have hR := hR.wr ht0 C2 f2 z2 (fun q hq => hq)
  have r0 : (cs_A D 1 (ev_u (D.2.2 1) j w)).2.2 1 j = w := by rw [cs_A_2, ev_u_self]
  have lw := nmW_sg (x := w) (m := 4) (by omega) (by omega) (by omega) (by omega)
  refine e_aload_n dL_randomChain_484 rfl rfl ?_
  refine e_aload_n dL_randomChain_485 rfl rfl ?_
  refine e_ldcS (j := 8) (tx := "pluck") dL_randomChain_486 (by decide +kernel) ?_
  refine e_iconst (v := 2) dL_randomChain_488 (by decide) ?_
  refine rc_arr (N := 2) hR (show (2 : Int32).toInt = ((2 : Nat) : Int) by decide +kernel) (by decide) dL_randomChain_489 ?_
  intro z hz ht
  refine e_dup dL_randomChain_491 rfl ?_
  refine e_iconst (v := 0) dL_randomChain_492 (by decide) ?_
  refine e_iload dL_randomChain_493 rfl ?_
  refine rc_iast (j := 0) (show (0 : Int32).toInt = ((0 : Nat) : Int) by decide +kernel) (by decide) dL_randomChain_495 ?_
  refine e_dup dL_randomChain_496 rfl ?_
  refine e_iconst (v := 1) dL_randomChain_497 (by decide) ?_
  refine e_aload dL_randomChain_498 rfl ?_
  refine lc_g4 (hR.nw hz ht (.inl (G.2.1 0, 2, .inl _))).2.1 wF_L_150 dL_randomChain_500 ?_
  refine e_iload dL_randomChain_503 rfl ?_
  refine lc_q1 (σ := cs_A D 1 (ev_u (D.2.2 1) j w)) (hR.nw hz ht (.inl (G.2.1 0, 2, .inl _))).2.1 hx (show j < sNm D by omega) dL_randomChain_505 ?_
  refine lc_m1 (σ := cs_A D 1 (ev_u (D.2.2 1) j w)) (hR.nw hz ht (.inl (G.2.1 0, 2, .inl _))).2.1 (show j < sNm D by omega) wF_L_184 dL_randomChain_506 ?_
  rw [r0]
  refine e_l2i dL_randomChain_509 ?_
  rw [ar_6432]
  refine rc_iast (j := 1) (show (1 : Int32).toInt = ((1 : Nat) : Int) by decide +kernel) (by decide) dL_randomChain_510 ?_
  refine rc_all hub hR hz ht (j := 8) (by decide) (by decide) (rng2 ⟨by omega, by omega⟩ ⟨by omega, by omega⟩) (by rw [nms2_]; simp only [List.length_append, txtl]; omega) wM_L_144 dL_randomChain_511 (Nat.le_of_ble_eq_true rfl) (Nat.le_trans (Nat.le_of_ble_eq_true rfl) hJ) ?_
  intro a_w hR
  rw [nms2_] at hR
  refine e_aload_n dL_randomChain_514 rfl rfl ?_
  refine e_aload_n dL_randomChain_515 rfl rfl ?_
  refine e_ldcS (j := 22) (tx := ";") dL_randomChain_516 (by decide +kernel) ?_
  refine rc_word hub hR (j := 22) (by decide) (by simp only [List.length_append, txtl]; show _ + 1 ≤ 480; omega) wM_L_117 dL_randomChain_518 (Nat.le_of_ble_eq_true rfl) (Nat.le_trans (Nat.le_of_ble_eq_true rfl) hJ) ?_
  intro a_v hR
  have eT : T ++ txtN 8 ++ (nmW y5 ++ nmW w) ++ txtN 22 = T ++ (txtN 8 ++ (nmW y5 ++ (nmW w ++ [59]))) := by
    rw [txt22]; simp only [List.append_assoc]
  rw [eT] at hR
  have hP2 := hP.pluck (x := y5) (y := w) (by omega) (by omega) (show 0 ≤ y5.toInt ∧ y5.toInt < sM D by rw [← hmn.1]; omega) (by omega) (by omega)
  rw [hxn] at hP2
  refine ev_lc (hk _ ⟨_, A, _, mI, _, hR, hP2, hI.pluck (show j < sNm D by omega) (by omega) (by omega), h3x, hs, ?_, by omega, rfl⟩) ⟨rfl, rfl, rfl, rfl, rfl, rfl, trivial⟩
  rw [← eT]
  simp only [List.length_append, txtl]
  omega
set_option maxRecDepth 20000 in
theorem rs_E3 (hub : ¬ (b ≤ u ∧ u < b + 157)) (ht0 : ∀ (q : Nat) (e : va_E), a0.1 q = some e → q < z0) (hJ : 14 ≤ J.2.2.1) (h3 : 1 ≤ x3.toInt ∧ x3.toInt ≤ 6) (hx : y5.toInt = (j : Int)) (hj : (j : Int) < x3.toInt) (htt : t + 16 ≤ 480) (hcc : cc + 1 < 500) (hns : ns ≤ j) (hk : ∀ a, RX G a0 b u r z0 S0 D0 c0 x3 dt np (j + 1) (t + 16) (cc + 1) ni a → ev_V G l mL_randomChain J 610 [some (.ref b), some (.ref u), some (.ref r), some (.int x3), some (.ref c0), some (.int y5)] [] a k n) {a : ev_H} (h : RX G a0 b u r z0 S0 D0 c0 x3 dt np ns t cc ni a) : ev_V G l mL_randomChain J 521 [some (.ref b), some (.ref u), some (.ref r), some (.int x3), some (.ref c0), some (.int y5)] [] a (k + 1) (n + 2) := by
  obtain ⟨T, A, D, mI, c, hR, hP, hI, h3x, hs, hT, hc, rfl⟩ := h
  have hv := hI.1
  have hmn := hv.1.nat
  have hN : (D.1 0).toInt = ((sNm D : Nat) : Int) := hmn.1.symm
  rw [h3x] at hN
  have hxn := ar_nat hx
  have lx := nmW_le (x := y5) (m := 1) (by omega) (by omega) (by omega) (by omega)
  refine e_aload_n dL_randomChain_521 rfl rfl ?_
  refine e_iconst (v := 4) dL_randomChain_522 (by decide) ?_
  refine rc_bel hR (by decide +kernel) wM_L_131 dL_randomChain_523 (Nat.le_of_ble_eq_true rfl) (Nat.le_trans (Nat.le_of_ble_eq_true rfl) hJ) ?_
  intro p a_p p0 p1 hR
  have w_p : (4 : Int32).toInt = 4 := by decide +kernel
  rw [w_p] at p1
  refine e_if_ne (tgt := 610) dL_randomChain_526 (by decide) (fun _ => e_wide (k0 := k) (n0 := n) (by omega) (by omega) (ev_lc (hk _ ⟨T, A, D, mI, c, hR, hP.up (Nat.le_refl _) (by omega), hI, h3x, fun k hk => hs k (by omega), by omega, by omega, rfl⟩) ⟨rfl, rfl, rfl, rfl, rfl, rfl, trivial⟩)) (fun _ => ?_)
  refine e_aload dL_randomChain_529 rfl ?_
  refine lc_g4 hR.2.1 wF_L_150 dL_randomChain_531 ?_
  refine e_iload dL_randomChain_534 rfl ?_
  refine lc_q1 (σ := D) hR.2.1 hx (show j < sNm D by omega) dL_randomChain_536 ?_
  refine e_aload_n dL_randomChain_537 rfl rfl ?_
  refine e_sipush (v := 20001) dL_randomChain_538 (by decide) ?_
  refine rc_bel hR (by decide +kernel) wM_L_131 dL_randomChain_541 (Nat.le_of_ble_eq_true rfl) (Nat.le_trans (Nat.le_of_ble_eq_true rfl) hJ) ?_
  intro v a_v v0 v1 hR
  have w_v : (20001 : Int32).toInt = 20001 := by decide +kernel
  rw [w_v] at v1
  refine e_sipush (v := 10000) dL_randomChain_544 (by decide) ?_
  refine e_isub dL_randomChain_547 ?_
  have hw : (v - (10000 : Int32)).toInt = v.toInt - 10000 := by
    have wk : (10000 : Int32).toInt = 10000 := by decide +kernel
    rw [ar_sub (by rw [wk]; omega) (by rw [wk]; omega), wk]
  generalize v - (10000 : Int32) = w at hw ⊢
  refine e_i2l dL_randomChain_548 ?_
  refine lc_wm2 (σ := D) (y := w) hR.2.1 (show j < sNm D by omega) rfl wF_L_189 dL_randomChain_549 ?_
  intro a2 C2 f2 z2
  have hR := hR.wr ht0 C2 f2 z2 (fun q hq => hq)
  have r0 : (cs_A D 2 (ev_u (D.2.2 2) j w)).2.2 2 j = w := by rw [cs_A_2, ev_u_self]
  refine e_aload dL_randomChain_552 rfl ?_
  refine lc_g8 hR.2.1 wF_L_192 dL_randomChain_554 ?_
  refine e_iconst (v := 3) dL_randomChain_557 (by decide) ?_
  refine e_dup2 dL_randomChain_558 rfl rfl ?_
  refine lc_a1 (σ := cs_A D 2 (ev_u (D.2.2 2) j w)) (w := 2) hR.2.1 (show (3 : Int32).toInt = ((2 + 1 : Nat) : Int) by decide +kernel) (by decide) dL_randomChain_559 ?_
  refine e_aload dL_randomChain_560 rfl ?_
  refine lc_g4 hR.2.1 wF_L_150 dL_randomChain_562 ?_
  refine e_iload dL_randomChain_565 rfl ?_
  refine lc_q1 (σ := cs_A D 2 (ev_u (D.2.2 2) j w)) hR.2.1 hx (show j < sNm D by omega) dL_randomChain_567 ?_
  refine lc_m2 (σ := cs_A D 2 (ev_u (D.2.2 2) j w)) hR.2.1 (show j < sNm D by omega) wF_L_189 dL_randomChain_568 ?_
  rw [r0]
  refine e_ladd dL_randomChain_571 ?_
  refine lc_wa1 (σ := cs_A D 2 (ev_u (D.2.2 2) j w)) (w := 2) hR.2.1 (show (3 : Int32).toInt = ((2 + 1 : Nat) : Int) by decide +kernel) (by decide) dL_randomChain_572 ?_
  intro a3 C3 f3 z3
  have hR := hR.wr ht0 C3 f3 z3 (fun q hq => hq)
  have r1 : (cs_J (cs_A D 2 (ev_u (D.2.2 2) j w)) 2 (D.2.1 2 + w.toInt64)).2.2 2 j = w := by rw [show (cs_J (cs_A D 2 (ev_u (D.2.2 2) j w)) 2 (D.2.1 2 + w.toInt64)).2.2 = (cs_A D 2 (ev_u (D.2.2 2) j w)).2.2 from rfl, cs_A_2, ev_u_self]
  have lw := nmW_sg (x := w) (m := 5) (by omega) (by omega) (by omega) (by omega)
  refine e_aload_n dL_randomChain_573 rfl rfl ?_
  refine e_aload_n dL_randomChain_574 rfl rfl ?_
  refine e_ldcS (j := 9) (tx := "strike") dL_randomChain_575 (by decide +kernel) ?_
  refine e_iconst (v := 2) dL_randomChain_577 (by decide) ?_
  refine rc_arr (N := 2) hR (show (2 : Int32).toInt = ((2 : Nat) : Int) by decide +kernel) (by decide) dL_randomChain_578 ?_
  intro z hz ht
  refine e_dup dL_randomChain_580 rfl ?_
  refine e_iconst (v := 0) dL_randomChain_581 (by decide) ?_
  refine e_iload dL_randomChain_582 rfl ?_
  refine rc_iast (j := 0) (show (0 : Int32).toInt = ((0 : Nat) : Int) by decide +kernel) (by decide) dL_randomChain_584 ?_
  refine e_dup dL_randomChain_585 rfl ?_
  refine e_iconst (v := 1) dL_randomChain_586 (by decide) ?_
  refine e_aload dL_randomChain_587 rfl ?_
  refine lc_g4 (hR.nw hz ht (.inl (G.2.1 0, 2, .inl _))).2.1 wF_L_150 dL_randomChain_589 ?_
  refine e_iload dL_randomChain_592 rfl ?_
  refine lc_q1 (σ := cs_J (cs_A D 2 (ev_u (D.2.2 2) j w)) 2 (D.2.1 2 + w.toInt64)) (hR.nw hz ht (.inl (G.2.1 0, 2, .inl _))).2.1 hx (show j < sNm D by omega) dL_randomChain_594 ?_
  refine lc_m2 (σ := cs_J (cs_A D 2 (ev_u (D.2.2 2) j w)) 2 (D.2.1 2 + w.toInt64)) (hR.nw hz ht (.inl (G.2.1 0, 2, .inl _))).2.1 (show j < sNm D by omega) wF_L_189 dL_randomChain_595 ?_
  rw [r1]
  refine e_l2i dL_randomChain_598 ?_
  rw [ar_6432]
  refine rc_iast (j := 1) (show (1 : Int32).toInt = ((1 : Nat) : Int) by decide +kernel) (by decide) dL_randomChain_599 ?_
  refine rc_all hub hR hz ht (j := 9) (by decide) (by decide) (rng2 ⟨by omega, by omega⟩ ⟨by omega, by omega⟩) (by rw [nms2_]; simp only [List.length_append, txtl]; omega) wM_L_144 dL_randomChain_600 (Nat.le_of_ble_eq_true rfl) (Nat.le_trans (Nat.le_of_ble_eq_true rfl) hJ) ?_
  intro a_w hR
  rw [nms2_] at hR
  refine e_aload_n dL_randomChain_603 rfl rfl ?_
  refine e_aload_n dL_randomChain_604 rfl rfl ?_
  refine e_ldcS (j := 22) (tx := ";") dL_randomChain_605 (by decide +kernel) ?_
  refine rc_word hub hR (j := 22) (by decide) (by simp only [List.length_append, txtl]; show _ + 1 ≤ 480; omega) wM_L_117 dL_randomChain_607 (Nat.le_of_ble_eq_true rfl) (Nat.le_trans (Nat.le_of_ble_eq_true rfl) hJ) ?_
  intro a_v hR
  have eT : T ++ txtN 9 ++ (nmW y5 ++ nmW w) ++ txtN 22 = T ++ (txtN 9 ++ (nmW y5 ++ (nmW w ++ [59]))) := by
    rw [txt22]; simp only [List.append_assoc]
  rw [eT] at hR
  have hP2 := hP.strike (x := y5) (y := w) (by omega) (by omega) (show 0 ≤ y5.toInt ∧ y5.toInt < sM D by rw [← hmn.1]; omega) (by omega) (by omega)
  rw [hxn] at hP2
  have eh : sHit D j w = cs_J (cs_A D 2 (ev_u (D.2.2 2) j w)) 2 (D.2.1 2 + w.toInt64) := hit_0 (hs j (by omega) (by omega)) (by omega) (by omega)
  refine ev_lc (hk _ ⟨_, A, sHit D j w, mI, _, by rw [eh]; exact hR, hP2, hI.hit (show j < sNm D by omega), h3x, fun q hq1 hq2 => (ev_u_ne _ _ (show q ≠ j by omega)).trans (hs q (by omega) hq2), ?_, by omega, rfl⟩) ⟨rfl, rfl, rfl, rfl, rfl, rfl, trivial⟩
  rw [← eT]
  simp only [List.length_append, txtl]
  omega
set_option maxRecDepth 20000 in
theorem lp_rE (hub : ¬ (b ≤ u ∧ u < b + 157)) (ht0 : ∀ (q : Nat) (e : va_E), a0.1 q = some e → q < z0) (hJ : 14 ≤ J.2.2.1) (h3 : 1 ≤ x3.toInt ∧ x3.toInt ≤ 6) (htt : t + 240 ≤ 480) (hcc : cc + 18 < 500) (hk : ∀ a, RX G a0 b u r z0 S0 D0 c0 x3 dt 12 12 (t + 240) (cc + 18) ni a → ev_V G l mL_randomChain J 616 [some (.ref b), some (.ref u), some (.ref r), some (.int x3), some (.ref c0)] [] a k n) : ∀ (q i : Nat) (y : Int32) (a : ev_H) (t1 c1 : Nat), ((q + i : Nat) : Int) = x3.toInt → y.toInt = (i : Int) → t1 + 40 * q ≤ t + 240 → c1 + 3 * q ≤ cc + 18 → RX G a0 b u r z0 S0 D0 c0 x3 dt i i t1 c1 ni a → ev_V G l mL_randomChain J 384 [some (.ref b), some (.ref u), some (.ref r), some (.int x3), some (.ref c0), some (.int y)] [] a (k + 3 * q) (n + 6 * q) := by
  intro q
  induction q with
  | zero =>
    intro i y a t1 c1 hq hy h1 h2 h
    refine e_iload dL_randomChain_384 rfl ?_
    refine e_iload_n dL_randomChain_386 rfl rfl ?_
    refine e_icmp_ge (tgt := 616) dL_randomChain_387 (by decide) (fun _ => ev_lc (hk a (h.up (by omega) (by omega) (by omega) (by omega))) ⟨rfl, rfl, rfl, rfl, rfl, trivial⟩) (fun c9 => absurd c9 (by omega))
  | succ q ih =>
    intro i y a t1 c1 hq hy h1 h2 h
    refine e_iload dL_randomChain_384 rfl ?_
    refine e_iload_n dL_randomChain_386 rfl rfl ?_
    refine e_icmp_ge (tgt := 616) dL_randomChain_387 (by decide) (fun c9 => absurd c9 (by omega)) (fun _ => ?_)
    refine e_wide (k0 := k + 3 * q + 1 + 1 + 1) (n0 := n + 6 * q + 2 + 2 + 2) (by omega) (by omega) ?_
    refine rs_E1 (t := t1) (cc := c1) hub ht0 hJ h3 hy (by omega) (by omega) (by omega) (fun a h => ?_) h
    refine rs_E2 (t := t1 + 10) (cc := c1 + 1) hub ht0 hJ h3 hy (by omega) (by omega) (by omega) (Nat.le_refl i) (fun a h => ?_) h
    refine rs_E3 (t := t1 + 10 + 14) (cc := c1 + 1 + 1) hub ht0 hJ h3 hy (by omega) (by omega) (by omega) (Nat.le_refl i) (fun a h => ?_) h
    refine e_iinc dL_randomChain_610 rfl rfl (Nat.le_of_ble_eq_true rfl) ?_
    refine e_goto (tgt := 384) dL_randomChain_613 (by decide) ?_
    exact ev_lc (ih (i + 1) _ a (t1 + 40) (c1 + 3) (by omega) (ar_inc hy (by omega)) (by omega) (by omega) (h.up (Nat.le_refl _) (Nat.le_refl _) (by omega) (by omega))) ⟨rfl, rfl, rfl, rfl, rfl, rfl, trivial⟩
set_option maxRecDepth 20000 in
theorem rs_E (hub : ¬ (b ≤ u ∧ u < b + 157)) (ht0 : ∀ (q : Nat) (e : va_E), a0.1 q = some e → q < z0) (hJ : 14 ≤ J.2.2.1) (h3 : 1 ≤ x3.toInt ∧ x3.toInt ≤ 6) (htt : t + 240 ≤ 480) (hcc : cc + 18 < 500) (hk : ∀ a, RX G a0 b u r z0 S0 D0 c0 x3 dt 12 12 (t + 240) (cc + 18) ni a → ev_V G l mL_randomChain J 616 [some (.ref b), some (.ref u), some (.ref r), some (.int x3), some (.ref c0)] [] a k n) {a : ev_H} (h : RX G a0 b u r z0 S0 D0 c0 x3 dt 0 0 t cc ni a) : ev_V G l mL_randomChain J 381 [some (.ref b), some (.ref u), some (.ref r), some (.int x3), some (.ref c0)] [] a (k + 18) (n + 36) := by
  refine e_iconst (v := 0) dL_randomChain_381 (by decide) ?_
  refine e_istore dL_randomChain_382 (Nat.le_of_ble_eq_true rfl) ?_
  refine ev_loc (L' := [some (.ref b), some (.ref u), some (.ref r), some (.int x3), some (.ref c0), some (.int 0)]) ⟨rfl, rfl, rfl, rfl, rfl, rfl, trivial⟩ ?_
  refine e_wide (k0 := k + 3 * x3.toInt.toNat) (n0 := n + 6 * x3.toInt.toNat) (by omega) (by omega) ?_
  exact lp_rE hub ht0 hJ h3 htt hcc hk x3.toInt.toNat 0 0 a t cc (by omega) ar_0 (by omega) (by omega) h
set_option maxRecDepth 20000 in
theorem rs_F (hub : ¬ (b ≤ u ∧ u < b + 157)) (ht0 : ∀ (q : Nat) (e : va_E), a0.1 q = some e → q < z0) (hJ : 14 ≤ J.2.2.1) (h3 : 1 ≤ x3.toInt ∧ x3.toInt ≤ 6) (htt : t + 15 ≤ 480) (hcc : cc + 1 < 500) (hk : ∀ a, RX G a0 b u r z0 S0 D0 c0 x3 dt np ns (t + 15) (cc + 1) ni a → ev_V G l mL_randomChain J 665 [some (.ref b), some (.ref u), some (.ref r), some (.int x3), some (.ref c0)] [] a k n) {a : ev_H} (h : RX G a0 b u r z0 S0 D0 c0 x3 dt np ns t cc ni a) : ev_V G l mL_randomChain J 616 [some (.ref b), some (.ref u), some (.ref r), some (.int x3), some (.ref c0)] [] a (k + 1) (n + 1) := by
  obtain ⟨T, A, D, mI, c, hR, hP, hI, h3x, hs, hT, hc, rfl⟩ := h
  refine e_aload_n dL_randomChain_616 rfl rfl ?_
  refine e_iconst (v := 3) dL_randomChain_617 (by decide) ?_
  refine rc_bel hR (by decide +kernel) wM_L_131 dL_randomChain_618 (Nat.le_of_ble_eq_true rfl) (Nat.le_trans (Nat.le_of_ble_eq_true rfl) hJ) ?_
  intro p a_p p0 p1 hR
  have w_p : (3 : Int32).toInt = 3 := by decide +kernel
  rw [w_p] at p1
  refine e_if_ne (tgt := 665) dL_randomChain_621 (by decide) (fun _ => e_wide (k0 := k) (n0 := n) (by omega) (by omega) (ev_lc (hk _ ⟨T, A, D, mI, c, hR, hP, hI, h3x, hs, by omega, by omega, rfl⟩) ⟨rfl, rfl, rfl, rfl, rfl, trivial⟩)) (fun _ => ?_)
  refine e_aload dL_randomChain_624 rfl ?_
  refine e_aload_n dL_randomChain_626 rfl rfl ?_
  refine e_sipush (v := 2001) dL_randomChain_627 (by decide) ?_
  refine rc_bel hR (by decide +kernel) wM_L_131 dL_randomChain_630 (Nat.le_of_ble_eq_true rfl) (Nat.le_trans (Nat.le_of_ble_eq_true rfl) hJ) ?_
  intro v a_v v0 v1 hR
  have w_v : (2001 : Int32).toInt = 2001 := by decide +kernel
  rw [w_v] at v1
  refine e_sipush (v := 1000) dL_randomChain_633 (by decide) ?_
  refine e_isub dL_randomChain_636 ?_
  have hw : (v - (1000 : Int32)).toInt = v.toInt - 1000 := by
    have wk : (1000 : Int32).toInt = 1000 := by decide +kernel
    rw [ar_sub (by rw [wk]; omega) (by rw [wk]; omega), wk]
  generalize v - (1000 : Int32) = w at hw ⊢
  refine lc_wl (σ := D) hR.2.1 wF_L_197 dL_randomChain_637 ?_
  intro a2 C2 f2 z2
  have hR := hR.wr ht0 C2 f2 z2 (fun q hq => hq)
  have lw := nmW_sg (x := w) (m := 4) (by omega) (by omega) (by omega) (by omega)
  have r2 : (cs_I D 3 w).1 3 = w := ev_u_self D.1 3 w
  refine e_aload_n dL_randomChain_640 rfl rfl ?_
  refine e_aload_n dL_randomChain_641 rfl rfl ?_
  refine e_ldcS (j := 25) (tx := "end left") dL_randomChain_642 (by decide +kernel) ?_
  refine e_iconst (v := 1) dL_randomChain_644 (by decide) ?_
  refine rc_arr (N := 1) hR (show (1 : Int32).toInt = ((1 : Nat) : Int) by decide +kernel) (by decide) dL_randomChain_645 ?_
  intro z hz ht
  refine e_dup dL_randomChain_647 rfl ?_
  refine e_iconst (v := 0) dL_randomChain_648 (by decide) ?_
  refine e_aload dL_randomChain_649 rfl ?_
  refine lc_g1 (σ := cs_I D 3 w) (hR.nw hz ht (.inl (G.2.1 0, 1, .inl _))).2.1 wF_L_197 dL_randomChain_651 ?_
  rw [r2]
  refine rc_iast (j := 0) (show (0 : Int32).toInt = ((0 : Nat) : Int) by decide +kernel) (by decide) dL_randomChain_654 ?_
  refine rc_all hub hR hz ht (j := 25) (by decide) (by decide) (rng1 ⟨by omega, by omega⟩) (by rw [nms1_]; simp only [List.length_append, txtl]; omega) wM_L_144 dL_randomChain_655 (Nat.le_of_ble_eq_true rfl) (Nat.le_trans (Nat.le_of_ble_eq_true rfl) hJ) ?_
  intro a_w hR
  rw [nms1_] at hR
  refine e_aload_n dL_randomChain_658 rfl rfl ?_
  refine e_aload_n dL_randomChain_659 rfl rfl ?_
  refine e_ldcS (j := 22) (tx := ";") dL_randomChain_660 (by decide +kernel) ?_
  refine rc_word hub hR (j := 22) (by decide) (by simp only [List.length_append, txtl]; show _ + 1 ≤ 480; omega) wM_L_117 dL_randomChain_662 (Nat.le_of_ble_eq_true rfl) (Nat.le_trans (Nat.le_of_ble_eq_true rfl) hJ) ?_
  intro a_v hR
  have eT : T ++ txtN 25 ++ nmW w ++ txtN 22 = T ++ (txtN 25 ++ (nmW w ++ [59])) := by
    rw [txt22]; simp only [List.append_assoc]
  rw [eT] at hR
  refine ev_lc (hk _ ⟨_, A, _, mI, _, hR, hP.left (x := w) (by omega) (by omega), hI.left (by omega) (by omega), h3x, hs, ?_, by omega, rfl⟩) ⟨rfl, rfl, rfl, rfl, rfl, trivial⟩
  rw [← eT]
  simp only [List.length_append, txtl]
  omega
end RNE
