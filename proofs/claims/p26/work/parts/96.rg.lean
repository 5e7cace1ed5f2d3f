/-! the random chain: impulses told ahead -/
section RNG
variable {G : ev_G} {l : Launch} {J : ev_K} {k n : Nat} {a0 : ev_H} {b u r z0 c0 np ns t cc ni : Nat} {S0 : SS} {D0 : CS} {x3 dt : Int32}
set_option maxRecDepth 20000 in
theorem lp_rG (hub : ¬ (b ≤ u ∧ u < b + 157)) (ht0 : ∀ (q : Nat) (e : va_E), a0.1 q = some e → q < z0) (hJ : 14 ≤ J.2.2.1) (h3 : 1 ≤ x3.toInt ∧ x3.toInt ≤ 6) (htt : t + 57 ≤ 480) (hcc : cc + 3 < 500) (hk : ∀ a i, i ≤ 3 → RX G a0 b u r z0 S0 D0 c0 x3 dt np ns (t + 57) (cc + 3) i a → ev_V G l mL_randomChain J 785 [some (.ref b), some (.ref u), some (.ref r), some (.int x3), some (.ref c0)] [] a k n) : ∀ (m : Nat) (y : Int32) (a : ev_H) (t1 c1 i : Nat), i + m ≤ 3 → y.toInt = (m : Int) → t1 + 19 * m ≤ t + 57 → c1 + m ≤ cc + 3 → RX G a0 b u r z0 S0 D0 c0 x3 dt np ns t1 c1 i a → ev_V G l mL_randomChain J 672 [some (.ref b), some (.ref u), some (.ref r), some (.int x3), some (.ref c0), some (.int y)] [] a (k + 3 * m) (n + 47 * m) := by
  intro m
  induction m with
  | zero =>
    intro y a t1 c1 i hm hy h1 h2 h
    refine e_iload dL_randomChain_672 rfl ?_
    refine e_if_le (tgt := 785) dL_randomChain_674 (by decide) (fun _ => ev_lc (hk a i (by omega) (h.up (Nat.le_refl _) (Nat.le_refl _) (by omega) (by omega))) ⟨rfl, rfl, rfl, rfl, rfl, trivial⟩) (fun c9 => absurd c9 (by omega))
  | succ m ih =>
    intro y a t1 c1 i hm hy h1 h2 h
    obtain ⟨T, A, D, mI, c, hR, hP, hI, h3x, hs, hT, hc, rfl⟩ := h
    have hv := hI.1
    have hmn := hv.1.nat
    have hN : (D.1 0).toInt = ((sNm D : Nat) : Int) := hmn.1.symm
    rw [h3x] at hN
    refine e_iload dL_randomChain_672 rfl ?_
    refine e_if_le (tgt := 785) dL_randomChain_674 (by decide) (fun c9 => absurd c9 (by omega)) (fun _ => ?_)
    refine e_aload_n dL_randomChain_677 rfl rfl ?_
    refine e_bipush (v := 25) dL_randomChain_678 (by decide) ?_
    refine rc_bel hR (by decide +kernel) wM_L_131 dL_randomChain_680 (Nat.le_of_ble_eq_true rfl) (Nat.le_trans (Nat.le_of_ble_eq_true rfl) hJ) ?_
    intro e a_e e0 e1 hR
    have w_e : (25 : Int32).toInt = 25 := by decide +kernel
    rw [w_e] at e1
    refine e_istore dL_randomChain_683 (Nat.le_of_ble_eq_true rfl) ?_
    refine e_aload_n dL_randomChain_685 rfl rfl ?_
    refine e_iload_n dL_randomChain_686 rfl rfl ?_
    refine rc_bel hR (by omega) wM_L_131 dL_randomChain_687 (Nat.le_of_ble_eq_true rfl) (Nat.le_trans (Nat.le_of_ble_eq_true rfl) hJ) ?_
    intro x a_x x0 x1 hR
    refine e_istore dL_randomChain_690 (Nat.le_of_ble_eq_true rfl) ?_
    refine e_iconst (v := 1) dL_randomChain_692 (by decide) ?_
    refine e_aload_n dL_randomChain_693 rfl rfl ?_
    refine e_sipush (v := 9000) dL_randomChain_694 (by decide) ?_
    refine rc_bel hR (by decide +kernel) wM_L_131 dL_randomChain_697 (Nat.le_of_ble_eq_true rfl) (Nat.le_trans (Nat.le_of_ble_eq_true rfl) hJ) ?_
    intro g a_g g0 g1 hR
    have w_g : (9000 : Int32).toInt = 9000 := by decide +kernel
    rw [w_g] at g1
    refine e_iadd dL_randomChain_700 ?_
    have hw : ((1 : Int32) + g).toInt = 1 + g.toInt := by rw [ar_add (by rw [ar_1]; omega) (by rw [ar_1]; omega), ar_1]
    generalize (1 : Int32) + g = w at hw ⊢
    refine e_istore dL_randomChain_701 (Nat.le_of_ble_eq_true rfl) ?_
    have fin : ∀ (s : Int32) (a : ev_H), -9999 ≤ s.toInt → s.toInt ≤ 9999 → s.toInt ≠ 0 → RC G a0 b u r z0 S0 T A D i mI a → ev_V G l mL_randomChain J 716 [some (.ref b), some (.ref u), some (.ref r), some (.int x3), some (.ref (A 0)), some (.int y), some (.int e), some (.int x), some (.int s)] [] a (k + 3 * m + 1 + 1 + 1) (n + 47 * m + 3 + 41 + 3) := by
      intro s a s0 s1 sne hR
      refine e_aload dL_randomChain_716 rfl ?_
      refine e_aload dL_randomChain_718 rfl ?_
      refine lc_g6 hR.2.1 wF_L_202 dL_randomChain_720 ?_
      refine e_wide (k0 := ((k + 3 * m) + 1 + 1) + 1) (n0 := ((n + 47 * m) + 3 + 41) + 3) (by omega) (by omega) ?_
      refine e_iconst (v := 3) dL_randomChain_723 (by decide) ?_
      refine rc_arr (N := 3) hR (show (3 : Int32).toInt = ((3 : Nat) : Int) by decide +kernel) (by decide) dL_randomChain_724 ?_
      intro z hz ht
      refine e_dup dL_randomChain_726 rfl ?_
      refine e_iconst (v := 0) dL_randomChain_727 (by decide) ?_
      refine e_iload dL_randomChain_728 rfl ?_
      refine rc_iast (j := 0) (show (0 : Int32).toInt = ((0 : Nat) : Int) by decide +kernel) (by decide) dL_randomChain_730 ?_
      refine e_dup dL_randomChain_731 rfl ?_
      refine e_iconst (v := 1) dL_randomChain_732 (by decide) ?_
      refine e_iload dL_randomChain_733 rfl ?_
      refine rc_iast (j := 1) (show (1 : Int32).toInt = ((1 : Nat) : Int) by decide +kernel) (by decide) dL_randomChain_735 ?_
      refine e_dup dL_randomChain_736 rfl ?_
      refine e_iconst (v := 2) dL_randomChain_737 (by decide) ?_
      refine e_iload dL_randomChain_738 rfl ?_
      refine rc_iast (j := 2) (show (2 : Int32).toInt = ((2 : Nat) : Int) by decide +kernel) (by decide) dL_randomChain_740 ?_
      have hR1 := hR.nw hz ht (.inl (G.2.1 0, 3, .inl (ev_u (ev_u (ev_u (fun _ => 0) 0 e) 1 x) 2 s)))
      have hzz : (ev_new a z (.inl (G.2.1 0, 3, .inl (ev_u (ev_u (ev_u (fun _ => 0) 0 e) 1 x) 2 s)))).1 z = some (.inl (G.2.1 0, 3, .inl (ev_u (ev_u (ev_u (fun _ => 0) 0 e) 1 x) 2 s))) := new_eq _ _ _
      have hz1 : (ev_new a z (.inl (G.2.1 0, 3, .inl (ev_u (ev_u (ev_u (fun _ => 0) 0 e) 1 x) 2 s)))).2 = some (z + 1) := new_2 _ _ hz
      generalize ev_new a z (.inl (G.2.1 0, 3, .inl (ev_u (ev_u (ev_u (fun _ => 0) 0 e) 1 x) 2 s))) = a1 at hR1 hzz hz1 ⊢
      have hC1 := hR1.2.1
      have hW := ct_L_with (l := l) (g := fun q => A (50 + q)) hC1.1.2.2.2.1 (fun q hq => by
        obtain ⟨f9, x9, -⟩ := hC1.2.2.1.1 q hq
        exact ⟨_, x9⟩) hzz (by omega) hz1
      refine e_invS (k := k + 3 * m + 1) (n := n + 47 * m + 3) (mcY := 1) (msY := 41) hW vL_with wM_L_206 dL_randomChain_741 (as := [.ref (A 3), .ref z]) rfl rfl (Nat.le_of_ble_eq_true rfl) (Nat.le_trans (Nat.le_of_ble_eq_true rfl) hJ) ?_
      rintro v c9 ⟨rfl, q1, q2, q3⟩
      have hR2 := hR1.sub q1 ⟨_, q2⟩
      have hr9 : ∀ q, q < i + 1 → aI c9 (G.2.1 0) (if q < i then A (50 + q) else z) 3 (tiF (ev_u mI i (e, x, s) q)) := fun q hq => by
        by_cases cq : q < i
        · rw [if_pos cq, ev_u_ne _ _ (show q ≠ i by omega)]
          exact hR2.2.1.2.2.1.1 q cq
        · obtain rfl : q = i := by omega
          rw [if_neg cq, ev_u_self]
          refine ⟨_, q1 _ _ hzz, fun w9 hw9 => ?_⟩
          rcases (show w9 = 0 ∨ w9 = 1 ∨ w9 = 2 by omega) with rfl | rfl | rfl <;> rfl
      refine lc_wi0 hR2.2.1 hmn.2.1 (show i + 1 ≤ 20 by omega) q3 hr9 wF_L_202 dL_randomChain_744 ?_
      intro a2 C2 f2 z2
      have hR := (hR2.wr ht0 C2 f2 z2 (fun q hq => (lcI_mt hmn.2.1).mp hq)).see (vis_ins (t := e) (m := x) (s := s))
      have hin := hI.2.2.2.1
      have hin2 := hI.1.2.2.1.nat
      have hI2 : IV 0 (sIns D e x s) (i + 1) (ev_u mI i (e, x, s)) := hI.ins (by omega) (by omega) (show x.toInt < sM D by rw [← hmn.1]; omega) (by have := hI.2.1.2.2.1; omega) (by omega) s0 s1
      have lx := nmW_le (x := x) (m := 1) (by omega) (by omega) (by omega) (by omega)
      have le := nmW_le (x := e) (m := 2) (by omega) (by omega) (by omega) (by omega)
      have ls := nmW_sg (x := s) (m := 4) (by omega) (by omega) (by omega) (by omega)
      refine e_aload_n dL_randomChain_747 rfl rfl ?_
      refine e_aload_n dL_randomChain_748 rfl rfl ?_
      refine e_ldcS (j := 13) (tx := "impulse") dL_randomChain_749 (by decide +kernel) ?_
      refine e_iconst (v := 3) dL_randomChain_751 (by decide) ?_
      refine rc_arr (N := 3) hR (show (3 : Int32).toInt = ((3 : Nat) : Int) by decide +kernel) (by decide) dL_randomChain_752 ?_
      intro z hz ht
      refine e_dup dL_randomChain_754 rfl ?_
      refine e_iconst (v := 0) dL_randomChain_755 (by decide) ?_
      refine e_iload dL_randomChain_756 rfl ?_
      refine rc_iast (j := 0) (show (0 : Int32).toInt = ((0 : Nat) : Int) by decide +kernel) (by decide) dL_randomChain_758 ?_
      refine e_dup dL_randomChain_759 rfl ?_
      refine e_iconst (v := 1) dL_randomChain_760 (by decide) ?_
      refine e_iload dL_randomChain_761 rfl ?_
      refine rc_iast (j := 1) (show (1 : Int32).toInt = ((1 : Nat) : Int) by decide +kernel) (by decide) dL_randomChain_763 ?_
      refine e_dup dL_randomChain_764 rfl ?_
      refine e_iconst (v := 2) dL_randomChain_765 (by decide) ?_
      refine e_iload dL_randomChain_766 rfl ?_
      refine rc_iast (j := 2) (show (2 : Int32).toInt = ((2 : Nat) : Int) by decide +kernel) (by decide) dL_randomChain_768 ?_
      refine rc_all hub hR hz ht (j := 13) (by decide) (by decide) (rng3 ⟨by omega, by omega⟩ ⟨by omega, by omega⟩ ⟨by omega, by omega⟩) (by rw [nms3_]; simp only [List.length_append, txtl]; omega) wM_L_144 dL_randomChain_769 (Nat.le_of_ble_eq_true rfl) (Nat.le_trans (Nat.le_of_ble_eq_true rfl) hJ) ?_
      intro a_w hR
      rw [nms3_] at hR
      refine e_aload_n dL_randomChain_772 rfl rfl ?_
      refine e_aload_n dL_randomChain_773 rfl rfl ?_
      refine e_ldcS (j := 22) (tx := ";") dL_randomChain_774 (by decide +kernel) ?_
      refine rc_word hub hR (j := 22) (by decide) (by simp only [List.length_append, txtl]; show _ + 1 ≤ 480; omega) wM_L_117 dL_randomChain_776 (Nat.le_of_ble_eq_true rfl) (Nat.le_trans (Nat.le_of_ble_eq_true rfl) hJ) ?_
      intro a_v hR
      have eT : T ++ txtN 13 ++ (nmW e ++ nmW x ++ nmW s) ++ txtN 22 = T ++ (txtN 13 ++ (nmW e ++ (nmW x ++ (nmW s ++ [59])))) := by
        rw [txt22]; simp only [List.append_assoc]
      rw [eT] at hR
      have hP2 := hP.imp (x := e) (y := x) (z := s) (by omega) (by omega) (show (D.1 5).toInt < 16 by omega) (by omega) (show 0 ≤ x.toInt ∧ x.toInt < sM D by rw [← hmn.1]; omega) ⟨s0, s1⟩ sne
      refine e_iinc dL_randomChain_779 rfl rfl (Nat.le_of_ble_eq_true rfl) ?_
      refine e_goto (tgt := 672) dL_randomChain_782 (by decide) ?_
      refine ev_lc (ih _ _ (t1 + 19) (c1 + 1) (i + 1) (by omega) ?_ (by omega) (by omega) ⟨_, _, sIns D e x s, _, _, hR, hP2, hI2, (sIns_1 D e x s (by decide)).trans h3x, fun q hq1 hq2 => by rw [sIns_2 D e x s (by decide) (by decide) (by decide)]; exact hs q hq1 hq2, ?_, by omega, rfl⟩) ⟨rfl, rfl, rfl, rfl, rfl, rfl, trivial⟩
      · rw [ar_add (by have : (Int32.ofInt (-1)).toInt = -1 := (by decide +kernel); omega) (by have : (Int32.ofInt (-1)).toInt = -1 := (by decide +kernel); omega), show (Int32.ofInt (-1)).toInt = -1 by decide +kernel]
        omega
      · rw [← eT]
        simp only [List.length_append, txtl]
        omega
    refine e_wide (k0 := k + 3 * m + 1 + 1 + 1) (n0 := n + 47 * m + 3 + 41 + 3) (by omega) (by omega) ?_
    refine e_aload_n dL_randomChain_703 rfl rfl ?_
    refine e_iconst (v := 2) dL_randomChain_704 (by decide) ?_
    refine rc_bel hR (by decide +kernel) wM_L_131 dL_randomChain_705 (Nat.le_of_ble_eq_true rfl) (Nat.le_trans (Nat.le_of_ble_eq_true rfl) hJ) ?_
    intro p a_p p0 p1 hR
    have w_p : (2 : Int32).toInt = 2 := by decide +kernel
    rw [w_p] at p1
    refine e_if_ne (tgt := 716) dL_randomChain_708 (by decide) (fun _ => ?_) (fun _ => ?_)
    · exact ev_lc (fin w _ (by omega) (by omega) (by omega) hR) ⟨rfl, rfl, rfl, rfl, rfl, rfl, rfl, rfl, rfl, trivial⟩
    · refine e_iload dL_randomChain_711 rfl ?_
      refine e_ineg dL_randomChain_713 ?_
      refine e_istore dL_randomChain_714 (Nat.le_of_ble_eq_true rfl) ?_
      have hng : (-w).toInt = -w.toInt := ar_neg (by omega)
      exact ev_lc (fin (-w) _ (by omega) (by omega) (by omega) hR) ⟨rfl, rfl, rfl, rfl, rfl, rfl, rfl, rfl, rfl, trivial⟩
set_option maxRecDepth 20000 in
theorem rs_G (hub : ¬ (b ≤ u ∧ u < b + 157)) (ht0 : ∀ (q : Nat) (e : va_E), a0.1 q = some e → q < z0) (hJ : 14 ≤ J.2.2.1) (h3 : 1 ≤ x3.toInt ∧ x3.toInt ≤ 6) (htt : t + 57 ≤ 480) (hcc : cc + 3 < 500) (hk : ∀ a i, i ≤ 3 → RX G a0 b u r z0 S0 D0 c0 x3 dt np ns (t + 57) (cc + 3) i a → ev_V G l mL_randomChain J 785 [some (.ref b), some (.ref u), some (.ref r), some (.int x3), some (.ref c0)] [] a k n) {a : ev_H} (h : RX G a0 b u r z0 S0 D0 c0 x3 dt np ns t cc 0 a) : ev_V G l mL_randomChain J 665 [some (.ref b), some (.ref u), some (.ref r), some (.int x3), some (.ref c0)] [] a (k + 9) (n + 141) := by
  obtain ⟨T, A, D, mI, c, hR, h'⟩ := h
  have hA := h'.2.2.2.2.2.2
  subst hA
  refine e_aload_n dL_randomChain_665 rfl rfl ?_
  refine e_iconst (v := 4) dL_randomChain_666 (by decide) ?_
  refine rc_bel hR (by decide +kernel) wM_L_131 dL_randomChain_667 (Nat.le_of_ble_eq_true rfl) (Nat.le_trans (Nat.le_of_ble_eq_true rfl) hJ) ?_
  intro m a_m m0 m1 hR
  have w_m : (4 : Int32).toInt = 4 := by decide +kernel
  rw [w_m] at m1
  refine e_istore dL_randomChain_670 (Nat.le_of_ble_eq_true rfl) ?_
  refine ev_loc (L' := [some (.ref b), some (.ref u), some (.ref r), some (.int x3), some (.ref (A 0)), some (.int m)]) ⟨rfl, rfl, rfl, rfl, rfl, rfl, trivial⟩ ?_
  refine e_wide (k0 := k + 3 * m.toInt.toNat) (n0 := n + 47 * m.toInt.toNat) (by omega) (by omega) ?_
  exact lp_rG hub ht0 hJ h3 htt hcc hk m.toInt.toNat m _ t cc 0 (by omega) (by omega) (by omega) (by omega) ⟨T, A, D, mI, c, hR, h'⟩
end RNG
