/-! the case: impulse -/
section LWC
variable {G : ev_G} {l : Launch} {J : ev_K} {k n : Nat} {a : ev_H} {b u r q8 z pB N j : Nat} {K : KPT} {S : SS} {A : Nat → Nat} {nI : Nat} {mI : Nat → TI} {g : Nat → Option Nat} {q0 : Nat} {x2 x7 x9 x10 k13 i14 : Int32} {T : Int}
set_option maxRecDepth 20000 in
theorem lw_4 (hub : ¬ (b ≤ u ∧ u < b + 157)) (hq8 : q8 ≠ b + 36) (hl0 : l.stackTraces = false) (hJ : 15 ≤ J.2.2.1) (h : ST G b u r q8 K S A (S.2.2.2 0) nI mI g a) (hz : a.2 = some z) (hh : hOk S) (hI : IV T (S.2.2.2 0) nI mI) (hT : T ≤ 1000) (hN : sNm (S.2.2.2 0) = N) (h7 : x7.toInt = (N : Int)) (hN1 : 1 ≤ N) (hN6 : N ≤ 6) (h13 : k13.toInt = (j : Int)) (hj : j ≤ N) (h14 : i14 = if j < N then 1 else 0) (hk : ∀ (fl : Int32) (S2 : SS) (A2 : Nat → Nat) (σ2 : CS) (n2 : Nat) (m2 : Nat → TI) (a2 : ev_H) (z2 : Nat), ((fl = 0 ∧ S2 = S) ∨ (fl = 1 ∧ S2 = ss_C (sKeep S) 0 σ2)) → ST G b u r q8 K S2 A2 σ2 n2 m2 g a2 → S2.2.2.2 0 = σ2 → IV (T + 8) σ2 n2 m2 → sNm σ2 = N → A2 0 = A 0 → a2.2 = some z2 → ev_V G l mL_law J 1142 [some (.ref q0), some (.int 1), some (.int x2), some (.ref b), some (.ref u), some (.ref r), some (.ref (A 0)), some (.int x7), some (.ref q8), some (.int x9), some (.int x10), some (.ref pB), some (.int fl)] [] a2 k n) : ev_V G l mL_law J 689 [some (.ref q0), some (.int 1), some (.int x2), some (.ref b), some (.ref u), some (.ref r), some (.ref (A 0)), some (.int x7), some (.ref q8), some (.int x9), some (.int x10), some (.ref pB), some (.int 1), some (.int k13), some (.int i14)] [] a (k + 6) (n + 68) := by
  have hsM : sM (S.2.2.2 0) = (N : Int) := by have := hI.1.1.nat; omega
  have hjn := ar_nat h13
  have w16 : (16 : Int32).toInt = 16 := by decide +kernel
  have w5 : (5 : Int32).toInt = 5 := by decide +kernel
  have hin := hI.1.2.2.1.nat
  have hn5 := hI.nI
  have hnn := hI.2.2.2.1
  have htm := hI.2.1.2.2.1
  have hnl : (Int32.ofNat nI).toInt = (nI : Int) := ar_of (by omega)
  refine e_aload dL_law_689 rfl ?_
  refine e_bipush (v := 8) dL_law_691 (by decide) ?_
  refine st_bel h hz (by decide +kernel) wM_L_131 dL_law_693 (Nat.le_of_ble_eq_true rfl) (Nat.le_trans (Nat.le_of_ble_eq_true rfl) hJ) ?_
  intro v a_v v0 v1 h hz
  have w_v : (8 : Int32).toInt = 8 := by decide +kernel
  rw [w_v] at v1
  refine e_iconst (v := 1) dL_law_696 (by decide) ?_
  refine e_isub dL_law_697 ?_
  have he : (v - (1 : Int32)).toInt = v.toInt - 1 := by rw [ar_sub (by rw [ar_1]; omega) (by rw [ar_1]; omega), ar_1]
  generalize v - (1 : Int32) = e at he ⊢
  refine e_istore dL_law_698 (Nat.le_of_ble_eq_true rfl) ?_
  refine e_iconst (v := 5) dL_law_700 (by decide) ?_
  refine e_aload dL_law_701 rfl ?_
  refine e_sipush (v := 9000) dL_law_703 (by decide) ?_
  refine st_bel h hz (by decide +kernel) wM_L_131 dL_law_706 (Nat.le_of_ble_eq_true rfl) (Nat.le_trans (Nat.le_of_ble_eq_true rfl) hJ) ?_
  intro g9 a_g9 g90 g91 h hz
  have w_g9 : (9000 : Int32).toInt = 9000 := by decide +kernel
  rw [w_g9] at g91
  refine e_isub dL_law_709 ?_
  have hs : ((5 : Int32) - g9).toInt = 5 - g9.toInt := by rw [ar_sub (by rw [w5]; omega) (by rw [w5]; omega), w5]
  generalize (5 : Int32) - g9 = s at hs ⊢
  refine e_istore dL_law_710 (Nat.le_of_ble_eq_true rfl) ?_
  have hat : ((S.2.2.2 0).1 1 + e).toInt = ((S.2.2.2 0).1 1).toInt + e.toInt := ar_add (by omega) (by omega)
  by_cases hjN : j < N
  rotate_left
  · obtain rfl : i14 = 0 := by rw [h14, if_neg hjN]
    refine e_wide (k0 := k + 4) (n0 := n + 24) (by omega) (by omega) ?_
    refine e_iload dL_law_712 rfl ?_
    refine e_if_eq (tgt := 742) dL_law_714 (by decide) (fun _ => ?_) (fun q => absurd rfl q)
    refine e_iconst (v := 0) dL_law_742 (by decide) ?_
    refine e_istore dL_law_743 (Nat.le_of_ble_eq_true rfl) ?_
    refine e_aload dL_law_745 rfl ?_
    refine lc_g0 h.2.2.2.2.1 wF_L_282 dL_law_747 ?_
    refine e_iload dL_law_750 rfl ?_
    refine e_iadd dL_law_752 ?_
    refine e_istore dL_law_753 (Nat.le_of_ble_eq_true rfl) ?_
    refine e_iload dL_law_755 rfl ?_
    refine e_if_eq (tgt := 791) dL_law_757 (by decide) (fun _ => ?_) (fun q => absurd rfl q)
    refine e_aload_n dL_law_791 rfl rfl ?_
    refine e_iload dL_law_792 rfl ?_
    refine e_iload dL_law_794 rfl ?_
    refine e_iload dL_law_796 rfl ?_
    refine st_call h hq8 hub ((lh_impulse_I (x := (S.2.2.2 0).1 1 + e) (y := k13) (z := s) hl0 rfl hh hI.1 (by omega))) vL_impulse wM_L_254 dL_law_798 (as := [.ref b, .int ((S.2.2.2 0).1 1 + e), .int k13, .int s]) rfl rfl (Nat.le_of_ble_eq_true rfl) (Nat.le_trans (Nat.le_of_ble_eq_true rfl) hJ) ?_
    intro a_impulse z h hz
    refine e_iload dL_law_801 rfl ?_
    refine e_if_eq (tgt := 815) dL_law_803 (by decide) (fun _ => ?_) (fun q => absurd rfl q)
    refine e_iload dL_law_815 rfl ?_
    refine e_if_ne (tgt := 825) dL_law_817 (by decide) (fun q => absurd (rfl) q) (fun _ => ?_)
    refine e_ldc dL_law_820 wK_L_58 ?_
    refine e_goto (tgt := 842) dL_law_822 (by decide) ?_
    refine e_icmp_ne (tgt := 849) dL_law_842 (by decide) (fun q => absurd (rfl) q) (fun _ => ?_)
    refine e_iconst (v := 1) dL_law_845 (by decide) ?_
    refine e_goto (tgt := 850) dL_law_846 (by decide) ?_
    refine e_istore_n dL_law_850 rfl (Nat.le_of_ble_eq_true rfl) ?_
    refine e_goto (tgt := 1142) dL_law_851 (by decide) ?_
    exact ev_lc (hk 0 S A _ nI mI _ _ (Or.inl ⟨rfl, rfl⟩) h rfl (hI.up (by omega)) hN rfl hz) ⟨rfl, rfl, rfl, rfl, rfl, rfl, rfl, rfl, rfl, rfl, rfl, rfl, rfl, trivial⟩
  obtain rfl : i14 = 1 := by rw [h14, if_pos hjN]
  by_cases c1 : e.toInt < 0
  · refine e_wide (k0 := k + 4) (n0 := n + 24) (by omega) (by omega) ?_
    refine e_iload dL_law_712 rfl ?_
    refine e_if_eq (tgt := 742) dL_law_714 (by decide) (fun q => absurd q (by decide)) (fun _ => ?_)
    refine e_iload dL_law_717 rfl ?_
    refine e_if_lt (tgt := 742) dL_law_719 (by decide) (fun _ => ?_) (fun q => absurd q (by omega))
    refine e_iconst (v := 0) dL_law_742 (by decide) ?_
    refine e_istore dL_law_743 (Nat.le_of_ble_eq_true rfl) ?_
    refine e_aload dL_law_745 rfl ?_
    refine lc_g0 h.2.2.2.2.1 wF_L_282 dL_law_747 ?_
    refine e_iload dL_law_750 rfl ?_
    refine e_iadd dL_law_752 ?_
    refine e_istore dL_law_753 (Nat.le_of_ble_eq_true rfl) ?_
    refine e_iload dL_law_755 rfl ?_
    refine e_if_eq (tgt := 791) dL_law_757 (by decide) (fun _ => ?_) (fun q => absurd rfl q)
    refine e_aload_n dL_law_791 rfl rfl ?_
    refine e_iload dL_law_792 rfl ?_
    refine e_iload dL_law_794 rfl ?_
    refine e_iload dL_law_796 rfl ?_
    refine st_call h hq8 hub ((lh_impulse_A (x := (S.2.2.2 0).1 1 + e) (y := k13) (z := s) hl0 rfl hh hI.1 (by omega) (fun q => by have := q.1.1; omega))) vL_impulse wM_L_254 dL_law_798 (as := [.ref b, .int ((S.2.2.2 0).1 1 + e), .int k13, .int s]) rfl rfl (Nat.le_of_ble_eq_true rfl) (Nat.le_trans (Nat.le_of_ble_eq_true rfl) hJ) ?_
    intro a_impulse z h hz
    refine e_iload dL_law_801 rfl ?_
    refine e_if_eq (tgt := 815) dL_law_803 (by decide) (fun _ => ?_) (fun q => absurd rfl q)
    refine e_iload dL_law_815 rfl ?_
    refine e_if_ne (tgt := 825) dL_law_817 (by decide) (fun _ => ?_) (fun q => absurd q (by decide))
    refine e_iload dL_law_825 rfl ?_
    refine e_if_lt (tgt := 835) dL_law_827 (by decide) (fun _ => ?_) (fun q => absurd q (by omega))
    refine e_ldc dL_law_835 wK_L_42 ?_
    refine e_goto (tgt := 842) dL_law_837 (by decide) ?_
    refine e_icmp_ne (tgt := 849) dL_law_842 (by decide) (fun q => absurd (rfl) q) (fun _ => ?_)
    refine e_iconst (v := 1) dL_law_845 (by decide) ?_
    refine e_goto (tgt := 850) dL_law_846 (by decide) ?_
    refine e_istore_n dL_law_850 rfl (Nat.le_of_ble_eq_true rfl) ?_
    refine e_goto (tgt := 1142) dL_law_851 (by decide) ?_
    exact ev_lc (hk 0 S A _ nI mI _ _ (Or.inl ⟨rfl, rfl⟩) h rfl (hI.up (by omega)) hN rfl hz) ⟨rfl, rfl, rfl, rfl, rfl, rfl, rfl, rfl, rfl, rfl, rfl, rfl, rfl, trivial⟩
  by_cases c2 : s = 0
  · subst c2
    refine e_wide (k0 := k + 4) (n0 := n + 24) (by omega) (by omega) ?_
    refine e_iload dL_law_712 rfl ?_
    refine e_if_eq (tgt := 742) dL_law_714 (by decide) (fun q => absurd q (by decide)) (fun _ => ?_)
    refine e_iload dL_law_717 rfl ?_
    refine e_if_lt (tgt := 742) dL_law_719 (by decide) (fun q => absurd q (by omega)) (fun _ => ?_)
    refine e_iload dL_law_722 rfl ?_
    refine e_if_eq (tgt := 742) dL_law_724 (by decide) (fun _ => ?_) (fun q => absurd rfl q)
    refine e_iconst (v := 0) dL_law_742 (by decide) ?_
    refine e_istore dL_law_743 (Nat.le_of_ble_eq_true rfl) ?_
    refine e_aload dL_law_745 rfl ?_
    refine lc_g0 h.2.2.2.2.1 wF_L_282 dL_law_747 ?_
    refine e_iload dL_law_750 rfl ?_
    refine e_iadd dL_law_752 ?_
    refine e_istore dL_law_753 (Nat.le_of_ble_eq_true rfl) ?_
    refine e_iload dL_law_755 rfl ?_
    refine e_if_eq (tgt := 791) dL_law_757 (by decide) (fun _ => ?_) (fun q => absurd rfl q)
    refine e_aload_n dL_law_791 rfl rfl ?_
    refine e_iload dL_law_792 rfl ?_
    refine e_iload dL_law_794 rfl ?_
    refine e_iload dL_law_796 rfl ?_
    refine st_call h hq8 hub ((lh_impulse_A (x := (S.2.2.2 0).1 1 + e) (y := k13) (z := 0) hl0 rfl hh hI.1 (by omega) (fun q => q.2.2 rfl))) vL_impulse wM_L_254 dL_law_798 (as := [.ref b, .int ((S.2.2.2 0).1 1 + e), .int k13, .int 0]) rfl rfl (Nat.le_of_ble_eq_true rfl) (Nat.le_trans (Nat.le_of_ble_eq_true rfl) hJ) ?_
    intro a_impulse z h hz
    refine e_iload dL_law_801 rfl ?_
    refine e_if_eq (tgt := 815) dL_law_803 (by decide) (fun _ => ?_) (fun q => absurd rfl q)
    refine e_iload dL_law_815 rfl ?_
    refine e_if_ne (tgt := 825) dL_law_817 (by decide) (fun _ => ?_) (fun q => absurd q (by decide))
    refine e_iload dL_law_825 rfl ?_
    refine e_if_lt (tgt := 835) dL_law_827 (by decide) (fun q => absurd q (by omega)) (fun _ => ?_)
    refine e_iload dL_law_830 rfl ?_
    refine e_if_ne (tgt := 840) dL_law_832 (by decide) (fun q => absurd (rfl) q) (fun _ => ?_)
    refine e_ldc dL_law_835 wK_L_42 ?_
    refine e_goto (tgt := 842) dL_law_837 (by decide) ?_
    refine e_icmp_ne (tgt := 849) dL_law_842 (by decide) (fun q => absurd (rfl) q) (fun _ => ?_)
    refine e_iconst (v := 1) dL_law_845 (by decide) ?_
    refine e_goto (tgt := 850) dL_law_846 (by decide) ?_
    refine e_istore_n dL_law_850 rfl (Nat.le_of_ble_eq_true rfl) ?_
    refine e_goto (tgt := 1142) dL_law_851 (by decide) ?_
    exact ev_lc (hk 0 S A _ nI mI _ _ (Or.inl ⟨rfl, rfl⟩) h rfl (hI.up (by omega)) hN rfl hz) ⟨rfl, rfl, rfl, rfl, rfl, rfl, rfl, rfl, rfl, rfl, rfl, rfl, rfl, trivial⟩
  by_cases c3 : 16 ≤ nI
  · refine e_wide (k0 := k + 4) (n0 := n + 24) (by omega) (by omega) ?_
    refine e_iload dL_law_712 rfl ?_
    refine e_if_eq (tgt := 742) dL_law_714 (by decide) (fun q => absurd q (by decide)) (fun _ => ?_)
    refine e_iload dL_law_717 rfl ?_
    refine e_if_lt (tgt := 742) dL_law_719 (by decide) (fun q => absurd q (by omega)) (fun _ => ?_)
    refine e_iload dL_law_722 rfl ?_
    refine e_if_eq (tgt := 742) dL_law_724 (by decide) (fun q => absurd q c2) (fun _ => ?_)
    refine e_aload dL_law_727 rfl ?_
    refine lc_g6 h.2.2.2.2.1 wF_L_202 dL_law_729 ?_
    refine lc_n3 h.2.2.2.2.1 dL_law_732 ?_
    refine e_bipush (v := 16) dL_law_733 (by decide) ?_
    refine e_icmp_ge (tgt := 742) dL_law_735 (by decide) (fun _ => ?_) (fun q => absurd q (by omega))
    refine e_iconst (v := 0) dL_law_742 (by decide) ?_
    refine e_istore dL_law_743 (Nat.le_of_ble_eq_true rfl) ?_
    refine e_aload dL_law_745 rfl ?_
    refine lc_g0 h.2.2.2.2.1 wF_L_282 dL_law_747 ?_
    refine e_iload dL_law_750 rfl ?_
    refine e_iadd dL_law_752 ?_
    refine e_istore dL_law_753 (Nat.le_of_ble_eq_true rfl) ?_
    refine e_iload dL_law_755 rfl ?_
    refine e_if_eq (tgt := 791) dL_law_757 (by decide) (fun _ => ?_) (fun q => absurd rfl q)
    refine e_aload_n dL_law_791 rfl rfl ?_
    refine e_iload dL_law_792 rfl ?_
    refine e_iload dL_law_794 rfl ?_
    refine e_iload dL_law_796 rfl ?_
    refine st_call h hq8 hub ((lh_impulse_S (x := (S.2.2.2 0).1 1 + e) (y := k13) (z := s) hl0 rfl hh hI.1 (by omega) ⟨⟨by omega, by omega⟩, ⟨by omega, by omega⟩, c2⟩ (by omega))) vL_impulse wM_L_254 dL_law_798 (as := [.ref b, .int ((S.2.2.2 0).1 1 + e), .int k13, .int s]) rfl rfl (Nat.le_of_ble_eq_true rfl) (Nat.le_trans (Nat.le_of_ble_eq_true rfl) hJ) ?_
    intro a_impulse z h hz
    refine e_iload dL_law_801 rfl ?_
    refine e_if_eq (tgt := 815) dL_law_803 (by decide) (fun _ => ?_) (fun q => absurd rfl q)
    refine e_iload dL_law_815 rfl ?_
    refine e_if_ne (tgt := 825) dL_law_817 (by decide) (fun _ => ?_) (fun q => absurd q (by decide))
    refine e_iload dL_law_825 rfl ?_
    refine e_if_lt (tgt := 835) dL_law_827 (by decide) (fun q => absurd q (by omega)) (fun _ => ?_)
    refine e_iload dL_law_830 rfl ?_
    refine e_if_ne (tgt := 840) dL_law_832 (by decide) (fun _ => ?_) (fun q => absurd q (c2))
    refine e_ldc dL_law_840 wK_L_95 ?_
    refine e_icmp_ne (tgt := 849) dL_law_842 (by decide) (fun q => absurd (rfl) q) (fun _ => ?_)
    refine e_iconst (v := 1) dL_law_845 (by decide) ?_
    refine e_goto (tgt := 850) dL_law_846 (by decide) ?_
    refine e_istore_n dL_law_850 rfl (Nat.le_of_ble_eq_true rfl) ?_
    refine e_goto (tgt := 1142) dL_law_851 (by decide) ?_
    exact ev_lc (hk 0 S A _ nI mI _ _ (Or.inl ⟨rfl, rfl⟩) h rfl (hI.up (by omega)) hN rfl hz) ⟨rfl, rfl, rfl, rfl, rfl, rfl, rfl, rfl, rfl, rfl, rfl, rfl, rfl, trivial⟩
  refine e_wide (k0 := k + 4 + 1 + 1) (n0 := n + 24 + 41 + 3) (by omega) (by omega) ?_
  refine e_iload dL_law_712 rfl ?_
  refine e_if_eq (tgt := 742) dL_law_714 (by decide) (fun q => absurd q (by decide)) (fun _ => ?_)
  refine e_iload dL_law_717 rfl ?_
  refine e_if_lt (tgt := 742) dL_law_719 (by decide) (fun q => absurd q (by omega)) (fun _ => ?_)
  refine e_iload dL_law_722 rfl ?_
  refine e_if_eq (tgt := 742) dL_law_724 (by decide) (fun q => absurd q c2) (fun _ => ?_)
  refine e_aload dL_law_727 rfl ?_
  refine lc_g6 h.2.2.2.2.1 wF_L_202 dL_law_729 ?_
  refine lc_n3 h.2.2.2.2.1 dL_law_732 ?_
  refine e_bipush (v := 16) dL_law_733 (by decide) ?_
  refine e_icmp_ge (tgt := 742) dL_law_735 (by decide) (fun q => absurd q (by omega)) (fun _ => ?_)
  refine e_iconst (v := 1) dL_law_738 (by decide) ?_
  refine e_goto (tgt := 743) dL_law_739 (by decide) ?_
  refine e_istore dL_law_743 (Nat.le_of_ble_eq_true rfl) ?_
  refine e_aload dL_law_745 rfl ?_
  refine lc_g0 h.2.2.2.2.1 wF_L_282 dL_law_747 ?_
  refine e_iload dL_law_750 rfl ?_
  refine e_iadd dL_law_752 ?_
  refine e_istore dL_law_753 (Nat.le_of_ble_eq_true rfl) ?_
  refine e_iload dL_law_755 rfl ?_
  refine e_if_eq (tgt := 791) dL_law_757 (by decide) (fun q => absurd q (by decide)) (fun _ => ?_)
  refine e_aload dL_law_760 rfl ?_
  refine e_aload dL_law_762 rfl ?_
  refine lc_g6 h.2.2.2.2.1 wF_L_202 dL_law_764 ?_
  refine e_top hz fun ht => ?_
  refine e_iconst (v := 3) dL_law_767 (by decide) ?_
  refine e_newa (atype := .int) (ty := .int) (t0 := 0) (N := 3) (a0 := (3, .inl (fun _ => 0))) rfl rfl (fun C q => by cases q) wA_int (fun _ => rfl) (show (3 : Int32).toInt = ((3 : Nat) : Int) by decide +kernel) (by decide) hz dL_law_768 ?_
  refine e_dup dL_law_770 rfl ?_
  refine e_iconst (v := 0) dL_law_771 (by decide) ?_
  refine e_iload dL_law_772 rfl ?_
  refine rc_iast (j := 0) (show (0 : Int32).toInt = ((0 : Nat) : Int) by decide +kernel) (by decide) dL_law_774 ?_
  refine e_dup dL_law_775 rfl ?_
  refine e_iconst (v := 1) dL_law_776 (by decide) ?_
  refine e_iload dL_law_777 rfl ?_
  refine rc_iast (j := 1) (show (1 : Int32).toInt = ((1 : Nat) : Int) by decide +kernel) (by decide) dL_law_779 ?_
  refine e_dup dL_law_780 rfl ?_
  refine e_iconst (v := 2) dL_law_781 (by decide) ?_
  refine e_iload dL_law_782 rfl ?_
  refine rc_iast (j := 2) (show (2 : Int32).toInt = ((2 : Nat) : Int) by decide +kernel) (by decide) dL_law_784 ?_
  have h1 := h.sub (sub.new (.inl (G.2.1 0, 3, .inl (ev_u (ev_u (ev_u (fun _ => 0) 0 ((S.2.2.2 0).1 1 + e)) 1 k13) 2 s))) ht)
  have hzz : (ev_new a_g9 z (.inl (G.2.1 0, 3, .inl (ev_u (ev_u (ev_u (fun _ => 0) 0 ((S.2.2.2 0).1 1 + e)) 1 k13) 2 s)))).1 z = some (.inl (G.2.1 0, 3, .inl (ev_u (ev_u (ev_u (fun _ => 0) 0 ((S.2.2.2 0).1 1 + e)) 1 k13) 2 s))) := new_eq _ _ _
  have hz1 := new_2 a_g9 (.inl (G.2.1 0, 3, .inl (ev_u (ev_u (ev_u (fun _ => 0) 0 ((S.2.2.2 0).1 1 + e)) 1 k13) 2 s))) hz
  generalize ev_new a_g9 z (.inl (G.2.1 0, 3, .inl (ev_u (ev_u (ev_u (fun _ => 0) 0 ((S.2.2.2 0).1 1 + e)) 1 k13) 2 s))) = a1 at h1 hzz hz1 ⊢
  have hC1 := h1.2.2.2.2.1
  have hW := ct_L_with (l := l) (g := fun q => A (50 + q)) hC1.1.2.2.2.1 (fun q hq => by
    obtain ⟨f9, x9, -⟩ := hC1.2.2.1.1 q hq
    exact ⟨_, x9⟩) hzz (by omega) hz1
  refine e_invS (k := k + 4) (n := n + 24) (mcY := 1) (msY := 41) hW vL_with wM_L_206 dL_law_785 (as := [.ref (A 3), .ref z]) rfl rfl (Nat.le_of_ble_eq_true rfl) (Nat.le_trans (Nat.le_of_ble_eq_true rfl) hJ) ?_
  rintro v9 c9 ⟨rfl, q1, q2, q3⟩
  have h2 := h1.sub q1
  have hr9 : ∀ q, q < nI + 1 → aI c9 (G.2.1 0) (if q < nI then A (50 + q) else z) 3 (tiF (ev_u mI nI ((S.2.2.2 0).1 1 + e, k13, s) q)) := fun q hq => by
    by_cases cq : q < nI
    · rw [if_pos cq, ev_u_ne _ _ (show q ≠ nI by omega)]
      exact h2.2.2.2.2.1.2.2.1.1 q cq
    · obtain rfl : q = nI := by omega
      rw [if_neg cq, ev_u_self]
      refine ⟨_, q1 _ _ hzz, fun w9 hw9 => ?_⟩
      rcases (show w9 = 0 ∨ w9 = 1 ∨ w9 = 2 by omega) with rfl | rfl | rfl <;> rfl
  refine lc_wi0 h2.2.2.2.2.1 (by omega) (show nI + 1 ≤ 20 by omega) q3 hr9 wF_L_202 dL_law_788 ?_
  intro a2 C2 f2 z2
  have h := (h2.wr C2 f2 (fun q hq => Or.inl ((lcI_mt (by omega)).mp hq))).see (vis_ins (t := (S.2.2.2 0).1 1 + e) (m := k13) (s := s))
  have hz := z2.trans q2
  have hA0 : lcI A (z + 1) (fun q => if q < nI then A (50 + q) else z) 0 = A 0 := rfl
  generalize lcI A (z + 1) (fun q => if q < nI then A (50 + q) else z) = A9 at h hA0
  rw [← hA0] at hk ⊢
  have hI2 := hI.ins (t := (S.2.2.2 0).1 1 + e) (m := k13) (s := s) (by omega) (by omega) (by omega) (by omega) (by omega) (by omega) (by omega)
  refine e_aload_n dL_law_791 rfl rfl ?_
  refine e_iload dL_law_792 rfl ?_
  refine e_iload dL_law_794 rfl ?_
  refine e_iload dL_law_796 rfl ?_
  refine st_call h hq8 hub ((lh_impulse_ok (x := (S.2.2.2 0).1 1 + e) (y := k13) (z := s) hl0 rfl hh hI.1 (by omega) ⟨⟨by omega, by omega⟩, ⟨by omega, by omega⟩, c2⟩ (by omega))) vL_impulse wM_L_254 dL_law_798 (as := [.ref b, .int ((S.2.2.2 0).1 1 + e), .int k13, .int s]) rfl rfl (Nat.le_of_ble_eq_true rfl) (Nat.le_trans (Nat.le_of_ble_eq_true rfl) hJ) ?_
  intro a_impulse z h hz
  refine e_iload dL_law_801 rfl ?_
  refine e_if_eq (tgt := 815) dL_law_803 (by decide) (fun q => absurd q (by decide)) (fun _ => ?_)
  refine e_aload dL_law_806 rfl ?_
  refine lc_g6 h.2.2.2.2.1 wF_L_202 dL_law_808 ?_
  refine lc_n3 h.2.2.2.2.1 dL_law_811 ?_
  refine e_goto (tgt := 842) dL_law_812 (by decide) ?_
  refine e_icmp_ne (tgt := 849) dL_law_842 (by decide) (fun q => absurd (by rw [← hn5, of_1]) q) (fun _ => ?_)
  refine e_iconst (v := 1) dL_law_845 (by decide) ?_
  refine e_goto (tgt := 850) dL_law_846 (by decide) ?_
  refine e_istore_n dL_law_850 rfl (Nat.le_of_ble_eq_true rfl) ?_
  refine e_goto (tgt := 1142) dL_law_851 (by decide) ?_
  exact ev_lc (hk 1 _ _ _ _ _ _ _ (Or.inr ⟨rfl, rfl⟩) h (ss_C_at _ _ _) (hI2.up (by omega)) ((show sNm (sIns (S.2.2.2 0) _ _ _) = N by unfold sNm; rw [sIns_1 _ _ _ _ (by decide)]; exact hN)) rfl hz) ⟨rfl, rfl, rfl, rfl, rfl, rfl, rfl, rfl, rfl, rfl, rfl, rfl, rfl, trivial⟩
end LWC
