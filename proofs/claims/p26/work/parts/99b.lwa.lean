/-! the cases: move, nothing, stiffen, mend -/
section LWA
variable {G : ev_G} {l : Launch} {J : ev_K} {k n : Nat} {a : ev_H} {b u r q8 z pB N j : Nat} {K : KPT} {S : SS} {A : Nat → Nat} {nI : Nat} {mI : Nat → TI} {g : Nat → Option Nat} {q0 : Nat} {x2 x7 x9 x10 k13 i14 : Int32} {T : Int}
set_option maxRecDepth 20000 in
theorem lw_7 (hub : ¬ (b ≤ u ∧ u < b + 157)) (hq8 : q8 ≠ b + 36) (hl0 : l.stackTraces = false) (hJ : 15 ≤ J.2.2.1) (h : ST G b u r q8 K S A (S.2.2.2 0) nI mI g a) (hz : a.2 = some z) (hh : hOk S) (hI : IV T (S.2.2.2 0) nI mI) (hT : T ≤ 1000) (hN : sNm (S.2.2.2 0) = N) (h7 : x7.toInt = (N : Int)) (hN1 : 1 ≤ N) (hN6 : N ≤ 6) (h13 : k13.toInt = (j : Int)) (hj : j ≤ N) (h14 : i14 = if j < N then 1 else 0) (hk : ∀ (fl : Int32) (S2 : SS) (A2 : Nat → Nat) (σ2 : CS) (n2 : Nat) (m2 : Nat → TI) (a2 : ev_H) (z2 : Nat), ((fl = 0 ∧ S2 = S) ∨ (fl = 1 ∧ S2 = ss_C (sKeep S) 0 σ2)) → ST G b u r q8 K S2 A2 σ2 n2 m2 g a2 → S2.2.2.2 0 = σ2 → IV (T + 8) σ2 n2 m2 → sNm σ2 = N → A2 0 = A 0 → a2.2 = some z2 → ev_V G l mL_law J 1142 [some (.ref q0), some (.int 1), some (.int x2), some (.ref b), some (.ref u), some (.ref r), some (.ref (A 0)), some (.int x7), some (.ref q8), some (.int x9), some (.int x10), some (.ref pB), some (.int fl)] [] a2 k n) : ev_V G l mL_law J 1000 [some (.ref q0), some (.int 1), some (.int x2), some (.ref b), some (.ref u), some (.ref r), some (.ref (A 0)), some (.int x7), some (.ref q8), some (.int x9), some (.int x10), some (.ref pB), some (.int 1), some (.int k13), some (.int i14)] [] a (k + 1) (n + 6) := by
  refine e_aload dL_law_1000 rfl ?_
  refine e_iconst (v := 2) dL_law_1002 (by decide) ?_
  refine st_bel h hz (by decide +kernel) wM_L_131 dL_law_1003 (Nat.le_of_ble_eq_true rfl) (Nat.le_trans (Nat.le_of_ble_eq_true rfl) hJ) ?_
  intro p a_p p0 p1 h hz
  have w_p : (2 : Int32).toInt = 2 := by decide +kernel
  rw [w_p] at p1
  refine e_if_ne (tgt := 1013) dL_law_1006 (by decide) (fun _ => ?_) (fun _ => ?_)
  · refine e_iconst (v := 0) dL_law_1013 (by decide) ?_
    refine e_istore dL_law_1014 (Nat.le_of_ble_eq_true rfl) ?_
    refine e_aload dL_law_1016 rfl ?_
    refine e_sipush (v := 3001) dL_law_1018 (by decide) ?_
    refine st_bel h hz (by decide +kernel) wM_L_131 dL_law_1021 (Nat.le_of_ble_eq_true rfl) (Nat.le_trans (Nat.le_of_ble_eq_true rfl) hJ) ?_
    intro v a_v v0 v1 h hz
    have w_v : (3001 : Int32).toInt = 3001 := by decide +kernel
    rw [w_v] at v1
    refine e_sipush (v := 1500) dL_law_1024 (by decide) ?_
    refine e_isub dL_law_1027 ?_
    have hw : (v - (1500 : Int32)).toInt = v.toInt - 1500 := by
      have wk : (1500 : Int32).toInt = 1500 := by decide +kernel
      rw [ar_sub (by rw [wk]; omega) (by rw [wk]; omega), wk]
    generalize v - (1500 : Int32) = w at hw ⊢
    refine e_istore dL_law_1028 (Nat.le_of_ble_eq_true rfl) ?_
    refine e_iload dL_law_1030 rfl ?_
    refine e_if_eq (tgt := 1043) dL_law_1032 (by decide) (fun _ => ?_) (fun q => absurd rfl q)
    refine e_aload dL_law_1043 rfl ?_
    refine lc_g1 h.2.2.2.2.1 wF_L_197 dL_law_1045 ?_
    refine e_istore dL_law_1048 (Nat.le_of_ble_eq_true rfl) ?_
    refine e_iload dL_law_1050 rfl ?_
    refine e_if_eq (tgt := 1065) dL_law_1052 (by decide) (fun _ => ?_) (fun q => absurd rfl q)
    refine e_aload dL_law_1065 rfl ?_
    refine e_iload dL_law_1067 rfl ?_
    refine lc_wl h.2.2.2.2.1 wF_L_197 dL_law_1069 ?_
    intro a2 C2 f2 z2
    have h := h.wr C2 f2 (fun q hq => Or.inl hq)
    have hz := z2.trans hz
    refine e_aload_n dL_law_1072 rfl rfl ?_
    refine e_iload dL_law_1073 rfl ?_
    refine e_iload dL_law_1075 rfl ?_
    refine st_call h hq8 hub ((lh_move_ok (x := 0) (y := w) hl0 rfl hh hI.1 (by omega)).mono (fun v c q => ⟨q.1.trans (by rw [if_pos rfl]), q.2.trans (by rw [if_pos rfl])⟩)) vL_move wM_L_261 dL_law_1077 (as := [.ref b, .int 0, .int w]) rfl rfl (Nat.le_of_ble_eq_true rfl) (Nat.le_trans (Nat.le_of_ble_eq_true rfl) hJ) ?_
    intro a_move z h hz
    refine e_iload dL_law_1080 rfl ?_
    refine e_icmp_ne (tgt := 1089) dL_law_1082 (by decide) (fun q => absurd (rfl) q) (fun _ => ?_)
    refine e_iconst (v := 1) dL_law_1085 (by decide) ?_
    refine e_goto (tgt := 1090) dL_law_1086 (by decide) ?_
    refine e_istore_n dL_law_1090 rfl (Nat.le_of_ble_eq_true rfl) ?_
    refine e_goto (tgt := 1142) dL_law_1091 (by decide) ?_
    exact ev_lc (hk 1 _ A _ nI mI _ _ (Or.inr ⟨rfl, rfl⟩) h (ss_C_at _ _ _) ((hI.left (by omega) (by omega)).up (by omega)) (hN) rfl hz) ⟨rfl, rfl, rfl, rfl, rfl, rfl, rfl, rfl, rfl, rfl, rfl, rfl, rfl, trivial⟩
  · refine e_iconst (v := 1) dL_law_1009 (by decide) ?_
    refine e_goto (tgt := 1014) dL_law_1010 (by decide) ?_
    refine e_istore dL_law_1014 (Nat.le_of_ble_eq_true rfl) ?_
    refine e_aload dL_law_1016 rfl ?_
    refine e_sipush (v := 3001) dL_law_1018 (by decide) ?_
    refine st_bel h hz (by decide +kernel) wM_L_131 dL_law_1021 (Nat.le_of_ble_eq_true rfl) (Nat.le_trans (Nat.le_of_ble_eq_true rfl) hJ) ?_
    intro v a_v v0 v1 h hz
    have w_v : (3001 : Int32).toInt = 3001 := by decide +kernel
    rw [w_v] at v1
    refine e_sipush (v := 1500) dL_law_1024 (by decide) ?_
    refine e_isub dL_law_1027 ?_
    have hw : (v - (1500 : Int32)).toInt = v.toInt - 1500 := by
      have wk : (1500 : Int32).toInt = 1500 := by decide +kernel
      rw [ar_sub (by rw [wk]; omega) (by rw [wk]; omega), wk]
    generalize v - (1500 : Int32) = w at hw ⊢
    refine e_istore dL_law_1028 (Nat.le_of_ble_eq_true rfl) ?_
    refine e_iload dL_law_1030 rfl ?_
    refine e_if_eq (tgt := 1043) dL_law_1032 (by decide) (fun q => absurd q (by decide)) (fun _ => ?_)
    refine e_aload dL_law_1035 rfl ?_
    refine lc_g2 h.2.2.2.2.1 wF_L_292 dL_law_1037 ?_
    refine e_goto (tgt := 1048) dL_law_1040 (by decide) ?_
    refine e_istore dL_law_1048 (Nat.le_of_ble_eq_true rfl) ?_
    refine e_iload dL_law_1050 rfl ?_
    refine e_if_eq (tgt := 1065) dL_law_1052 (by decide) (fun q => absurd q (by decide)) (fun _ => ?_)
    refine e_aload dL_law_1055 rfl ?_
    refine e_iload dL_law_1057 rfl ?_
    refine lc_wr h.2.2.2.2.1 wF_L_292 dL_law_1059 ?_
    intro a2 C2 f2 z2
    have h := h.wr C2 f2 (fun q hq => Or.inl hq)
    have hz := z2.trans hz
    refine e_goto (tgt := 1072) dL_law_1062 (by decide) ?_
    refine e_aload_n dL_law_1072 rfl rfl ?_
    refine e_iload dL_law_1073 rfl ?_
    refine e_iload dL_law_1075 rfl ?_
    refine st_call h hq8 hub ((lh_move_ok (x := 1) (y := w) hl0 rfl hh hI.1 (by omega)).mono (fun v c q => ⟨q.1.trans (by rw [if_neg (by decide)]), q.2.trans (by rw [if_neg (by decide)])⟩)) vL_move wM_L_261 dL_law_1077 (as := [.ref b, .int 1, .int w]) rfl rfl (Nat.le_of_ble_eq_true rfl) (Nat.le_trans (Nat.le_of_ble_eq_true rfl) hJ) ?_
    intro a_move z h hz
    refine e_iload dL_law_1080 rfl ?_
    refine e_icmp_ne (tgt := 1089) dL_law_1082 (by decide) (fun q => absurd (rfl) q) (fun _ => ?_)
    refine e_iconst (v := 1) dL_law_1085 (by decide) ?_
    refine e_goto (tgt := 1090) dL_law_1086 (by decide) ?_
    refine e_istore_n dL_law_1090 rfl (Nat.le_of_ble_eq_true rfl) ?_
    refine e_goto (tgt := 1142) dL_law_1091 (by decide) ?_
    exact ev_lc (hk 1 _ A _ nI mI _ _ (Or.inr ⟨rfl, rfl⟩) h (ss_C_at _ _ _) ((hI.right (by omega) (by omega)).up (by omega)) (hN) rfl hz) ⟨rfl, rfl, rfl, rfl, rfl, rfl, rfl, rfl, rfl, rfl, rfl, rfl, rfl, trivial⟩
set_option maxRecDepth 20000 in
theorem lw_8 (hub : ¬ (b ≤ u ∧ u < b + 157)) (hq8 : q8 ≠ b + 36) (hl0 : l.stackTraces = false) (hJ : 15 ≤ J.2.2.1) (h : ST G b u r q8 K S A (S.2.2.2 0) nI mI g a) (hz : a.2 = some z) (hh : hOk S) (hI : IV T (S.2.2.2 0) nI mI) (hT : T ≤ 1000) (hN : sNm (S.2.2.2 0) = N) (h7 : x7.toInt = (N : Int)) (hN1 : 1 ≤ N) (hN6 : N ≤ 6) (h13 : k13.toInt = (j : Int)) (hj : j ≤ N) (h14 : i14 = if j < N then 1 else 0) (hk : ∀ (fl : Int32) (S2 : SS) (A2 : Nat → Nat) (σ2 : CS) (n2 : Nat) (m2 : Nat → TI) (a2 : ev_H) (z2 : Nat), ((fl = 0 ∧ S2 = S) ∨ (fl = 1 ∧ S2 = ss_C (sKeep S) 0 σ2)) → ST G b u r q8 K S2 A2 σ2 n2 m2 g a2 → S2.2.2.2 0 = σ2 → IV (T + 8) σ2 n2 m2 → sNm σ2 = N → A2 0 = A 0 → a2.2 = some z2 → ev_V G l mL_law J 1142 [some (.ref q0), some (.int 1), some (.int x2), some (.ref b), some (.ref u), some (.ref r), some (.ref (A 0)), some (.int x7), some (.ref q8), some (.int x9), some (.int x10), some (.ref pB), some (.int fl)] [] a2 k n) : ev_V G l mL_law J 1094 [some (.ref q0), some (.int 1), some (.int x2), some (.ref b), some (.ref u), some (.ref r), some (.ref (A 0)), some (.int x7), some (.ref q8), some (.int x9), some (.int x10), some (.ref pB), some (.int 1), some (.int k13), some (.int i14)] [] a (k + 5) (n + 30) := by
  have hn5 := hI.nI
  have w301 : (301 : Int32).toInt = 301 := by decide +kernel
  have hsM : sM (S.2.2.2 0) = (N : Int) := by have := hI.1.1.nat; omega
  have hvd : sInv (sDr S) := sInv_bec _ hI.1
  have w1 := ar_1
  have w0 := ar_0
  refine e_wide (k0 := k + 1 + 2 + 2) (n0 := n + 6 + 12 + 12) (by omega) (by omega) ?_
  refine e_iconst (v := 0) dL_law_1094 (by decide) ?_
  refine e_istore dL_law_1095 (Nat.le_of_ble_eq_true rfl) ?_
  refine e_aload_n dL_law_1097 rfl rfl ?_
  refine e_aload dL_law_1098 rfl ?_
  refine lc_g6 h.2.2.2.2.1 wF_L_202 dL_law_1100 ?_
  refine lc_n3 h.2.2.2.2.1 dL_law_1103 ?_
  refine e_iconst (v := 0) dL_law_1104 (by decide) ?_
  refine st_call h hq8 hub (lh_waiting_N hl0 rfl hI.1 (by rw [hn5]; omega)) vL_waiting wM_L_295 dL_law_1105 (as := [.ref b, .int (Int32.ofNat nI), .int 0]) rfl rfl (Nat.le_of_ble_eq_true rfl) (Nat.le_trans (Nat.le_of_ble_eq_true rfl) hJ) ?_
  intro a_waiting z h hz
  refine e_ldc dL_law_1108 wK_L_67 ?_
  refine e_icmp_ne (tgt := 1140) dL_law_1110 (by decide) (fun q => absurd (rfl) q) (fun _ => ?_)
  refine e_aload_n dL_law_1113 rfl rfl ?_
  refine e_iconst (v := 0) dL_law_1114 (by decide) ?_
  refine e_sipush (v := 301) dL_law_1115 (by decide) ?_
  refine st_call h hq8 hub (lh_period_A (x := 0) (y := 301) hl0 rfl hvd (by omega) (by omega)) vL_period wM_L_297 dL_law_1118 (as := [.ref b, .int 0, .int 301]) rfl rfl (Nat.le_of_ble_eq_true rfl) (Nat.le_trans (Nat.le_of_ble_eq_true rfl) hJ) ?_
  intro a_period z h hz
  refine e_ldc dL_law_1121 wK_L_42 ?_
  refine e_icmp_ne (tgt := 1140) dL_law_1123 (by decide) (fun q => absurd (rfl) q) (fun _ => ?_)
  refine e_aload_n dL_law_1126 rfl rfl ?_
  refine e_iconst (v := 0) dL_law_1127 (by decide) ?_
  refine st_call h hq8 hub (lh_breaksIn_A (x := 0) hl0 rfl hvd (by omega)) vL_breaksIn wM_L_299 dL_law_1128 (as := [.ref b, .int 0]) rfl rfl (Nat.le_of_ble_eq_true rfl) (Nat.le_trans (Nat.le_of_ble_eq_true rfl) hJ) ?_
  intro a_breaksIn z h hz
  refine e_ldc dL_law_1131 wK_L_42 ?_
  refine e_icmp_ne (tgt := 1140) dL_law_1133 (by decide) (fun q => absurd (rfl) q) (fun _ => ?_)
  refine e_iconst (v := 1) dL_law_1136 (by decide) ?_
  refine e_goto (tgt := 1141) dL_law_1137 (by decide) ?_
  refine e_istore_n dL_law_1141 rfl (Nat.le_of_ble_eq_true rfl) ?_
  exact ev_lc (hk 0 S A _ nI mI _ _ (Or.inl ⟨rfl, rfl⟩) h rfl (hI.up (by omega)) hN rfl hz) ⟨rfl, rfl, rfl, rfl, rfl, rfl, rfl, rfl, rfl, rfl, rfl, rfl, rfl, trivial⟩
set_option maxRecDepth 20000 in
theorem lw_5 (hub : ¬ (b ≤ u ∧ u < b + 157)) (hq8 : q8 ≠ b + 36) (hl0 : l.stackTraces = false) (hJ : 15 ≤ J.2.2.1) (h : ST G b u r q8 K S A (S.2.2.2 0) nI mI g a) (hz : a.2 = some z) (hh : hOk S) (hI : IV T (S.2.2.2 0) nI mI) (hT : T ≤ 1000) (hN : sNm (S.2.2.2 0) = N) (h7 : x7.toInt = (N : Int)) (hN1 : 1 ≤ N) (hN6 : N ≤ 6) (h13 : k13.toInt = (j : Int)) (hj : j ≤ N) (h14 : i14 = if j < N then 1 else 0) (hk : ∀ (fl : Int32) (S2 : SS) (A2 : Nat → Nat) (σ2 : CS) (n2 : Nat) (m2 : Nat → TI) (a2 : ev_H) (z2 : Nat), ((fl = 0 ∧ S2 = S) ∨ (fl = 1 ∧ S2 = ss_C (sKeep S) 0 σ2)) → ST G b u r q8 K S2 A2 σ2 n2 m2 g a2 → S2.2.2.2 0 = σ2 → IV (T + 8) σ2 n2 m2 → sNm σ2 = N → A2 0 = A 0 → a2.2 = some z2 → ev_V G l mL_law J 1142 [some (.ref q0), some (.int 1), some (.int x2), some (.ref b), some (.ref u), some (.ref r), some (.ref (A 0)), some (.int x7), some (.ref q8), some (.int x9), some (.int x10), some (.ref pB), some (.int fl)] [] a2 k n) : ev_V G l mL_law J 854 [some (.ref q0), some (.int 1), some (.int x2), some (.ref b), some (.ref u), some (.ref r), some (.ref (A 0)), some (.int x7), some (.ref q8), some (.int x9), some (.int x10), some (.ref pB), some (.int 1), some (.int k13), some (.int i14)] [] a (k + 2) (n + 12) := by
  have w1000 : (1000 : Int32).toInt = 1000 := by decide +kernel
  have hsM : sM (S.2.2.2 0) = (N : Int) := by have := hI.1.1.nat; omega
  have hjn := ar_nat h13
  refine e_aload dL_law_854 rfl ?_
  refine e_sipush (v := 1050) dL_law_856 (by decide) ?_
  refine st_bel h hz (by decide +kernel) wM_L_131 dL_law_859 (Nat.le_of_ble_eq_true rfl) (Nat.le_trans (Nat.le_of_ble_eq_true rfl) hJ) ?_
  intro s a_s s0 s1 h hz
  have w_s : (1050 : Int32).toInt = 1050 := by decide +kernel
  rw [w_s] at s1
  refine e_istore dL_law_862 (Nat.le_of_ble_eq_true rfl) ?_
  refine e_iload dL_law_864 rfl ?_
  refine e_sipush (v := 1000) dL_law_866 (by decide) ?_
  refine e_icmp_ge (tgt := 876) dL_law_869 (by decide) (fun c9 => ?_) (fun c9 => ?_)
  · refine e_iconst (v := 0) dL_law_876 (by decide) ?_
    refine e_istore dL_law_877 (Nat.le_of_ble_eq_true rfl) ?_
    refine e_aload dL_law_879 rfl ?_
    refine lc_g5 h.2.2.2.2.1 wF_L_160 dL_law_881 ?_
    refine e_iload dL_law_884 rfl ?_
    refine lc_q2 h.2.2.2.2.1 h13 (show j < sNm (S.2.2.2 0) + 1 by omega) dL_law_886 ?_
    refine lc_s0 h.2.2.2.2.1 (show j < sNm (S.2.2.2 0) + 1 by omega) wF_L_164 dL_law_887 ?_
    refine e_istore dL_law_890 (Nat.le_of_ble_eq_true rfl) ?_
    refine e_iload dL_law_892 rfl ?_
    refine e_if_eq (tgt := 910) dL_law_894 (by decide) (fun _ => ?_) (fun q => absurd rfl q)
    refine e_aload_n dL_law_910 rfl rfl ?_
    refine e_iload dL_law_911 rfl ?_
    refine e_iload dL_law_913 rfl ?_
    refine st_call h hq8 hub (lh_stiffen_A (x := k13) (y := s) hl0 rfl hh hI.1 (by omega) (by omega)) vL_stiffen wM_L_257 dL_law_915 (as := [.ref b, .int k13, .int s]) rfl rfl (Nat.le_of_ble_eq_true rfl) (Nat.le_trans (Nat.le_of_ble_eq_true rfl) hJ) ?_
    intro a_stiffen z h hz
    refine e_iload dL_law_918 rfl ?_
    refine e_if_eq (tgt := 928) dL_law_920 (by decide) (fun _ => ?_) (fun q => absurd rfl q)
    refine e_ldc dL_law_928 wK_L_42 ?_
    refine e_icmp_ne (tgt := 937) dL_law_930 (by decide) (fun q => absurd (rfl) q) (fun _ => ?_)
    refine e_iconst (v := 1) dL_law_933 (by decide) ?_
    refine e_goto (tgt := 938) dL_law_934 (by decide) ?_
    refine e_istore_n dL_law_938 rfl (Nat.le_of_ble_eq_true rfl) ?_
    refine e_goto (tgt := 1142) dL_law_939 (by decide) ?_
    exact ev_lc (hk 0 S A _ nI mI _ _ (Or.inl ⟨rfl, rfl⟩) h rfl (hI.up (by omega)) hN rfl hz) ⟨rfl, rfl, rfl, rfl, rfl, rfl, rfl, rfl, rfl, rfl, rfl, rfl, rfl, trivial⟩
  · refine e_iconst (v := 1) dL_law_872 (by decide) ?_
    refine e_goto (tgt := 877) dL_law_873 (by decide) ?_
    refine e_istore dL_law_877 (Nat.le_of_ble_eq_true rfl) ?_
    refine e_aload dL_law_879 rfl ?_
    refine lc_g5 h.2.2.2.2.1 wF_L_160 dL_law_881 ?_
    refine e_iload dL_law_884 rfl ?_
    refine lc_q2 h.2.2.2.2.1 h13 (show j < sNm (S.2.2.2 0) + 1 by omega) dL_law_886 ?_
    refine lc_s0 h.2.2.2.2.1 (show j < sNm (S.2.2.2 0) + 1 by omega) wF_L_164 dL_law_887 ?_
    refine e_istore dL_law_890 (Nat.le_of_ble_eq_true rfl) ?_
    refine e_iload dL_law_892 rfl ?_
    refine e_if_eq (tgt := 910) dL_law_894 (by decide) (fun q => absurd q (by decide)) (fun _ => ?_)
    refine e_aload dL_law_897 rfl ?_
    refine lc_g5 h.2.2.2.2.1 wF_L_160 dL_law_899 ?_
    refine e_iload dL_law_902 rfl ?_
    refine lc_q2 h.2.2.2.2.1 h13 (show j < sNm (S.2.2.2 0) + 1 by omega) dL_law_904 ?_
    refine e_iload dL_law_905 rfl ?_
    refine lc_ws0 h.2.2.2.2.1 (show j < sNm (S.2.2.2 0) + 1 by omega) wF_L_164 dL_law_907 ?_
    intro a2 C2 f2 z2
    have h := h.wr C2 f2 (fun q hq => Or.inl hq)
    have hz := z2.trans hz
    refine e_aload_n dL_law_910 rfl rfl ?_
    refine e_iload dL_law_911 rfl ?_
    refine e_iload dL_law_913 rfl ?_
    refine st_call h hq8 hub (lh_stiffen_ok (x := k13) (y := s) hl0 rfl hh hI.1 (by omega) (by omega)) vL_stiffen wM_L_257 dL_law_915 (as := [.ref b, .int k13, .int s]) rfl rfl (Nat.le_of_ble_eq_true rfl) (Nat.le_trans (Nat.le_of_ble_eq_true rfl) hJ) ?_
    intro a_stiffen z h hz
    refine e_iload dL_law_918 rfl ?_
    refine e_if_eq (tgt := 928) dL_law_920 (by decide) (fun q => absurd q (by decide)) (fun _ => ?_)
    refine e_iload dL_law_923 rfl ?_
    refine e_goto (tgt := 930) dL_law_925 (by decide) ?_
    refine e_icmp_ne (tgt := 937) dL_law_930 (by decide) (fun q => absurd (by rw [hjn]) q) (fun _ => ?_)
    refine e_iconst (v := 1) dL_law_933 (by decide) ?_
    refine e_goto (tgt := 938) dL_law_934 (by decide) ?_
    refine e_istore_n dL_law_938 rfl (Nat.le_of_ble_eq_true rfl) ?_
    refine e_goto (tgt := 1142) dL_law_939 (by decide) ?_
    rw [hjn] at h
    exact ev_lc (hk 1 _ A _ nI mI _ _ (Or.inr ⟨rfl, rfl⟩) h (ss_C_at _ _ _) ((hI.stiff (by omega) (by omega)).up (by omega)) (hN) rfl hz) ⟨rfl, rfl, rfl, rfl, rfl, rfl, rfl, rfl, rfl, rfl, rfl, rfl, rfl, trivial⟩
set_option maxRecDepth 20000 in
theorem lw_6 (hub : ¬ (b ≤ u ∧ u < b + 157)) (hq8 : q8 ≠ b + 36) (hl0 : l.stackTraces = false) (hJ : 15 ≤ J.2.2.1) (h : ST G b u r q8 K S A (S.2.2.2 0) nI mI g a) (hz : a.2 = some z) (hh : hOk S) (hI : IV T (S.2.2.2 0) nI mI) (hT : T ≤ 1000) (hN : sNm (S.2.2.2 0) = N) (h7 : x7.toInt = (N : Int)) (hN1 : 1 ≤ N) (hN6 : N ≤ 6) (h13 : k13.toInt = (j : Int)) (hj : j ≤ N) (h14 : i14 = if j < N then 1 else 0) (hk : ∀ (fl : Int32) (S2 : SS) (A2 : Nat → Nat) (σ2 : CS) (n2 : Nat) (m2 : Nat → TI) (a2 : ev_H) (z2 : Nat), ((fl = 0 ∧ S2 = S) ∨ (fl = 1 ∧ S2 = ss_C (sKeep S) 0 σ2)) → ST G b u r q8 K S2 A2 σ2 n2 m2 g a2 → S2.2.2.2 0 = σ2 → IV (T + 8) σ2 n2 m2 → sNm σ2 = N → A2 0 = A 0 → a2.2 = some z2 → ev_V G l mL_law J 1142 [some (.ref q0), some (.int 1), some (.int x2), some (.ref b), some (.ref u), some (.ref r), some (.ref (A 0)), some (.int x7), some (.ref q8), some (.int x9), some (.int x10), some (.ref pB), some (.int fl)] [] a2 k n) : ev_V G l mL_law J 942 [some (.ref q0), some (.int 1), some (.int x2), some (.ref b), some (.ref u), some (.ref r), some (.ref (A 0)), some (.int x7), some (.ref q8), some (.int x9), some (.int x10), some (.ref pB), some (.int 1), some (.int k13), some (.int i14)] [] a (k + 2) (n + 12) := by
  have hsM : sM (S.2.2.2 0) = (N : Int) := by have := hI.1.1.nat; omega
  have hjn := ar_nat h13
  have hb5 := (hI.2.1.1.2.2.2 j (by omega)).2.2
  refine e_aload dL_law_942 rfl ?_
  refine lc_g5 h.2.2.2.2.1 wF_L_160 dL_law_944 ?_
  refine e_iload dL_law_947 rfl ?_
  refine lc_q2 h.2.2.2.2.1 h13 (show j < sNm (S.2.2.2 0) + 1 by omega) dL_law_949 ?_
  refine lc_s2 h.2.2.2.2.1 (show j < sNm (S.2.2.2 0) + 1 by omega) wF_L_285 dL_law_950 ?_
  rcases hb5 with hb5 | hb5
  · rw [hb5]
    refine e_istore dL_law_953 (Nat.le_of_ble_eq_true rfl) ?_
    refine e_aload dL_law_955 rfl ?_
    refine lc_g5 h.2.2.2.2.1 wF_L_160 dL_law_957 ?_
    refine e_iload dL_law_960 rfl ?_
    refine lc_q2 h.2.2.2.2.1 h13 (show j < sNm (S.2.2.2 0) + 1 by omega) dL_law_962 ?_
    refine e_iconst (v := 0) dL_law_963 (by decide) ?_
    refine lc_ws2 (y := 0) h.2.2.2.2.1 (show j < sNm (S.2.2.2 0) + 1 by omega) rfl rfl wF_L_285 dL_law_964 ?_
    intro a2 C2 f2 z2
    have h := h.wr C2 f2 (fun q hq => Or.inl hq)
    have hz := z2.trans hz
    have e5 : cs_A (S.2.2.2 0) 5 (ev_u ((S.2.2.2 0).2.2 5) j 0) = S.2.2.2 0 := by
      have e6 : ev_u ((S.2.2.2 0).2.2 5) j 0 = (S.2.2.2 0).2.2 5 := funext fun q => by
        by_cases c : q = j
        · rw [c, ev_u_self, hb5]
        · rw [ev_u_ne _ _ c]
      rw [e6, cs_A_self]
    rw [e5] at h
    refine e_aload_n dL_law_967 rfl rfl ?_
    refine e_iload dL_law_968 rfl ?_
    refine st_call h hq8 hub (lh_mend_S (x := k13) hl0 rfl hh hI.1 (by omega) (fun q => q (by rw [hjn]; exact hb5))) vL_mend wM_L_259 dL_law_970 (as := [.ref b, .int k13]) rfl rfl (Nat.le_of_ble_eq_true rfl) (Nat.le_trans (Nat.le_of_ble_eq_true rfl) hJ) ?_
    intro a_mend z h hz
    refine e_iload dL_law_973 rfl ?_
    refine e_if_eq (tgt := 986) dL_law_975 (by decide) (fun _ => ?_) (fun q => absurd rfl q)
    refine e_ldc dL_law_986 wK_L_95 ?_
    refine e_icmp_ne (tgt := 995) dL_law_988 (by decide) (fun q => absurd (rfl) q) (fun _ => ?_)
    refine e_iconst (v := 1) dL_law_991 (by decide) ?_
    refine e_goto (tgt := 996) dL_law_992 (by decide) ?_
    refine e_istore_n dL_law_996 rfl (Nat.le_of_ble_eq_true rfl) ?_
    refine e_goto (tgt := 1142) dL_law_997 (by decide) ?_
    exact ev_lc (hk 0 S A _ nI mI _ _ (Or.inl ⟨rfl, rfl⟩) h rfl (hI.up (by omega)) hN rfl hz) ⟨rfl, rfl, rfl, rfl, rfl, rfl, rfl, rfl, rfl, rfl, rfl, rfl, rfl, trivial⟩
  · rw [hb5]
    refine e_istore dL_law_953 (Nat.le_of_ble_eq_true rfl) ?_
    refine e_aload dL_law_955 rfl ?_
    refine lc_g5 h.2.2.2.2.1 wF_L_160 dL_law_957 ?_
    refine e_iload dL_law_960 rfl ?_
    refine lc_q2 h.2.2.2.2.1 h13 (show j < sNm (S.2.2.2 0) + 1 by omega) dL_law_962 ?_
    refine e_iconst (v := 0) dL_law_963 (by decide) ?_
    refine lc_ws2 (y := 0) h.2.2.2.2.1 (show j < sNm (S.2.2.2 0) + 1 by omega) rfl rfl wF_L_285 dL_law_964 ?_
    intro a2 C2 f2 z2
    have h := h.wr C2 f2 (fun q hq => Or.inl hq)
    have hz := z2.trans hz
    refine e_aload_n dL_law_967 rfl rfl ?_
    refine e_iload dL_law_968 rfl ?_
    refine st_call h hq8 hub (lh_mend_ok (x := k13) hl0 rfl hh hI.1 (by omega) (by rw [hjn, hb5]; decide)) vL_mend wM_L_259 dL_law_970 (as := [.ref b, .int k13]) rfl rfl (Nat.le_of_ble_eq_true rfl) (Nat.le_trans (Nat.le_of_ble_eq_true rfl) hJ) ?_
    intro a_mend z h hz
    refine e_iload dL_law_973 rfl ?_
    rw [hjn] at h ⊢
    refine e_if_eq (tgt := 986) dL_law_975 (by decide) (fun q => absurd q (by decide)) (fun _ => ?_)
    refine e_aload dL_law_978 rfl ?_
    refine e_invV (mcY := 0) (msY := 0) (ct_X7_broken h.2.2.2.2.1 (hI.mend (j := j) rfl).1) vX7_broken wM_L_289 h.2.2.2.2.1.1.1 rfl dL_law_980 (as := []) rfl rfl (Nat.le_of_ble_eq_true rfl) (Nat.le_trans (Nat.le_of_ble_eq_true rfl) hJ) ?_
    rintro v c ⟨rfl, e⟩
    rw [e]
    refine e_goto (tgt := 988) dL_law_983 (by decide) ?_
    refine e_icmp_ne (tgt := 995) dL_law_988 (by decide) (fun q => absurd (rfl) q) (fun _ => ?_)
    refine e_iconst (v := 1) dL_law_991 (by decide) ?_
    refine e_goto (tgt := 996) dL_law_992 (by decide) ?_
    refine e_istore_n dL_law_996 rfl (Nat.le_of_ble_eq_true rfl) ?_
    refine e_goto (tgt := 1142) dL_law_997 (by decide) ?_
    exact ev_lc (hk 1 _ A _ nI mI _ _ (Or.inr ⟨rfl, rfl⟩) h (ss_C_at _ _ _) ((hI.mend rfl).up (by omega)) (hN) rfl hz) ⟨rfl, rfl, rfl, rfl, rfl, rfl, rfl, rfl, rfl, rfl, rfl, rfl, rfl, trivial⟩
end LWA
