/-! the random chain: weights and stiffnesses at once -/
def RX (G : ev_G) (a0 : ev_H) (b u r z0 : Nat) (S0 : SS) (D0 : CS) (c0 : Nat) (x3 dt : Int32) (np ns t cc ni : Nat) (a : ev_H) : Prop :=
  ∃ (T : List Nat) (A : Nat → Nat) (D : CS) (mI : Nat → TI) (c : Nat), RC G a0 b u r z0 S0 T A D ni mI a ∧ PG D0 T c D dt np ns ∧ IV 0 D ni mI ∧ D.1 0 = x3 ∧ (∀ k, ns ≤ k → k < 12 → D.2.2 2 k = 0) ∧ T.length ≤ t ∧ c ≤ cc ∧ A 0 = c0
theorem txtl : (txtN 2).length = 4 ∧ (txtN 3).length = 6 ∧ (txtN 4).length = 6 ∧ (txtN 7).length = 4 ∧ (txtN 8).length = 5 ∧ (txtN 9).length = 6 ∧ (txtN 13).length = 7 ∧ (txtN 22).length = 1 ∧ (txtN 23).length = 8 ∧ (txtN 24).length = 6 ∧ (txtN 25).length = 8 := by decide +kernel
theorem txt23 : txtN 23 = 59 :: txtN 6 := by decide +kernel
theorem nms1_ {f : Nat → Int32} {x : Int32} : nmsW (ev_u f 0 x) 1 = nmW x := nms1 (ev_u_self _ _ _)
theorem nms2_ {f : Nat → Int32} {x y : Int32} : nmsW (ev_u (ev_u f 0 x) 1 y) 2 = nmW x ++ nmW y := nms2 ((ev_u_ne _ _ (by decide)).trans (ev_u_self _ _ _)) (ev_u_self _ _ _)
theorem nms3_ {f : Nat → Int32} {x y w : Int32} : nmsW (ev_u (ev_u (ev_u f 0 x) 1 y) 2 w) 3 = nmW x ++ nmW y ++ nmW w := nms3 ((ev_u_ne _ _ (by decide)).trans ((ev_u_ne _ _ (by decide)).trans (ev_u_self _ _ _))) ((ev_u_ne _ _ (by decide)).trans (ev_u_self _ _ _)) (ev_u_self _ _ _)
theorem rng1 {f : Nat → Int32} {x : Int32} (hx : -100000 < x.toInt ∧ x.toInt < 100000) : ∀ i, i < 1 → -100000 < (ev_u f 0 x i).toInt ∧ (ev_u f 0 x i).toInt < 100000 := fun i hi => by
  obtain rfl : i = 0 := by omega
  rw [ev_u_self]; exact hx
theorem rng2 {f : Nat → Int32} {x y : Int32} (hx : -100000 < x.toInt ∧ x.toInt < 100000) (hy : -100000 < y.toInt ∧ y.toInt < 100000) : ∀ i, i < 2 → -100000 < (ev_u (ev_u f 0 x) 1 y i).toInt ∧ (ev_u (ev_u f 0 x) 1 y i).toInt < 100000 := fun i hi => by
  by_cases e : i = 1
  · rw [e, ev_u_self]; exact hy
  · rw [ev_u_ne _ _ e]; exact rng1 hx i (by omega)
theorem rng3 {f : Nat → Int32} {x y w : Int32} (hx : -100000 < x.toInt ∧ x.toInt < 100000) (hy : -100000 < y.toInt ∧ y.toInt < 100000) (hw : -100000 < w.toInt ∧ w.toInt < 100000) : ∀ i, i < 3 → -100000 < (ev_u (ev_u (ev_u f 0 x) 1 y) 2 w i).toInt ∧ (ev_u (ev_u (ev_u f 0 x) 1 y) 2 w i).toInt < 100000 := fun i hi => by
  by_cases e : i = 2
  · rw [e, ev_u_self]; exact hw
  · rw [ev_u_ne _ _ e]; exact rng2 hx hy i (by omega)
section RNB
variable {G : ev_G} {l : Launch} {J : ev_K} {k n : Nat} {a0 : ev_H} {b u r z0 c0 np ns t cc ni : Nat} {S0 : SS} {D0 : CS} {x3 dt : Int32}
theorem RX.up {np' ns' t' cc' : Nat} {a : ev_H} (h : RX G a0 b u r z0 S0 D0 c0 x3 dt np ns t cc ni a) (h1 : np ≤ np') (h2 : ns ≤ ns') (h3 : t ≤ t') (h4 : cc ≤ cc') : RX G a0 b u r z0 S0 D0 c0 x3 dt np' ns' t' cc' ni a := by
  obtain ⟨T, A, D, mI, c, g1, g2, g3, g4, g5, g6, g7, g8⟩ := h
  exact ⟨T, A, D, mI, c, g1, g2.up h1 h2, g3, g4, fun k hk => g5 k (by omega), by omega, by omega, g8⟩
set_option maxRecDepth 20000 in
theorem lp_rBm {T : List Nat} {A : Nat → Nat} {D : CS} {mI : Nat → TI} {w s y8 : Int32} (hub : ¬ (b ≤ u ∧ u < b + 157)) (ht0 : ∀ (q : Nat) (e : va_E), a0.1 q = some e → q < z0) (hJ : 14 ≤ J.2.2.1) (h3 : 1 ≤ x3.toInt ∧ x3.toInt ≤ 6) (hv : sInv D) (hy8 : y8.toInt = ((sNm D : Nat) : Int)) (hk : ∀ a, RC G a0 b u r z0 S0 T A (cs_A D 0 (fillTo (sNm D) (fun _ => w) (D.2.2 0))) ni mI a → ev_V G l mL_randomChain J 105 [some (.ref b), some (.ref u), some (.ref r), some (.int x3), some (.ref (A 0)), some (.int w), some (.int s)] [] a k n) : ∀ (q i : Nat) (x : Int32) (a : ev_H), q + i = sNm D → x.toInt = (i : Int) → RC G a0 b u r z0 S0 T A (cs_A D 0 (fillTo i (fun _ => w) (D.2.2 0))) ni mI a → ev_V G l mL_randomChain J 78 [some (.ref b), some (.ref u), some (.ref r), some (.int x3), some (.ref (A 0)), some (.int w), some (.int s), some (.ref (A 1)), some (.int y8), some (.int x)] [] a k n := by
  have hmn := hv.1.nat
  intro q
  induction q with
  | zero =>
    intro i x a hq hx hR
    obtain rfl : i = sNm D := by omega
    refine e_iload dL_randomChain_78 rfl ?_
    refine e_iload dL_randomChain_80 rfl ?_
    refine e_icmp_ge (tgt := 105) dL_randomChain_82 (by decide) (fun _ => ev_lc (hk a hR) ⟨rfl, rfl, rfl, rfl, rfl, rfl, rfl, trivial⟩) (fun c9 => absurd c9 (by omega))
  | succ q ih =>
    intro i x a hq hx hR
    refine e_iload dL_randomChain_78 rfl ?_
    refine e_iload dL_randomChain_80 rfl ?_
    refine e_icmp_ge (tgt := 105) dL_randomChain_82 (by decide) (fun c9 => absurd c9 (by omega)) (fun _ => ?_)
    refine e_aload dL_randomChain_85 rfl ?_
    refine e_iload dL_randomChain_87 rfl ?_
    refine lc_q1 (σ := cs_A D 0 (fillTo i (fun _ => w) (D.2.2 0))) hR.2.1 hx (show i < sNm D by omega) dL_randomChain_89 ?_
    refine e_astore dL_randomChain_90 (Nat.le_of_ble_eq_true rfl) ?_
    refine e_aload dL_randomChain_92 rfl ?_
    refine e_iload dL_randomChain_94 rfl ?_
    refine lc_wm0 (σ := cs_A D 0 (fillTo i (fun _ => w) (D.2.2 0))) hR.2.1 (show i < sNm D by omega) wF_L_154 dL_randomChain_96 ?_
    intro a2 C2 f2 z2
    have hR2 := hR.wr ht0 C2 f2 z2 (fun q hq => hq)
    have e : cs_A (cs_A D 0 (fillTo i (fun _ => w) (D.2.2 0))) 0 (ev_u ((cs_A D 0 (fillTo i (fun _ => w) (D.2.2 0))).2.2 0) i w) = cs_A D 0 (fillTo (i + 1) (fun _ => w) (D.2.2 0)) := by rw [cs_A_2, cs_A_A, fillTo_up i _ _ w rfl]
    rw [e] at hR2
    refine e_iinc dL_randomChain_99 rfl rfl (Nat.le_of_ble_eq_true rfl) ?_
    refine e_goto (tgt := 78) dL_randomChain_102 (by decide) ?_
    exact ev_lc (ih (i + 1) _ a2 (by omega) (ar_inc hx (by omega)) hR2) ⟨rfl, rfl, rfl, rfl, rfl, rfl, rfl, rfl, rfl, rfl, trivial⟩
set_option maxRecDepth 20000 in
theorem lp_rBs {T : List Nat} {A : Nat → Nat} {D : CS} {mI : Nat → TI} {w s y8 : Int32} (hub : ¬ (b ≤ u ∧ u < b + 157)) (ht0 : ∀ (q : Nat) (e : va_E), a0.1 q = some e → q < z0) (hJ : 14 ≤ J.2.2.1) (h3 : 1 ≤ x3.toInt ∧ x3.toInt ≤ 6) (hv : sInv D) (hy8 : y8.toInt = ((sNm D + 1 : Nat) : Int)) (hk : ∀ a, RC G a0 b u r z0 S0 T A (cs_A D 3 (fillTo (sNm D + 1) (fun _ => s) (D.2.2 3))) ni mI a → ev_V G l mL_randomChain J 147 [some (.ref b), some (.ref u), some (.ref r), some (.int x3), some (.ref (A 0)), some (.int w), some (.int s)] [] a k n) : ∀ (q i : Nat) (x : Int32) (a : ev_H), q + i = sNm D + 1 → x.toInt = (i : Int) → RC G a0 b u r z0 S0 T A (cs_A D 3 (fillTo i (fun _ => s) (D.2.2 3))) ni mI a → ev_V G l mL_randomChain J 120 [some (.ref b), some (.ref u), some (.ref r), some (.int x3), some (.ref (A 0)), some (.int w), some (.int s), some (.ref (A 2)), some (.int y8), some (.int x)] [] a k n := by
  have hmn := hv.1.nat
  intro q
  induction q with
  | zero =>
    intro i x a hq hx hR
    obtain rfl : i = sNm D + 1 := by omega
    refine e_iload dL_randomChain_120 rfl ?_
    refine e_iload dL_randomChain_122 rfl ?_
    refine e_icmp_ge (tgt := 147) dL_randomChain_124 (by decide) (fun _ => ev_lc (hk a hR) ⟨rfl, rfl, rfl, rfl, rfl, rfl, rfl, trivial⟩) (fun c9 => absurd c9 (by omega))
  | succ q ih =>
    intro i x a hq hx hR
    refine e_iload dL_randomChain_120 rfl ?_
    refine e_iload dL_randomChain_122 rfl ?_
    refine e_icmp_ge (tgt := 147) dL_randomChain_124 (by decide) (fun c9 => absurd c9 (by omega)) (fun _ => ?_)
    refine e_aload dL_randomChain_127 rfl ?_
    refine e_iload dL_randomChain_129 rfl ?_
    refine lc_q2 (σ := cs_A D 3 (fillTo i (fun _ => s) (D.2.2 3))) hR.2.1 hx (show i < sNm D + 1 by omega) dL_randomChain_131 ?_
    refine e_astore dL_randomChain_132 (Nat.le_of_ble_eq_true rfl) ?_
    refine e_aload dL_randomChain_134 rfl ?_
    refine e_iload dL_randomChain_136 rfl ?_
    refine lc_ws0 (σ := cs_A D 3 (fillTo i (fun _ => s) (D.2.2 3))) hR.2.1 (show i < sNm D + 1 by omega) wF_L_164 dL_randomChain_138 ?_
    intro a2 C2 f2 z2
    have hR2 := hR.wr ht0 C2 f2 z2 (fun q hq => hq)
    have e : cs_A (cs_A D 3 (fillTo i (fun _ => s) (D.2.2 3))) 3 (ev_u ((cs_A D 3 (fillTo i (fun _ => s) (D.2.2 3))).2.2 3) i s) = cs_A D 3 (fillTo (i + 1) (fun _ => s) (D.2.2 3)) := by rw [cs_A_2, cs_A_A, fillTo_up i _ _ s rfl]
    rw [e] at hR2
    refine e_iinc dL_randomChain_141 rfl rfl (Nat.le_of_ble_eq_true rfl) ?_
    refine e_goto (tgt := 120) dL_randomChain_144 (by decide) ?_
    exact ev_lc (ih (i + 1) _ a2 (by omega) (ar_inc hx (by omega)) hR2) ⟨rfl, rfl, rfl, rfl, rfl, rfl, rfl, rfl, rfl, rfl, trivial⟩
set_option maxRecDepth 20000 in
theorem rs_B (hub : ¬ (b ≤ u ∧ u < b + 157)) (ht0 : ∀ (q : Nat) (e : va_E), a0.1 q = some e → q < z0) (hJ : 14 ≤ J.2.2.1) (h3 : 1 ≤ x3.toInt ∧ x3.toInt ≤ 6) (ht : t + 22 ≤ 480) (hcc : cc + 2 < 500) (hk : ∀ a, RX G a0 b u r z0 S0 D0 c0 x3 dt np ns (t + 22) (cc + 2) ni a → ev_V G l mL_randomChain J 184 [some (.ref b), some (.ref u), some (.ref r), some (.int x3), some (.ref c0)] [] a k n) {a : ev_H} (h : RX G a0 b u r z0 S0 D0 c0 x3 dt np ns t cc ni a) : ev_V G l mL_randomChain J 36 [some (.ref b), some (.ref u), some (.ref r), some (.int x3), some (.ref c0)] [] a (k + 1 + 1) (n + 1 + 1) := by
  have hk' := hk
  obtain ⟨T, A, D, mI, c, hR, hP, hI, h3x, hs, hT, hc, rfl⟩ := h
  have hv := hI.1
  have hmn := hv.1.nat
  have hN : (D.1 0).toInt = ((sNm D : Nat) : Int) := hmn.1.symm
  refine e_aload_n dL_randomChain_36 rfl rfl ?_
  refine e_iconst (v := 2) dL_randomChain_37 (by decide) ?_
  refine rc_bel hR (by decide +kernel) wM_L_131 dL_randomChain_38 (Nat.le_of_ble_eq_true rfl) (Nat.le_trans (Nat.le_of_ble_eq_true rfl) hJ) ?_
  intro p a_p p0 p1 hR
  have w_p : (2 : Int32).toInt = 2 := by decide +kernel
  rw [w_p] at p1
  refine e_if_ne (tgt := 184) dL_randomChain_41 (by decide) (fun _ => e_wide (k0 := k) (n0 := n) (by omega) (by omega) (ev_lc (hk _ ⟨T, A, D, mI, c, hR, hP, hI, h3x, hs, by omega, by omega, rfl⟩) ⟨rfl, rfl, rfl, rfl, rfl, trivial⟩)) (fun _ => ?_)
  refine e_iconst (v := 1) dL_randomChain_44 (by decide) ?_
  refine e_aload_n dL_randomChain_45 rfl rfl ?_
  refine e_bipush (v := 99) dL_randomChain_46 (by decide) ?_
  refine rc_bel hR (by decide +kernel) wM_L_131 dL_randomChain_48 (Nat.le_of_ble_eq_true rfl) (Nat.le_trans (Nat.le_of_ble_eq_true rfl) hJ) ?_
  intro v a_v v0 v1 hR
  have w_v : (99 : Int32).toInt = 99 := by decide +kernel
  rw [w_v] at v1
  refine e_iadd dL_randomChain_51 ?_
  have hw : ((1 : Int32) + v).toInt = 1 + v.toInt := by rw [ar_add (by rw [ar_1]; omega) (by rw [ar_1]; omega), ar_1]
  generalize (1 : Int32) + v = w at hw ⊢
  refine e_istore dL_randomChain_52 (Nat.le_of_ble_eq_true rfl) ?_
  refine e_aload_n dL_randomChain_54 rfl rfl ?_
  refine e_sipush (v := 1000) dL_randomChain_55 (by decide) ?_
  refine rc_bel hR (by decide +kernel) wM_L_131 dL_randomChain_58 (Nat.le_of_ble_eq_true rfl) (Nat.le_trans (Nat.le_of_ble_eq_true rfl) hJ) ?_
  intro s a_s s0 s1 hR
  have w_s : (1000 : Int32).toInt = 1000 := by decide +kernel
  rw [w_s] at s1
  refine e_istore dL_randomChain_61 (Nat.le_of_ble_eq_true rfl) ?_
  refine e_aload dL_randomChain_63 rfl ?_
  refine lc_g4 hR.2.1 wF_L_150 dL_randomChain_65 ?_
  refine e_astore dL_randomChain_68 (Nat.le_of_ble_eq_true rfl) ?_
  refine e_aload dL_randomChain_70 rfl ?_
  refine lc_n1 hR.2.1 hv dL_randomChain_72 ?_
  refine e_istore dL_randomChain_73 (Nat.le_of_ble_eq_true rfl) ?_
  refine e_iconst (v := 0) dL_randomChain_75 (by decide) ?_
  refine e_istore dL_randomChain_76 (Nat.le_of_ble_eq_true rfl) ?_
  refine ev_loc (L' := [some (.ref b), some (.ref u), some (.ref r), some (.int x3), some (.ref (A 0)), some (.int w), some (.int s), some (.ref (A 1)), some (.int (D.1 0)), some (.int 0)]) ⟨rfl, rfl, rfl, rfl, rfl, rfl, rfl, rfl, rfl, rfl, trivial⟩ ?_
  refine lp_rBm (D := D) hub ht0 hJ h3 hv hN (fun a3 hR => ?_) (sNm D) 0 0 _ (by omega) ar_0 (by rw [fillTo_0, cs_A_self]; exact hR)
  have hR := hR.see (vis_fillW hmn.2.1)
  have hv2 : sInv (cs_A D 0 (fillTo 12 (fun _ => w) (D.2.2 0))) := (hI.fillW (by omega) (by omega)).1
  refine e_aload dL_randomChain_105 rfl ?_
  refine lc_g5 hR.2.1 wF_L_160 dL_randomChain_107 ?_
  refine e_astore dL_randomChain_110 (Nat.le_of_ble_eq_true rfl) ?_
  refine e_aload dL_randomChain_112 rfl ?_
  refine lc_n2 hR.2.1 dL_randomChain_114 ?_
  refine e_istore dL_randomChain_115 (Nat.le_of_ble_eq_true rfl) ?_
  refine e_iconst (v := 0) dL_randomChain_117 (by decide) ?_
  refine e_istore dL_randomChain_118 (Nat.le_of_ble_eq_true rfl) ?_
  refine ev_loc (L' := [some (.ref b), some (.ref u), some (.ref r), some (.int x3), some (.ref (A 0)), some (.int w), some (.int s), some (.ref (A 2)), some (.int (Int32.ofNat (sNm D + 1))), some (.int 0)]) ⟨rfl, rfl, rfl, rfl, rfl, rfl, rfl, rfl, rfl, rfl, trivial⟩ ?_
  refine lp_rBs (D := cs_A D 0 (fillTo 12 (fun _ => w) (D.2.2 0))) hub ht0 hJ h3 hv2 (show (Int32.ofNat (sNm D + 1)).toInt = ((sNm D + 1 : Nat) : Int) from ar_of (by omega)) (fun a4 hR => ?_) (sNm D + 1) 0 0 _ (by rfl) ar_0 (by rw [fillTo_0, cs_A_self]; exact hR)
  have hR := hR.see (vis_fillS hmn.2.1)
  have lw := nmW_le (x := w) (m := 2) (by omega) (by omega) (by omega) (by omega)
  have ls := nmW_le (x := s) (m := 3) (by omega) (by omega) (by omega) (by omega)
  refine e_aload_n dL_randomChain_147 rfl rfl ?_
  refine e_aload_n dL_randomChain_148 rfl rfl ?_
  refine e_ldcS (j := 3) (tx := "masses") dL_randomChain_149 (by decide +kernel) ?_
  refine e_iconst (v := 1) dL_randomChain_151 (by decide) ?_
  refine rc_arr (N := 1) hR (show (1 : Int32).toInt = ((1 : Nat) : Int) by decide +kernel) (by decide) dL_randomChain_152 ?_
  intro z hz ht
  refine e_dup dL_randomChain_154 rfl ?_
  refine e_iconst (v := 0) dL_randomChain_155 (by decide) ?_
  refine e_iload dL_randomChain_156 rfl ?_
  refine rc_iast (j := 0) (show (0 : Int32).toInt = ((0 : Nat) : Int) by decide +kernel) (by decide) dL_randomChain_158 ?_
  refine rc_all hub hR hz ht (j := 3) (by decide) (by decide) (rng1 ⟨by omega, by omega⟩) (by rw [nms1_]; simp only [List.length_append, txtl]; omega) wM_L_144 dL_randomChain_159 (Nat.le_of_ble_eq_true rfl) (Nat.le_trans (Nat.le_of_ble_eq_true rfl) hJ) ?_
  intro a_w hR
  rw [nms1_] at hR
  refine e_aload_n dL_randomChain_162 rfl rfl ?_
  refine e_aload_n dL_randomChain_163 rfl rfl ?_
  refine e_ldcS (j := 23) (tx := ";springs") dL_randomChain_164 (by decide +kernel) ?_
  refine e_iconst (v := 1) dL_randomChain_166 (by decide) ?_
  refine rc_arr (N := 1) hR (show (1 : Int32).toInt = ((1 : Nat) : Int) by decide +kernel) (by decide) dL_randomChain_167 ?_
  intro z hz ht
  refine e_dup dL_randomChain_169 rfl ?_
  refine e_iconst (v := 0) dL_randomChain_170 (by decide) ?_
  refine e_iload dL_randomChain_171 rfl ?_
  refine rc_iast (j := 0) (show (0 : Int32).toInt = ((0 : Nat) : Int) by decide +kernel) (by decide) dL_randomChain_173 ?_
  refine rc_all hub hR hz ht (j := 23) (by decide) (by decide) (rng1 ⟨by omega, by omega⟩) (by rw [nms1_]; simp only [List.length_append, txtl]; omega) wM_L_144 dL_randomChain_174 (Nat.le_of_ble_eq_true rfl) (Nat.le_trans (Nat.le_of_ble_eq_true rfl) hJ) ?_
  intro a_w hR
  rw [nms1_] at hR
  refine e_aload_n dL_randomChain_177 rfl rfl ?_
  refine e_aload_n dL_randomChain_178 rfl rfl ?_
  refine e_ldcS (j := 22) (tx := ";") dL_randomChain_179 (by decide +kernel) ?_
  refine rc_word hub hR (j := 22) (by decide) (by simp only [List.length_append, txtl]; show _ + 1 ≤ 480; omega) wM_L_117 dL_randomChain_181 (Nat.le_of_ble_eq_true rfl) (Nat.le_trans (Nat.le_of_ble_eq_true rfl) hJ) ?_
  intro a_v hR
  have hP2 := (hP.masses (x := w) (by omega) (by omega)).springs (x := s) (by omega) (by omega)
  have eT : T ++ txtN 3 ++ nmW w ++ txtN 23 ++ nmW s ++ txtN 22 = T ++ (txtN 3 ++ (nmW w ++ [59])) ++ (txtN 6 ++ (nmW s ++ [59])) := by
    rw [txt23, txt22]; simp only [List.append_assoc, List.cons_append, List.nil_append]
  rw [eT] at hR
  refine ev_lc (hk _ ⟨_, A, _, mI, _, hR, hP2, (hI.fillW (by omega) (by omega)).fillS (by omega) (by omega), h3x, hs, ?_, by omega, rfl⟩) ⟨rfl, rfl, rfl, rfl, rfl, trivial⟩
  rw [← eT]
  simp only [List.length_append, txtl]
  omega
end RNB
