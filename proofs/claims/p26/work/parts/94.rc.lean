/-! the random chain: springs one by one, damping -/
section RNC
variable {G : ev_G} {l : Launch} {J : ev_K} {k n : Nat} {a0 : ev_H} {b u r z0 c0 np ns t cc ni : Nat} {S0 : SS} {D0 : CS} {x3 dt : Int32}
set_option maxRecDepth 20000 in
theorem lp_rC (hub : ¬ (b ≤ u ∧ u < b + 157)) (ht0 : ∀ (q : Nat) (e : va_E), a0.1 q = some e → q < z0) (hJ : 14 ≤ J.2.2.1) (h3 : 1 ≤ x3.toInt ∧ x3.toInt ≤ 6) (htt : t + 72 ≤ 480) (hcc : cc + 3 < 500) (hk : ∀ a, RX G a0 b u r z0 S0 D0 c0 x3 dt np ns (t + 72) (cc + 3) ni a → ev_V G l mL_randomChain J 336 [some (.ref b), some (.ref u), some (.ref r), some (.int x3), some (.ref c0)] [] a k n) : ∀ (m : Nat) (y : Int32) (a : ev_H) (t1 c1 : Nat), m ≤ 3 → y.toInt = (m : Int) → t1 + 24 * m ≤ t + 72 → c1 + m ≤ cc + 3 → RX G a0 b u r z0 S0 D0 c0 x3 dt np ns t1 c1 ni a → ev_V G l mL_randomChain J 191 [some (.ref b), some (.ref u), some (.ref r), some (.int x3), some (.ref c0), some (.int y)] [] a (k + 2 * m) (n + 3 * m) := by
  intro m
  induction m with
  | zero =>
    intro y a t1 c1 hm hy h1 h2 h
    refine e_iload dL_randomChain_191 rfl ?_
    refine e_if_le (tgt := 336) dL_randomChain_193 (by decide) (fun _ => ev_lc (hk a (h.up (Nat.le_refl _) (Nat.le_refl _) (by omega) (by omega))) ⟨rfl, rfl, rfl, rfl, rfl, trivial⟩) (fun c9 => absurd c9 (by omega))
  | succ m ih =>
    intro y a t1 c1 hm hy h1 h2 h
    obtain ⟨T, A, D, mI, c, hR, hP, hI, h3x, hs, hT, hc, rfl⟩ := h
    have hv := hI.1
    have hmn := hv.1.nat
    have hN : (D.1 0).toInt = ((sNm D : Nat) : Int) := hmn.1.symm
    rw [h3x] at hN
    have hx31 : (x3 + 1).toInt = x3.toInt + 1 := by rw [ar_add (by rw [ar_1]; omega) (by rw [ar_1]; omega), ar_1]
    refine e_iload dL_randomChain_191 rfl ?_
    refine e_if_le (tgt := 336) dL_randomChain_193 (by decide) (fun c9 => absurd c9 (by omega)) (fun _ => ?_)
    refine e_aload_n dL_randomChain_196 rfl rfl ?_
    refine e_iload_n dL_randomChain_197 rfl rfl ?_
    refine e_iconst (v := 1) dL_randomChain_198 (by decide) ?_
    refine e_iadd dL_randomChain_199 ?_
    refine rc_bel hR (by omega) wM_L_131 dL_randomChain_200 (Nat.le_of_ble_eq_true rfl) (Nat.le_trans (Nat.le_of_ble_eq_true rfl) hJ) ?_
    intro x a_x x0 x1 hR
    rw [hx31] at x1
    obtain ⟨j, hx⟩ : ∃ j : Nat, x.toInt = (j : Int) := ⟨x.toInt.toNat, by omega⟩
    have hxn := ar_nat hx
    refine e_istore dL_randomChain_203 (Nat.le_of_ble_eq_true rfl) ?_
    refine e_aload dL_randomChain_205 rfl ?_
    refine lc_g5 hR.2.1 wF_L_160 dL_randomChain_207 ?_
    refine e_iload dL_randomChain_210 rfl ?_
    refine lc_q2 (σ := D) hR.2.1 hx (show j < sNm D + 1 by omega) dL_randomChain_212 ?_
    refine e_aload_n dL_randomChain_213 rfl rfl ?_
    refine e_sipush (v := 1000) dL_randomChain_214 (by decide) ?_
    refine rc_bel hR (by decide +kernel) wM_L_131 dL_randomChain_217 (Nat.le_of_ble_eq_true rfl) (Nat.le_trans (Nat.le_of_ble_eq_true rfl) hJ) ?_
    intro s a_s s0 s1 hR
    have w_s : (1000 : Int32).toInt = 1000 := by decide +kernel
    rw [w_s] at s1
    refine lc_ws0 (σ := D) hR.2.1 (show j < sNm D + 1 by omega) wF_L_164 dL_randomChain_220 ?_
    intro a2 C2 f2 z2
    have hR := hR.wr ht0 C2 f2 z2 (fun q hq => hq)
    have fin : ∀ (v : Int32) (a : ev_H), 0 ≤ v.toInt → v.toInt ≤ 3049 → RC G a0 b u r z0 S0 T A (cs_A D 3 (ev_u (D.2.2 3) j s)) ni mI a → ev_V G l mL_randomChain J 253 [some (.ref b), some (.ref u), some (.ref r), some (.int x3), some (.ref (A 0)), some (.int y), some (.int x)] [.int v, .ref (A (30 + j))] a (k + 2 * m + 1 + 1) (n + 3 * m + 1 + 2) := by
      intro v a v0 v1 hR
      refine lc_ws1 (σ := cs_A D 3 (ev_u (D.2.2 3) j s)) hR.2.1 (show j < sNm D + 1 by omega) wF_L_172 dL_randomChain_253 ?_
      intro a2 C2 f2 z2
      have hR := hR.wr ht0 C2 f2 z2 (fun q hq => hq)
      have e4 : (cs_A D 3 (ev_u (D.2.2 3) j s)).2.2 4 = D.2.2 4 := cs_A_n _ _ (by decide)
      rw [e4] at hR
      have r3 : (cs_A (cs_A D 3 (ev_u (D.2.2 3) j s)) 4 (ev_u (D.2.2 4) j v)).2.2 3 j = s := by rw [cs_A_n _ _ (by decide), cs_A_2, ev_u_self]
      have r4 : (cs_A (cs_A D 3 (ev_u (D.2.2 3) j s)) 4 (ev_u (D.2.2 4) j v)).2.2 4 j = v := by rw [cs_A_2, ev_u_self]
      have lx := nmW_le (x := x) (m := 1) (by omega) (by omega) (by omega) (by omega)
      have ls := nmW_le (x := s) (m := 3) (by omega) (by omega) (by omega) (by omega)
      have lv := nmW_le (x := v) (m := 4) (by omega) (by omega) (by omega) (by omega)
      have hI2 : IV 0 (cs_A (cs_A D 3 (ev_u (D.2.2 3) j s)) 4 (ev_u (D.2.2 4) j v)) ni mI := (hI.stiff (j := j) (y := s) (by omega) (by omega)).limit (j := j) (y := v) (by omega) (by omega)
      refine e_aload_n dL_randomChain_256 rfl rfl ?_
      refine e_aload_n dL_randomChain_257 rfl rfl ?_
      refine e_ldcS (j := 4) (tx := "spring") dL_randomChain_258 (by decide +kernel) ?_
      refine e_iconst (v := 2) dL_randomChain_260 (by decide) ?_
      refine e_wide (k0 := (k + 2 * m + 1) + 1) (n0 := (n + 3 * m + 1) + 2) (by omega) (by omega) ?_
      refine rc_arr (N := 2) hR (show (2 : Int32).toInt = ((2 : Nat) : Int) by decide +kernel) (by decide) dL_randomChain_261 ?_
      intro z hz ht
      refine e_dup dL_randomChain_263 rfl ?_
      refine e_iconst (v := 0) dL_randomChain_264 (by decide) ?_
      refine e_iload dL_randomChain_265 rfl ?_
      refine rc_iast (j := 0) (show (0 : Int32).toInt = ((0 : Nat) : Int) by decide +kernel) (by decide) dL_randomChain_267 ?_
      refine e_dup dL_randomChain_268 rfl ?_
      refine e_iconst (v := 1) dL_randomChain_269 (by decide) ?_
      refine e_aload dL_randomChain_270 rfl ?_
      refine lc_g5 (hR.nw hz ht (.inl (G.2.1 0, 2, .inl _))).2.1 wF_L_160 dL_randomChain_272 ?_
      refine e_iload dL_randomChain_275 rfl ?_
      refine lc_q2 (σ := cs_A (cs_A D 3 (ev_u (D.2.2 3) j s)) 4 (ev_u (D.2.2 4) j v)) (hR.nw hz ht (.inl (G.2.1 0, 2, .inl _))).2.1 hx (show j < sNm D + 1 by omega) dL_randomChain_277 ?_
      refine lc_s0 (σ := cs_A (cs_A D 3 (ev_u (D.2.2 3) j s)) 4 (ev_u (D.2.2 4) j v)) (hR.nw hz ht (.inl (G.2.1 0, 2, .inl _))).2.1 (show j < sNm D + 1 by omega) wF_L_164 dL_randomChain_278 ?_
      rw [r3]
      refine rc_iast (j := 1) (show (1 : Int32).toInt = ((1 : Nat) : Int) by decide +kernel) (by decide) dL_randomChain_281 ?_
      refine rc_all hub hR hz ht (j := 4) (by decide) (by decide) (rng2 ⟨by omega, by omega⟩ ⟨by omega, by omega⟩) (by rw [nms2_]; simp only [List.length_append, txtl]; omega) wM_L_144 dL_randomChain_282 (Nat.le_of_ble_eq_true rfl) (Nat.le_trans (Nat.le_of_ble_eq_true rfl) hJ) ?_
      intro a_w hR
      rw [nms2_] at hR
      refine e_aload dL_randomChain_285 rfl ?_
      refine lc_g5 hR.2.1 wF_L_160 dL_randomChain_287 ?_
      refine e_iload dL_randomChain_290 rfl ?_
      refine lc_q2 (σ := cs_A (cs_A D 3 (ev_u (D.2.2 3) j s)) 4 (ev_u (D.2.2 4) j v)) hR.2.1 hx (show j < sNm D + 1 by omega) dL_randomChain_292 ?_
      refine lc_s1 (σ := cs_A (cs_A D 3 (ev_u (D.2.2 3) j s)) 4 (ev_u (D.2.2 4) j v)) hR.2.1 (show j < sNm D + 1 by omega) wF_L_172 dL_randomChain_293 ?_
      rw [r4]
      have nxt : ∀ (W : List Nat) (a : ev_H), W.length ≤ 24 → RC G a0 b u r z0 S0 (T ++ W) A (cs_A (cs_A D 3 (ev_u (D.2.2 3) j s)) 4 (ev_u (D.2.2 4) j v)) ni mI a → PG D0 (T ++ W) (c + 1) (cs_A (cs_A D 3 (ev_u (D.2.2 3) j s)) 4 (ev_u (D.2.2 4) j v)) dt np ns → ev_V G l mL_randomChain J 330 [some (.ref b), some (.ref u), some (.ref r), some (.int x3), some (.ref (A 0)), some (.int y), some (.int x)] [] a (k + 2 * m) (n + 3 * m) := by
        intro W a hW hR hP
        refine e_iinc dL_randomChain_330 rfl rfl (Nat.le_of_ble_eq_true rfl) ?_
        refine e_goto (tgt := 191) dL_randomChain_333 (by decide) ?_
        refine ev_lc (ih _ a (t1 + 24) (c1 + 1) (by omega) ?_ (by omega) (by omega) ⟨T ++ W, A, _, mI, c + 1, hR, hP, hI2, h3x, hs, by rw [List.length_append]; omega, by omega, rfl⟩) ⟨rfl, rfl, rfl, rfl, rfl, rfl, trivial⟩
        rw [ar_add (by have : (Int32.ofInt (-1)).toInt = -1 := (by decide +kernel); omega) (by have : (Int32.ofInt (-1)).toInt = -1 := (by decide +kernel); omega), show (Int32.ofInt (-1)).toInt = -1 by decide +kernel]
        omega
      refine e_if_le (tgt := 323) dL_randomChain_296 (by decide) (fun v2 => ?_) (fun v2 => ?_)
      · refine e_wide (k0 := k + 2 * m) (n0 := n + 3 * m) (by omega) (by omega) ?_
        refine e_aload_n dL_randomChain_323 rfl rfl ?_
        refine e_aload_n dL_randomChain_324 rfl rfl ?_
        refine e_ldcS (j := 22) (tx := ";") dL_randomChain_325 (by decide +kernel) ?_
        refine rc_word hub hR (j := 22) (by decide) (by simp only [List.length_append, txtl]; show _ + 1 ≤ 480; omega) wM_L_117 dL_randomChain_327 (Nat.le_of_ble_eq_true rfl) (Nat.le_trans (Nat.le_of_ble_eq_true rfl) hJ) ?_
        intro a_v hR
        have hv0 : v = 0 := ar_eq (by rw [ar_0]; omega)
        have eT : T ++ txtN 4 ++ (nmW x ++ nmW s) ++ txtN 22 = T ++ (txtN 4 ++ (nmW x ++ (nmW s ++ [59]))) := by
          rw [txt22]; simp only [List.append_assoc]
        rw [eT] at hR
        have hP2 := hP.spring (x := x) (y := s) (by omega) (by omega) (show 0 ≤ x.toInt ∧ x.toInt ≤ sM D by rw [← hmn.1]; omega) (by omega)
        rw [hxn, ← hv0] at hP2
        exact nxt _ _ (by simp only [List.length_append, txtl, List.length_cons, List.length_nil]; omega) hR hP2
      · refine e_wide (k0 := (k + 2 * m) + 1) (n0 := (n + 3 * m) + 1) (by omega) (by omega) ?_
        refine e_aload_n dL_randomChain_299 rfl rfl ?_
        refine e_aload_n dL_randomChain_300 rfl rfl ?_
        refine e_ldcS (j := 24) (tx := " limit") dL_randomChain_301 (by decide +kernel) ?_
        refine e_iconst (v := 1) dL_randomChain_303 (by decide) ?_
        refine rc_arr (N := 1) hR (show (1 : Int32).toInt = ((1 : Nat) : Int) by decide +kernel) (by decide) dL_randomChain_304 ?_
        intro z hz ht
        refine e_dup dL_randomChain_306 rfl ?_
        refine e_iconst (v := 0) dL_randomChain_307 (by decide) ?_
        refine e_aload dL_randomChain_308 rfl ?_
        refine lc_g5 (hR.nw hz ht (.inl (G.2.1 0, 1, .inl _))).2.1 wF_L_160 dL_randomChain_310 ?_
        refine e_iload dL_randomChain_313 rfl ?_
        refine lc_q2 (σ := cs_A (cs_A D 3 (ev_u (D.2.2 3) j s)) 4 (ev_u (D.2.2 4) j v)) (hR.nw hz ht (.inl (G.2.1 0, 1, .inl _))).2.1 hx (show j < sNm D + 1 by omega) dL_randomChain_315 ?_
        refine lc_s1 (σ := cs_A (cs_A D 3 (ev_u (D.2.2 3) j s)) 4 (ev_u (D.2.2 4) j v)) (hR.nw hz ht (.inl (G.2.1 0, 1, .inl _))).2.1 (show j < sNm D + 1 by omega) wF_L_172 dL_randomChain_316 ?_
        rw [r4]
        refine rc_iast (j := 0) (show (0 : Int32).toInt = ((0 : Nat) : Int) by decide +kernel) (by decide) dL_randomChain_319 ?_
        refine rc_all hub hR hz ht (j := 24) (by decide) (by decide) (rng1 ⟨by omega, by omega⟩) (by rw [nms1_]; simp only [List.length_append, txtl]; omega) wM_L_144 dL_randomChain_320 (Nat.le_of_ble_eq_true rfl) (Nat.le_trans (Nat.le_of_ble_eq_true rfl) hJ) ?_
        intro a_w hR
        rw [nms1_] at hR
        refine e_aload_n dL_randomChain_323 rfl rfl ?_
        refine e_aload_n dL_randomChain_324 rfl rfl ?_
        refine e_ldcS (j := 22) (tx := ";") dL_randomChain_325 (by decide +kernel) ?_
        refine rc_word hub hR (j := 22) (by decide) (by simp only [List.length_append, txtl]; show _ + 1 ≤ 480; omega) wM_L_117 dL_randomChain_327 (Nat.le_of_ble_eq_true rfl) (Nat.le_trans (Nat.le_of_ble_eq_true rfl) hJ) ?_
        intro a_v hR
        have eT : T ++ txtN 4 ++ (nmW x ++ nmW s) ++ txtN 24 ++ nmW v ++ txtN 22 = T ++ (txtN 4 ++ (nmW x ++ (nmW s ++ (txtN 24 ++ (nmW v ++ [59]))))) := by
          rw [txt22]; simp only [List.append_assoc]
        rw [eT] at hR
        have hP2 := hP.springl (x := x) (y := s) (z := v) (by omega) (by omega) (show 0 ≤ x.toInt ∧ x.toInt ≤ sM D by rw [← hmn.1]; omega) (by omega) (by omega)
        rw [hxn] at hP2
        exact nxt _ _ (by simp only [List.length_append, txtl, List.length_cons, List.length_nil]; omega) hR hP2
    refine e_wide (k0 := k + 2 * m + 1 + 1) (n0 := n + 3 * m + 1 + 2) (by omega) (by omega) ?_
    refine e_aload dL_randomChain_223 rfl ?_
    refine lc_g5 hR.2.1 wF_L_160 dL_randomChain_225 ?_
    refine e_iload dL_randomChain_228 rfl ?_
    refine lc_q2 (σ := cs_A D 3 (ev_u (D.2.2 3) j s)) hR.2.1 hx (show j < sNm D + 1 by omega) dL_randomChain_230 ?_
    refine e_aload_n dL_randomChain_231 rfl rfl ?_
    refine e_iconst (v := 2) dL_randomChain_232 (by decide) ?_
    refine rc_bel hR (by decide +kernel) wM_L_131 dL_randomChain_233 (Nat.le_of_ble_eq_true rfl) (Nat.le_trans (Nat.le_of_ble_eq_true rfl) hJ) ?_
    intro p a_p p0 p1 hR
    have w_p : (2 : Int32).toInt = 2 := by decide +kernel
    rw [w_p] at p1
    refine e_if_ne (tgt := 243) dL_randomChain_236 (by decide) (fun _ => ?_) (fun _ => ?_)
    · refine e_bipush (v := 50) dL_randomChain_243 (by decide) ?_
      refine e_aload_n dL_randomChain_245 rfl rfl ?_
      refine e_sipush (v := 3000) dL_randomChain_246 (by decide) ?_
      refine rc_bel hR (by decide +kernel) wM_L_131 dL_randomChain_249 (Nat.le_of_ble_eq_true rfl) (Nat.le_trans (Nat.le_of_ble_eq_true rfl) hJ) ?_
      intro g a_g g0 g1 hR
      have w_g : (3000 : Int32).toInt = 3000 := by decide +kernel
      rw [w_g] at g1
      refine e_iadd dL_randomChain_252 ?_
      have hvv : ((50 : Int32) + g).toInt = 50 + g.toInt := by
        have w50 : (50 : Int32).toInt = 50 := by decide +kernel
        rw [ar_add (by rw [w50]; omega) (by rw [w50]; omega), w50]
      exact ev_lc (fin _ _ (by omega) (by omega) hR) ⟨rfl, rfl, rfl, rfl, rfl, rfl, rfl, trivial⟩
    · refine e_iconst (v := 0) dL_randomChain_239 (by decide) ?_
      refine e_goto (tgt := 253) dL_randomChain_240 (by decide) ?_
      exact ev_lc (fin 0 _ (by rw [ar_0]; omega) (by rw [ar_0]; omega) hR) ⟨rfl, rfl, rfl, rfl, rfl, rfl, rfl, trivial⟩
set_option maxRecDepth 20000 in
theorem rs_C (hub : ¬ (b ≤ u ∧ u < b + 157)) (ht0 : ∀ (q : Nat) (e : va_E), a0.1 q = some e → q < z0) (hJ : 14 ≤ J.2.2.1) (h3 : 1 ≤ x3.toInt ∧ x3.toInt ≤ 6) (htt : t + 72 ≤ 480) (hcc : cc + 3 < 500) (hk : ∀ a, RX G a0 b u r z0 S0 D0 c0 x3 dt np ns (t + 72) (cc + 3) ni a → ev_V G l mL_randomChain J 336 [some (.ref b), some (.ref u), some (.ref r), some (.int x3), some (.ref c0)] [] a k n) {a : ev_H} (h : RX G a0 b u r z0 S0 D0 c0 x3 dt np ns t cc ni a) : ev_V G l mL_randomChain J 184 [some (.ref b), some (.ref u), some (.ref r), some (.int x3), some (.ref c0)] [] a (k + 6) (n + 9) := by
  obtain ⟨T, A, D, mI, c, hR, h'⟩ := h
  have hA := h'.2.2.2.2.2.2
  subst hA
  refine e_aload_n dL_randomChain_184 rfl rfl ?_
  refine e_iconst (v := 4) dL_randomChain_185 (by decide) ?_
  refine rc_bel hR (by decide +kernel) wM_L_131 dL_randomChain_186 (Nat.le_of_ble_eq_true rfl) (Nat.le_trans (Nat.le_of_ble_eq_true rfl) hJ) ?_
  intro m a_m m0 m1 hR
  have w_m : (4 : Int32).toInt = 4 := by decide +kernel
  rw [w_m] at m1
  refine e_istore dL_randomChain_189 (Nat.le_of_ble_eq_true rfl) ?_
  refine ev_loc (L' := [some (.ref b), some (.ref u), some (.ref r), some (.int x3), some (.ref (A 0)), some (.int m)]) ⟨rfl, rfl, rfl, rfl, rfl, rfl, trivial⟩ ?_
  refine e_wide (k0 := k + 2 * m.toInt.toNat) (n0 := n + 3 * m.toInt.toNat) (by omega) (by omega) ?_
  exact lp_rC hub ht0 hJ h3 htt hcc hk m.toInt.toNat m _ t cc (by omega) (by omega) (by omega) (by omega) ⟨T, A, D, mI, c, hR, h'⟩
set_option maxRecDepth 20000 in
theorem rs_D (hub : ¬ (b ≤ u ∧ u < b + 157)) (ht0 : ∀ (q : Nat) (e : va_E), a0.1 q = some e → q < z0) (hJ : 14 ≤ J.2.2.1) (h3 : 1 ≤ x3.toInt ∧ x3.toInt ≤ 6) (htt : t + 9 ≤ 480) (hcc : cc + 1 < 500) (hk : ∀ a dt2, RX G a0 b u r z0 S0 D0 c0 x3 dt2 np ns (t + 9) (cc + 1) ni a → ev_V G l mL_randomChain J 381 [some (.ref b), some (.ref u), some (.ref r), some (.int x3), some (.ref c0)] [] a k n) {a : ev_H} (h : RX G a0 b u r z0 S0 D0 c0 x3 0 np ns t cc ni a) : ev_V G l mL_randomChain J 336 [some (.ref b), some (.ref u), some (.ref r), some (.int x3), some (.ref c0)] [] a (k + 1) (n + 1) := by
  obtain ⟨T, A, D, mI, c, hR, hP, hI, h3x, hs, hT, hc, rfl⟩ := h
  refine e_aload_n dL_randomChain_336 rfl rfl ?_
  refine e_iconst (v := 2) dL_randomChain_337 (by decide) ?_
  refine rc_bel hR (by decide +kernel) wM_L_131 dL_randomChain_338 (Nat.le_of_ble_eq_true rfl) (Nat.le_trans (Nat.le_of_ble_eq_true rfl) hJ) ?_
  intro p a_p p0 p1 hR
  have w_p : (2 : Int32).toInt = 2 := by decide +kernel
  rw [w_p] at p1
  refine e_if_ne (tgt := 381) dL_randomChain_341 (by decide) (fun _ => e_wide (k0 := k) (n0 := n) (by omega) (by omega) (ev_lc (hk _ 0 ⟨T, A, D, mI, c, hR, hP, hI, h3x, hs, by omega, by omega, rfl⟩) ⟨rfl, rfl, rfl, rfl, rfl, trivial⟩)) (fun _ => ?_)
  refine e_aload dL_randomChain_344 rfl ?_
  refine e_aload_n dL_randomChain_346 rfl rfl ?_
  refine e_sipush (v := 200) dL_randomChain_347 (by decide) ?_
  refine rc_bel hR (by decide +kernel) wM_L_131 dL_randomChain_350 (Nat.le_of_ble_eq_true rfl) (Nat.le_trans (Nat.le_of_ble_eq_true rfl) hJ) ?_
  intro v a_v v0 v1 hR
  have w_v : (200 : Int32).toInt = 200 := by decide +kernel
  rw [w_v] at v1
  refine lc_wd (σ := D) hR.2.1 wF_L_178 dL_randomChain_353 ?_
  intro a2 C2 f2 z2
  have hR := hR.wr ht0 C2 f2 z2 (fun q hq => hq)
  have lv := nmW_le (x := v) (m := 3) (by omega) (by omega) (by omega) (by omega)
  have r2 : (cs_I D 2 v).1 2 = v := ev_u_self D.1 2 v
  refine e_aload_n dL_randomChain_356 rfl rfl ?_
  refine e_aload_n dL_randomChain_357 rfl rfl ?_
  refine e_ldcS (j := 7) (tx := "damp") dL_randomChain_358 (by decide +kernel) ?_
  refine e_iconst (v := 1) dL_randomChain_360 (by decide) ?_
  refine rc_arr (N := 1) hR (show (1 : Int32).toInt = ((1 : Nat) : Int) by decide +kernel) (by decide) dL_randomChain_361 ?_
  intro z hz ht
  refine e_dup dL_randomChain_363 rfl ?_
  refine e_iconst (v := 0) dL_randomChain_364 (by decide) ?_
  refine e_aload dL_randomChain_365 rfl ?_
  refine lc_g3 (σ := cs_I D 2 v) (hR.nw hz ht (.inl (G.2.1 0, 1, .inl _))).2.1 wF_L_178 dL_randomChain_367 ?_
  rw [r2]
  refine rc_iast (j := 0) (show (0 : Int32).toInt = ((0 : Nat) : Int) by decide +kernel) (by decide) dL_randomChain_370 ?_
  refine rc_all hub hR hz ht (j := 7) (by decide) (by decide) (rng1 ⟨by omega, by omega⟩) (by rw [nms1_]; simp only [List.length_append, txtl]; omega) wM_L_144 dL_randomChain_371 (Nat.le_of_ble_eq_true rfl) (Nat.le_trans (Nat.le_of_ble_eq_true rfl) hJ) ?_
  intro a_w hR
  rw [nms1_] at hR
  refine e_aload_n dL_randomChain_374 rfl rfl ?_
  refine e_aload_n dL_randomChain_375 rfl rfl ?_
  refine e_ldcS (j := 22) (tx := ";") dL_randomChain_376 (by decide +kernel) ?_
  refine rc_word hub hR (j := 22) (by decide) (by simp only [List.length_append, txtl]; show _ + 1 ≤ 480; omega) wM_L_117 dL_randomChain_378 (Nat.le_of_ble_eq_true rfl) (Nat.le_trans (Nat.le_of_ble_eq_true rfl) hJ) ?_
  intro a_v hR
  have eT : T ++ txtN 7 ++ nmW v ++ txtN 22 = T ++ (txtN 7 ++ (nmW v ++ [59])) := by
    rw [txt22]; simp only [List.append_assoc]
  rw [eT] at hR
  refine ev_lc (hk _ 1 ⟨_, A, _, mI, _, hR, hP.damp (x := v) (by omega) rfl (by omega), hI.damp (by omega) (by omega), h3x, hs, ?_, by omega, rfl⟩) ⟨rfl, rfl, rfl, rfl, rfl, trivial⟩
  rw [← eT]
  simp only [List.length_append, txtl]
  omega
end RNC
