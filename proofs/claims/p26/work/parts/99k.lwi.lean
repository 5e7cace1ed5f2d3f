/-! the law's outer loop -/
section LWI
variable {G : ev_G} {l : Launch} {J : ev_K} {k n : Nat} {a : ev_H} {z : Nat} {x2 : Int32}
set_option maxRecDepth 20000 in
theorem lw_it (hl0 : l.stackTraces = false) (hJ : 15 ≤ J.2.2.1) (hLb : G.2.2.2.1.2.1 ≤ 260) (h20 : 0 ≤ x2.toInt) (h2L : x2.toInt < (G.2.2.2.1.2.1 : Int)) (hz : a.2 = some z) (hk : ∀ (a : ev_H) (z : Nat), a.2 = some z → ev_V G l mL_law J 4 [some (.ref G.2.2.2.1.1), some (.int 1), some (.int (x2 + Int32.ofInt 1))] [] a k n) : ev_V G l mL_law J 19 [some (.ref G.2.2.2.1.1), some (.int 1), some (.int x2)] [] a (k + 6698) (n + 150481) := by
  refine e_wide (k0 := k + 14 + 200 + 6168 + 1 + 25 + 63 + 19 + 25 + 24 + 1 + 1 + 156 + 1) (n0 := n + 84 + 1200 + 145728 + 9 + 150 + 276 + 114 + 150 + 79 + 1 + 8 + 2675 + 7) (by omega) (by omega) ?_
  refine e_new (C := RX6) (T := TX6) (N := 7) (ci := 6) tyX6 tyX6_ok inX6 rfl wL_L_14 wX_X6 wN_X6 dv6_ok (z := z) hz dL_law_19 ?_
  refine ev_as (ev_new_pk hz _) ?_
  refine e_dup dL_law_22 rfl ?_
  refine e_invI (k := k + 14 + 200 + 6168 + 1 + 25 + 63 + 19 + 25 + 24 + 1 + 1) (n := n + 84 + 1200 + 145728 + 9 + 150 + 276 + 114 + 150 + 79 + 1 + 8) (mcY := 156) (msY := 2675) (ct_X6_init (c := z) (h := a)) vX6_init wM_L_235 dL_law_23 (as := []) rfl rfl (Nat.le_of_ble_eq_true rfl) (Nat.le_trans (Nat.le_of_ble_eq_true rfl) hJ) ?_
  rintro v c ⟨rfl, e⟩
  rw [e]
  have hS := SY.of G z S_0 (a.1, some (z + 157))
  have hz1 : (sy G z S_0 (a.1, some (z + 157))).2 = some (z + 157) := rfl
  generalize sy G z S_0 (a.1, some (z + 157)) = a1 at hS hz1 ⊢
  refine e_astore_n dL_law_26 rfl (Nat.le_of_ble_eq_true rfl) ?_
  refine e_bipush (v := 8) dL_law_27 (by decide) ?_
  refine e_top hz1 fun ht1 => ?_
  refine e_newa (k := k + 14 + 200 + 6168 + 1 + 25 + 63 + 19 + 25 + 24 + 1) (n := n + 84 + 1200 + 145728 + 9 + 150 + 276 + 114 + 150 + 79 + 1) (atype := .int) (ty := .int) (t0 := 0) (N := 8) (a0 := (8, .inl (fun _ => 0))) rfl rfl (fun C q => by cases q) wA_int (fun _ => rfl) (show (8 : Int32).toInt = ((8 : Nat) : Int) by decide +kernel) (by decide) hz1 dL_law_29 ?_
  have hS2 := hS.to (sub.new (.inl (G.2.1 0, 8, .inl (fun _ => 0))) ht1)
  have hu2 : (ev_new a1 (z + 157) (.inl (G.2.1 0, 8, .inl (fun _ => 0)))).1 (z + 157) = some (.inl (G.2.1 0, 8, .inl (fun _ => 0))) := new_eq _ _ _
  have hz2 := new_2 a1 (.inl (G.2.1 0, 8, .inl (fun _ => 0))) hz1
  generalize ev_new a1 (z + 157) (.inl (G.2.1 0, 8, .inl (fun _ => 0))) = a2 at hS2 hu2 hz2 ⊢
  refine e_astore dL_law_31 (Nat.le_of_ble_eq_true rfl) ?_
  refine e_top hz2 fun ht2 => ?_
  refine e_new (k := k + 14 + 200 + 6168 + 1 + 25 + 63 + 19 + 25 + 24) (n := n + 84 + 1200 + 145728 + 9 + 150 + 276 + 114 + 150 + 79) (C := RX9) (T := TX9) (N := 1) (ci := 9) tyX9 tyX9_ok inX9 rfl wL_L_132 wX_X9 wN_X9 dv9_ok (z := z + 158) hz2 dL_law_33 ?_
  refine e_dup dL_law_36 rfl ?_
  refine e_aload_n dL_law_37 rfl rfl ?_
  refine e_iload_n dL_law_38 rfl rfl ?_
  refine e_sald h20 h2L dL_law_39 ?_
  refine e_invI (mcY := 0) (msY := 0) (ct_X9_init (q := z + 158) (new_eq _ _ _)) vX9_init wM_L_236 dL_law_40 (as := [.int (G.2.2.2.1.2.2 x2.toInt.toNat)]) rfl rfl (Nat.le_of_ble_eq_true rfl) (Nat.le_trans (Nat.le_of_ble_eq_true rfl) hJ) ?_
  rintro v c ⟨rfl, e⟩
  rw [e, new_put]
  have s3 := sub.new (.inr (9, [.int (G.2.2.2.1.2.2 x2.toInt.toNat)])) ht2
  have hr3 : (ev_new a2 (z + 158) (.inr (9, [.int (G.2.2.2.1.2.2 x2.toInt.toNat)]))).1 (z + 158) = some (.inr (9, [.int (G.2.2.2.1.2.2 x2.toInt.toNat)])) := new_eq _ _ _
  have hz3 := new_2 a2 (.inr (9, [.int (G.2.2.2.1.2.2 x2.toInt.toNat)])) hz2
  generalize ev_new a2 (z + 158) (.inr (9, [.int (G.2.2.2.1.2.2 x2.toInt.toNat)])) = a3 at s3 hr3 hz3 ⊢
  have hub : ¬ (z ≤ z + 157 ∧ z + 157 < z + 157) := by omega
  have h : SI G z (z + 157) (z + 158) S_0 a3 := ⟨hS2.to s3, ⟨_, s3 _ _ hu2, fun _ _ => rfl⟩, ⟨_, hr3⟩⟩
  refine e_astore dL_law_43 (Nat.le_of_ble_eq_true rfl) ?_
  refine e_aload_n dL_law_45 rfl rfl ?_
  refine e_iconst (v := 1) dL_law_46 (by decide) ?_
  refine e_invS (k := k + 14 + 200 + 6168 + 1 + 25 + 63 + 19 + 25) (n := n + 84 + 1200 + 145728 + 9 + 150 + 276 + 114 + 150) (mcY := 24) (msY := 79) (ct_X7_of (m := 1) (show (1 : Int32).toInt = ((1 : Nat) : Int) by decide +kernel) (by decide) (by decide) hz3 (fun _ => (0, 0, 0))) vX7_of wM_L_136 dL_law_47 (as := [.int 1]) rfl rfl (Nat.le_of_ble_eq_true rfl) (Nat.le_trans (Nat.le_of_ble_eq_true rfl) hJ) ?_
  rintro v a4 ⟨rfl, s4, hz4, hC4⟩
  have h4 : SI G z (z + 157) (z + 158) S_0 a4 := ⟨h.1.to s4, ⟨_, s4 _ _ (s3 _ _ hu2), fun _ _ => rfl⟩, ⟨_, s4 _ _ hr3⟩⟩
  have hI4 : IV 0 (S_0.2.2.2 0) 0 (fun _ => (0, 0, 0)) := IV.beg cs_0 _ (by decide +kernel) (by decide +kernel)
  have hC5 : LC G a4 (ofA (z + 159) 1) (S_0.2.2.2 0) 0 (fun _ => (0, 0, 0)) := hC4.see (vis_beg cs_0 (by decide +kernel) (by decide +kernel))
  refine si_agr (k := k + 14 + 200 + 6168 + 1 + 25 + 63 + 19) (n := n + 84 + 1200 + 145728 + 9 + 150 + 276 + 114) (A0 := ofA (z + 159) 1) h4 hub hl0 hC5 hI4 wM_L_239 dL_law_50 (Nat.le_of_ble_eq_true rfl) (Nat.le_trans (Nat.le_of_ble_eq_true rfl) hJ) ?_
  intro a5 z5 h5 hz5 _
  refine e_if_eq (tgt := 203) dL_law_53 (by decide) (fun q => absurd q (by decide)) (fun _ => ?_)
  refine ev_loc (L' := [some (.ref G.2.2.2.1.1), some (.int 1), some (.int x2), some (.ref z), some (.ref (z + 157)), some (.ref (z + 158))]) ⟨rfl, rfl, rfl, rfl, rfl, rfl, trivial⟩ ?_
  refine lw_fix (k := k + 14 + 200 + 6168 + 1 + 25 + 63) (n := n + 84 + 1200 + 145728 + 9 + 150 + 276) hub hl0 hJ h5 hz5 (fun S a6 z6 h6 hh h0 hz6 => ?_)
  obtain ⟨g1, ⟨fb, g2, g3⟩, ⟨s6, g4⟩⟩ := h6
  refine e_top hz6 fun ht6 => ?_
  refine e_aload_n dL_law_205 rfl rfl ?_
  refine e_aload dL_law_206 rfl ?_
  refine e_aload dL_law_208 rfl ?_
  refine e_invS (k := k + 14 + 200 + 6168 + 1 + 25) (n := n + 84 + 1200 + 145728 + 9 + 150) (mcY := 63) (msY := 276) (ct_L_randomChain hl0 hz6 g1 g2 g3 g4 hub h0 hh) vL_randomChain wM_L_266 dL_law_210 (as := [.ref z, .ref (z + 157), .ref (z + 158)]) rfl rfl (Nat.le_of_ble_eq_true rfl) (Nat.le_trans (Nat.le_of_ble_eq_true rfl) hJ) ?_
  rintro v c ⟨A, σ, nI, mI, V, rfl, hSY, hV, hC, hI, hN, hmt, ⟨s7, hr7⟩, hkp, hu7, hzn⟩
  have hhV : hOk V := by unfold hOk; rw [hV.2.2.1, hV.2.2.2.1]; exact hh
  have hh7 : hOk (ss_C (sKeep V) 0 σ) := keep_ok hhV _
  refine e_astore dL_law_213 (Nat.le_of_ble_eq_true rfl) ?_
  refine e_aload dL_law_215 rfl ?_
  refine e_ifnonnull (tgt := 222) dL_law_217 (by decide) ?_
  refine e_iload_n dL_law_222 rfl rfl ?_
  refine e_if_eq (tgt := 239) dL_law_223 (by decide) (fun q => absurd q (by decide)) (fun _ => ?_)
  refine e_aload_n dL_law_226 rfl rfl ?_
  refine e_aload dL_law_227 rfl ?_
  have hmn := hI.1.1.nat
  have he7 := hSY.eq
  refine ev_as he7 ?_
  have hC2 : LC G (sy G z (ss_C (sKeep V) 0 σ) c) A σ nI mI := by rw [← he7]; exact hC
  refine e_invS (k := k + 14 + 200 + 6168 + 1) (n := n + 84 + 1200 + 145728 + 9) (mcY := 25) (msY := 150) (ct_L_agrees (S := ss_C (sKeep V) 0 σ) hl0 hzn hI.1 hI.2.1.1 hC2 hI.nI hI.2.2.1) vL_agrees wM_L_239 dL_law_229 (as := [.ref z, .ref (A 0)]) rfl rfl (Nat.le_of_ble_eq_true rfl) (Nat.le_trans (Nat.le_of_ble_eq_true rfl) hJ) ?_
  rintro v c2 ⟨rfl, e⟩
  rw [e, ← he7]
  refine e_if_eq (tgt := 239) dL_law_232 (by decide) (fun q => absurd q (by decide)) (fun _ => ?_)
  refine e_iconst (v := 1) dL_law_235 (by decide) ?_
  refine e_goto (tgt := 240) dL_law_236 (by decide) ?_
  refine e_istore_n dL_law_240 rfl (Nat.le_of_ble_eq_true rfl) ?_
  refine e_aload dL_law_241 rfl ?_
  refine lc_g4 hC wF_L_150 dL_law_243 ?_
  refine lc_n1 hC hI.1 dL_law_246 ?_
  refine e_istore dL_law_247 (Nat.le_of_ble_eq_true rfl) ?_
  refine e_bipush (v := 9) dL_law_249 (by decide) ?_
  refine ev_as (show c = (c.1, none) from Prod.ext rfl hzn) ?_
  refine e_size fun z7 ht7 => ?_
  refine e_anewO7 (k := k + 14 + 200 + 6168) (n := n + 84 + 1200 + 145728) (N := 9) wL_L_137 (by decide +kernel) (by decide) (z := z7) rfl dL_law_251 ?_
  have s9 : Jvm.Pilot.CSpringChainLaw_law_r6692_339830.sub c (ev_new (c.1, some z7) z7 (.inl (G.2.1 6, 9, .inr (.inr (.inr (.inr (fun _ => none))))))) := sub.new (a := (c.1, some z7)) _ ht7
  have hq9 : (ev_new (c.1, some z7) z7 (.inl (G.2.1 6, 9, .inr (.inr (.inr (.inr (fun _ => none))))))).1 z7 = some (.inl (G.2.1 6, 9, .inr (.inr (.inr (.inr (fun _ => none)))))) := new_eq _ _ _
  have hz9 := new_2 (c.1, some z7) (z := z7) (.inl (G.2.1 6, 9, .inr (.inr (.inr (.inr (fun _ => none)))))) rfl
  generalize ev_new (c.1, some z7) z7 (.inl (G.2.1 6, 9, .inr (.inr (.inr (.inr (fun _ => none)))))) = a9 at s9 hq9 hz9 ⊢
  have hq8 : z7 ≠ z + 36 := by have := ht7 _ _ (hSY 36 (by decide)); omega
  obtain ⟨f9, hu9⟩ := hu7
  have hLH : LH G z (z + 157) (z + 158) z7 (A 0) (sNm σ) 0 0 a9 := ⟨ss_C (sKeep V) 0 σ, A, nI, mI, fun _ => none, 0, fun _ _ => 0, fun _ => σ, fun _ => 0, fun _ _ => (0, 0, 0), _, ⟨hSY.to s9, ⟨f9, s9 _ _ hu9⟩, ⟨s7, s9 _ _ hr7⟩, hq9, hC.mono s9, fun B τ n m q => by
    obtain ⟨j, j1, -⟩ := q
    exact absurd j1 (Nat.not_lt_zero j)⟩, ⟨fun j hj => absurd hj (Nat.not_lt_zero j), fun _ _ _ => rfl, fun j hj => absurd hj (Nat.not_lt_zero j), Or.inl hh7.1.1⟩, hh7, hI, rfl, rfl, hz9, hV.1, ar_0, by omega⟩
  refine e_astore dL_law_254 (Nat.le_of_ble_eq_true rfl) ?_
  refine e_iconst (v := 0) dL_law_256 (by decide) ?_
  refine e_istore dL_law_257 (Nat.le_of_ble_eq_true rfl) ?_
  refine e_iconst (v := 0) dL_law_259 (by decide) ?_
  refine e_istore dL_law_260 (Nat.le_of_ble_eq_true rfl) ?_
  refine ev_loc (L' := [some (.ref G.2.2.2.1.1), some (.int 1), some (.int x2), some (.ref z), some (.ref (z + 157)), some (.ref (z + 158)), some (.ref (A 0)), some (.int (σ.1 0)), some (.ref z7), some (.int 0), some (.int 0)]) ⟨rfl, rfl, rfl, rfl, rfl, rfl, rfl, rfl, rfl, rfl, rfl, trivial⟩ ?_
  refine e_wide (k0 := k + 14 + 200 + 257 * 24) (n0 := n + 84 + 1200 + 6072 * 24) (by omega) (by omega) ?_
  refine lp_24 (N := sNm σ) hub hq8 hl0 hJ hmn.1.symm hN.1 hN.2 (fun y9 y10 a10 h10 => ?_) 24 0 0 0 a9 rfl ar_0 (by rw [Int.natCast_zero, Int.mul_zero]; exact hLH)
  refine e_iconst (v := 0) dL_law_1208 (by decide) ?_
  refine e_istore dL_law_1209 (Nat.le_of_ble_eq_true rfl) ?_
  refine ev_loc (L' := [some (.ref G.2.2.2.1.1), some (.int 1), some (.int x2), some (.ref z), some (.ref (z + 157)), some (.ref (z + 158)), some (.ref (A 0)), some (.int (σ.1 0)), some (.ref z7), some (.int y9), some (.int 0)]) ⟨rfl, rfl, rfl, rfl, rfl, rfl, rfl, rfl, rfl, rfl, rfl, trivial⟩ ?_
  refine e_wide (k0 := k + 14 + 25 * 8) (n0 := n + 84 + 150 * 8) (by omega) (by omega) ?_
  refine lp_un hub hq8 hl0 hJ (fun y10 a11 hF => ?_) 8 0 0 a10 rfl ar_0 h10.un
  exact lw_fin hub hq8 hl0 hJ hk hF
end LWI
