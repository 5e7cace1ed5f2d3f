/-! the undos, and what is refused at the end -/
theorem hOk_back {S : SS} (hh : hOk S) (hc : 1 ≤ (S.1 2).toInt) : hOk (sBack S) ∧ ((sBack S).1 2).toInt = (S.1 2).toInt - 1 ∧ ((sBack S).1 3).toInt = (if 0 < (S.1 3).toInt then (S.1 3).toInt - 1 else 7) ∧ (sBack S).1 0 = S.1 0 ∧ (sBack S).2.2.2 0 = sBec (S.2.2.2 0) (S.2.2.2 (2 + hLast S)) ∧ ∀ i, i ≠ 0 → (sBack S).2.2.2 i = S.2.2.2 i := by
  obtain ⟨⟨hc0, hc1⟩, hn0, hn1⟩ := hh
  have z1 := ar_1
  have w7 : (7 : Int32).toInt = 7 := by decide +kernel
  have e2 : (sBack S).1 2 = S.1 2 - 1 := rfl
  have e3 : (sBack S).1 3 = if 0 < (S.1 3).toInt then S.1 3 - 1 else 7 := rfl
  have n2 : ((sBack S).1 2).toInt = (S.1 2).toInt - 1 := by rw [e2, ar_sub (by rw [z1]; omega) (by rw [z1]; omega), z1]
  have n3 : ((sBack S).1 3).toInt = (if 0 < (S.1 3).toInt then (S.1 3).toInt - 1 else 7) := by
    rw [e3]
    by_cases c : 0 < (S.1 3).toInt
    · rw [if_pos c, if_pos c, ar_sub (by rw [z1]; omega) (by rw [z1]; omega), z1]
    · rw [if_neg c, if_neg c, w7]
  refine ⟨⟨by rw [n2]; omega, ?_⟩, n2, n3, rfl, rfl, fun i hi => ev_u_ne _ _ hi⟩
  rw [n3]
  by_cases c : 0 < (S.1 3).toInt
  · rw [if_pos c]; omega
  · rw [if_neg c]; omega
def UH (G : ev_G) (b u r q8 : Nat) (j : Nat) (x9 : Int32) (a : ev_H) : Prop := ∃ (S : SS) (A : Nat → Nat) (σ : CS) (nI : Nat) (mI : Nat → TI) (g : Nat → Option Nat) (dn : Nat) (BB : Nat → Nat → Nat) (tt : Nat → CS) (nn : Nat → Nat) (mm : Nat → Nat → TI) (z : Nat), ST G b u r q8 (KK dn BB tt nn mm) S A σ nI mI g a ∧ hOk S ∧ sInv (S.2.2.2 0) ∧ a.2 = some z ∧ S.1 0 = 0 ∧ x9.toInt = (dn : Int) ∧ (∀ i, i < dn → i < 9 → g i = some (BB i 0)) ∧ (∀ i, j ≤ i → i < dn → i < 8 → vis (tt i) (S.2.2.2 (2 + ((S.1 3).toInt.toNat + 7 - (i - j)) % 8)) ∧ IV 1000 (S.2.2.2 (2 + ((S.1 3).toInt.toNat + 7 - (i - j)) % 8)) (nn i) (mm i)) ∧ ((dn : Int) ≤ (S.1 2).toInt + j ∨ 8 ≤ (S.1 2).toInt + j)
def FH (G : ev_G) (b u r q8 : Nat) (a : ev_H) : Prop := ∃ (K : KPT) (S : SS) (A : Nat → Nat) (σ : CS) (nI : Nat) (mI : Nat → TI) (g : Nat → Option Nat) (z : Nat), ST G b u r q8 K S A σ nI mI g a ∧ hOk S ∧ sInv (S.2.2.2 0) ∧ a.2 = some z ∧ S.1 0 = 0
theorem LH.un {G : ev_G} {b u r q8 c0 N : Nat} {T : Int} {x9 : Int32} {a : ev_H} (h : LH G b u r q8 c0 N T x9 a) : UH G b u r q8 0 x9 a := by
  obtain ⟨S, A, nI, mI, g, dn, BB, tt, nn, mm, z, h, hP, hh, hI, hN, hA, hz, h0, h9, -⟩ := h
  exact ⟨S, A, _, nI, mI, g, dn, BB, tt, nn, mm, z, h, hh, hI.1, hz, h0, h9, fun i hi hi9 => (hP.1 i hi hi9).1, fun i _ hi hi8 => hP.2.2.1 i hi hi8, by
    rcases hP.2.2.2 with c | c
    · exact Or.inl (by omega)
    · exact Or.inr (by omega)⟩
theorem UH.fin {G : ev_G} {b u r q8 j : Nat} {x9 : Int32} {a : ev_H} (h : UH G b u r q8 j x9 a) : FH G b u r q8 a := by
  obtain ⟨S, A, σ, nI, mI, g, dn, BB, tt, nn, mm, z, h, hh, hv, hz, h0, -⟩ := h
  exact ⟨_, S, A, σ, nI, mI, g, z, h, hh, hv, hz, h0⟩
section LWG
variable {G : ev_G} {l : Launch} {J : ev_K} {k n : Nat} {a : ev_H} {b u r q8 z pB N j : Nat} {K : KPT} {S : SS} {A : Nat → Nat} {nI : Nat} {mI : Nat → TI} {g : Nat → Option Nat} {q0 : Nat} {x2 x7 x9 x10 k13 i14 : Int32} {T : Int} {c0 : Nat}
set_option maxRecDepth 20000 in
theorem lp_un (hub : ¬ (b ≤ u ∧ u < b + 157)) (hq8 : q8 ≠ b + 36) (hl0 : l.stackTraces = false) (hJ : 15 ≤ J.2.2.1) (hk : ∀ (y10 : Int32) (a : ev_H), FH G b u r q8 a → ev_V G l mL_law J 1260 [some (.ref q0), some (.int 1), some (.int x2), some (.ref b), some (.ref u), some (.ref r), some (.ref c0), some (.int x7), some (.ref q8), some (.int x9), some (.int y10)] [] a k n) : ∀ (q j : Nat) (x10 : Int32) (a : ev_H), q + j = 8 → x10.toInt = (j : Int) → UH G b u r q8 j x9 a → ev_V G l mL_law J 1211 [some (.ref q0), some (.int 1), some (.int x2), some (.ref b), some (.ref u), some (.ref r), some (.ref c0), some (.int x7), some (.ref q8), some (.int x9), some (.int x10)] [] a (k + 25 * q) (n + 150 * q) := by
  have w8 := ar_8
  intro q
  induction q with
  | zero =>
    intro j x10 a hq hx h
    obtain rfl : j = 8 := by omega
    refine e_iload dL_law_1211 rfl ?_
    refine e_bipush (v := 8) dL_law_1213 (by decide) ?_
    refine e_icmp_ge (tgt := 1260) dL_law_1215 (by decide) (fun _ => ev_lc (hk x10 a h.fin) ⟨rfl, rfl, rfl, rfl, rfl, rfl, rfl, rfl, rfl, rfl, rfl, trivial⟩) (fun c9 => absurd c9 (by omega))
  | succ q ih =>
    intro j x10 a hq hx h
    have hF := h.fin
    obtain ⟨S, A, σ, nI, mI, g, dn, BB, tt, nn, mm, z, h, hh, hv, hz, h0, h9, hg, hs, hc⟩ := h
    have hn := ar_nat hx
    refine e_iload dL_law_1211 rfl ?_
    refine e_bipush (v := 8) dL_law_1213 (by decide) ?_
    refine e_icmp_ge (tgt := 1260) dL_law_1215 (by decide) (fun c9 => absurd c9 (by omega)) (fun _ => ?_)
    refine e_iload dL_law_1218 rfl ?_
    refine e_iload dL_law_1220 rfl ?_
    refine e_icmp_ge (tgt := 1260) dL_law_1222 (by decide) (fun c9 => e_wide (k0 := k) (n0 := n) (by omega) (by omega) (ev_lc (hk x10 a hF) ⟨rfl, rfl, rfl, rfl, rfl, rfl, rfl, rfl, rfl, rfl, rfl, trivial⟩)) (fun c9 => ?_)
    have hjd : j < dn := by omega
    have hc1 : 1 ≤ (S.1 2).toInt := by omega
    obtain ⟨b1, b2, b3, b4, b5, b6⟩ := hOk_back hh hc1
    have hne : S.1 2 ≠ 0 := fun e => by rw [e, ar_0] at hc1; omega
    have hs0 := hs j (Nat.le_refl j) hjd (by omega)
    have hlast : 2 + hLast S = 2 + ((S.1 3).toInt.toNat + 7 - (j - j)) % 8 := by
      have := hh.2
      unfold hLast
      by_cases c : 0 < (S.1 3).toInt
      · rw [if_pos c]; omega
      · rw [if_neg c]; omega
    rw [← hlast] at hs0
    have hhb := hh.1
    have hm1 : (S.1 2 - 1).toInt = (S.1 2).toInt - 1 := by rw [ar_sub (by rw [ar_1]; omega) (by rw [ar_1]; omega), ar_1]
    refine e_wide (k0 := k + 25 * q + 25) (n0 := n + 150 * q + 150) (by omega) (by omega) ?_
    refine e_iload_n dL_law_1225 rfl rfl ?_
    refine e_if_eq (tgt := 1260) dL_law_1226 (by decide) (fun q => absurd q (by decide)) (fun _ => ?_)
    refine e_aload_n dL_law_1229 rfl rfl ?_
    refine st_cls (mcY := 0) (msY := 0) (val := S.1 2 - 1) (S' := sBack S) h hq8 hub ((ct_X6_undo hh).mono (fun v c p => ?_) (fun _ _ p => p)) vX6_undo wM_L_246 rfl dL_law_1230 (as := []) rfl rfl (Nat.le_of_ble_eq_true rfl) (Nat.le_trans (Nat.le_of_ble_eq_true rfl) hJ) ?_
    · rcases p with ⟨p, -⟩ | ⟨-, p⟩
      · exact absurd p hne
      · exact p
    intro a_u z h hz
    refine e_if_lt (tgt := 1252) dL_law_1233 (by decide) (fun q9 => absurd q9 (by omega)) (fun _ => ?_)
    refine e_aload_n dL_law_1236 rfl rfl ?_
    refine e_aload dL_law_1237 rfl ?_
    refine e_iload dL_law_1239 rfl ?_
    have hK : KK dn BB tt nn mm (BB j) (tt j) (nn j) (mm j) := ⟨j, hjd, by omega, rfl, rfl, rfl, rfl⟩
    have hC2 : LC G a_u (BB j) ((sBack S).2.2.2 0) (nn j) (mm j) := by
      rw [b5]
      exact ((h.2.2.2.2.2 _ _ _ _ hK).1.see hs0.1).see (vis_bec _ hs0.2.1 hs0.2.2.1.1)
    have hI2 : IV 1000 ((sBack S).2.2.2 0) (nn j) (mm j) := by rw [b5]; exact hs0.2.bec _
    refine e_aald (t0 := 6) h.2.2.2.1 rfl rfl (by omega) (by omega) dL_law_1241 ?_
    rw [hn, hg j hjd (by omega)]
    refine st_agr (A0 := BB j) h hq8 hub hl0 hC2 hI2 wM_L_239 dL_law_1242 (Nat.le_of_ble_eq_true rfl) (Nat.le_trans (Nat.le_of_ble_eq_true rfl) hJ) ?_
    intro a3 z3 h hz
    refine e_if_eq (tgt := 1252) dL_law_1245 (by decide) (fun q => absurd q (by decide)) (fun _ => ?_)
    refine e_iconst (v := 1) dL_law_1248 (by decide) ?_
    refine e_goto (tgt := 1253) dL_law_1249 (by decide) ?_
    refine e_istore_n dL_law_1253 rfl (Nat.le_of_ble_eq_true rfl) ?_
    refine e_iinc dL_law_1254 rfl rfl (Nat.le_of_ble_eq_true rfl) ?_
    refine e_goto (tgt := 1211) dL_law_1257 (by decide) ?_
    refine ev_lc (ih (j + 1) _ a3 (by omega) (ar_inc hx (by omega)) ⟨sBack S, A, σ, nI, mI, g, dn, BB, tt, nn, mm, z3, h, b1, hI2.1, hz, b4.trans h0, h9, hg, fun i i1 i2 i3 => ?_, by omega⟩) ⟨rfl, rfl, rfl, rfl, rfl, rfl, rfl, rfl, rfl, rfl, rfl, trivial⟩
    have ei : 2 + (((sBack S).1 3).toInt.toNat + 7 - (i - (j + 1))) % 8 = 2 + ((S.1 3).toInt.toNat + 7 - (i - j)) % 8 := by
      have := hh.2
      rw [b3]
      by_cases c : 0 < (S.1 3).toInt
      · rw [if_pos c]; omega
      · rw [if_neg c]; omega
    rw [ei, b6 _ (by omega)]
    exact hs i (by omega) i2 i3
set_option maxRecDepth 20000 in
theorem lw_fin (hub : ¬ (b ≤ u ∧ u < b + 157)) (hq8 : q8 ≠ b + 36) (hl0 : l.stackTraces = false) (hJ : 15 ≤ J.2.2.1) (hk : ∀ (a : ev_H) (z : Nat), a.2 = some z → ev_V G l mL_law J 4 [some (.ref q0), some (.int 1), some (.int (x2 + Int32.ofInt 1))] [] a k n) (hF : FH G b u r q8 a) : ev_V G l mL_law J 1260 [some (.ref q0), some (.int 1), some (.int x2), some (.ref b), some (.ref u), some (.ref r), some (.ref c0), some (.int x7), some (.ref q8), some (.int x9), some (.int x10)] [] a (k + 14) (n + 84) := by
  obtain ⟨K, S, A, σ, nI, mI, g, z, h, hh, hv, hz, h0⟩ := hF
  have hvd : sInv (sDr S) := sInv_bec _ hv
  have hmn := hv.1.nat
  have z0 := ar_0
  have z1 := ar_1
  have zm := ar_m1
  have w12 := ar_12
  have w501 : (501 : Int32).toInt = 501 := by decide +kernel
  have w201 : (201 : Int32).toInt = 201 := by decide +kernel
  refine e_wide (k0 := k + 1 + 2 + 2 + 2 + 3 + 3 + 1) (n0 := n + 6 + 12 + 12 + 12 + 18 + 18 + 6) (by omega) (by omega) ?_
  refine e_iload_n dL_law_1260 rfl rfl ?_
  refine e_if_eq (tgt := 1352) dL_law_1261 (by decide) (fun q => absurd q (by decide)) (fun _ => ?_)
  refine e_aload_n dL_law_1264 rfl rfl ?_
  refine e_sipush (v := 501) dL_law_1265 (by decide) ?_
  refine st_call h hq8 hub (lh_load_A (x := 501) hl0 rfl hh (by rw [h0]; omega) (by rw [h0]; omega) (by rw [h0]; omega)) vL_load wM_L_19 dL_law_1268 (as := [.ref b, .int 501]) rfl rfl (Nat.le_of_ble_eq_true rfl) (Nat.le_trans (Nat.le_of_ble_eq_true rfl) hJ) ?_
  intro a_load z h hz
  refine e_ldc dL_law_1271 wK_L_42 ?_
  refine e_icmp_ne (tgt := 1352) dL_law_1273 (by decide) (fun q => absurd (rfl) q) (fun _ => ?_)
  refine e_aload_n dL_law_1276 rfl rfl ?_
  refine e_iconst (v := 1) dL_law_1277 (by decide) ?_
  refine e_bipush (v := 12) dL_law_1278 (by decide) ?_
  refine e_iconst (v := 0) dL_law_1280 (by decide) ?_
  refine st_call h hq8 hub (lh_foretold_I (x := 1) (y := 12) (z := 0) hl0 rfl hvd (by omega)) vL_foretold wM_L_301 dL_law_1281 (as := [.ref b, .int 1, .int 12, .int 0]) rfl rfl (Nat.le_of_ble_eq_true rfl) (Nat.le_trans (Nat.le_of_ble_eq_true rfl) hJ) ?_
  intro a_foretold z h hz
  refine e_ldc dL_law_1284 wK_L_58 ?_
  refine e_icmp_ne (tgt := 1352) dL_law_1286 (by decide) (fun q => absurd (rfl) q) (fun _ => ?_)
  refine e_aload_n dL_law_1289 rfl rfl ?_
  refine e_sipush (v := 201) dL_law_1290 (by decide) ?_
  refine e_iconst (v := 0) dL_law_1293 (by decide) ?_
  refine e_iconst (v := 0) dL_law_1294 (by decide) ?_
  refine st_call h hq8 hub (lh_foretold_A (x := 201) (y := 0) (z := 0) hl0 rfl hvd (by omega) (by omega)) vL_foretold wM_L_301 dL_law_1295 (as := [.ref b, .int 201, .int 0, .int 0]) rfl rfl (Nat.le_of_ble_eq_true rfl) (Nat.le_trans (Nat.le_of_ble_eq_true rfl) hJ) ?_
  intro a_foretold z h hz
  refine e_ldc dL_law_1298 wK_L_42 ?_
  refine e_icmp_ne (tgt := 1352) dL_law_1300 (by decide) (fun q => absurd (rfl) q) (fun _ => ?_)
  refine e_aload_n dL_law_1303 rfl rfl ?_
  refine e_iconst (v := -1) dL_law_1304 (by decide) ?_
  refine e_iconst (v := 5) dL_law_1305 (by decide) ?_
  refine st_call h hq8 hub (lh_period_I (x := -1) (y := 5) hl0 rfl hvd (by omega)) vL_period wM_L_297 dL_law_1306 (as := [.ref b, .int (-1), .int 5]) rfl rfl (Nat.le_of_ble_eq_true rfl) (Nat.le_trans (Nat.le_of_ble_eq_true rfl) hJ) ?_
  intro a_period z h hz
  refine e_ldc dL_law_1309 wK_L_58 ?_
  refine e_icmp_ne (tgt := 1352) dL_law_1311 (by decide) (fun q => absurd (rfl) q) (fun _ => ?_)
  refine e_aload_n dL_law_1314 rfl rfl ?_
  refine e_iconst (v := -1) dL_law_1315 (by decide) ?_
  refine e_iconst (v := 0) dL_law_1316 (by decide) ?_
  refine st_call h hq8 hub (lh_waiting_N (x := -1) (y := 0) hl0 rfl hv (by omega)) vL_waiting wM_L_295 dL_law_1317 (as := [.ref b, .int (-1), .int 0]) rfl rfl (Nat.le_of_ble_eq_true rfl) (Nat.le_trans (Nat.le_of_ble_eq_true rfl) hJ) ?_
  intro a_waiting z h hz
  refine e_ldc dL_law_1320 wK_L_67 ?_
  refine e_icmp_ne (tgt := 1352) dL_law_1322 (by decide) (fun q => absurd (rfl) q) (fun _ => ?_)
  refine e_aload_n dL_law_1325 rfl rfl ?_
  refine e_iconst (v := -1) dL_law_1326 (by decide) ?_
  refine e_iconst (v := 0) dL_law_1327 (by decide) ?_
  refine st_call h hq8 hub (lh_noted_N (x := -1) (y := 0) hl0 rfl hv (by omega)) vL_noted wM_L_230 dL_law_1328 (as := [.ref b, .int (-1), .int 0]) rfl rfl (Nat.le_of_ble_eq_true rfl) (Nat.le_trans (Nat.le_of_ble_eq_true rfl) hJ) ?_
  intro a_noted z h hz
  refine e_ldc dL_law_1331 wK_L_67 ?_
  refine e_icmp_ne (tgt := 1352) dL_law_1333 (by decide) (fun q => absurd (rfl) q) (fun _ => ?_)
  refine e_aload_n dL_law_1336 rfl rfl ?_
  refine e_sipush (v := 201) dL_law_1337 (by decide) ?_
  refine st_call h hq8 hub (lh_breaksIn_A (x := 201) hl0 rfl hvd (by omega)) vL_breaksIn wM_L_299 dL_law_1340 (as := [.ref b, .int 201]) rfl rfl (Nat.le_of_ble_eq_true rfl) (Nat.le_trans (Nat.le_of_ble_eq_true rfl) hJ) ?_
  intro a_breaksIn z h hz
  refine e_ldc dL_law_1343 wK_L_42 ?_
  refine e_icmp_ne (tgt := 1352) dL_law_1345 (by decide) (fun q => absurd (rfl) q) (fun _ => ?_)
  refine e_iconst (v := 1) dL_law_1348 (by decide) ?_
  refine e_goto (tgt := 1353) dL_law_1349 (by decide) ?_
  refine e_istore_n dL_law_1353 rfl (Nat.le_of_ble_eq_true rfl) ?_
  refine e_iinc dL_law_1354 rfl rfl (Nat.le_of_ble_eq_true rfl) ?_
  refine e_goto (tgt := 4) dL_law_1357 (by decide) ?_
  exact ev_lc (hk _ _ hz) ⟨rfl, rfl, rfl, trivial⟩
end LWG
