/-! the law: each of its calls, made on both sides -/
def yLaw : MethodName := ⟨RL, "law", "([I)Z"⟩
abbrev mL_law : ev_M := (yLaw, cL_law, 9, (some .boolean))
abbrev lwL (G : ev_G) (b : Nat) (x : Int32) : List (Option Value) := [some (.ref G.2.2.2.1.1), some (.ref b), some (.ref (b + 157)), some (.ref (b + 172)), some (.int x)]
def lsc (G : ev_G) (x j : Int32) : Int32 := G.2.2.2.1.2.2 (x + j).toInt.toNat
theorem lw_ix {x j : Int32} {N : Nat} (hN : N ≤ 3072) (hx0 : 0 ≤ x.toInt) (hx5 : x.toInt + 5 < (N : Int)) (j0 : 0 ≤ j.toInt) (j5 : j.toInt ≤ 5) : 0 ≤ (x + j).toInt ∧ (x + j).toInt < (N : Int) := by
  rw [ar_add (by omega) (by omega)]
  omega
theorem e_scr {G : ev_G} {l : Launch} {M : ev_M} {J : ev_K} {pc k n : Nat} {L : List (Option Value)} {st : List Value} {a : ev_H} {x j : Int32} (hN : G.2.2.2.1.2.1 ≤ 3072) (hx0 : 0 ≤ x.toInt) (hx5 : x.toInt + 5 < (G.2.2.2.1.2.1 : Int)) (j0 : 0 ≤ j.toInt) (j5 : j.toInt ≤ 5) (hd : decode M.2.1 pc = .ok (.iaload, 1)) (h : ev_V G l M J (pc + 1) L (.int (lsc G x j) :: st) a k n) : ev_V G l M J pc L (.int (x + j) :: .ref G.2.2.2.1.1 :: st) a k n :=
  e_sald (lw_ix hN hx0 hx5 j0 j5).1 (lw_ix hN hx0 hx5 j0 j5).2 hd h
theorem lw_cmp {x y : Int64} (h : x = y) : lg_cmp x y = 0 := by
  subst h
  unfold lg_cmp
  rw [if_neg (by rw [gt_iff_lt, Int64.lt_iff_toInt_lt]; omega), if_pos rfl]
theorem sKeep_1 (V : SS) : (sKeep V).2.2.2 1 = V.2.2.2 1 := ev_u_ne _ _ (by omega)
theorem wt_pos {σ : CS} (h : sInv σ) : accL 0 (sWe σ) (sNm σ) ≠ 0 := by
  have z : (0 : Int64).toInt = 0 := by decide +kernel
  have hn := h.1.nat
  have h1 : ∀ i : Nat, i ≤ sNm σ → i ≤ 12 → (accL 0 (sWe σ) i).toInt ≥ i ∧ (accL 0 (sWe σ) i).toInt ≤ 99 * i := by
    intro i
    induction i with
    | zero => intro _ _; show (0 : Int64).toInt ≥ ((0 : Nat) : Int) ∧ (0 : Int64).toInt ≤ _; omega
    | succ i ih =>
      intro hi h12
      obtain ⟨a1, a2⟩ := ih (by omega) (by omega)
      obtain ⟨w1, w2⟩ := h.2.1 i (by omega)
      have hw : (sWe σ i).toInt = (σ.2.2 0 i).toInt := Int32.toInt_toInt64 _
      show (accL 0 (sWe σ) i + sWe σ i).toInt ≥ _ ∧ (accL 0 (sWe σ) i + sWe σ i).toInt ≤ _
      rw [ar_addL (by omega) (by omega)]
      omega
  intro h0
  have h2 := (h1 (sNm σ) (Nat.le_refl _) (by omega)).1
  rw [h0, z] at h2
  omega
theorem lw_nan {p q : UInt64} (h : isNaN64 p = true) : Op.cmpValue (FP.dcmp p q) .l ≠ 0 := by
  have h0 := isNaN64_iff.mp h
  have h1 : FP.Core.decode FP.Core.b64 p.toNat = .nan := by
    have h3 : 0x7ff0000000000000 < p.toNat % 2 ^ 63 := by rw [← Nat.and_two_pow_sub_one_eq_mod p.toNat 63]; exact h0
    have h4 : (2 : Nat) ^ 63 = 9223372036854775808 := by decide +kernel
    rw [h4] at h3
    have e1 : p.toNat / 4503599627370496 % 2048 = 2047 := by omega
    have e2 : ¬ p.toNat % 4503599627370496 = 0 := by omega
    have e3 : FP.Core.fieldE FP.Core.b64 p.toNat = FP.Core.b64.exps - 1 := e1
    have e4 : ¬ FP.Core.fieldT FP.Core.b64 p.toNat = 0 := e2
    unfold FP.Core.decode
    rw [if_pos e3, if_neg e4]
  have h2 : FP.dcmp p q = none := by
    show FP.Core.order (FP.Core.decode FP.Core.b64 p.toNat) _ = none
    rw [h1]
    rfl
  rw [h2]
  decide
section LW2
variable {G : ev_G} {l : Launch} {b : Nat} {S : SS} {μ : MS} {o : Nat → Int64} {x : Int32} {J : ev_K} {k n : Nat} {T : Int}
set_option maxRecDepth 20000 in
set_option maxHeartbeats 1000000 in
theorem lc_state (hJ : 13 ≤ J.2.2.1) (hkd : J.1 = true) (hl0 : l.stackTraces = false) (hN : G.2.2.2.1.2.1 ≤ 3072) (hx0 : 0 ≤ x.toInt) (hx5 : x.toInt + 5 < (G.2.2.2.1.2.1 : Int)) (hS : RS T S μ) (hT0 : 0 ≤ T) (hT : T < 2147000000) (hk : ∀ S' μ' o', RS (T + 50) S' μ' → ev_V G l mL_law J 1438 (lwL G b x) [] (lwH G b S' μ' o') k n) : ev_V G l mL_law J 290 (lwL G b x) [] (lwH G b S μ o) (k + 1) (n + 6) := by
  refine e_aload_n dL_law_290 rfl rfl ?_
  refine e_aload_n dL_law_291 rfl rfl ?_
  refine e_iload dL_law_292 rfl ?_
  refine e_iconst (v := 1) dL_law_294 (by decide) ?_
  refine e_iadd dL_law_295 ?_
  refine e_scr hN hx0 hx5 (by decide +kernel) (by decide +kernel) dL_law_296 ?_
  refine e_aload_n dL_law_297 rfl rfl ?_
  refine e_invSH (hh := [(0, 9, 12, 13)]) (mcY := 1) (msY := 6) (ct_L_state (S := S) (μ := μ) (o := o) (Nat.le_of_ble_eq_true rfl) (ct_X6_state hl0 rfl hS.1.2.1) ?_ ?_) vL_state wM_L_96 dL_law_298 rfl rfl (Nat.le_of_ble_eq_true rfl) (Nat.le_trans (Nat.le_of_ble_eq_true rfl) hJ) ?_
  · rintro v a ⟨⟨rfl, rfl⟩, -⟩
    exact ⟨_, rfl, lwH_out G b _ μ o⟩
  · rintro E a ⟨⟨rfl, -⟩, -⟩
    rfl
  rintro _ a1 (⟨r, a0, hp, rfl, rfl⟩ | ⟨hx, rfl⟩)
  · skip
    obtain ⟨⟨hv, rfl⟩, c1⟩ := hp
    injection hv with hv
    injection hv with hv
    refine ev_as (lwH_put G b _ μ o _) ?_
    refine e_istore dL_law_301 (Nat.le_of_ble_eq_true rfl) ?_
    refine e_aload_n dL_law_303 rfl rfl ?_
    refine e_aload_n dL_law_304 rfl rfl ?_
    refine e_iload dL_law_305 rfl ?_
    refine e_iconst (v := 1) dL_law_307 (by decide) ?_
    refine e_iadd dL_law_308 ?_
    refine e_scr hN hx0 hx5 (by decide +kernel) (by decide +kernel) dL_law_309 ?_
    refine ev_as (lwH_mo G b _ μ _) ?_
    refine e_invV (mcY := 0) (msY := 0) (ct_X7_state (σ := S.2.2.2 0) hS.1.1 hS.1.2.1 hS.1.2.2.1) vX7_state wM_L_98 (mo_at G (b + 157) _ _ 0 (by decide)) rfl dL_law_310 rfl rfl (Nat.le_of_ble_eq_true rfl) (Nat.le_trans (Nat.le_of_ble_eq_true rfl) hJ) ?_
    rintro _ _ (⟨m1, rfl, rfl⟩ | ⟨m1, rfl, rfl⟩)
    · skip
      refine e_istore dL_law_313 (Nat.le_of_ble_eq_true rfl) ?_
      refine e_aload_n dL_law_315 rfl rfl ?_
      refine e_invV (mcY := 0) (msY := 0) (ct_X7_thrown) vX7_thrown wM_L_88 (mo_at G (b + 157) _ _ 0 (by decide)) rfl dL_law_316 rfl rfl (Nat.le_of_ble_eq_true rfl) (Nat.le_trans (Nat.le_of_ble_eq_true rfl) hJ) ?_
      rintro _ _ ⟨rfl, rfl⟩
      refine e_iload dL_law_319 rfl ?_
      refine e_icmp_eq (tgt := 326) dL_law_321 (by decide) (fun _ => ?_) (fun q9 => absurd (ev_u_self μ.1 0 (0 : Int32)) q9)
      refine e_iload dL_law_326 rfl ?_
      refine e_if_ne (tgt := 343) dL_law_328 (by decide) (fun q9 => absurd rfl q9) (fun _ => ?_)
      refine ev_as (lwH_mo G b _ _ _).symm ?_
      refine e_aload_n dL_law_331 rfl rfl ?_
      refine e_iconst (v := 0) dL_law_332 (by decide) ?_
      refine e_lald (N := 1) (lwH_out G b _ _ _) (by decide +kernel) (by decide +kernel) dL_law_333 ?_
      refine e_iload dL_law_334 rfl ?_
      refine e_i2l dL_law_336 ?_
      refine e_lcmp dL_law_337 ?_
      refine e_if_eq (tgt := 343) dL_law_338 (by decide) (fun _ => ?_) (fun q9 => absurd (lw_cmp ((ev_u_self _ _ _).trans (congrArg Int32.toInt64 hv))) q9)
      refine e_goto (tgt := 1438) dL_law_343 (by decide) ?_
      exact ev_lc (hk _ _ _ ((hS.int (by decide) 0).up (by omega))) ⟨rfl, rfl, rfl, rfl, rfl, trivial⟩
    · exact absurd c1 m1
  · skip
    obtain ⟨⟨-, rfl⟩, d1⟩ := hx
    refine e_istore dL_law_301 (Nat.le_of_ble_eq_true rfl) ?_
    refine e_aload_n dL_law_303 rfl rfl ?_
    refine e_aload_n dL_law_304 rfl rfl ?_
    refine e_iload dL_law_305 rfl ?_
    refine e_iconst (v := 1) dL_law_307 (by decide) ?_
    refine e_iadd dL_law_308 ?_
    refine e_scr hN hx0 hx5 (by decide +kernel) (by decide +kernel) dL_law_309 ?_
    refine ev_as (lwH_mo G b _ μ _) ?_
    refine e_invV (mcY := 0) (msY := 0) (ct_X7_state (σ := S.2.2.2 0) hS.1.1 hS.1.2.1 hS.1.2.2.1) vX7_state wM_L_98 (mo_at G (b + 157) _ _ 0 (by decide)) rfl dL_law_310 rfl rfl (Nat.le_of_ble_eq_true rfl) (Nat.le_trans (Nat.le_of_ble_eq_true rfl) hJ) ?_
    rintro _ _ (⟨m1, rfl, rfl⟩ | ⟨m1, rfl, rfl⟩)
    · exact absurd m1 d1
    · skip
      refine e_istore dL_law_313 (Nat.le_of_ble_eq_true rfl) ?_
      refine e_aload_n dL_law_315 rfl rfl ?_
      refine e_invV (mcY := 0) (msY := 0) (ct_X7_thrown) vX7_thrown wM_L_88 (mo_at G (b + 157) _ _ 0 (by decide)) rfl dL_law_316 rfl rfl (Nat.le_of_ble_eq_true rfl) (Nat.le_trans (Nat.le_of_ble_eq_true rfl) hJ) ?_
      rintro _ _ ⟨rfl, rfl⟩
      refine e_iload dL_law_319 rfl ?_
      refine e_icmp_eq (tgt := 326) dL_law_321 (by decide) (fun _ => ?_) (fun q9 => absurd (ev_u_self μ.1 0 (1 : Int32)) q9)
      refine e_iload dL_law_326 rfl ?_
      refine e_if_ne (tgt := 343) dL_law_328 (by decide) (fun _ => ?_) (fun q9 => absurd q9 (by decide))
      refine ev_as (lwH_mo G b _ _ _).symm ?_
      refine e_goto (tgt := 1438) dL_law_343 (by decide) ?_
      exact ev_lc (hk _ _ _ ((hS.int (by decide) 1).up (by omega))) ⟨rfl, rfl, rfl, rfl, rfl, trivial⟩
set_option maxRecDepth 20000 in
set_option maxHeartbeats 1000000 in
theorem lc_account (hJ : 13 ≤ J.2.2.1) (hkd : J.1 = true) (hl0 : l.stackTraces = false) (hN : G.2.2.2.1.2.1 ≤ 3072) (hx0 : 0 ≤ x.toInt) (hx5 : x.toInt + 5 < (G.2.2.2.1.2.1 : Int)) (hS : RS T S μ) (hT0 : 0 ≤ T) (hT : T < 2147000000) (hk : ∀ S' μ' o', RS (T + 50) S' μ' → ev_V G l mL_law J 1438 (lwL G b x) [] (lwH G b S' μ' o') k n) : ev_V G l mL_law J 346 (lwL G b x) [] (lwH G b S μ o) (k + 1) (n + 6) := by
  refine e_aload_n dL_law_346 rfl rfl ?_
  refine e_aload_n dL_law_347 rfl rfl ?_
  refine e_iload dL_law_348 rfl ?_
  refine e_iconst (v := 1) dL_law_350 (by decide) ?_
  refine e_iadd dL_law_351 ?_
  refine e_scr hN hx0 hx5 (by decide +kernel) (by decide +kernel) dL_law_352 ?_
  refine e_aload_n dL_law_353 rfl rfl ?_
  refine e_invSH (hh := [(0, 8, 11, 13)]) (mcY := 1) (msY := 6) (ct_L_account (S := S) (μ := μ) (o := o) (Nat.le_of_ble_eq_true rfl) (ct_X6_account hl0 rfl hS.1.2.1) ?_ ?_) vL_account wM_L_99 dL_law_354 rfl rfl (Nat.le_of_ble_eq_true rfl) (Nat.le_trans (Nat.le_of_ble_eq_true rfl) hJ) ?_
  · rintro v a ⟨⟨rfl, rfl⟩, -⟩
    exact ⟨_, rfl, lwH_out G b _ μ o⟩
  · rintro E a ⟨⟨rfl, -⟩, -⟩
    rfl
  rintro _ a1 (⟨r, a0, hp, rfl, rfl⟩ | ⟨hx, rfl⟩)
  · skip
    obtain ⟨⟨hv, rfl⟩, c1⟩ := hp
    injection hv with hv
    injection hv with hv
    refine ev_as (lwH_put G b _ μ o _) ?_
    refine e_istore dL_law_357 (Nat.le_of_ble_eq_true rfl) ?_
    refine e_aload_n dL_law_359 rfl rfl ?_
    refine e_aload_n dL_law_360 rfl rfl ?_
    refine e_iload dL_law_361 rfl ?_
    refine e_iconst (v := 1) dL_law_363 (by decide) ?_
    refine e_iadd dL_law_364 ?_
    refine e_scr hN hx0 hx5 (by decide +kernel) (by decide +kernel) dL_law_365 ?_
    refine ev_as (lwH_mo G b _ μ _) ?_
    refine e_invV (mcY := 0) (msY := 0) (ct_X7_account (σ := S.2.2.2 0) hS.1.1 hS.1.2.1 hS.1.2.2.1) vX7_account wM_L_101 (mo_at G (b + 157) _ _ 0 (by decide)) rfl dL_law_366 rfl rfl (Nat.le_of_ble_eq_true rfl) (Nat.le_trans (Nat.le_of_ble_eq_true rfl) hJ) ?_
    rintro _ _ (⟨m1, rfl, rfl⟩ | ⟨m1, rfl, rfl⟩)
    · skip
      refine e_lstore dL_law_369 (Nat.le_of_ble_eq_true rfl) ?_
      refine e_aload_n dL_law_371 rfl rfl ?_
      refine e_invV (mcY := 0) (msY := 0) (ct_X7_thrown) vX7_thrown wM_L_88 (mo_at G (b + 157) _ _ 0 (by decide)) rfl dL_law_372 rfl rfl (Nat.le_of_ble_eq_true rfl) (Nat.le_trans (Nat.le_of_ble_eq_true rfl) hJ) ?_
      rintro _ _ ⟨rfl, rfl⟩
      refine e_iload dL_law_375 rfl ?_
      refine e_icmp_eq (tgt := 382) dL_law_377 (by decide) (fun _ => ?_) (fun q9 => absurd (ev_u_self μ.1 0 (0 : Int32)) q9)
      refine e_iload dL_law_382 rfl ?_
      refine e_if_ne (tgt := 398) dL_law_384 (by decide) (fun q9 => absurd rfl q9) (fun _ => ?_)
      refine ev_as (lwH_mo G b _ _ _).symm ?_
      refine e_aload_n dL_law_387 rfl rfl ?_
      refine e_iconst (v := 0) dL_law_388 (by decide) ?_
      refine e_lald (N := 1) (lwH_out G b _ _ _) (by decide +kernel) (by decide +kernel) dL_law_389 ?_
      refine e_lload dL_law_390 rfl ?_
      refine e_lcmp dL_law_392 ?_
      refine e_if_eq (tgt := 398) dL_law_393 (by decide) (fun _ => ?_) (fun q9 => absurd (lw_cmp ((ev_u_self _ _ _).trans (hv))) q9)
      refine e_goto (tgt := 1438) dL_law_398 (by decide) ?_
      exact ev_lc (hk _ _ _ ((hS.int (by decide) 0).up (by omega))) ⟨rfl, rfl, rfl, rfl, rfl, trivial⟩
    · exact absurd c1 m1
  · skip
    obtain ⟨⟨-, rfl⟩, d1⟩ := hx
    refine e_istore dL_law_357 (Nat.le_of_ble_eq_true rfl) ?_
    refine e_aload_n dL_law_359 rfl rfl ?_
    refine e_aload_n dL_law_360 rfl rfl ?_
    refine e_iload dL_law_361 rfl ?_
    refine e_iconst (v := 1) dL_law_363 (by decide) ?_
    refine e_iadd dL_law_364 ?_
    refine e_scr hN hx0 hx5 (by decide +kernel) (by decide +kernel) dL_law_365 ?_
    refine ev_as (lwH_mo G b _ μ _) ?_
    refine e_invV (mcY := 0) (msY := 0) (ct_X7_account (σ := S.2.2.2 0) hS.1.1 hS.1.2.1 hS.1.2.2.1) vX7_account wM_L_101 (mo_at G (b + 157) _ _ 0 (by decide)) rfl dL_law_366 rfl rfl (Nat.le_of_ble_eq_true rfl) (Nat.le_trans (Nat.le_of_ble_eq_true rfl) hJ) ?_
    rintro _ _ (⟨m1, rfl, rfl⟩ | ⟨m1, rfl, rfl⟩)
    · exact absurd m1 d1
    · skip
      refine e_lstore dL_law_369 (Nat.le_of_ble_eq_true rfl) ?_
      refine e_aload_n dL_law_371 rfl rfl ?_
      refine e_invV (mcY := 0) (msY := 0) (ct_X7_thrown) vX7_thrown wM_L_88 (mo_at G (b + 157) _ _ 0 (by decide)) rfl dL_law_372 rfl rfl (Nat.le_of_ble_eq_true rfl) (Nat.le_trans (Nat.le_of_ble_eq_true rfl) hJ) ?_
      rintro _ _ ⟨rfl, rfl⟩
      refine e_iload dL_law_375 rfl ?_
      refine e_icmp_eq (tgt := 382) dL_law_377 (by decide) (fun _ => ?_) (fun q9 => absurd (ev_u_self μ.1 0 (1 : Int32)) q9)
      refine e_iload dL_law_382 rfl ?_
      refine e_if_ne (tgt := 398) dL_law_384 (by decide) (fun _ => ?_) (fun q9 => absurd q9 (by decide))
      refine ev_as (lwH_mo G b _ _ _).symm ?_
      refine e_goto (tgt := 1438) dL_law_398 (by decide) ?_
      exact ev_lc (hk _ _ _ ((hS.int (by decide) 1).up (by omega))) ⟨rfl, rfl, rfl, rfl, rfl, trivial⟩
set_option maxRecDepth 20000 in
set_option maxHeartbeats 1000000 in
theorem lc_mass (hJ : 13 ≤ J.2.2.1) (hkd : J.1 = true) (hl0 : l.stackTraces = false) (hN : G.2.2.2.1.2.1 ≤ 3072) (hx0 : 0 ≤ x.toInt) (hx5 : x.toInt + 5 < (G.2.2.2.1.2.1 : Int)) (hS : RS T S μ) (hT0 : 0 ≤ T) (hT : T < 2147000000) (hk : ∀ S' μ' o', RS (T + 50) S' μ' → ev_V G l mL_law J 1438 (lwL G b x) [] (lwH G b S' μ' o') k n) : ev_V G l mL_law J 401 (lwL G b x) [] (lwH G b S μ o) (k + 2) (n + 12) := by
  refine e_aload_n dL_law_401 rfl rfl ?_
  refine e_aload_n dL_law_402 rfl rfl ?_
  refine e_iload dL_law_403 rfl ?_
  refine e_iconst (v := 1) dL_law_405 (by decide) ?_
  refine e_iadd dL_law_406 ?_
  refine e_scr hN hx0 hx5 (by decide +kernel) (by decide +kernel) dL_law_407 ?_
  refine e_aload_n dL_law_408 rfl rfl ?_
  refine e_iload dL_law_409 rfl ?_
  refine e_iconst (v := 2) dL_law_411 (by decide) ?_
  refine e_iadd dL_law_412 ?_
  refine e_scr hN hx0 hx5 (by decide +kernel) (by decide +kernel) dL_law_413 ?_
  refine e_aload_n dL_law_414 rfl rfl ?_
  refine e_invSH (hh := [(0, 10, 13, 26), (0, 10, 17, 13)]) (mcY := 2) (msY := 12) (ct_L_mass (S := S) (μ := μ) (o := o) (Nat.le_of_ble_eq_true rfl) (ct_X6_mass hl0 rfl hS.1.2.1) ?_ ?_) vL_mass wM_L_102 dL_law_415 rfl rfl (Nat.le_of_ble_eq_true rfl) (Nat.le_trans (Nat.le_of_ble_eq_true rfl) hJ) ?_
  · rintro v a ⟨⟨rfl, rfl⟩, -⟩
    exact ⟨_, rfl, lwH_out G b _ μ o⟩
  · rintro E a (⟨⟨rfl, -⟩, -⟩ | ⟨⟨rfl, -⟩, -⟩)
    · exact Or.inl rfl
    · exact Or.inr (rfl)
  rintro _ a1 (⟨r, a0, hp, rfl, rfl⟩ | ⟨hx, rfl⟩ | ⟨hx, rfl⟩)
  · skip
    obtain ⟨⟨hv, rfl⟩, c1, c2⟩ := hp
    injection hv with hv
    injection hv with hv
    refine ev_as (lwH_put G b _ μ o _) ?_
    refine e_istore dL_law_418 (Nat.le_of_ble_eq_true rfl) ?_
    refine e_aload_n dL_law_420 rfl rfl ?_
    refine e_aload_n dL_law_421 rfl rfl ?_
    refine e_iload dL_law_422 rfl ?_
    refine e_iconst (v := 1) dL_law_424 (by decide) ?_
    refine e_iadd dL_law_425 ?_
    refine e_scr hN hx0 hx5 (by decide +kernel) (by decide +kernel) dL_law_426 ?_
    refine e_aload_n dL_law_427 rfl rfl ?_
    refine e_iload dL_law_428 rfl ?_
    refine e_iconst (v := 2) dL_law_430 (by decide) ?_
    refine e_iadd dL_law_431 ?_
    refine e_scr hN hx0 hx5 (by decide +kernel) (by decide +kernel) dL_law_432 ?_
    refine ev_as (lwH_mo G b _ μ _) ?_
    refine e_invV (mcY := 0) (msY := 0) (ct_X7_mass (σ := S.2.2.2 0) hS.1.1 hS.1.2.1) vX7_mass wM_L_105 (mo_at G (b + 157) _ _ 0 (by decide)) rfl dL_law_433 rfl rfl (Nat.le_of_ble_eq_true rfl) (Nat.le_trans (Nat.le_of_ble_eq_true rfl) hJ) ?_
    rintro _ _ (⟨m1, m2, rfl, rfl⟩ | ⟨m1, rfl, rfl⟩ | ⟨m1, m2, rfl, rfl⟩)
    · skip
      refine e_istore dL_law_436 (Nat.le_of_ble_eq_true rfl) ?_
      refine e_aload_n dL_law_438 rfl rfl ?_
      refine e_invV (mcY := 0) (msY := 0) (ct_X7_thrown) vX7_thrown wM_L_88 (mo_at G (b + 157) _ _ 0 (by decide)) rfl dL_law_439 rfl rfl (Nat.le_of_ble_eq_true rfl) (Nat.le_trans (Nat.le_of_ble_eq_true rfl) hJ) ?_
      rintro _ _ ⟨rfl, rfl⟩
      refine e_iload dL_law_442 rfl ?_
      refine e_icmp_eq (tgt := 449) dL_law_444 (by decide) (fun _ => ?_) (fun q9 => absurd (ev_u_self μ.1 0 (0 : Int32)) q9)
      refine e_iload dL_law_449 rfl ?_
      refine e_if_ne (tgt := 466) dL_law_451 (by decide) (fun q9 => absurd rfl q9) (fun _ => ?_)
      refine ev_as (lwH_mo G b _ _ _).symm ?_
      refine e_aload_n dL_law_454 rfl rfl ?_
      refine e_iconst (v := 0) dL_law_455 (by decide) ?_
      refine e_lald (N := 1) (lwH_out G b _ _ _) (by decide +kernel) (by decide +kernel) dL_law_456 ?_
      refine e_iload dL_law_457 rfl ?_
      refine e_i2l dL_law_459 ?_
      refine e_lcmp dL_law_460 ?_
      refine e_if_eq (tgt := 466) dL_law_461 (by decide) (fun _ => ?_) (fun q9 => absurd (lw_cmp ((ev_u_self _ _ _).trans (congrArg Int32.toInt64 hv))) q9)
      refine e_goto (tgt := 1438) dL_law_466 (by decide) ?_
      exact ev_lc (hk _ _ _ ((hS.int (by decide) 0).up (by omega))) ⟨rfl, rfl, rfl, rfl, rfl, trivial⟩
    · exact absurd c1 m1
    · exact absurd c2 m2
  · skip
    rcases hx with ⟨⟨-, rfl⟩, d1⟩ | ⟨⟨e9, -⟩, -⟩
    · skip
      refine e_istore dL_law_418 (Nat.le_of_ble_eq_true rfl) ?_
      refine e_aload_n dL_law_420 rfl rfl ?_
      refine e_aload_n dL_law_421 rfl rfl ?_
      refine e_iload dL_law_422 rfl ?_
      refine e_iconst (v := 1) dL_law_424 (by decide) ?_
      refine e_iadd dL_law_425 ?_
      refine e_scr hN hx0 hx5 (by decide +kernel) (by decide +kernel) dL_law_426 ?_
      refine e_aload_n dL_law_427 rfl rfl ?_
      refine e_iload dL_law_428 rfl ?_
      refine e_iconst (v := 2) dL_law_430 (by decide) ?_
      refine e_iadd dL_law_431 ?_
      refine e_scr hN hx0 hx5 (by decide +kernel) (by decide +kernel) dL_law_432 ?_
      refine ev_as (lwH_mo G b _ μ _) ?_
      refine e_invV (mcY := 0) (msY := 0) (ct_X7_mass (σ := S.2.2.2 0) hS.1.1 hS.1.2.1) vX7_mass wM_L_105 (mo_at G (b + 157) _ _ 0 (by decide)) rfl dL_law_433 rfl rfl (Nat.le_of_ble_eq_true rfl) (Nat.le_trans (Nat.le_of_ble_eq_true rfl) hJ) ?_
      rintro _ _ (⟨m1, m2, rfl, rfl⟩ | ⟨m1, rfl, rfl⟩ | ⟨m1, m2, rfl, rfl⟩)
      · exact absurd m1 d1
      · skip
        refine e_istore dL_law_436 (Nat.le_of_ble_eq_true rfl) ?_
        refine e_aload_n dL_law_438 rfl rfl ?_
        refine e_invV (mcY := 0) (msY := 0) (ct_X7_thrown) vX7_thrown wM_L_88 (mo_at G (b + 157) _ _ 0 (by decide)) rfl dL_law_439 rfl rfl (Nat.le_of_ble_eq_true rfl) (Nat.le_trans (Nat.le_of_ble_eq_true rfl) hJ) ?_
        rintro _ _ ⟨rfl, rfl⟩
        refine e_iload dL_law_442 rfl ?_
        refine e_icmp_eq (tgt := 449) dL_law_444 (by decide) (fun _ => ?_) (fun q9 => absurd (ev_u_self μ.1 0 (1 : Int32)) q9)
        refine e_iload dL_law_449 rfl ?_
        refine e_if_ne (tgt := 466) dL_law_451 (by decide) (fun _ => ?_) (fun q9 => absurd q9 (by decide))
        refine ev_as (lwH_mo G b _ _ _).symm ?_
        refine e_goto (tgt := 1438) dL_law_466 (by decide) ?_
        exact ev_lc (hk _ _ _ ((hS.int (by decide) 1).up (by omega))) ⟨rfl, rfl, rfl, rfl, rfl, trivial⟩
      · exact absurd m1 d1
    · exact absurd e9 (by decide +kernel)
  · skip
    rcases hx with ⟨⟨e9, -⟩, -⟩ | ⟨⟨-, rfl⟩, c1, d2⟩
    · exact absurd e9 (by decide +kernel)
    refine e_istore dL_law_418 (Nat.le_of_ble_eq_true rfl) ?_
    refine e_aload_n dL_law_420 rfl rfl ?_
    refine e_aload_n dL_law_421 rfl rfl ?_
    refine e_iload dL_law_422 rfl ?_
    refine e_iconst (v := 1) dL_law_424 (by decide) ?_
    refine e_iadd dL_law_425 ?_
    refine e_scr hN hx0 hx5 (by decide +kernel) (by decide +kernel) dL_law_426 ?_
    refine e_aload_n dL_law_427 rfl rfl ?_
    refine e_iload dL_law_428 rfl ?_
    refine e_iconst (v := 2) dL_law_430 (by decide) ?_
    refine e_iadd dL_law_431 ?_
    refine e_scr hN hx0 hx5 (by decide +kernel) (by decide +kernel) dL_law_432 ?_
    refine ev_as (lwH_mo G b _ μ _) ?_
    refine e_invV (mcY := 0) (msY := 0) (ct_X7_mass (σ := S.2.2.2 0) hS.1.1 hS.1.2.1) vX7_mass wM_L_105 (mo_at G (b + 157) _ _ 0 (by decide)) rfl dL_law_433 rfl rfl (Nat.le_of_ble_eq_true rfl) (Nat.le_trans (Nat.le_of_ble_eq_true rfl) hJ) ?_
    rintro _ _ (⟨m1, m2, rfl, rfl⟩ | ⟨m1, rfl, rfl⟩ | ⟨m1, m2, rfl, rfl⟩)
    · exact absurd m2 d2
    · exact absurd c1 m1
    · skip
      refine e_istore dL_law_436 (Nat.le_of_ble_eq_true rfl) ?_
      refine e_aload_n dL_law_438 rfl rfl ?_
      refine e_invV (mcY := 0) (msY := 0) (ct_X7_thrown) vX7_thrown wM_L_88 (mo_at G (b + 157) _ _ 0 (by decide)) rfl dL_law_439 rfl rfl (Nat.le_of_ble_eq_true rfl) (Nat.le_trans (Nat.le_of_ble_eq_true rfl) hJ) ?_
      rintro _ _ ⟨rfl, rfl⟩
      refine e_iload dL_law_442 rfl ?_
      refine e_icmp_eq (tgt := 449) dL_law_444 (by decide) (fun _ => ?_) (fun q9 => absurd (ev_u_self μ.1 0 (2 : Int32)) q9)
      refine e_iload dL_law_449 rfl ?_
      refine e_if_ne (tgt := 466) dL_law_451 (by decide) (fun _ => ?_) (fun q9 => absurd q9 (by decide))
      refine ev_as (lwH_mo G b _ _ _).symm ?_
      refine e_goto (tgt := 1438) dL_law_466 (by decide) ?_
      exact ev_lc (hk _ _ _ ((hS.int (by decide) 2).up (by omega))) ⟨rfl, rfl, rfl, rfl, rfl, trivial⟩
set_option maxRecDepth 20000 in
set_option maxHeartbeats 1000000 in
theorem lc_spring (hJ : 13 ≤ J.2.2.1) (hkd : J.1 = true) (hl0 : l.stackTraces = false) (hN : G.2.2.2.1.2.1 ≤ 3072) (hx0 : 0 ≤ x.toInt) (hx5 : x.toInt + 5 < (G.2.2.2.1.2.1 : Int)) (hS : RS T S μ) (hT0 : 0 ≤ T) (hT : T < 2147000000) (hk : ∀ S' μ' o', RS (T + 50) S' μ' → ev_V G l mL_law J 1438 (lwL G b x) [] (lwH G b S' μ' o') k n) : ev_V G l mL_law J 469 (lwL G b x) [] (lwH G b S μ o) (k + 2) (n + 12) := by
  refine e_aload_n dL_law_469 rfl rfl ?_
  refine e_aload_n dL_law_470 rfl rfl ?_
  refine e_iload dL_law_471 rfl ?_
  refine e_iconst (v := 1) dL_law_473 (by decide) ?_
  refine e_iadd dL_law_474 ?_
  refine e_scr hN hx0 hx5 (by decide +kernel) (by decide +kernel) dL_law_475 ?_
  refine e_aload_n dL_law_476 rfl rfl ?_
  refine e_iload dL_law_477 rfl ?_
  refine e_iconst (v := 2) dL_law_479 (by decide) ?_
  refine e_iadd dL_law_480 ?_
  refine e_scr hN hx0 hx5 (by decide +kernel) (by decide +kernel) dL_law_481 ?_
  refine e_aload_n dL_law_482 rfl rfl ?_
  refine e_invSH (hh := [(0, 10, 13, 26), (0, 10, 17, 13)]) (mcY := 2) (msY := 12) (ct_L_spring (S := S) (μ := μ) (o := o) (Nat.le_of_ble_eq_true rfl) (ct_X6_spring hl0 rfl hS.1.2.1) ?_ ?_) vL_spring wM_L_106 dL_law_483 rfl rfl (Nat.le_of_ble_eq_true rfl) (Nat.le_trans (Nat.le_of_ble_eq_true rfl) hJ) ?_
  · rintro v a ⟨⟨rfl, rfl⟩, -⟩
    exact ⟨_, rfl, lwH_out G b _ μ o⟩
  · rintro E a (⟨⟨rfl, -⟩, -⟩ | ⟨⟨rfl, -⟩, -⟩)
    · exact Or.inl rfl
    · exact Or.inr (rfl)
  rintro _ a1 (⟨r, a0, hp, rfl, rfl⟩ | ⟨hx, rfl⟩ | ⟨hx, rfl⟩)
  · skip
    obtain ⟨⟨hv, rfl⟩, c1, c2⟩ := hp
    injection hv with hv
    injection hv with hv
    refine ev_as (lwH_put G b _ μ o _) ?_
    refine e_istore dL_law_486 (Nat.le_of_ble_eq_true rfl) ?_
    refine e_aload_n dL_law_488 rfl rfl ?_
    refine e_aload_n dL_law_489 rfl rfl ?_
    refine e_iload dL_law_490 rfl ?_
    refine e_iconst (v := 1) dL_law_492 (by decide) ?_
    refine e_iadd dL_law_493 ?_
    refine e_scr hN hx0 hx5 (by decide +kernel) (by decide +kernel) dL_law_494 ?_
    refine e_aload_n dL_law_495 rfl rfl ?_
    refine e_iload dL_law_496 rfl ?_
    refine e_iconst (v := 2) dL_law_498 (by decide) ?_
    refine e_iadd dL_law_499 ?_
    refine e_scr hN hx0 hx5 (by decide +kernel) (by decide +kernel) dL_law_500 ?_
    refine ev_as (lwH_mo G b _ μ _) ?_
    refine e_invV (mcY := 0) (msY := 0) (ct_X7_spring (σ := S.2.2.2 0) hS.1.1 hS.1.2.1 hS.1.2.2.1) vX7_spring wM_L_108 (mo_at G (b + 157) _ _ 0 (by decide)) rfl dL_law_501 rfl rfl (Nat.le_of_ble_eq_true rfl) (Nat.le_trans (Nat.le_of_ble_eq_true rfl) hJ) ?_
    rintro _ _ (⟨m1, m2, rfl, rfl⟩ | ⟨m1, rfl, rfl⟩ | ⟨m1, m2, rfl, rfl⟩)
    · skip
      refine e_istore dL_law_504 (Nat.le_of_ble_eq_true rfl) ?_
      refine e_aload_n dL_law_506 rfl rfl ?_
      refine e_invV (mcY := 0) (msY := 0) (ct_X7_thrown) vX7_thrown wM_L_88 (mo_at G (b + 157) _ _ 0 (by decide)) rfl dL_law_507 rfl rfl (Nat.le_of_ble_eq_true rfl) (Nat.le_trans (Nat.le_of_ble_eq_true rfl) hJ) ?_
      rintro _ _ ⟨rfl, rfl⟩
      refine e_iload dL_law_510 rfl ?_
      refine e_icmp_eq (tgt := 517) dL_law_512 (by decide) (fun _ => ?_) (fun q9 => absurd (ev_u_self μ.1 0 (0 : Int32)) q9)
      refine e_iload dL_law_517 rfl ?_
      refine e_if_ne (tgt := 534) dL_law_519 (by decide) (fun q9 => absurd rfl q9) (fun _ => ?_)
      refine ev_as (lwH_mo G b _ _ _).symm ?_
      refine e_aload_n dL_law_522 rfl rfl ?_
      refine e_iconst (v := 0) dL_law_523 (by decide) ?_
      refine e_lald (N := 1) (lwH_out G b _ _ _) (by decide +kernel) (by decide +kernel) dL_law_524 ?_
      refine e_iload dL_law_525 rfl ?_
      refine e_i2l dL_law_527 ?_
      refine e_lcmp dL_law_528 ?_
      refine e_if_eq (tgt := 534) dL_law_529 (by decide) (fun _ => ?_) (fun q9 => absurd (lw_cmp ((ev_u_self _ _ _).trans (congrArg Int32.toInt64 hv))) q9)
      refine e_goto (tgt := 1438) dL_law_534 (by decide) ?_
      exact ev_lc (hk _ _ _ ((hS.int (by decide) 0).up (by omega))) ⟨rfl, rfl, rfl, rfl, rfl, trivial⟩
    · exact absurd c1 m1
    · exact absurd c2 m2
  · skip
    rcases hx with ⟨⟨-, rfl⟩, d1⟩ | ⟨⟨e9, -⟩, -⟩
    · skip
      refine e_istore dL_law_486 (Nat.le_of_ble_eq_true rfl) ?_
      refine e_aload_n dL_law_488 rfl rfl ?_
      refine e_aload_n dL_law_489 rfl rfl ?_
      refine e_iload dL_law_490 rfl ?_
      refine e_iconst (v := 1) dL_law_492 (by decide) ?_
      refine e_iadd dL_law_493 ?_
      refine e_scr hN hx0 hx5 (by decide +kernel) (by decide +kernel) dL_law_494 ?_
      refine e_aload_n dL_law_495 rfl rfl ?_
      refine e_iload dL_law_496 rfl ?_
      refine e_iconst (v := 2) dL_law_498 (by decide) ?_
      refine e_iadd dL_law_499 ?_
      refine e_scr hN hx0 hx5 (by decide +kernel) (by decide +kernel) dL_law_500 ?_
      refine ev_as (lwH_mo G b _ μ _) ?_
      refine e_invV (mcY := 0) (msY := 0) (ct_X7_spring (σ := S.2.2.2 0) hS.1.1 hS.1.2.1 hS.1.2.2.1) vX7_spring wM_L_108 (mo_at G (b + 157) _ _ 0 (by decide)) rfl dL_law_501 rfl rfl (Nat.le_of_ble_eq_true rfl) (Nat.le_trans (Nat.le_of_ble_eq_true rfl) hJ) ?_
      rintro _ _ (⟨m1, m2, rfl, rfl⟩ | ⟨m1, rfl, rfl⟩ | ⟨m1, m2, rfl, rfl⟩)
      · exact absurd m1 d1
      · skip
        refine e_istore dL_law_504 (Nat.le_of_ble_eq_true rfl) ?_
        refine e_aload_n dL_law_506 rfl rfl ?_
        refine e_invV (mcY := 0) (msY := 0) (ct_X7_thrown) vX7_thrown wM_L_88 (mo_at G (b + 157) _ _ 0 (by decide)) rfl dL_law_507 rfl rfl (Nat.le_of_ble_eq_true rfl) (Nat.le_trans (Nat.le_of_ble_eq_true rfl) hJ) ?_
        rintro _ _ ⟨rfl, rfl⟩
        refine e_iload dL_law_510 rfl ?_
        refine e_icmp_eq (tgt := 517) dL_law_512 (by decide) (fun _ => ?_) (fun q9 => absurd (ev_u_self μ.1 0 (1 : Int32)) q9)
        refine e_iload dL_law_517 rfl ?_
        refine e_if_ne (tgt := 534) dL_law_519 (by decide) (fun _ => ?_) (fun q9 => absurd q9 (by decide))
        refine ev_as (lwH_mo G b _ _ _).symm ?_
        refine e_goto (tgt := 1438) dL_law_534 (by decide) ?_
        exact ev_lc (hk _ _ _ ((hS.int (by decide) 1).up (by omega))) ⟨rfl, rfl, rfl, rfl, rfl, trivial⟩
      · exact absurd m1 d1
    · exact absurd e9 (by decide +kernel)
  · skip
    rcases hx with ⟨⟨e9, -⟩, -⟩ | ⟨⟨-, rfl⟩, c1, d2⟩
    · exact absurd e9 (by decide +kernel)
    refine e_istore dL_law_486 (Nat.le_of_ble_eq_true rfl) ?_
    refine e_aload_n dL_law_488 rfl rfl ?_
    refine e_aload_n dL_law_489 rfl rfl ?_
    refine e_iload dL_law_490 rfl ?_
    refine e_iconst (v := 1) dL_law_492 (by decide) ?_
    refine e_iadd dL_law_493 ?_
    refine e_scr hN hx0 hx5 (by decide +kernel) (by decide +kernel) dL_law_494 ?_
    refine e_aload_n dL_law_495 rfl rfl ?_
    refine e_iload dL_law_496 rfl ?_
    refine e_iconst (v := 2) dL_law_498 (by decide) ?_
    refine e_iadd dL_law_499 ?_
    refine e_scr hN hx0 hx5 (by decide +kernel) (by decide +kernel) dL_law_500 ?_
    refine ev_as (lwH_mo G b _ μ _) ?_
    refine e_invV (mcY := 0) (msY := 0) (ct_X7_spring (σ := S.2.2.2 0) hS.1.1 hS.1.2.1 hS.1.2.2.1) vX7_spring wM_L_108 (mo_at G (b + 157) _ _ 0 (by decide)) rfl dL_law_501 rfl rfl (Nat.le_of_ble_eq_true rfl) (Nat.le_trans (Nat.le_of_ble_eq_true rfl) hJ) ?_
    rintro _ _ (⟨m1, m2, rfl, rfl⟩ | ⟨m1, rfl, rfl⟩ | ⟨m1, m2, rfl, rfl⟩)
    · exact absurd m2 d2
    · exact absurd c1 m1
    · skip
      refine e_istore dL_law_504 (Nat.le_of_ble_eq_true rfl) ?_
      refine e_aload_n dL_law_506 rfl rfl ?_
      refine e_invV (mcY := 0) (msY := 0) (ct_X7_thrown) vX7_thrown wM_L_88 (mo_at G (b + 157) _ _ 0 (by decide)) rfl dL_law_507 rfl rfl (Nat.le_of_ble_eq_true rfl) (Nat.le_trans (Nat.le_of_ble_eq_true rfl) hJ) ?_
      rintro _ _ ⟨rfl, rfl⟩
      refine e_iload dL_law_510 rfl ?_
      refine e_icmp_eq (tgt := 517) dL_law_512 (by decide) (fun _ => ?_) (fun q9 => absurd (ev_u_self μ.1 0 (2 : Int32)) q9)
      refine e_iload dL_law_517 rfl ?_
      refine e_if_ne (tgt := 534) dL_law_519 (by decide) (fun _ => ?_) (fun q9 => absurd q9 (by decide))
      refine ev_as (lwH_mo G b _ _ _).symm ?_
      refine e_goto (tgt := 1438) dL_law_534 (by decide) ?_
      exact ev_lc (hk _ _ _ ((hS.int (by decide) 2).up (by omega))) ⟨rfl, rfl, rfl, rfl, rfl, trivial⟩
set_option maxRecDepth 20000 in
set_option maxHeartbeats 1000000 in
theorem lc_noted (hJ : 13 ≤ J.2.2.1) (hkd : J.1 = true) (hl0 : l.stackTraces = false) (hN : G.2.2.2.1.2.1 ≤ 3072) (hx0 : 0 ≤ x.toInt) (hx5 : x.toInt + 5 < (G.2.2.2.1.2.1 : Int)) (hS : RS T S μ) (hT0 : 0 ≤ T) (hT : T < 2147000000) (hk : ∀ S' μ' o', RS (T + 50) S' μ' → ev_V G l mL_law J 1438 (lwL G b x) [] (lwH G b S' μ' o') k n) : ev_V G l mL_law J 537 (lwL G b x) [] (lwH G b S μ o) (k + 2) (n + 12) := by
  refine e_aload_n dL_law_537 rfl rfl ?_
  refine e_aload_n dL_law_538 rfl rfl ?_
  refine e_iload dL_law_539 rfl ?_
  refine e_iconst (v := 1) dL_law_541 (by decide) ?_
  refine e_iadd dL_law_542 ?_
  refine e_scr hN hx0 hx5 (by decide +kernel) (by decide +kernel) dL_law_543 ?_
  refine e_aload_n dL_law_544 rfl rfl ?_
  refine e_iload dL_law_545 rfl ?_
  refine e_iconst (v := 2) dL_law_547 (by decide) ?_
  refine e_iadd dL_law_548 ?_
  refine e_scr hN hx0 hx5 (by decide +kernel) (by decide +kernel) dL_law_549 ?_
  refine e_aload_n dL_law_550 rfl rfl ?_
  refine e_invSH (hh := [(0, 10, 13, 34), (0, 10, 17, 13)]) (mcY := 2) (msY := 12) (ct_L_noted (S := S) (μ := μ) (o := o) (Nat.le_of_ble_eq_true rfl) (ct_X6_noted hl0 rfl hS.1.2.1) ?_ ?_) vL_noted wM_L_109 dL_law_551 rfl rfl (Nat.le_of_ble_eq_true rfl) (Nat.le_trans (Nat.le_of_ble_eq_true rfl) hJ) ?_
  · rintro v a ⟨⟨rfl, rfl⟩, -⟩
    exact ⟨_, rfl, lwH_out G b _ μ o⟩
  · rintro E a (⟨⟨rfl, -⟩, -⟩ | ⟨⟨rfl, -⟩, -⟩)
    · exact Or.inl rfl
    · exact Or.inr (rfl)
  rintro _ a1 (⟨r, a0, hp, rfl, rfl⟩ | ⟨hx, rfl⟩ | ⟨hx, rfl⟩)
  · skip
    obtain ⟨⟨hv, rfl⟩, c1, c2⟩ := hp
    injection hv with hv
    injection hv with hv
    refine ev_as (lwH_put G b _ μ o _) ?_
    refine e_istore dL_law_554 (Nat.le_of_ble_eq_true rfl) ?_
    refine e_aload_n dL_law_556 rfl rfl ?_
    refine e_aload_n dL_law_557 rfl rfl ?_
    refine e_iload dL_law_558 rfl ?_
    refine e_iconst (v := 1) dL_law_560 (by decide) ?_
    refine e_iadd dL_law_561 ?_
    refine e_scr hN hx0 hx5 (by decide +kernel) (by decide +kernel) dL_law_562 ?_
    refine e_aload_n dL_law_563 rfl rfl ?_
    refine e_iload dL_law_564 rfl ?_
    refine e_iconst (v := 2) dL_law_566 (by decide) ?_
    refine e_iadd dL_law_567 ?_
    refine e_scr hN hx0 hx5 (by decide +kernel) (by decide +kernel) dL_law_568 ?_
    refine ev_as (lwH_mo G b _ μ _) ?_
    refine e_invV (mcY := 0) (msY := 0) (ct_X7_noted (σ := S.2.2.2 0) hS.1.1 hS.1.2.1) vX7_noted wM_L_111 (mo_at G (b + 157) _ _ 0 (by decide)) rfl dL_law_569 rfl rfl (Nat.le_of_ble_eq_true rfl) (Nat.le_trans (Nat.le_of_ble_eq_true rfl) hJ) ?_
    rintro _ _ (⟨m1, m2, rfl, rfl⟩ | ⟨m1, rfl, rfl⟩ | ⟨m1, m2, rfl, rfl⟩)
    · skip
      refine e_istore dL_law_572 (Nat.le_of_ble_eq_true rfl) ?_
      refine e_aload_n dL_law_574 rfl rfl ?_
      refine e_invV (mcY := 0) (msY := 0) (ct_X7_thrown) vX7_thrown wM_L_88 (mo_at G (b + 157) _ _ 0 (by decide)) rfl dL_law_575 rfl rfl (Nat.le_of_ble_eq_true rfl) (Nat.le_trans (Nat.le_of_ble_eq_true rfl) hJ) ?_
      rintro _ _ ⟨rfl, rfl⟩
      refine e_iload dL_law_578 rfl ?_
      refine e_icmp_eq (tgt := 585) dL_law_580 (by decide) (fun _ => ?_) (fun q9 => absurd (ev_u_self μ.1 0 (0 : Int32)) q9)
      refine e_iload dL_law_585 rfl ?_
      refine e_if_ne (tgt := 602) dL_law_587 (by decide) (fun q9 => absurd rfl q9) (fun _ => ?_)
      refine ev_as (lwH_mo G b _ _ _).symm ?_
      refine e_aload_n dL_law_590 rfl rfl ?_
      refine e_iconst (v := 0) dL_law_591 (by decide) ?_
      refine e_lald (N := 1) (lwH_out G b _ _ _) (by decide +kernel) (by decide +kernel) dL_law_592 ?_
      refine e_iload dL_law_593 rfl ?_
      refine e_i2l dL_law_595 ?_
      refine e_lcmp dL_law_596 ?_
      refine e_if_eq (tgt := 602) dL_law_597 (by decide) (fun _ => ?_) (fun q9 => absurd (lw_cmp ((ev_u_self _ _ _).trans (congrArg Int32.toInt64 hv))) q9)
      refine e_goto (tgt := 1438) dL_law_602 (by decide) ?_
      exact ev_lc (hk _ _ _ ((hS.int (by decide) 0).up (by omega))) ⟨rfl, rfl, rfl, rfl, rfl, trivial⟩
    · exact absurd c1 m1
    · exact absurd c2 m2
  · skip
    rcases hx with ⟨⟨-, rfl⟩, d1⟩ | ⟨⟨e9, -⟩, -⟩
    · skip
      refine e_istore dL_law_554 (Nat.le_of_ble_eq_true rfl) ?_
      refine e_aload_n dL_law_556 rfl rfl ?_
      refine e_aload_n dL_law_557 rfl rfl ?_
      refine e_iload dL_law_558 rfl ?_
      refine e_iconst (v := 1) dL_law_560 (by decide) ?_
      refine e_iadd dL_law_561 ?_
      refine e_scr hN hx0 hx5 (by decide +kernel) (by decide +kernel) dL_law_562 ?_
      refine e_aload_n dL_law_563 rfl rfl ?_
      refine e_iload dL_law_564 rfl ?_
      refine e_iconst (v := 2) dL_law_566 (by decide) ?_
      refine e_iadd dL_law_567 ?_
      refine e_scr hN hx0 hx5 (by decide +kernel) (by decide +kernel) dL_law_568 ?_
      refine ev_as (lwH_mo G b _ μ _) ?_
      refine e_invV (mcY := 0) (msY := 0) (ct_X7_noted (σ := S.2.2.2 0) hS.1.1 hS.1.2.1) vX7_noted wM_L_111 (mo_at G (b + 157) _ _ 0 (by decide)) rfl dL_law_569 rfl rfl (Nat.le_of_ble_eq_true rfl) (Nat.le_trans (Nat.le_of_ble_eq_true rfl) hJ) ?_
      rintro _ _ (⟨m1, m2, rfl, rfl⟩ | ⟨m1, rfl, rfl⟩ | ⟨m1, m2, rfl, rfl⟩)
      · exact absurd m1 d1
      · skip
        refine e_istore dL_law_572 (Nat.le_of_ble_eq_true rfl) ?_
        refine e_aload_n dL_law_574 rfl rfl ?_
        refine e_invV (mcY := 0) (msY := 0) (ct_X7_thrown) vX7_thrown wM_L_88 (mo_at G (b + 157) _ _ 0 (by decide)) rfl dL_law_575 rfl rfl (Nat.le_of_ble_eq_true rfl) (Nat.le_trans (Nat.le_of_ble_eq_true rfl) hJ) ?_
        rintro _ _ ⟨rfl, rfl⟩
        refine e_iload dL_law_578 rfl ?_
        refine e_icmp_eq (tgt := 585) dL_law_580 (by decide) (fun _ => ?_) (fun q9 => absurd (ev_u_self μ.1 0 (1 : Int32)) q9)
        refine e_iload dL_law_585 rfl ?_
        refine e_if_ne (tgt := 602) dL_law_587 (by decide) (fun _ => ?_) (fun q9 => absurd q9 (by decide))
        refine ev_as (lwH_mo G b _ _ _).symm ?_
        refine e_goto (tgt := 1438) dL_law_602 (by decide) ?_
        exact ev_lc (hk _ _ _ ((hS.int (by decide) 1).up (by omega))) ⟨rfl, rfl, rfl, rfl, rfl, trivial⟩
      · exact absurd m1 d1
    · exact absurd e9 (by decide +kernel)
  · skip
    rcases hx with ⟨⟨e9, -⟩, -⟩ | ⟨⟨-, rfl⟩, c1, d2⟩
    · exact absurd e9 (by decide +kernel)
    refine e_istore dL_law_554 (Nat.le_of_ble_eq_true rfl) ?_
    refine e_aload_n dL_law_556 rfl rfl ?_
    refine e_aload_n dL_law_557 rfl rfl ?_
    refine e_iload dL_law_558 rfl ?_
    refine e_iconst (v := 1) dL_law_560 (by decide) ?_
    refine e_iadd dL_law_561 ?_
    refine e_scr hN hx0 hx5 (by decide +kernel) (by decide +kernel) dL_law_562 ?_
    refine e_aload_n dL_law_563 rfl rfl ?_
    refine e_iload dL_law_564 rfl ?_
    refine e_iconst (v := 2) dL_law_566 (by decide) ?_
    refine e_iadd dL_law_567 ?_
    refine e_scr hN hx0 hx5 (by decide +kernel) (by decide +kernel) dL_law_568 ?_
    refine ev_as (lwH_mo G b _ μ _) ?_
    refine e_invV (mcY := 0) (msY := 0) (ct_X7_noted (σ := S.2.2.2 0) hS.1.1 hS.1.2.1) vX7_noted wM_L_111 (mo_at G (b + 157) _ _ 0 (by decide)) rfl dL_law_569 rfl rfl (Nat.le_of_ble_eq_true rfl) (Nat.le_trans (Nat.le_of_ble_eq_true rfl) hJ) ?_
    rintro _ _ (⟨m1, m2, rfl, rfl⟩ | ⟨m1, rfl, rfl⟩ | ⟨m1, m2, rfl, rfl⟩)
    · exact absurd m2 d2
    · exact absurd c1 m1
    · skip
      refine e_istore dL_law_572 (Nat.le_of_ble_eq_true rfl) ?_
      refine e_aload_n dL_law_574 rfl rfl ?_
      refine e_invV (mcY := 0) (msY := 0) (ct_X7_thrown) vX7_thrown wM_L_88 (mo_at G (b + 157) _ _ 0 (by decide)) rfl dL_law_575 rfl rfl (Nat.le_of_ble_eq_true rfl) (Nat.le_trans (Nat.le_of_ble_eq_true rfl) hJ) ?_
      rintro _ _ ⟨rfl, rfl⟩
      refine e_iload dL_law_578 rfl ?_
      refine e_icmp_eq (tgt := 585) dL_law_580 (by decide) (fun _ => ?_) (fun q9 => absurd (ev_u_self μ.1 0 (2 : Int32)) q9)
      refine e_iload dL_law_585 rfl ?_
      refine e_if_ne (tgt := 602) dL_law_587 (by decide) (fun _ => ?_) (fun q9 => absurd q9 (by decide))
      refine ev_as (lwH_mo G b _ _ _).symm ?_
      refine e_goto (tgt := 1438) dL_law_602 (by decide) ?_
      exact ev_lc (hk _ _ _ ((hS.int (by decide) 2).up (by omega))) ⟨rfl, rfl, rfl, rfl, rfl, trivial⟩
set_option maxRecDepth 20000 in
set_option maxHeartbeats 1000000 in
theorem lc_waiting (hJ : 13 ≤ J.2.2.1) (hkd : J.1 = true) (hl0 : l.stackTraces = false) (hN : G.2.2.2.1.2.1 ≤ 3072) (hx0 : 0 ≤ x.toInt) (hx5 : x.toInt + 5 < (G.2.2.2.1.2.1 : Int)) (hS : RS T S μ) (hT0 : 0 ≤ T) (hT : T < 2147000000) (hk : ∀ S' μ' o', RS (T + 50) S' μ' → ev_V G l mL_law J 1438 (lwL G b x) [] (lwH G b S' μ' o') k n) : ev_V G l mL_law J 605 (lwL G b x) [] (lwH G b S μ o) (k + 2) (n + 12) := by
  refine e_aload_n dL_law_605 rfl rfl ?_
  refine e_aload_n dL_law_606 rfl rfl ?_
  refine e_iload dL_law_607 rfl ?_
  refine e_iconst (v := 1) dL_law_609 (by decide) ?_
  refine e_iadd dL_law_610 ?_
  refine e_scr hN hx0 hx5 (by decide +kernel) (by decide +kernel) dL_law_611 ?_
  refine e_aload_n dL_law_612 rfl rfl ?_
  refine e_iload dL_law_613 rfl ?_
  refine e_iconst (v := 2) dL_law_615 (by decide) ?_
  refine e_iadd dL_law_616 ?_
  refine e_scr hN hx0 hx5 (by decide +kernel) (by decide +kernel) dL_law_617 ?_
  refine e_aload_n dL_law_618 rfl rfl ?_
  refine e_invSH (hh := [(0, 10, 13, 34), (0, 10, 17, 13)]) (mcY := 2) (msY := 12) (ct_L_waiting (S := S) (μ := μ) (o := o) (Nat.le_of_ble_eq_true rfl) (ct_X6_waiting hl0 rfl hS.1.2.1) ?_ ?_) vL_waiting wM_L_112 dL_law_619 rfl rfl (Nat.le_of_ble_eq_true rfl) (Nat.le_trans (Nat.le_of_ble_eq_true rfl) hJ) ?_
  · rintro v a ⟨⟨rfl, rfl⟩, -⟩
    exact ⟨_, rfl, lwH_out G b _ μ o⟩
  · rintro E a (⟨⟨rfl, -⟩, -⟩ | ⟨⟨rfl, -⟩, -⟩)
    · exact Or.inl rfl
    · exact Or.inr (rfl)
  rintro _ a1 (⟨r, a0, hp, rfl, rfl⟩ | ⟨hx, rfl⟩ | ⟨hx, rfl⟩)
  · skip
    obtain ⟨⟨hv, rfl⟩, c1, c2⟩ := hp
    injection hv with hv
    injection hv with hv
    refine ev_as (lwH_put G b _ μ o _) ?_
    refine e_istore dL_law_622 (Nat.le_of_ble_eq_true rfl) ?_
    refine e_aload_n dL_law_624 rfl rfl ?_
    refine e_aload_n dL_law_625 rfl rfl ?_
    refine e_iload dL_law_626 rfl ?_
    refine e_iconst (v := 1) dL_law_628 (by decide) ?_
    refine e_iadd dL_law_629 ?_
    refine e_scr hN hx0 hx5 (by decide +kernel) (by decide +kernel) dL_law_630 ?_
    refine e_aload_n dL_law_631 rfl rfl ?_
    refine e_iload dL_law_632 rfl ?_
    refine e_iconst (v := 2) dL_law_634 (by decide) ?_
    refine e_iadd dL_law_635 ?_
    refine e_scr hN hx0 hx5 (by decide +kernel) (by decide +kernel) dL_law_636 ?_
    refine ev_as (lwH_mo G b _ μ _) ?_
    refine e_invV (mcY := 0) (msY := 0) (ct_X7_waiting (σ := S.2.2.2 0) hS.1.1 hS.1.2.1) vX7_waiting wM_L_114 (mo_at G (b + 157) _ _ 0 (by decide)) rfl dL_law_637 rfl rfl (Nat.le_of_ble_eq_true rfl) (Nat.le_trans (Nat.le_of_ble_eq_true rfl) hJ) ?_
    rintro _ _ (⟨m1, m2, rfl, rfl⟩ | ⟨m1, rfl, rfl⟩ | ⟨m1, m2, rfl, rfl⟩)
    · skip
      refine e_istore dL_law_640 (Nat.le_of_ble_eq_true rfl) ?_
      refine e_aload_n dL_law_642 rfl rfl ?_
      refine e_invV (mcY := 0) (msY := 0) (ct_X7_thrown) vX7_thrown wM_L_88 (mo_at G (b + 157) _ _ 0 (by decide)) rfl dL_law_643 rfl rfl (Nat.le_of_ble_eq_true rfl) (Nat.le_trans (Nat.le_of_ble_eq_true rfl) hJ) ?_
      rintro _ _ ⟨rfl, rfl⟩
      refine e_iload dL_law_646 rfl ?_
      refine e_icmp_eq (tgt := 653) dL_law_648 (by decide) (fun _ => ?_) (fun q9 => absurd (ev_u_self μ.1 0 (0 : Int32)) q9)
      refine e_iload dL_law_653 rfl ?_
      refine e_if_ne (tgt := 670) dL_law_655 (by decide) (fun q9 => absurd rfl q9) (fun _ => ?_)
      refine ev_as (lwH_mo G b _ _ _).symm ?_
      refine e_aload_n dL_law_658 rfl rfl ?_
      refine e_iconst (v := 0) dL_law_659 (by decide) ?_
      refine e_lald (N := 1) (lwH_out G b _ _ _) (by decide +kernel) (by decide +kernel) dL_law_660 ?_
      refine e_iload dL_law_661 rfl ?_
      refine e_i2l dL_law_663 ?_
      refine e_lcmp dL_law_664 ?_
      refine e_if_eq (tgt := 670) dL_law_665 (by decide) (fun _ => ?_) (fun q9 => absurd (lw_cmp ((ev_u_self _ _ _).trans (congrArg Int32.toInt64 hv))) q9)
      refine e_goto (tgt := 1438) dL_law_670 (by decide) ?_
      exact ev_lc (hk _ _ _ ((hS.int (by decide) 0).up (by omega))) ⟨rfl, rfl, rfl, rfl, rfl, trivial⟩
    · exact absurd c1 m1
    · exact absurd c2 m2
  · skip
    rcases hx with ⟨⟨-, rfl⟩, d1⟩ | ⟨⟨e9, -⟩, -⟩
    · skip
      refine e_istore dL_law_622 (Nat.le_of_ble_eq_true rfl) ?_
      refine e_aload_n dL_law_624 rfl rfl ?_
      refine e_aload_n dL_law_625 rfl rfl ?_
      refine e_iload dL_law_626 rfl ?_
      refine e_iconst (v := 1) dL_law_628 (by decide) ?_
      refine e_iadd dL_law_629 ?_
      refine e_scr hN hx0 hx5 (by decide +kernel) (by decide +kernel) dL_law_630 ?_
      refine e_aload_n dL_law_631 rfl rfl ?_
      refine e_iload dL_law_632 rfl ?_
      refine e_iconst (v := 2) dL_law_634 (by decide) ?_
      refine e_iadd dL_law_635 ?_
      refine e_scr hN hx0 hx5 (by decide +kernel) (by decide +kernel) dL_law_636 ?_
      refine ev_as (lwH_mo G b _ μ _) ?_
      refine e_invV (mcY := 0) (msY := 0) (ct_X7_waiting (σ := S.2.2.2 0) hS.1.1 hS.1.2.1) vX7_waiting wM_L_114 (mo_at G (b + 157) _ _ 0 (by decide)) rfl dL_law_637 rfl rfl (Nat.le_of_ble_eq_true rfl) (Nat.le_trans (Nat.le_of_ble_eq_true rfl) hJ) ?_
      rintro _ _ (⟨m1, m2, rfl, rfl⟩ | ⟨m1, rfl, rfl⟩ | ⟨m1, m2, rfl, rfl⟩)
      · exact absurd m1 d1
      · skip
        refine e_istore dL_law_640 (Nat.le_of_ble_eq_true rfl) ?_
        refine e_aload_n dL_law_642 rfl rfl ?_
        refine e_invV (mcY := 0) (msY := 0) (ct_X7_thrown) vX7_thrown wM_L_88 (mo_at G (b + 157) _ _ 0 (by decide)) rfl dL_law_643 rfl rfl (Nat.le_of_ble_eq_true rfl) (Nat.le_trans (Nat.le_of_ble_eq_true rfl) hJ) ?_
        rintro _ _ ⟨rfl, rfl⟩
        refine e_iload dL_law_646 rfl ?_
        refine e_icmp_eq (tgt := 653) dL_law_648 (by decide) (fun _ => ?_) (fun q9 => absurd (ev_u_self μ.1 0 (1 : Int32)) q9)
        refine e_iload dL_law_653 rfl ?_
        refine e_if_ne (tgt := 670) dL_law_655 (by decide) (fun _ => ?_) (fun q9 => absurd q9 (by decide))
        refine ev_as (lwH_mo G b _ _ _).symm ?_
        refine e_goto (tgt := 1438) dL_law_670 (by decide) ?_
        exact ev_lc (hk _ _ _ ((hS.int (by decide) 1).up (by omega))) ⟨rfl, rfl, rfl, rfl, rfl, trivial⟩
      · exact absurd m1 d1
    · exact absurd e9 (by decide +kernel)
  · skip
    rcases hx with ⟨⟨e9, -⟩, -⟩ | ⟨⟨-, rfl⟩, c1, d2⟩
    · exact absurd e9 (by decide +kernel)
    refine e_istore dL_law_622 (Nat.le_of_ble_eq_true rfl) ?_
    refine e_aload_n dL_law_624 rfl rfl ?_
    refine e_aload_n dL_law_625 rfl rfl ?_
    refine e_iload dL_law_626 rfl ?_
    refine e_iconst (v := 1) dL_law_628 (by decide) ?_
    refine e_iadd dL_law_629 ?_
    refine e_scr hN hx0 hx5 (by decide +kernel) (by decide +kernel) dL_law_630 ?_
    refine e_aload_n dL_law_631 rfl rfl ?_
    refine e_iload dL_law_632 rfl ?_
    refine e_iconst (v := 2) dL_law_634 (by decide) ?_
    refine e_iadd dL_law_635 ?_
    refine e_scr hN hx0 hx5 (by decide +kernel) (by decide +kernel) dL_law_636 ?_
    refine ev_as (lwH_mo G b _ μ _) ?_
    refine e_invV (mcY := 0) (msY := 0) (ct_X7_waiting (σ := S.2.2.2 0) hS.1.1 hS.1.2.1) vX7_waiting wM_L_114 (mo_at G (b + 157) _ _ 0 (by decide)) rfl dL_law_637 rfl rfl (Nat.le_of_ble_eq_true rfl) (Nat.le_trans (Nat.le_of_ble_eq_true rfl) hJ) ?_
    rintro _ _ (⟨m1, m2, rfl, rfl⟩ | ⟨m1, rfl, rfl⟩ | ⟨m1, m2, rfl, rfl⟩)
    · exact absurd m2 d2
    · exact absurd c1 m1
    · skip
      refine e_istore dL_law_640 (Nat.le_of_ble_eq_true rfl) ?_
      refine e_aload_n dL_law_642 rfl rfl ?_
      refine e_invV (mcY := 0) (msY := 0) (ct_X7_thrown) vX7_thrown wM_L_88 (mo_at G (b + 157) _ _ 0 (by decide)) rfl dL_law_643 rfl rfl (Nat.le_of_ble_eq_true rfl) (Nat.le_trans (Nat.le_of_ble_eq_true rfl) hJ) ?_
      rintro _ _ ⟨rfl, rfl⟩
      refine e_iload dL_law_646 rfl ?_
      refine e_icmp_eq (tgt := 653) dL_law_648 (by decide) (fun _ => ?_) (fun q9 => absurd (ev_u_self μ.1 0 (2 : Int32)) q9)
      refine e_iload dL_law_653 rfl ?_
      refine e_if_ne (tgt := 670) dL_law_655 (by decide) (fun _ => ?_) (fun q9 => absurd q9 (by decide))
      refine ev_as (lwH_mo G b _ _ _).symm ?_
      refine e_goto (tgt := 1438) dL_law_670 (by decide) ?_
      exact ev_lc (hk _ _ _ ((hS.int (by decide) 2).up (by omega))) ⟨rfl, rfl, rfl, rfl, rfl, trivial⟩
set_option maxRecDepth 20000 in
set_option maxHeartbeats 1000000 in
theorem lc_foretold (hJ : 13 ≤ J.2.2.1) (hkd : J.1 = true) (hl0 : l.stackTraces = false) (hN : G.2.2.2.1.2.1 ≤ 3072) (hx0 : 0 ≤ x.toInt) (hx5 : x.toInt + 5 < (G.2.2.2.1.2.1 : Int)) (hS : RS T S μ) (hT0 : 0 ≤ T) (hT : T < 2147000000) (hk : ∀ S' μ' o', RS (T + 50) S' μ' → ev_V G l mL_law J 1438 (lwL G b x) [] (lwH G b S' μ' o') k n) : ev_V G l mL_law J 673 (lwL G b x) [] (lwH G b S μ o) (k + 3) (n + 18) := by
  refine e_aload_n dL_law_673 rfl rfl ?_
  refine e_aload_n dL_law_674 rfl rfl ?_
  refine e_iload dL_law_675 rfl ?_
  refine e_iconst (v := 1) dL_law_677 (by decide) ?_
  refine e_iadd dL_law_678 ?_
  refine e_scr hN hx0 hx5 (by decide +kernel) (by decide +kernel) dL_law_679 ?_
  refine e_aload_n dL_law_680 rfl rfl ?_
  refine e_iload dL_law_681 rfl ?_
  refine e_iconst (v := 2) dL_law_683 (by decide) ?_
  refine e_iadd dL_law_684 ?_
  refine e_scr hN hx0 hx5 (by decide +kernel) (by decide +kernel) dL_law_685 ?_
  refine e_aload_n dL_law_686 rfl rfl ?_
  refine e_iload dL_law_687 rfl ?_
  refine e_iconst (v := 3) dL_law_689 (by decide) ?_
  refine e_iadd dL_law_690 ?_
  refine e_scr hN hx0 hx5 (by decide +kernel) (by decide +kernel) dL_law_691 ?_
  refine e_aload_n dL_law_692 rfl rfl ?_
  refine e_invSH (hh := [(0, 12, 15, 26), (0, 12, 19, 13)]) (mcY := 3) (msY := 18) (ct_L_foretold (S := S) (μ := μ) (o := o) (Nat.le_of_ble_eq_true rfl) (ct_X6_foretold hl0 rfl (hS.1.bec (S.2.2.2 1)).2.1) ?_ ?_) vL_foretold wM_L_115 dL_law_693 rfl rfl (Nat.le_of_ble_eq_true rfl) (Nat.le_trans (Nat.le_of_ble_eq_true rfl) hJ) ?_
  · rintro v a ⟨⟨rfl, τ, rfl⟩, -⟩
    exact ⟨_, rfl, lwH_out G b _ μ o⟩
  · rintro E a (⟨⟨rfl, -⟩, -⟩ | ⟨⟨rfl, -⟩, -⟩)
    · exact Or.inl rfl
    · exact Or.inr (rfl)
  rintro _ a1 (⟨r, a0, hp, rfl, rfl⟩ | ⟨hx, rfl⟩ | ⟨hx, rfl⟩)
  · skip
    obtain ⟨⟨hv, τ, rfl⟩, c1, c2⟩ := hp
    injection hv with hv
    injection hv with hv
    refine ev_as (lwH_put G b _ μ o _) ?_
    refine e_istore dL_law_696 (Nat.le_of_ble_eq_true rfl) ?_
    refine e_aload_n dL_law_698 rfl rfl ?_
    refine e_aload_n dL_law_699 rfl rfl ?_
    refine e_iload dL_law_700 rfl ?_
    refine e_iconst (v := 1) dL_law_702 (by decide) ?_
    refine e_iadd dL_law_703 ?_
    refine e_scr hN hx0 hx5 (by decide +kernel) (by decide +kernel) dL_law_704 ?_
    refine e_aload_n dL_law_705 rfl rfl ?_
    refine e_iload dL_law_706 rfl ?_
    refine e_iconst (v := 2) dL_law_708 (by decide) ?_
    refine e_iadd dL_law_709 ?_
    refine e_scr hN hx0 hx5 (by decide +kernel) (by decide +kernel) dL_law_710 ?_
    refine e_aload_n dL_law_711 rfl rfl ?_
    refine e_iload dL_law_712 rfl ?_
    refine e_iconst (v := 3) dL_law_714 (by decide) ?_
    refine e_iadd dL_law_715 ?_
    refine e_scr hN hx0 hx5 (by decide +kernel) (by decide +kernel) dL_law_716 ?_
    refine ev_as (lwH_mo G b _ μ _) ?_
    refine e_invV (mcY := 0) (msY := 0) (ct_X7_foretold (σ := sDr S) (hS.1.bec (S.2.2.2 1)) hT) vX7_foretold wM_L_118 (mo_at G (b + 157) _ _ 0 (by decide)) rfl dL_law_717 rfl rfl (Nat.le_of_ble_eq_true rfl) (Nat.le_trans (Nat.le_of_ble_eq_true rfl) hJ) ?_
    rintro _ _ (⟨m1, m2, rfl, μ₁, hM, rfl⟩ | ⟨m1, rfl, rfl⟩ | ⟨m1, m2, rfl, rfl⟩)
    · skip
      refine e_istore dL_law_720 (Nat.le_of_ble_eq_true rfl) ?_
      refine e_aload_n dL_law_722 rfl rfl ?_
      refine e_invV (mcY := 0) (msY := 0) (ct_X7_thrown) vX7_thrown wM_L_88 (mo_at G (b + 157) _ _ 0 (by decide)) rfl dL_law_723 rfl rfl (Nat.le_of_ble_eq_true rfl) (Nat.le_trans (Nat.le_of_ble_eq_true rfl) hJ) ?_
      rintro _ _ ⟨rfl, rfl⟩
      refine e_iload dL_law_726 rfl ?_
      refine e_icmp_eq (tgt := 733) dL_law_728 (by decide) (fun _ => ?_) (fun q9 => absurd ((congrFun hM.1 0).trans (ev_u_self μ.1 0 (0 : Int32))) q9)
      refine e_iload dL_law_733 rfl ?_
      refine e_if_ne (tgt := 750) dL_law_735 (by decide) (fun q9 => absurd rfl q9) (fun _ => ?_)
      refine ev_as (lwH_mo G b _ _ _).symm ?_
      refine e_aload_n dL_law_738 rfl rfl ?_
      refine e_iconst (v := 0) dL_law_739 (by decide) ?_
      refine e_lald (N := 1) (lwH_out G b _ _ _) (by decide +kernel) (by decide +kernel) dL_law_740 ?_
      refine e_iload dL_law_741 rfl ?_
      refine e_i2l dL_law_743 ?_
      refine e_lcmp dL_law_744 ?_
      refine e_if_eq (tgt := 750) dL_law_745 (by decide) (fun _ => ?_) (fun q9 => absurd (lw_cmp ((ev_u_self _ _ _).trans (congrArg Int32.toInt64 hv))) q9)
      refine e_goto (tgt := 1438) dL_law_750 (by decide) ?_
      exact ev_lc (hk _ _ _ (((hS.same hM).draft τ).up (by omega))) ⟨rfl, rfl, rfl, rfl, rfl, trivial⟩
    · exact absurd c1 m1
    · exact absurd c2 m2
  · skip
    rcases hx with ⟨⟨-, rfl⟩, d1⟩ | ⟨⟨e9, -⟩, -⟩
    · skip
      refine e_istore dL_law_696 (Nat.le_of_ble_eq_true rfl) ?_
      refine e_aload_n dL_law_698 rfl rfl ?_
      refine e_aload_n dL_law_699 rfl rfl ?_
      refine e_iload dL_law_700 rfl ?_
      refine e_iconst (v := 1) dL_law_702 (by decide) ?_
      refine e_iadd dL_law_703 ?_
      refine e_scr hN hx0 hx5 (by decide +kernel) (by decide +kernel) dL_law_704 ?_
      refine e_aload_n dL_law_705 rfl rfl ?_
      refine e_iload dL_law_706 rfl ?_
      refine e_iconst (v := 2) dL_law_708 (by decide) ?_
      refine e_iadd dL_law_709 ?_
      refine e_scr hN hx0 hx5 (by decide +kernel) (by decide +kernel) dL_law_710 ?_
      refine e_aload_n dL_law_711 rfl rfl ?_
      refine e_iload dL_law_712 rfl ?_
      refine e_iconst (v := 3) dL_law_714 (by decide) ?_
      refine e_iadd dL_law_715 ?_
      refine e_scr hN hx0 hx5 (by decide +kernel) (by decide +kernel) dL_law_716 ?_
      refine ev_as (lwH_mo G b _ μ _) ?_
      refine e_invV (mcY := 0) (msY := 0) (ct_X7_foretold (σ := sDr S) (hS.1.bec (S.2.2.2 1)) hT) vX7_foretold wM_L_118 (mo_at G (b + 157) _ _ 0 (by decide)) rfl dL_law_717 rfl rfl (Nat.le_of_ble_eq_true rfl) (Nat.le_trans (Nat.le_of_ble_eq_true rfl) hJ) ?_
      rintro _ _ (⟨m1, m2, rfl, μ₁, hM, rfl⟩ | ⟨m1, rfl, rfl⟩ | ⟨m1, m2, rfl, rfl⟩)
      · exact absurd m1 d1
      · skip
        refine e_istore dL_law_720 (Nat.le_of_ble_eq_true rfl) ?_
        refine e_aload_n dL_law_722 rfl rfl ?_
        refine e_invV (mcY := 0) (msY := 0) (ct_X7_thrown) vX7_thrown wM_L_88 (mo_at G (b + 157) _ _ 0 (by decide)) rfl dL_law_723 rfl rfl (Nat.le_of_ble_eq_true rfl) (Nat.le_trans (Nat.le_of_ble_eq_true rfl) hJ) ?_
        rintro _ _ ⟨rfl, rfl⟩
        refine e_iload dL_law_726 rfl ?_
        refine e_icmp_eq (tgt := 733) dL_law_728 (by decide) (fun _ => ?_) (fun q9 => absurd (ev_u_self μ.1 0 (1 : Int32)) q9)
        refine e_iload dL_law_733 rfl ?_
        refine e_if_ne (tgt := 750) dL_law_735 (by decide) (fun _ => ?_) (fun q9 => absurd q9 (by decide))
        refine ev_as (lwH_mo G b _ _ _).symm ?_
        refine e_goto (tgt := 1438) dL_law_750 (by decide) ?_
        exact ev_lc (hk _ _ _ ((hS.int (by decide) 1).up (by omega))) ⟨rfl, rfl, rfl, rfl, rfl, trivial⟩
      · exact absurd m1 d1
    · exact absurd e9 (by decide +kernel)
  · skip
    rcases hx with ⟨⟨e9, -⟩, -⟩ | ⟨⟨-, rfl⟩, c1, d2⟩
    · exact absurd e9 (by decide +kernel)
    refine e_istore dL_law_696 (Nat.le_of_ble_eq_true rfl) ?_
    refine e_aload_n dL_law_698 rfl rfl ?_
    refine e_aload_n dL_law_699 rfl rfl ?_
    refine e_iload dL_law_700 rfl ?_
    refine e_iconst (v := 1) dL_law_702 (by decide) ?_
    refine e_iadd dL_law_703 ?_
    refine e_scr hN hx0 hx5 (by decide +kernel) (by decide +kernel) dL_law_704 ?_
    refine e_aload_n dL_law_705 rfl rfl ?_
    refine e_iload dL_law_706 rfl ?_
    refine e_iconst (v := 2) dL_law_708 (by decide) ?_
    refine e_iadd dL_law_709 ?_
    refine e_scr hN hx0 hx5 (by decide +kernel) (by decide +kernel) dL_law_710 ?_
    refine e_aload_n dL_law_711 rfl rfl ?_
    refine e_iload dL_law_712 rfl ?_
    refine e_iconst (v := 3) dL_law_714 (by decide) ?_
    refine e_iadd dL_law_715 ?_
    refine e_scr hN hx0 hx5 (by decide +kernel) (by decide +kernel) dL_law_716 ?_
    refine ev_as (lwH_mo G b _ μ _) ?_
    refine e_invV (mcY := 0) (msY := 0) (ct_X7_foretold (σ := sDr S) (hS.1.bec (S.2.2.2 1)) hT) vX7_foretold wM_L_118 (mo_at G (b + 157) _ _ 0 (by decide)) rfl dL_law_717 rfl rfl (Nat.le_of_ble_eq_true rfl) (Nat.le_trans (Nat.le_of_ble_eq_true rfl) hJ) ?_
    rintro _ _ (⟨m1, m2, rfl, μ₁, hM, rfl⟩ | ⟨m1, rfl, rfl⟩ | ⟨m1, m2, rfl, rfl⟩)
    · exact absurd m2 d2
    · exact absurd c1 m1
    · skip
      refine e_istore dL_law_720 (Nat.le_of_ble_eq_true rfl) ?_
      refine e_aload_n dL_law_722 rfl rfl ?_
      refine e_invV (mcY := 0) (msY := 0) (ct_X7_thrown) vX7_thrown wM_L_88 (mo_at G (b + 157) _ _ 0 (by decide)) rfl dL_law_723 rfl rfl (Nat.le_of_ble_eq_true rfl) (Nat.le_trans (Nat.le_of_ble_eq_true rfl) hJ) ?_
      rintro _ _ ⟨rfl, rfl⟩
      refine e_iload dL_law_726 rfl ?_
      refine e_icmp_eq (tgt := 733) dL_law_728 (by decide) (fun _ => ?_) (fun q9 => absurd (ev_u_self μ.1 0 (2 : Int32)) q9)
      refine e_iload dL_law_733 rfl ?_
      refine e_if_ne (tgt := 750) dL_law_735 (by decide) (fun _ => ?_) (fun q9 => absurd q9 (by decide))
      refine ev_as (lwH_mo G b _ _ _).symm ?_
      refine e_goto (tgt := 1438) dL_law_750 (by decide) ?_
      exact ev_lc (hk _ _ _ ((hS.int (by decide) 2).up (by omega))) ⟨rfl, rfl, rfl, rfl, rfl, trivial⟩
set_option maxRecDepth 20000 in
set_option maxHeartbeats 1000000 in
theorem lc_period (hJ : 13 ≤ J.2.2.1) (hkd : J.1 = true) (hl0 : l.stackTraces = false) (hN : G.2.2.2.1.2.1 ≤ 3072) (hx0 : 0 ≤ x.toInt) (hx5 : x.toInt + 5 < (G.2.2.2.1.2.1 : Int)) (hS : RS T S μ) (hT0 : 0 ≤ T) (hT : T < 2147000000) (hk : ∀ S' μ' o', RS (T + 50) S' μ' → ev_V G l mL_law J 1438 (lwL G b x) [] (lwH G b S' μ' o') k n) : ev_V G l mL_law J 753 (lwL G b x) [] (lwH G b S μ o) (k + 2) (n + 12) := by
  refine e_aload_n dL_law_753 rfl rfl ?_
  refine e_aload_n dL_law_754 rfl rfl ?_
  refine e_iload dL_law_755 rfl ?_
  refine e_iconst (v := 1) dL_law_757 (by decide) ?_
  refine e_iadd dL_law_758 ?_
  refine e_scr hN hx0 hx5 (by decide +kernel) (by decide +kernel) dL_law_759 ?_
  refine e_aload_n dL_law_760 rfl rfl ?_
  refine e_iload dL_law_761 rfl ?_
  refine e_iconst (v := 2) dL_law_763 (by decide) ?_
  refine e_iadd dL_law_764 ?_
  refine e_scr hN hx0 hx5 (by decide +kernel) (by decide +kernel) dL_law_765 ?_
  refine e_aload_n dL_law_766 rfl rfl ?_
  refine e_invSH (hh := [(0, 10, 13, 26), (0, 10, 17, 13)]) (mcY := 2) (msY := 12) (ct_L_period (S := S) (μ := μ) (o := o) (Nat.le_of_ble_eq_true rfl) (ct_X6_period hl0 rfl (hS.1.bec (S.2.2.2 1)).2.1) ?_ ?_) vL_period wM_L_119 dL_law_767 rfl rfl (Nat.le_of_ble_eq_true rfl) (Nat.le_trans (Nat.le_of_ble_eq_true rfl) hJ) ?_
  · rintro v a ⟨⟨r, rfl, -⟩, ⟨τ, rfl⟩, -⟩
    exact ⟨_, rfl, lwH_out G b _ μ o⟩
  · rintro E a (⟨⟨rfl, -⟩, -⟩ | ⟨⟨rfl, -⟩, -⟩)
    · exact Or.inl rfl
    · exact Or.inr (rfl)
  rintro _ a1 (⟨r, a0, hp, rfl, rfl⟩ | ⟨hx, rfl⟩ | ⟨hx, rfl⟩)
  · skip
    obtain ⟨⟨r1, hv, hr1⟩, ⟨τ, rfl⟩, c1, c2⟩ := hp
    injection hv with hv
    injection hv with hv
    refine ev_as (lwH_put G b _ μ o _) ?_
    refine e_istore dL_law_770 (Nat.le_of_ble_eq_true rfl) ?_
    refine e_aload_n dL_law_772 rfl rfl ?_
    refine e_aload_n dL_law_773 rfl rfl ?_
    refine e_iload dL_law_774 rfl ?_
    refine e_iconst (v := 1) dL_law_776 (by decide) ?_
    refine e_iadd dL_law_777 ?_
    refine e_scr hN hx0 hx5 (by decide +kernel) (by decide +kernel) dL_law_778 ?_
    refine e_aload_n dL_law_779 rfl rfl ?_
    refine e_iload dL_law_780 rfl ?_
    refine e_iconst (v := 2) dL_law_782 (by decide) ?_
    refine e_iadd dL_law_783 ?_
    refine e_scr hN hx0 hx5 (by decide +kernel) (by decide +kernel) dL_law_784 ?_
    refine ev_as (lwH_mo G b _ μ _) ?_
    refine e_invV (mcY := 0) (msY := 0) (ct_X7_period (σ := sDr S) (hS.1.bec (S.2.2.2 1)) hT) vX7_period wM_L_121 (mo_at G (b + 157) _ _ 0 (by decide)) rfl dL_law_785 rfl rfl (Nat.le_of_ble_eq_true rfl) (Nat.le_trans (Nat.le_of_ble_eq_true rfl) hJ) ?_
    rintro _ _ (⟨m1, m2, ⟨r2, rfl, hr2⟩, μ₁, hM, rfl⟩ | ⟨m1, rfl, rfl⟩ | ⟨m1, m2, rfl, rfl⟩)
    · skip
      refine e_istore dL_law_788 (Nat.le_of_ble_eq_true rfl) ?_
      refine e_aload_n dL_law_790 rfl rfl ?_
      refine e_invV (mcY := 0) (msY := 0) (ct_X7_thrown) vX7_thrown wM_L_88 (mo_at G (b + 157) _ _ 0 (by decide)) rfl dL_law_791 rfl rfl (Nat.le_of_ble_eq_true rfl) (Nat.le_trans (Nat.le_of_ble_eq_true rfl) hJ) ?_
      rintro _ _ ⟨rfl, rfl⟩
      refine e_iload dL_law_794 rfl ?_
      refine e_icmp_eq (tgt := 801) dL_law_796 (by decide) (fun _ => ?_) (fun q9 => absurd ((congrFun hM.1 0).trans (ev_u_self μ.1 0 (0 : Int32))) q9)
      refine e_iload dL_law_801 rfl ?_
      refine e_if_ne (tgt := 818) dL_law_803 (by decide) (fun q9 => absurd rfl q9) (fun _ => ?_)
      refine ev_as (lwH_mo G b _ _ _).symm ?_
      refine e_aload_n dL_law_806 rfl rfl ?_
      refine e_iconst (v := 0) dL_law_807 (by decide) ?_
      refine e_lald (N := 1) (lwH_out G b _ _ _) (by decide +kernel) (by decide +kernel) dL_law_808 ?_
      refine e_iload dL_law_809 rfl ?_
      refine e_i2l dL_law_811 ?_
      refine e_lcmp dL_law_812 ?_
      refine e_if_eq (tgt := 818) dL_law_813 (by decide) (fun _ => ?_) (fun q9 => absurd (lw_cmp ((ev_u_self _ _ _).trans (congrArg Int32.toInt64 (hv.trans (Int32.toInt_inj.mp (hr1.trans hr2.symm)))))) q9)
      refine e_goto (tgt := 1438) dL_law_818 (by decide) ?_
      exact ev_lc (hk _ _ _ (((hS.same hM).draft τ).up (by omega))) ⟨rfl, rfl, rfl, rfl, rfl, trivial⟩
    · exact absurd c1 m1
    · exact absurd c2 m2
  · skip
    rcases hx with ⟨⟨-, rfl⟩, d1⟩ | ⟨⟨e9, -⟩, -⟩
    · skip
      refine e_istore dL_law_770 (Nat.le_of_ble_eq_true rfl) ?_
      refine e_aload_n dL_law_772 rfl rfl ?_
      refine e_aload_n dL_law_773 rfl rfl ?_
      refine e_iload dL_law_774 rfl ?_
      refine e_iconst (v := 1) dL_law_776 (by decide) ?_
      refine e_iadd dL_law_777 ?_
      refine e_scr hN hx0 hx5 (by decide +kernel) (by decide +kernel) dL_law_778 ?_
      refine e_aload_n dL_law_779 rfl rfl ?_
      refine e_iload dL_law_780 rfl ?_
      refine e_iconst (v := 2) dL_law_782 (by decide) ?_
      refine e_iadd dL_law_783 ?_
      refine e_scr hN hx0 hx5 (by decide +kernel) (by decide +kernel) dL_law_784 ?_
      refine ev_as (lwH_mo G b _ μ _) ?_
      refine e_invV (mcY := 0) (msY := 0) (ct_X7_period (σ := sDr S) (hS.1.bec (S.2.2.2 1)) hT) vX7_period wM_L_121 (mo_at G (b + 157) _ _ 0 (by decide)) rfl dL_law_785 rfl rfl (Nat.le_of_ble_eq_true rfl) (Nat.le_trans (Nat.le_of_ble_eq_true rfl) hJ) ?_
      rintro _ _ (⟨m1, m2, ⟨r2, rfl, hr2⟩, μ₁, hM, rfl⟩ | ⟨m1, rfl, rfl⟩ | ⟨m1, m2, rfl, rfl⟩)
      · exact absurd m1 d1
      · skip
        refine e_istore dL_law_788 (Nat.le_of_ble_eq_true rfl) ?_
        refine e_aload_n dL_law_790 rfl rfl ?_
        refine e_invV (mcY := 0) (msY := 0) (ct_X7_thrown) vX7_thrown wM_L_88 (mo_at G (b + 157) _ _ 0 (by decide)) rfl dL_law_791 rfl rfl (Nat.le_of_ble_eq_true rfl) (Nat.le_trans (Nat.le_of_ble_eq_true rfl) hJ) ?_
        rintro _ _ ⟨rfl, rfl⟩
        refine e_iload dL_law_794 rfl ?_
        refine e_icmp_eq (tgt := 801) dL_law_796 (by decide) (fun _ => ?_) (fun q9 => absurd (ev_u_self μ.1 0 (1 : Int32)) q9)
        refine e_iload dL_law_801 rfl ?_
        refine e_if_ne (tgt := 818) dL_law_803 (by decide) (fun _ => ?_) (fun q9 => absurd q9 (by decide))
        refine ev_as (lwH_mo G b _ _ _).symm ?_
        refine e_goto (tgt := 1438) dL_law_818 (by decide) ?_
        exact ev_lc (hk _ _ _ ((hS.int (by decide) 1).up (by omega))) ⟨rfl, rfl, rfl, rfl, rfl, trivial⟩
      · exact absurd m1 d1
    · exact absurd e9 (by decide +kernel)
  · skip
    rcases hx with ⟨⟨e9, -⟩, -⟩ | ⟨⟨-, rfl⟩, c1, d2⟩
    · exact absurd e9 (by decide +kernel)
    refine e_istore dL_law_770 (Nat.le_of_ble_eq_true rfl) ?_
    refine e_aload_n dL_law_772 rfl rfl ?_
    refine e_aload_n dL_law_773 rfl rfl ?_
    refine e_iload dL_law_774 rfl ?_
    refine e_iconst (v := 1) dL_law_776 (by decide) ?_
    refine e_iadd dL_law_777 ?_
    refine e_scr hN hx0 hx5 (by decide +kernel) (by decide +kernel) dL_law_778 ?_
    refine e_aload_n dL_law_779 rfl rfl ?_
    refine e_iload dL_law_780 rfl ?_
    refine e_iconst (v := 2) dL_law_782 (by decide) ?_
    refine e_iadd dL_law_783 ?_
    refine e_scr hN hx0 hx5 (by decide +kernel) (by decide +kernel) dL_law_784 ?_
    refine ev_as (lwH_mo G b _ μ _) ?_
    refine e_invV (mcY := 0) (msY := 0) (ct_X7_period (σ := sDr S) (hS.1.bec (S.2.2.2 1)) hT) vX7_period wM_L_121 (mo_at G (b + 157) _ _ 0 (by decide)) rfl dL_law_785 rfl rfl (Nat.le_of_ble_eq_true rfl) (Nat.le_trans (Nat.le_of_ble_eq_true rfl) hJ) ?_
    rintro _ _ (⟨m1, m2, ⟨r2, rfl, hr2⟩, μ₁, hM, rfl⟩ | ⟨m1, rfl, rfl⟩ | ⟨m1, m2, rfl, rfl⟩)
    · exact absurd m2 d2
    · exact absurd c1 m1
    · skip
      refine e_istore dL_law_788 (Nat.le_of_ble_eq_true rfl) ?_
      refine e_aload_n dL_law_790 rfl rfl ?_
      refine e_invV (mcY := 0) (msY := 0) (ct_X7_thrown) vX7_thrown wM_L_88 (mo_at G (b + 157) _ _ 0 (by decide)) rfl dL_law_791 rfl rfl (Nat.le_of_ble_eq_true rfl) (Nat.le_trans (Nat.le_of_ble_eq_true rfl) hJ) ?_
      rintro _ _ ⟨rfl, rfl⟩
      refine e_iload dL_law_794 rfl ?_
      refine e_icmp_eq (tgt := 801) dL_law_796 (by decide) (fun _ => ?_) (fun q9 => absurd (ev_u_self μ.1 0 (2 : Int32)) q9)
      refine e_iload dL_law_801 rfl ?_
      refine e_if_ne (tgt := 818) dL_law_803 (by decide) (fun _ => ?_) (fun q9 => absurd q9 (by decide))
      refine ev_as (lwH_mo G b _ _ _).symm ?_
      refine e_goto (tgt := 1438) dL_law_818 (by decide) ?_
      exact ev_lc (hk _ _ _ ((hS.int (by decide) 2).up (by omega))) ⟨rfl, rfl, rfl, rfl, rfl, trivial⟩
set_option maxRecDepth 20000 in
set_option maxHeartbeats 1000000 in
theorem lc_breaksIn (hJ : 13 ≤ J.2.2.1) (hkd : J.1 = true) (hl0 : l.stackTraces = false) (hN : G.2.2.2.1.2.1 ≤ 3072) (hx0 : 0 ≤ x.toInt) (hx5 : x.toInt + 5 < (G.2.2.2.1.2.1 : Int)) (hS : RS T S μ) (hT0 : 0 ≤ T) (hT : T < 2147000000) (hk : ∀ S' μ' o', RS (T + 50) S' μ' → ev_V G l mL_law J 1438 (lwL G b x) [] (lwH G b S' μ' o') k n) : ev_V G l mL_law J 821 (lwL G b x) [] (lwH G b S μ o) (k + 1) (n + 6) := by
  refine e_aload_n dL_law_821 rfl rfl ?_
  refine e_aload_n dL_law_822 rfl rfl ?_
  refine e_iload dL_law_823 rfl ?_
  refine e_iconst (v := 1) dL_law_825 (by decide) ?_
  refine e_iadd dL_law_826 ?_
  refine e_scr hN hx0 hx5 (by decide +kernel) (by decide +kernel) dL_law_827 ?_
  refine e_aload_n dL_law_828 rfl rfl ?_
  refine e_invSH (hh := [(0, 9, 12, 13)]) (mcY := 1) (msY := 6) (ct_L_breaksIn (S := S) (μ := μ) (o := o) (Nat.le_of_ble_eq_true rfl) (ct_X6_breaksIn hl0 rfl (hS.1.bec (S.2.2.2 1)).2.1) ?_ ?_) vL_breaksIn wM_L_122 dL_law_829 rfl rfl (Nat.le_of_ble_eq_true rfl) (Nat.le_trans (Nat.le_of_ble_eq_true rfl) hJ) ?_
  · rintro v a ⟨⟨r, rfl, -⟩, ⟨τ, rfl⟩, -⟩
    exact ⟨_, rfl, lwH_out G b _ μ o⟩
  · rintro E a ⟨⟨rfl, -⟩, -⟩
    rfl
  rintro _ a1 (⟨r, a0, hp, rfl, rfl⟩ | ⟨hx, rfl⟩)
  · skip
    obtain ⟨⟨r1, hv, hr1⟩, ⟨τ, rfl⟩, c1⟩ := hp
    injection hv with hv
    injection hv with hv
    refine ev_as (lwH_put G b _ μ o _) ?_
    refine e_istore dL_law_832 (Nat.le_of_ble_eq_true rfl) ?_
    refine e_aload_n dL_law_834 rfl rfl ?_
    refine e_aload_n dL_law_835 rfl rfl ?_
    refine e_iload dL_law_836 rfl ?_
    refine e_iconst (v := 1) dL_law_838 (by decide) ?_
    refine e_iadd dL_law_839 ?_
    refine e_scr hN hx0 hx5 (by decide +kernel) (by decide +kernel) dL_law_840 ?_
    refine ev_as (lwH_mo G b _ μ _) ?_
    refine e_invV (mcY := 0) (msY := 0) (ct_X7_breaksIn (σ := sDr S) (hS.1.bec (S.2.2.2 1)) hT) vX7_breaksIn wM_L_124 (mo_at G (b + 157) _ _ 0 (by decide)) rfl dL_law_841 rfl rfl (Nat.le_of_ble_eq_true rfl) (Nat.le_trans (Nat.le_of_ble_eq_true rfl) hJ) ?_
    rintro _ _ (⟨m1, ⟨r2, rfl, hr2⟩, μ₁, hM, rfl⟩ | ⟨m1, rfl, rfl⟩)
    · skip
      refine e_istore dL_law_844 (Nat.le_of_ble_eq_true rfl) ?_
      refine e_aload_n dL_law_846 rfl rfl ?_
      refine e_invV (mcY := 0) (msY := 0) (ct_X7_thrown) vX7_thrown wM_L_88 (mo_at G (b + 157) _ _ 0 (by decide)) rfl dL_law_847 rfl rfl (Nat.le_of_ble_eq_true rfl) (Nat.le_trans (Nat.le_of_ble_eq_true rfl) hJ) ?_
      rintro _ _ ⟨rfl, rfl⟩
      refine e_iload dL_law_850 rfl ?_
      refine e_icmp_eq (tgt := 857) dL_law_852 (by decide) (fun _ => ?_) (fun q9 => absurd ((congrFun hM.1 0).trans (ev_u_self μ.1 0 (0 : Int32))) q9)
      refine e_iload dL_law_857 rfl ?_
      refine e_if_ne (tgt := 874) dL_law_859 (by decide) (fun q9 => absurd rfl q9) (fun _ => ?_)
      refine ev_as (lwH_mo G b _ _ _).symm ?_
      refine e_aload_n dL_law_862 rfl rfl ?_
      refine e_iconst (v := 0) dL_law_863 (by decide) ?_
      refine e_lald (N := 1) (lwH_out G b _ _ _) (by decide +kernel) (by decide +kernel) dL_law_864 ?_
      refine e_iload dL_law_865 rfl ?_
      refine e_i2l dL_law_867 ?_
      refine e_lcmp dL_law_868 ?_
      refine e_if_eq (tgt := 874) dL_law_869 (by decide) (fun _ => ?_) (fun q9 => absurd (lw_cmp ((ev_u_self _ _ _).trans (congrArg Int32.toInt64 (hv.trans (Int32.toInt_inj.mp (hr1.trans hr2.symm)))))) q9)
      refine e_goto (tgt := 1438) dL_law_874 (by decide) ?_
      exact ev_lc (hk _ _ _ (((hS.same hM).draft τ).up (by omega))) ⟨rfl, rfl, rfl, rfl, rfl, trivial⟩
    · exact absurd c1 m1
  · skip
    obtain ⟨⟨-, rfl⟩, d1⟩ := hx
    refine e_istore dL_law_832 (Nat.le_of_ble_eq_true rfl) ?_
    refine e_aload_n dL_law_834 rfl rfl ?_
    refine e_aload_n dL_law_835 rfl rfl ?_
    refine e_iload dL_law_836 rfl ?_
    refine e_iconst (v := 1) dL_law_838 (by decide) ?_
    refine e_iadd dL_law_839 ?_
    refine e_scr hN hx0 hx5 (by decide +kernel) (by decide +kernel) dL_law_840 ?_
    refine ev_as (lwH_mo G b _ μ _) ?_
    refine e_invV (mcY := 0) (msY := 0) (ct_X7_breaksIn (σ := sDr S) (hS.1.bec (S.2.2.2 1)) hT) vX7_breaksIn wM_L_124 (mo_at G (b + 157) _ _ 0 (by decide)) rfl dL_law_841 rfl rfl (Nat.le_of_ble_eq_true rfl) (Nat.le_trans (Nat.le_of_ble_eq_true rfl) hJ) ?_
    rintro _ _ (⟨m1, ⟨r2, rfl, hr2⟩, μ₁, hM, rfl⟩ | ⟨m1, rfl, rfl⟩)
    · exact absurd m1 d1
    · skip
      refine e_istore dL_law_844 (Nat.le_of_ble_eq_true rfl) ?_
      refine e_aload_n dL_law_846 rfl rfl ?_
      refine e_invV (mcY := 0) (msY := 0) (ct_X7_thrown) vX7_thrown wM_L_88 (mo_at G (b + 157) _ _ 0 (by decide)) rfl dL_law_847 rfl rfl (Nat.le_of_ble_eq_true rfl) (Nat.le_trans (Nat.le_of_ble_eq_true rfl) hJ) ?_
      rintro _ _ ⟨rfl, rfl⟩
      refine e_iload dL_law_850 rfl ?_
      refine e_icmp_eq (tgt := 857) dL_law_852 (by decide) (fun _ => ?_) (fun q9 => absurd (ev_u_self μ.1 0 (1 : Int32)) q9)
      refine e_iload dL_law_857 rfl ?_
      refine e_if_ne (tgt := 874) dL_law_859 (by decide) (fun _ => ?_) (fun q9 => absurd q9 (by decide))
      refine ev_as (lwH_mo G b _ _ _).symm ?_
      refine e_goto (tgt := 1438) dL_law_874 (by decide) ?_
      exact ev_lc (hk _ _ _ ((hS.int (by decide) 1).up (by omega))) ⟨rfl, rfl, rfl, rfl, rfl, trivial⟩
set_option maxRecDepth 20000 in
set_option maxHeartbeats 1000000 in
theorem lc_pass (hJ : 13 ≤ J.2.2.1) (hkd : J.1 = true) (hl0 : l.stackTraces = false) (hN : G.2.2.2.1.2.1 ≤ 3072) (hx0 : 0 ≤ x.toInt) (hx5 : x.toInt + 5 < (G.2.2.2.1.2.1 : Int)) (hS : RS T S μ) (hT0 : 0 ≤ T) (hT : T < 2147000000) (hk : ∀ S' μ' o', RS (T + 50) S' μ' → ev_V G l mL_law J 1438 (lwL G b x) [] (lwH G b S' μ' o') k n) : ev_V G l mL_law J 931 (lwL G b x) [] (lwH G b S μ o) (k + 1) (n + 6) := by
  refine e_aload_n dL_law_931 rfl rfl ?_
  refine e_aload_n dL_law_932 rfl rfl ?_
  refine e_iload dL_law_933 rfl ?_
  refine e_iconst (v := 1) dL_law_935 (by decide) ?_
  refine e_iadd dL_law_936 ?_
  refine e_scr hN hx0 hx5 (by decide +kernel) (by decide +kernel) dL_law_937 ?_
  refine e_aload_n dL_law_938 rfl rfl ?_
  refine e_invSH (hh := [(0, 9, 12, 13)]) (mcY := 1) (msY := 6) (ct_L_pass (S := S) (μ := μ) (o := o) (Nat.le_of_ble_eq_true rfl) (ct_X6_pass hl0 rfl hS.2.1.1 hS.1.2.1) ?_ ?_) vL_pass wM_L_134 dL_law_939 rfl rfl (Nat.le_of_ble_eq_true rfl) (Nat.le_trans (Nat.le_of_ble_eq_true rfl) hJ) ?_
  · rintro v a ⟨⟨rfl, rfl⟩, -⟩
    exact ⟨_, rfl, lwH_out G b _ μ o⟩
  · rintro E a ⟨⟨rfl, -⟩, -⟩
    rfl
  rintro _ a1 (⟨r, a0, hp, rfl, rfl⟩ | ⟨hx, rfl⟩)
  · skip
    obtain ⟨⟨hv, rfl⟩, c1⟩ := hp
    injection hv with hv
    injection hv with hv
    refine ev_as (lwH_put G b _ μ o _) ?_
    refine e_istore dL_law_942 (Nat.le_of_ble_eq_true rfl) ?_
    refine e_aload_n dL_law_944 rfl rfl ?_
    refine e_aload_n dL_law_945 rfl rfl ?_
    refine e_iload dL_law_946 rfl ?_
    refine e_iconst (v := 1) dL_law_948 (by decide) ?_
    refine e_iadd dL_law_949 ?_
    refine e_scr hN hx0 hx5 (by decide +kernel) (by decide +kernel) dL_law_950 ?_
    refine ev_as (lwH_mo G b _ μ _) ?_
    refine e_invV (mcY := 0) (msY := 0) (ct_X7_pass hS hT) vX7_pass wM_L_136 (mo_at G (b + 157) _ _ 0 (by decide)) rfl dL_law_951 rfl rfl (Nat.le_of_ble_eq_true rfl) (Nat.le_trans (Nat.le_of_ble_eq_true rfl) hJ) ?_
    rintro _ _ (⟨m1, rfl, μ₁, hS1, h0, rfl⟩ | ⟨m1, rfl, rfl⟩)
    · skip
      refine e_istore dL_law_954 (Nat.le_of_ble_eq_true rfl) ?_
      refine e_aload_n dL_law_956 rfl rfl ?_
      refine e_invV (mcY := 0) (msY := 0) (ct_X7_thrown) vX7_thrown wM_L_88 (mo_at G (b + 157) _ _ 0 (by decide)) rfl dL_law_957 rfl rfl (Nat.le_of_ble_eq_true rfl) (Nat.le_trans (Nat.le_of_ble_eq_true rfl) hJ) ?_
      rintro _ _ ⟨rfl, rfl⟩
      refine e_iload dL_law_960 rfl ?_
      refine e_icmp_eq (tgt := 967) dL_law_962 (by decide) (fun _ => ?_) (fun q9 => absurd (h0) q9)
      refine e_iload dL_law_967 rfl ?_
      refine e_if_ne (tgt := 984) dL_law_969 (by decide) (fun q9 => absurd rfl q9) (fun _ => ?_)
      refine ev_as (lwH_mo G b _ _ _).symm ?_
      refine e_aload_n dL_law_972 rfl rfl ?_
      refine e_iconst (v := 0) dL_law_973 (by decide) ?_
      refine e_lald (N := 1) (lwH_out G b _ _ _) (by decide +kernel) (by decide +kernel) dL_law_974 ?_
      refine e_iload dL_law_975 rfl ?_
      refine e_i2l dL_law_977 ?_
      refine e_lcmp dL_law_978 ?_
      refine e_if_eq (tgt := 984) dL_law_979 (by decide) (fun _ => ?_) (fun q9 => absurd (lw_cmp ((ev_u_self _ _ _).trans (congrArg Int32.toInt64 hv))) q9)
      refine e_goto (tgt := 1438) dL_law_984 (by decide) ?_
      exact ev_lc (hk _ _ _ (hS1.up (by omega))) ⟨rfl, rfl, rfl, rfl, rfl, trivial⟩
    · exact absurd c1 m1
  · skip
    obtain ⟨⟨-, rfl⟩, d1⟩ := hx
    refine e_istore dL_law_942 (Nat.le_of_ble_eq_true rfl) ?_
    refine e_aload_n dL_law_944 rfl rfl ?_
    refine e_aload_n dL_law_945 rfl rfl ?_
    refine e_iload dL_law_946 rfl ?_
    refine e_iconst (v := 1) dL_law_948 (by decide) ?_
    refine e_iadd dL_law_949 ?_
    refine e_scr hN hx0 hx5 (by decide +kernel) (by decide +kernel) dL_law_950 ?_
    refine ev_as (lwH_mo G b _ μ _) ?_
    refine e_invV (mcY := 0) (msY := 0) (ct_X7_pass hS hT) vX7_pass wM_L_136 (mo_at G (b + 157) _ _ 0 (by decide)) rfl dL_law_951 rfl rfl (Nat.le_of_ble_eq_true rfl) (Nat.le_trans (Nat.le_of_ble_eq_true rfl) hJ) ?_
    rintro _ _ (⟨m1, rfl, μ₁, hS1, h0, rfl⟩ | ⟨m1, rfl, rfl⟩)
    · exact absurd m1 d1
    · skip
      refine e_istore dL_law_954 (Nat.le_of_ble_eq_true rfl) ?_
      refine e_aload_n dL_law_956 rfl rfl ?_
      refine e_invV (mcY := 0) (msY := 0) (ct_X7_thrown) vX7_thrown wM_L_88 (mo_at G (b + 157) _ _ 0 (by decide)) rfl dL_law_957 rfl rfl (Nat.le_of_ble_eq_true rfl) (Nat.le_trans (Nat.le_of_ble_eq_true rfl) hJ) ?_
      rintro _ _ ⟨rfl, rfl⟩
      refine e_iload dL_law_960 rfl ?_
      refine e_icmp_eq (tgt := 967) dL_law_962 (by decide) (fun _ => ?_) (fun q9 => absurd (ev_u_self μ.1 0 (1 : Int32)) q9)
      refine e_iload dL_law_967 rfl ?_
      refine e_if_ne (tgt := 984) dL_law_969 (by decide) (fun _ => ?_) (fun q9 => absurd q9 (by decide))
      refine ev_as (lwH_mo G b _ _ _).symm ?_
      refine e_goto (tgt := 1438) dL_law_984 (by decide) ?_
      exact ev_lc (hk _ _ _ ((hS.int (by decide) 1).up (by omega))) ⟨rfl, rfl, rfl, rfl, rfl, trivial⟩
set_option maxRecDepth 20000 in
set_option maxHeartbeats 1000000 in
theorem lc_pluck (hJ : 13 ≤ J.2.2.1) (hkd : J.1 = true) (hl0 : l.stackTraces = false) (hN : G.2.2.2.1.2.1 ≤ 3072) (hx0 : 0 ≤ x.toInt) (hx5 : x.toInt + 5 < (G.2.2.2.1.2.1 : Int)) (hS : RS T S μ) (hT0 : 0 ≤ T) (hT : T < 2147000000) (hk : ∀ S' μ' o', RS (T + 50) S' μ' → ev_V G l mL_law J 1438 (lwL G b x) [] (lwH G b S' μ' o') k n) : ev_V G l mL_law J 987 (lwL G b x) [] (lwH G b S μ o) (k + 2) (n + 12) := by
  refine e_aload_n dL_law_987 rfl rfl ?_
  refine e_aload_n dL_law_988 rfl rfl ?_
  refine e_iload dL_law_989 rfl ?_
  refine e_iconst (v := 1) dL_law_991 (by decide) ?_
  refine e_iadd dL_law_992 ?_
  refine e_scr hN hx0 hx5 (by decide +kernel) (by decide +kernel) dL_law_993 ?_
  refine e_aload_n dL_law_994 rfl rfl ?_
  refine e_iload dL_law_995 rfl ?_
  refine e_iconst (v := 2) dL_law_997 (by decide) ?_
  refine e_iadd dL_law_998 ?_
  refine e_scr hN hx0 hx5 (by decide +kernel) (by decide +kernel) dL_law_999 ?_
  refine e_aload_n dL_law_1000 rfl rfl ?_
  refine e_invSH (hh := [(0, 10, 13, 26), (0, 10, 17, 13)]) (mcY := 2) (msY := 12) (ct_L_pluck (S := S) (μ := μ) (o := o) (Nat.le_of_ble_eq_true rfl) (ct_X6_pluck hl0 rfl hS.2.1.1 hS.1.2.1) ?_ ?_) vL_pluck wM_L_137 dL_law_1001 rfl rfl (Nat.le_of_ble_eq_true rfl) (Nat.le_trans (Nat.le_of_ble_eq_true rfl) hJ) ?_
  · rintro v a ⟨⟨rfl, rfl⟩, -⟩
    exact ⟨_, rfl, lwH_out G b _ μ o⟩
  · rintro E a (⟨⟨rfl, -⟩, -⟩ | ⟨⟨rfl, -⟩, -⟩)
    · exact Or.inl rfl
    · exact Or.inr (rfl)
  rintro _ a1 (⟨r, a0, hp, rfl, rfl⟩ | ⟨hx, rfl⟩ | ⟨hx, rfl⟩)
  · skip
    obtain ⟨⟨hv, rfl⟩, c1, c2⟩ := hp
    injection hv with hv
    injection hv with hv
    refine ev_as (lwH_put G b _ μ o _) ?_
    refine e_istore dL_law_1004 (Nat.le_of_ble_eq_true rfl) ?_
    refine e_aload_n dL_law_1006 rfl rfl ?_
    refine e_aload_n dL_law_1007 rfl rfl ?_
    refine e_iload dL_law_1008 rfl ?_
    refine e_iconst (v := 1) dL_law_1010 (by decide) ?_
    refine e_iadd dL_law_1011 ?_
    refine e_scr hN hx0 hx5 (by decide +kernel) (by decide +kernel) dL_law_1012 ?_
    refine e_aload_n dL_law_1013 rfl rfl ?_
    refine e_iload dL_law_1014 rfl ?_
    refine e_iconst (v := 2) dL_law_1016 (by decide) ?_
    refine e_iadd dL_law_1017 ?_
    refine e_scr hN hx0 hx5 (by decide +kernel) (by decide +kernel) dL_law_1018 ?_
    refine ev_as (lwH_mo G b _ μ _) ?_
    refine e_invV (mcY := 0) (msY := 0) (ct_X7_pluck hS) vX7_pluck wM_L_139 (mo_at G (b + 157) _ _ 0 (by decide)) rfl dL_law_1019 rfl rfl (Nat.le_of_ble_eq_true rfl) (Nat.le_trans (Nat.le_of_ble_eq_true rfl) hJ) ?_
    rintro _ _ (⟨m1, m2, rfl, μ₁, hS1, h0, rfl⟩ | ⟨m1, rfl, rfl⟩ | ⟨m1, m2, rfl, rfl⟩)
    · skip
      refine e_istore dL_law_1022 (Nat.le_of_ble_eq_true rfl) ?_
      refine e_aload_n dL_law_1024 rfl rfl ?_
      refine e_invV (mcY := 0) (msY := 0) (ct_X7_thrown) vX7_thrown wM_L_88 (mo_at G (b + 157) _ _ 0 (by decide)) rfl dL_law_1025 rfl rfl (Nat.le_of_ble_eq_true rfl) (Nat.le_trans (Nat.le_of_ble_eq_true rfl) hJ) ?_
      rintro _ _ ⟨rfl, rfl⟩
      refine e_iload dL_law_1028 rfl ?_
      refine e_icmp_eq (tgt := 1035) dL_law_1030 (by decide) (fun _ => ?_) (fun q9 => absurd (h0) q9)
      refine e_iload dL_law_1035 rfl ?_
      refine e_if_ne (tgt := 1052) dL_law_1037 (by decide) (fun q9 => absurd rfl q9) (fun _ => ?_)
      refine ev_as (lwH_mo G b _ _ _).symm ?_
      refine e_aload_n dL_law_1040 rfl rfl ?_
      refine e_iconst (v := 0) dL_law_1041 (by decide) ?_
      refine e_lald (N := 1) (lwH_out G b _ _ _) (by decide +kernel) (by decide +kernel) dL_law_1042 ?_
      refine e_iload dL_law_1043 rfl ?_
      refine e_i2l dL_law_1045 ?_
      refine e_lcmp dL_law_1046 ?_
      refine e_if_eq (tgt := 1052) dL_law_1047 (by decide) (fun _ => ?_) (fun q9 => absurd (lw_cmp ((ev_u_self _ _ _).trans (congrArg Int32.toInt64 hv))) q9)
      refine e_goto (tgt := 1438) dL_law_1052 (by decide) ?_
      exact ev_lc (hk _ _ _ (hS1.up (by omega))) ⟨rfl, rfl, rfl, rfl, rfl, trivial⟩
    · exact absurd c1 m1
    · exact absurd c2 m2
  · skip
    rcases hx with ⟨⟨-, rfl⟩, d1⟩ | ⟨⟨e9, -⟩, -⟩
    · skip
      refine e_istore dL_law_1004 (Nat.le_of_ble_eq_true rfl) ?_
      refine e_aload_n dL_law_1006 rfl rfl ?_
      refine e_aload_n dL_law_1007 rfl rfl ?_
      refine e_iload dL_law_1008 rfl ?_
      refine e_iconst (v := 1) dL_law_1010 (by decide) ?_
      refine e_iadd dL_law_1011 ?_
      refine e_scr hN hx0 hx5 (by decide +kernel) (by decide +kernel) dL_law_1012 ?_
      refine e_aload_n dL_law_1013 rfl rfl ?_
      refine e_iload dL_law_1014 rfl ?_
      refine e_iconst (v := 2) dL_law_1016 (by decide) ?_
      refine e_iadd dL_law_1017 ?_
      refine e_scr hN hx0 hx5 (by decide +kernel) (by decide +kernel) dL_law_1018 ?_
      refine ev_as (lwH_mo G b _ μ _) ?_
      refine e_invV (mcY := 0) (msY := 0) (ct_X7_pluck hS) vX7_pluck wM_L_139 (mo_at G (b + 157) _ _ 0 (by decide)) rfl dL_law_1019 rfl rfl (Nat.le_of_ble_eq_true rfl) (Nat.le_trans (Nat.le_of_ble_eq_true rfl) hJ) ?_
      rintro _ _ (⟨m1, m2, rfl, μ₁, hS1, h0, rfl⟩ | ⟨m1, rfl, rfl⟩ | ⟨m1, m2, rfl, rfl⟩)
      · exact absurd m1 d1
      · skip
        refine e_istore dL_law_1022 (Nat.le_of_ble_eq_true rfl) ?_
        refine e_aload_n dL_law_1024 rfl rfl ?_
        refine e_invV (mcY := 0) (msY := 0) (ct_X7_thrown) vX7_thrown wM_L_88 (mo_at G (b + 157) _ _ 0 (by decide)) rfl dL_law_1025 rfl rfl (Nat.le_of_ble_eq_true rfl) (Nat.le_trans (Nat.le_of_ble_eq_true rfl) hJ) ?_
        rintro _ _ ⟨rfl, rfl⟩
        refine e_iload dL_law_1028 rfl ?_
        refine e_icmp_eq (tgt := 1035) dL_law_1030 (by decide) (fun _ => ?_) (fun q9 => absurd (ev_u_self μ.1 0 (1 : Int32)) q9)
        refine e_iload dL_law_1035 rfl ?_
        refine e_if_ne (tgt := 1052) dL_law_1037 (by decide) (fun _ => ?_) (fun q9 => absurd q9 (by decide))
        refine ev_as (lwH_mo G b _ _ _).symm ?_
        refine e_goto (tgt := 1438) dL_law_1052 (by decide) ?_
        exact ev_lc (hk _ _ _ ((hS.int (by decide) 1).up (by omega))) ⟨rfl, rfl, rfl, rfl, rfl, trivial⟩
      · exact absurd m1 d1
    · exact absurd e9 (by decide +kernel)
  · skip
    rcases hx with ⟨⟨e9, -⟩, -⟩ | ⟨⟨-, rfl⟩, c1, d2⟩
    · exact absurd e9 (by decide +kernel)
    refine e_istore dL_law_1004 (Nat.le_of_ble_eq_true rfl) ?_
    refine e_aload_n dL_law_1006 rfl rfl ?_
    refine e_aload_n dL_law_1007 rfl rfl ?_
    refine e_iload dL_law_1008 rfl ?_
    refine e_iconst (v := 1) dL_law_1010 (by decide) ?_
    refine e_iadd dL_law_1011 ?_
    refine e_scr hN hx0 hx5 (by decide +kernel) (by decide +kernel) dL_law_1012 ?_
    refine e_aload_n dL_law_1013 rfl rfl ?_
    refine e_iload dL_law_1014 rfl ?_
    refine e_iconst (v := 2) dL_law_1016 (by decide) ?_
    refine e_iadd dL_law_1017 ?_
    refine e_scr hN hx0 hx5 (by decide +kernel) (by decide +kernel) dL_law_1018 ?_
    refine ev_as (lwH_mo G b _ μ _) ?_
    refine e_invV (mcY := 0) (msY := 0) (ct_X7_pluck hS) vX7_pluck wM_L_139 (mo_at G (b + 157) _ _ 0 (by decide)) rfl dL_law_1019 rfl rfl (Nat.le_of_ble_eq_true rfl) (Nat.le_trans (Nat.le_of_ble_eq_true rfl) hJ) ?_
    rintro _ _ (⟨m1, m2, rfl, μ₁, hS1, h0, rfl⟩ | ⟨m1, rfl, rfl⟩ | ⟨m1, m2, rfl, rfl⟩)
    · exact absurd m2 d2
    · exact absurd c1 m1
    · skip
      refine e_istore dL_law_1022 (Nat.le_of_ble_eq_true rfl) ?_
      refine e_aload_n dL_law_1024 rfl rfl ?_
      refine e_invV (mcY := 0) (msY := 0) (ct_X7_thrown) vX7_thrown wM_L_88 (mo_at G (b + 157) _ _ 0 (by decide)) rfl dL_law_1025 rfl rfl (Nat.le_of_ble_eq_true rfl) (Nat.le_trans (Nat.le_of_ble_eq_true rfl) hJ) ?_
      rintro _ _ ⟨rfl, rfl⟩
      refine e_iload dL_law_1028 rfl ?_
      refine e_icmp_eq (tgt := 1035) dL_law_1030 (by decide) (fun _ => ?_) (fun q9 => absurd (ev_u_self μ.1 0 (2 : Int32)) q9)
      refine e_iload dL_law_1035 rfl ?_
      refine e_if_ne (tgt := 1052) dL_law_1037 (by decide) (fun _ => ?_) (fun q9 => absurd q9 (by decide))
      refine ev_as (lwH_mo G b _ _ _).symm ?_
      refine e_goto (tgt := 1438) dL_law_1052 (by decide) ?_
      exact ev_lc (hk _ _ _ ((hS.int (by decide) 2).up (by omega))) ⟨rfl, rfl, rfl, rfl, rfl, trivial⟩
set_option maxRecDepth 20000 in
set_option maxHeartbeats 1000000 in
theorem lc_strike (hJ : 13 ≤ J.2.2.1) (hkd : J.1 = true) (hl0 : l.stackTraces = false) (hN : G.2.2.2.1.2.1 ≤ 3072) (hx0 : 0 ≤ x.toInt) (hx5 : x.toInt + 5 < (G.2.2.2.1.2.1 : Int)) (hS : RS T S μ) (hT0 : 0 ≤ T) (hT : T < 2147000000) (hk : ∀ S' μ' o', RS (T + 50) S' μ' → ev_V G l mL_law J 1438 (lwL G b x) [] (lwH G b S' μ' o') k n) : ev_V G l mL_law J 1055 (lwL G b x) [] (lwH G b S μ o) (k + 2) (n + 12) := by
  refine e_aload_n dL_law_1055 rfl rfl ?_
  refine e_aload_n dL_law_1056 rfl rfl ?_
  refine e_iload dL_law_1057 rfl ?_
  refine e_iconst (v := 1) dL_law_1059 (by decide) ?_
  refine e_iadd dL_law_1060 ?_
  refine e_scr hN hx0 hx5 (by decide +kernel) (by decide +kernel) dL_law_1061 ?_
  refine e_aload_n dL_law_1062 rfl rfl ?_
  refine e_iload dL_law_1063 rfl ?_
  refine e_iconst (v := 2) dL_law_1065 (by decide) ?_
  refine e_iadd dL_law_1066 ?_
  refine e_scr hN hx0 hx5 (by decide +kernel) (by decide +kernel) dL_law_1067 ?_
  refine e_aload_n dL_law_1068 rfl rfl ?_
  refine e_invSH (hh := [(0, 10, 13, 26), (0, 10, 17, 13)]) (mcY := 2) (msY := 12) (ct_L_strike (S := S) (μ := μ) (o := o) (Nat.le_of_ble_eq_true rfl) (ct_X6_strike hl0 rfl hS.2.1.1 hS.1.2.1) ?_ ?_) vL_strike wM_L_140 dL_law_1069 rfl rfl (Nat.le_of_ble_eq_true rfl) (Nat.le_trans (Nat.le_of_ble_eq_true rfl) hJ) ?_
  · rintro v a ⟨⟨rfl, rfl⟩, -⟩
    exact ⟨_, rfl, lwH_out G b _ μ o⟩
  · rintro E a (⟨⟨rfl, -⟩, -⟩ | ⟨⟨rfl, -⟩, -⟩)
    · exact Or.inl rfl
    · exact Or.inr (rfl)
  rintro _ a1 (⟨r, a0, hp, rfl, rfl⟩ | ⟨hx, rfl⟩ | ⟨hx, rfl⟩)
  · skip
    obtain ⟨⟨hv, rfl⟩, c1, c2⟩ := hp
    injection hv with hv
    injection hv with hv
    refine ev_as (lwH_put G b _ μ o _) ?_
    refine e_istore dL_law_1072 (Nat.le_of_ble_eq_true rfl) ?_
    refine e_aload_n dL_law_1074 rfl rfl ?_
    refine e_aload_n dL_law_1075 rfl rfl ?_
    refine e_iload dL_law_1076 rfl ?_
    refine e_iconst (v := 1) dL_law_1078 (by decide) ?_
    refine e_iadd dL_law_1079 ?_
    refine e_scr hN hx0 hx5 (by decide +kernel) (by decide +kernel) dL_law_1080 ?_
    refine e_aload_n dL_law_1081 rfl rfl ?_
    refine e_iload dL_law_1082 rfl ?_
    refine e_iconst (v := 2) dL_law_1084 (by decide) ?_
    refine e_iadd dL_law_1085 ?_
    refine e_scr hN hx0 hx5 (by decide +kernel) (by decide +kernel) dL_law_1086 ?_
    refine ev_as (lwH_mo G b _ μ _) ?_
    refine e_invV (mcY := 0) (msY := 0) (ct_X7_strike hS) vX7_strike wM_L_142 (mo_at G (b + 157) _ _ 0 (by decide)) rfl dL_law_1087 rfl rfl (Nat.le_of_ble_eq_true rfl) (Nat.le_trans (Nat.le_of_ble_eq_true rfl) hJ) ?_
    rintro _ _ (⟨m1, m2, rfl, μ₁, hS1, h0, rfl⟩ | ⟨m1, rfl, rfl⟩ | ⟨m1, m2, rfl, rfl⟩)
    · skip
      refine e_istore dL_law_1090 (Nat.le_of_ble_eq_true rfl) ?_
      refine e_aload_n dL_law_1092 rfl rfl ?_
      refine e_invV (mcY := 0) (msY := 0) (ct_X7_thrown) vX7_thrown wM_L_88 (mo_at G (b + 157) _ _ 0 (by decide)) rfl dL_law_1093 rfl rfl (Nat.le_of_ble_eq_true rfl) (Nat.le_trans (Nat.le_of_ble_eq_true rfl) hJ) ?_
      rintro _ _ ⟨rfl, rfl⟩
      refine e_iload dL_law_1096 rfl ?_
      refine e_icmp_eq (tgt := 1103) dL_law_1098 (by decide) (fun _ => ?_) (fun q9 => absurd (h0) q9)
      refine e_iload dL_law_1103 rfl ?_
      refine e_if_ne (tgt := 1120) dL_law_1105 (by decide) (fun q9 => absurd rfl q9) (fun _ => ?_)
      refine ev_as (lwH_mo G b _ _ _).symm ?_
      refine e_aload_n dL_law_1108 rfl rfl ?_
      refine e_iconst (v := 0) dL_law_1109 (by decide) ?_
      refine e_lald (N := 1) (lwH_out G b _ _ _) (by decide +kernel) (by decide +kernel) dL_law_1110 ?_
      refine e_iload dL_law_1111 rfl ?_
      refine e_i2l dL_law_1113 ?_
      refine e_lcmp dL_law_1114 ?_
      refine e_if_eq (tgt := 1120) dL_law_1115 (by decide) (fun _ => ?_) (fun q9 => absurd (lw_cmp ((ev_u_self _ _ _).trans (congrArg Int32.toInt64 hv))) q9)
      refine e_goto (tgt := 1438) dL_law_1120 (by decide) ?_
      exact ev_lc (hk _ _ _ (hS1.up (by omega))) ⟨rfl, rfl, rfl, rfl, rfl, trivial⟩
    · exact absurd c1 m1
    · exact absurd c2 m2
  · skip
    rcases hx with ⟨⟨-, rfl⟩, d1⟩ | ⟨⟨e9, -⟩, -⟩
    · skip
      refine e_istore dL_law_1072 (Nat.le_of_ble_eq_true rfl) ?_
      refine e_aload_n dL_law_1074 rfl rfl ?_
      refine e_aload_n dL_law_1075 rfl rfl ?_
      refine e_iload dL_law_1076 rfl ?_
      refine e_iconst (v := 1) dL_law_1078 (by decide) ?_
      refine e_iadd dL_law_1079 ?_
      refine e_scr hN hx0 hx5 (by decide +kernel) (by decide +kernel) dL_law_1080 ?_
      refine e_aload_n dL_law_1081 rfl rfl ?_
      refine e_iload dL_law_1082 rfl ?_
      refine e_iconst (v := 2) dL_law_1084 (by decide) ?_
      refine e_iadd dL_law_1085 ?_
      refine e_scr hN hx0 hx5 (by decide +kernel) (by decide +kernel) dL_law_1086 ?_
      refine ev_as (lwH_mo G b _ μ _) ?_
      refine e_invV (mcY := 0) (msY := 0) (ct_X7_strike hS) vX7_strike wM_L_142 (mo_at G (b + 157) _ _ 0 (by decide)) rfl dL_law_1087 rfl rfl (Nat.le_of_ble_eq_true rfl) (Nat.le_trans (Nat.le_of_ble_eq_true rfl) hJ) ?_
      rintro _ _ (⟨m1, m2, rfl, μ₁, hS1, h0, rfl⟩ | ⟨m1, rfl, rfl⟩ | ⟨m1, m2, rfl, rfl⟩)
      · exact absurd m1 d1
      · skip
        refine e_istore dL_law_1090 (Nat.le_of_ble_eq_true rfl) ?_
        refine e_aload_n dL_law_1092 rfl rfl ?_
        refine e_invV (mcY := 0) (msY := 0) (ct_X7_thrown) vX7_thrown wM_L_88 (mo_at G (b + 157) _ _ 0 (by decide)) rfl dL_law_1093 rfl rfl (Nat.le_of_ble_eq_true rfl) (Nat.le_trans (Nat.le_of_ble_eq_true rfl) hJ) ?_
        rintro _ _ ⟨rfl, rfl⟩
        refine e_iload dL_law_1096 rfl ?_
        refine e_icmp_eq (tgt := 1103) dL_law_1098 (by decide) (fun _ => ?_) (fun q9 => absurd (ev_u_self μ.1 0 (1 : Int32)) q9)
        refine e_iload dL_law_1103 rfl ?_
        refine e_if_ne (tgt := 1120) dL_law_1105 (by decide) (fun _ => ?_) (fun q9 => absurd q9 (by decide))
        refine ev_as (lwH_mo G b _ _ _).symm ?_
        refine e_goto (tgt := 1438) dL_law_1120 (by decide) ?_
        exact ev_lc (hk _ _ _ ((hS.int (by decide) 1).up (by omega))) ⟨rfl, rfl, rfl, rfl, rfl, trivial⟩
      · exact absurd m1 d1
    · exact absurd e9 (by decide +kernel)
  · skip
    rcases hx with ⟨⟨e9, -⟩, -⟩ | ⟨⟨-, rfl⟩, c1, d2⟩
    · exact absurd e9 (by decide +kernel)
    refine e_istore dL_law_1072 (Nat.le_of_ble_eq_true rfl) ?_
    refine e_aload_n dL_law_1074 rfl rfl ?_
    refine e_aload_n dL_law_1075 rfl rfl ?_
    refine e_iload dL_law_1076 rfl ?_
    refine e_iconst (v := 1) dL_law_1078 (by decide) ?_
    refine e_iadd dL_law_1079 ?_
    refine e_scr hN hx0 hx5 (by decide +kernel) (by decide +kernel) dL_law_1080 ?_
    refine e_aload_n dL_law_1081 rfl rfl ?_
    refine e_iload dL_law_1082 rfl ?_
    refine e_iconst (v := 2) dL_law_1084 (by decide) ?_
    refine e_iadd dL_law_1085 ?_
    refine e_scr hN hx0 hx5 (by decide +kernel) (by decide +kernel) dL_law_1086 ?_
    refine ev_as (lwH_mo G b _ μ _) ?_
    refine e_invV (mcY := 0) (msY := 0) (ct_X7_strike hS) vX7_strike wM_L_142 (mo_at G (b + 157) _ _ 0 (by decide)) rfl dL_law_1087 rfl rfl (Nat.le_of_ble_eq_true rfl) (Nat.le_trans (Nat.le_of_ble_eq_true rfl) hJ) ?_
    rintro _ _ (⟨m1, m2, rfl, μ₁, hS1, h0, rfl⟩ | ⟨m1, rfl, rfl⟩ | ⟨m1, m2, rfl, rfl⟩)
    · exact absurd m2 d2
    · exact absurd c1 m1
    · skip
      refine e_istore dL_law_1090 (Nat.le_of_ble_eq_true rfl) ?_
      refine e_aload_n dL_law_1092 rfl rfl ?_
      refine e_invV (mcY := 0) (msY := 0) (ct_X7_thrown) vX7_thrown wM_L_88 (mo_at G (b + 157) _ _ 0 (by decide)) rfl dL_law_1093 rfl rfl (Nat.le_of_ble_eq_true rfl) (Nat.le_trans (Nat.le_of_ble_eq_true rfl) hJ) ?_
      rintro _ _ ⟨rfl, rfl⟩
      refine e_iload dL_law_1096 rfl ?_
      refine e_icmp_eq (tgt := 1103) dL_law_1098 (by decide) (fun _ => ?_) (fun q9 => absurd (ev_u_self μ.1 0 (2 : Int32)) q9)
      refine e_iload dL_law_1103 rfl ?_
      refine e_if_ne (tgt := 1120) dL_law_1105 (by decide) (fun _ => ?_) (fun q9 => absurd q9 (by decide))
      refine ev_as (lwH_mo G b _ _ _).symm ?_
      refine e_goto (tgt := 1438) dL_law_1120 (by decide) ?_
      exact ev_lc (hk _ _ _ ((hS.int (by decide) 2).up (by omega))) ⟨rfl, rfl, rfl, rfl, rfl, trivial⟩
set_option maxRecDepth 20000 in
set_option maxHeartbeats 1000000 in
theorem lc_impulse (hJ : 13 ≤ J.2.2.1) (hkd : J.1 = true) (hl0 : l.stackTraces = false) (hN : G.2.2.2.1.2.1 ≤ 3072) (hx0 : 0 ≤ x.toInt) (hx5 : x.toInt + 5 < (G.2.2.2.1.2.1 : Int)) (hS : RS T S μ) (hT0 : 0 ≤ T) (hT : T < 2147000000) (hk : ∀ S' μ' o', RS (T + 50) S' μ' → ev_V G l mL_law J 1438 (lwL G b x) [] (lwH G b S' μ' o') k n) : ev_V G l mL_law J 1123 (lwL G b x) [] (lwH G b S μ o) (k + 4) (n + 24) := by
  refine e_aload_n dL_law_1123 rfl rfl ?_
  refine e_aload_n dL_law_1124 rfl rfl ?_
  refine e_iload dL_law_1125 rfl ?_
  refine e_iconst (v := 1) dL_law_1127 (by decide) ?_
  refine e_iadd dL_law_1128 ?_
  refine e_scr hN hx0 hx5 (by decide +kernel) (by decide +kernel) dL_law_1129 ?_
  refine e_aload_n dL_law_1130 rfl rfl ?_
  refine e_iload dL_law_1131 rfl ?_
  refine e_iconst (v := 2) dL_law_1133 (by decide) ?_
  refine e_iadd dL_law_1134 ?_
  refine e_scr hN hx0 hx5 (by decide +kernel) (by decide +kernel) dL_law_1135 ?_
  refine e_aload_n dL_law_1136 rfl rfl ?_
  refine e_iload dL_law_1137 rfl ?_
  refine e_iconst (v := 3) dL_law_1139 (by decide) ?_
  refine e_iadd dL_law_1140 ?_
  refine e_scr hN hx0 hx5 (by decide +kernel) (by decide +kernel) dL_law_1141 ?_
  refine e_aload_n dL_law_1142 rfl rfl ?_
  refine e_invSH (hh := [(0, 12, 15, 26), (0, 12, 19, 13), (0, 12, 23, 61)]) (mcY := 4) (msY := 24) (ct_L_impulse (S := S) (μ := μ) (o := o) (Nat.le_of_ble_eq_true rfl) (ct_X6_impulse hl0 rfl hS.2.1.1 hS.1.2.1) ?_ ?_) vL_impulse wM_L_143 dL_law_1143 rfl rfl (Nat.le_of_ble_eq_true rfl) (Nat.le_trans (Nat.le_of_ble_eq_true rfl) hJ) ?_
  · rintro v a ⟨⟨rfl, rfl⟩, -⟩
    exact ⟨_, rfl, lwH_out G b _ μ o⟩
  · rintro E a (⟨⟨rfl, -⟩, -⟩ | ⟨⟨rfl, -⟩, -⟩ | ⟨⟨rfl, -⟩, -⟩)
    · exact Or.inl rfl
    · exact Or.inr (Or.inl rfl)
    · exact Or.inr (Or.inr (rfl))
  rintro _ a1 (⟨r, a0, hp, rfl, rfl⟩ | ⟨hx, rfl⟩ | ⟨hx, rfl⟩ | ⟨hx, rfl⟩)
  · skip
    obtain ⟨⟨hv, rfl⟩, c1, c2, c3⟩ := hp
    injection hv with hv
    injection hv with hv
    refine ev_as (lwH_put G b _ μ o _) ?_
    refine e_istore dL_law_1146 (Nat.le_of_ble_eq_true rfl) ?_
    refine e_aload_n dL_law_1148 rfl rfl ?_
    refine e_aload_n dL_law_1149 rfl rfl ?_
    refine e_iload dL_law_1150 rfl ?_
    refine e_iconst (v := 1) dL_law_1152 (by decide) ?_
    refine e_iadd dL_law_1153 ?_
    refine e_scr hN hx0 hx5 (by decide +kernel) (by decide +kernel) dL_law_1154 ?_
    refine e_aload_n dL_law_1155 rfl rfl ?_
    refine e_iload dL_law_1156 rfl ?_
    refine e_iconst (v := 2) dL_law_1158 (by decide) ?_
    refine e_iadd dL_law_1159 ?_
    refine e_scr hN hx0 hx5 (by decide +kernel) (by decide +kernel) dL_law_1160 ?_
    refine e_aload_n dL_law_1161 rfl rfl ?_
    refine e_iload dL_law_1162 rfl ?_
    refine e_iconst (v := 3) dL_law_1164 (by decide) ?_
    refine e_iadd dL_law_1165 ?_
    refine e_scr hN hx0 hx5 (by decide +kernel) (by decide +kernel) dL_law_1166 ?_
    refine ev_as (lwH_mo G b _ μ _) ?_
    refine e_invV (mcY := 0) (msY := 0) (ct_X7_impulse hS) vX7_impulse wM_L_145 (mo_at G (b + 157) _ _ 0 (by decide)) rfl dL_law_1167 rfl rfl (Nat.le_of_ble_eq_true rfl) (Nat.le_trans (Nat.le_of_ble_eq_true rfl) hJ) ?_
    rintro _ _ (⟨m1, m2, m3, rfl, μ₁, hS1, h0, rfl⟩ | ⟨m1, rfl, rfl⟩ | ⟨m1, m2, rfl, rfl⟩ | ⟨m1, m2, m3, rfl, rfl⟩)
    · skip
      refine e_istore dL_law_1170 (Nat.le_of_ble_eq_true rfl) ?_
      refine e_aload_n dL_law_1172 rfl rfl ?_
      refine e_invV (mcY := 0) (msY := 0) (ct_X7_thrown) vX7_thrown wM_L_88 (mo_at G (b + 157) _ _ 0 (by decide)) rfl dL_law_1173 rfl rfl (Nat.le_of_ble_eq_true rfl) (Nat.le_trans (Nat.le_of_ble_eq_true rfl) hJ) ?_
      rintro _ _ ⟨rfl, rfl⟩
      refine e_iload dL_law_1176 rfl ?_
      refine e_icmp_eq (tgt := 1183) dL_law_1178 (by decide) (fun _ => ?_) (fun q9 => absurd (h0) q9)
      refine e_iload dL_law_1183 rfl ?_
      refine e_if_ne (tgt := 1200) dL_law_1185 (by decide) (fun q9 => absurd rfl q9) (fun _ => ?_)
      refine ev_as (lwH_mo G b _ _ _).symm ?_
      refine e_aload_n dL_law_1188 rfl rfl ?_
      refine e_iconst (v := 0) dL_law_1189 (by decide) ?_
      refine e_lald (N := 1) (lwH_out G b _ _ _) (by decide +kernel) (by decide +kernel) dL_law_1190 ?_
      refine e_iload dL_law_1191 rfl ?_
      refine e_i2l dL_law_1193 ?_
      refine e_lcmp dL_law_1194 ?_
      refine e_if_eq (tgt := 1200) dL_law_1195 (by decide) (fun _ => ?_) (fun q9 => absurd (lw_cmp ((ev_u_self _ _ _).trans (congrArg Int32.toInt64 hv))) q9)
      refine e_goto (tgt := 1438) dL_law_1200 (by decide) ?_
      exact ev_lc (hk _ _ _ (hS1.up (by omega))) ⟨rfl, rfl, rfl, rfl, rfl, trivial⟩
    · exact absurd c1 m1
    · exact absurd c2 m2
    · exact absurd c3 m3
  · skip
    rcases hx with ⟨⟨-, rfl⟩, d1⟩ | ⟨⟨e9, -⟩, -⟩ | ⟨⟨e9, -⟩, -⟩
    · skip
      refine e_istore dL_law_1146 (Nat.le_of_ble_eq_true rfl) ?_
      refine e_aload_n dL_law_1148 rfl rfl ?_
      refine e_aload_n dL_law_1149 rfl rfl ?_
      refine e_iload dL_law_1150 rfl ?_
      refine e_iconst (v := 1) dL_law_1152 (by decide) ?_
      refine e_iadd dL_law_1153 ?_
      refine e_scr hN hx0 hx5 (by decide +kernel) (by decide +kernel) dL_law_1154 ?_
      refine e_aload_n dL_law_1155 rfl rfl ?_
      refine e_iload dL_law_1156 rfl ?_
      refine e_iconst (v := 2) dL_law_1158 (by decide) ?_
      refine e_iadd dL_law_1159 ?_
      refine e_scr hN hx0 hx5 (by decide +kernel) (by decide +kernel) dL_law_1160 ?_
      refine e_aload_n dL_law_1161 rfl rfl ?_
      refine e_iload dL_law_1162 rfl ?_
      refine e_iconst (v := 3) dL_law_1164 (by decide) ?_
      refine e_iadd dL_law_1165 ?_
      refine e_scr hN hx0 hx5 (by decide +kernel) (by decide +kernel) dL_law_1166 ?_
      refine ev_as (lwH_mo G b _ μ _) ?_
      refine e_invV (mcY := 0) (msY := 0) (ct_X7_impulse hS) vX7_impulse wM_L_145 (mo_at G (b + 157) _ _ 0 (by decide)) rfl dL_law_1167 rfl rfl (Nat.le_of_ble_eq_true rfl) (Nat.le_trans (Nat.le_of_ble_eq_true rfl) hJ) ?_
      rintro _ _ (⟨m1, m2, m3, rfl, μ₁, hS1, h0, rfl⟩ | ⟨m1, rfl, rfl⟩ | ⟨m1, m2, rfl, rfl⟩ | ⟨m1, m2, m3, rfl, rfl⟩)
      · exact absurd m1 d1
      · skip
        refine e_istore dL_law_1170 (Nat.le_of_ble_eq_true rfl) ?_
        refine e_aload_n dL_law_1172 rfl rfl ?_
        refine e_invV (mcY := 0) (msY := 0) (ct_X7_thrown) vX7_thrown wM_L_88 (mo_at G (b + 157) _ _ 0 (by decide)) rfl dL_law_1173 rfl rfl (Nat.le_of_ble_eq_true rfl) (Nat.le_trans (Nat.le_of_ble_eq_true rfl) hJ) ?_
        rintro _ _ ⟨rfl, rfl⟩
        refine e_iload dL_law_1176 rfl ?_
        refine e_icmp_eq (tgt := 1183) dL_law_1178 (by decide) (fun _ => ?_) (fun q9 => absurd (ev_u_self μ.1 0 (1 : Int32)) q9)
        refine e_iload dL_law_1183 rfl ?_
        refine e_if_ne (tgt := 1200) dL_law_1185 (by decide) (fun _ => ?_) (fun q9 => absurd q9 (by decide))
        refine ev_as (lwH_mo G b _ _ _).symm ?_
        refine e_goto (tgt := 1438) dL_law_1200 (by decide) ?_
        exact ev_lc (hk _ _ _ ((hS.int (by decide) 1).up (by omega))) ⟨rfl, rfl, rfl, rfl, rfl, trivial⟩
      · exact absurd m1 d1
      · exact absurd m1 d1
    · exact absurd e9 (by decide +kernel)
    · exact absurd e9 (by decide +kernel)
  · skip
    rcases hx with ⟨⟨e9, -⟩, -⟩ | ⟨⟨-, rfl⟩, c1, d2⟩ | ⟨⟨e9, -⟩, -⟩
    · exact absurd e9 (by decide +kernel)
    · skip
      refine e_istore dL_law_1146 (Nat.le_of_ble_eq_true rfl) ?_
      refine e_aload_n dL_law_1148 rfl rfl ?_
      refine e_aload_n dL_law_1149 rfl rfl ?_
      refine e_iload dL_law_1150 rfl ?_
      refine e_iconst (v := 1) dL_law_1152 (by decide) ?_
      refine e_iadd dL_law_1153 ?_
      refine e_scr hN hx0 hx5 (by decide +kernel) (by decide +kernel) dL_law_1154 ?_
      refine e_aload_n dL_law_1155 rfl rfl ?_
      refine e_iload dL_law_1156 rfl ?_
      refine e_iconst (v := 2) dL_law_1158 (by decide) ?_
      refine e_iadd dL_law_1159 ?_
      refine e_scr hN hx0 hx5 (by decide +kernel) (by decide +kernel) dL_law_1160 ?_
      refine e_aload_n dL_law_1161 rfl rfl ?_
      refine e_iload dL_law_1162 rfl ?_
      refine e_iconst (v := 3) dL_law_1164 (by decide) ?_
      refine e_iadd dL_law_1165 ?_
      refine e_scr hN hx0 hx5 (by decide +kernel) (by decide +kernel) dL_law_1166 ?_
      refine ev_as (lwH_mo G b _ μ _) ?_
      refine e_invV (mcY := 0) (msY := 0) (ct_X7_impulse hS) vX7_impulse wM_L_145 (mo_at G (b + 157) _ _ 0 (by decide)) rfl dL_law_1167 rfl rfl (Nat.le_of_ble_eq_true rfl) (Nat.le_trans (Nat.le_of_ble_eq_true rfl) hJ) ?_
      rintro _ _ (⟨m1, m2, m3, rfl, μ₁, hS1, h0, rfl⟩ | ⟨m1, rfl, rfl⟩ | ⟨m1, m2, rfl, rfl⟩ | ⟨m1, m2, m3, rfl, rfl⟩)
      · exact absurd m2 d2
      · exact absurd c1 m1
      · skip
        refine e_istore dL_law_1170 (Nat.le_of_ble_eq_true rfl) ?_
        refine e_aload_n dL_law_1172 rfl rfl ?_
        refine e_invV (mcY := 0) (msY := 0) (ct_X7_thrown) vX7_thrown wM_L_88 (mo_at G (b + 157) _ _ 0 (by decide)) rfl dL_law_1173 rfl rfl (Nat.le_of_ble_eq_true rfl) (Nat.le_trans (Nat.le_of_ble_eq_true rfl) hJ) ?_
        rintro _ _ ⟨rfl, rfl⟩
        refine e_iload dL_law_1176 rfl ?_
        refine e_icmp_eq (tgt := 1183) dL_law_1178 (by decide) (fun _ => ?_) (fun q9 => absurd (ev_u_self μ.1 0 (2 : Int32)) q9)
        refine e_iload dL_law_1183 rfl ?_
        refine e_if_ne (tgt := 1200) dL_law_1185 (by decide) (fun _ => ?_) (fun q9 => absurd q9 (by decide))
        refine ev_as (lwH_mo G b _ _ _).symm ?_
        refine e_goto (tgt := 1438) dL_law_1200 (by decide) ?_
        exact ev_lc (hk _ _ _ ((hS.int (by decide) 2).up (by omega))) ⟨rfl, rfl, rfl, rfl, rfl, trivial⟩
      · exact absurd m2 d2
    · exact absurd e9 (by decide +kernel)
  · skip
    rcases hx with ⟨⟨e9, -⟩, -⟩ | ⟨⟨e9, -⟩, -⟩ | ⟨⟨-, rfl⟩, c1, c2, d3⟩
    · exact absurd e9 (by decide +kernel)
    · exact absurd e9 (by decide +kernel)
    refine e_istore dL_law_1146 (Nat.le_of_ble_eq_true rfl) ?_
    refine e_aload_n dL_law_1148 rfl rfl ?_
    refine e_aload_n dL_law_1149 rfl rfl ?_
    refine e_iload dL_law_1150 rfl ?_
    refine e_iconst (v := 1) dL_law_1152 (by decide) ?_
    refine e_iadd dL_law_1153 ?_
    refine e_scr hN hx0 hx5 (by decide +kernel) (by decide +kernel) dL_law_1154 ?_
    refine e_aload_n dL_law_1155 rfl rfl ?_
    refine e_iload dL_law_1156 rfl ?_
    refine e_iconst (v := 2) dL_law_1158 (by decide) ?_
    refine e_iadd dL_law_1159 ?_
    refine e_scr hN hx0 hx5 (by decide +kernel) (by decide +kernel) dL_law_1160 ?_
    refine e_aload_n dL_law_1161 rfl rfl ?_
    refine e_iload dL_law_1162 rfl ?_
    refine e_iconst (v := 3) dL_law_1164 (by decide) ?_
    refine e_iadd dL_law_1165 ?_
    refine e_scr hN hx0 hx5 (by decide +kernel) (by decide +kernel) dL_law_1166 ?_
    refine ev_as (lwH_mo G b _ μ _) ?_
    refine e_invV (mcY := 0) (msY := 0) (ct_X7_impulse hS) vX7_impulse wM_L_145 (mo_at G (b + 157) _ _ 0 (by decide)) rfl dL_law_1167 rfl rfl (Nat.le_of_ble_eq_true rfl) (Nat.le_trans (Nat.le_of_ble_eq_true rfl) hJ) ?_
    rintro _ _ (⟨m1, m2, m3, rfl, μ₁, hS1, h0, rfl⟩ | ⟨m1, rfl, rfl⟩ | ⟨m1, m2, rfl, rfl⟩ | ⟨m1, m2, m3, rfl, rfl⟩)
    · exact absurd m3 d3
    · exact absurd c1 m1
    · exact absurd c2 m2
    · skip
      refine e_istore dL_law_1170 (Nat.le_of_ble_eq_true rfl) ?_
      refine e_aload_n dL_law_1172 rfl rfl ?_
      refine e_invV (mcY := 0) (msY := 0) (ct_X7_thrown) vX7_thrown wM_L_88 (mo_at G (b + 157) _ _ 0 (by decide)) rfl dL_law_1173 rfl rfl (Nat.le_of_ble_eq_true rfl) (Nat.le_trans (Nat.le_of_ble_eq_true rfl) hJ) ?_
      rintro _ _ ⟨rfl, rfl⟩
      refine e_iload dL_law_1176 rfl ?_
      refine e_icmp_eq (tgt := 1183) dL_law_1178 (by decide) (fun _ => ?_) (fun q9 => absurd (ev_u_self μ.1 0 (3 : Int32)) q9)
      refine e_iload dL_law_1183 rfl ?_
      refine e_if_ne (tgt := 1200) dL_law_1185 (by decide) (fun _ => ?_) (fun q9 => absurd q9 (by decide))
      refine ev_as (lwH_mo G b _ _ _).symm ?_
      refine e_goto (tgt := 1438) dL_law_1200 (by decide) ?_
      exact ev_lc (hk _ _ _ ((hS.int (by decide) 3).up (by omega))) ⟨rfl, rfl, rfl, rfl, rfl, trivial⟩
set_option maxRecDepth 20000 in
set_option maxHeartbeats 1000000 in
theorem lc_stiffen (hJ : 13 ≤ J.2.2.1) (hkd : J.1 = true) (hl0 : l.stackTraces = false) (hN : G.2.2.2.1.2.1 ≤ 3072) (hx0 : 0 ≤ x.toInt) (hx5 : x.toInt + 5 < (G.2.2.2.1.2.1 : Int)) (hS : RS T S μ) (hT0 : 0 ≤ T) (hT : T < 2147000000) (hk : ∀ S' μ' o', RS (T + 50) S' μ' → ev_V G l mL_law J 1438 (lwL G b x) [] (lwH G b S' μ' o') k n) : ev_V G l mL_law J 1203 (lwL G b x) [] (lwH G b S μ o) (k + 2) (n + 12) := by
  refine e_aload_n dL_law_1203 rfl rfl ?_
  refine e_aload_n dL_law_1204 rfl rfl ?_
  refine e_iload dL_law_1205 rfl ?_
  refine e_iconst (v := 1) dL_law_1207 (by decide) ?_
  refine e_iadd dL_law_1208 ?_
  refine e_scr hN hx0 hx5 (by decide +kernel) (by decide +kernel) dL_law_1209 ?_
  refine e_aload_n dL_law_1210 rfl rfl ?_
  refine e_iload dL_law_1211 rfl ?_
  refine e_iconst (v := 2) dL_law_1213 (by decide) ?_
  refine e_iadd dL_law_1214 ?_
  refine e_scr hN hx0 hx5 (by decide +kernel) (by decide +kernel) dL_law_1215 ?_
  refine e_aload_n dL_law_1216 rfl rfl ?_
  refine e_invSH (hh := [(0, 10, 13, 26), (0, 10, 17, 13)]) (mcY := 2) (msY := 12) (ct_L_stiffen (S := S) (μ := μ) (o := o) (Nat.le_of_ble_eq_true rfl) (ct_X6_stiffen hl0 rfl hS.2.1.1 hS.1.2.1) ?_ ?_) vL_stiffen wM_L_146 dL_law_1217 rfl rfl (Nat.le_of_ble_eq_true rfl) (Nat.le_trans (Nat.le_of_ble_eq_true rfl) hJ) ?_
  · rintro v a ⟨⟨rfl, rfl⟩, -⟩
    exact ⟨_, rfl, lwH_out G b _ μ o⟩
  · rintro E a (⟨⟨rfl, -⟩, -⟩ | ⟨⟨rfl, -⟩, -⟩)
    · exact Or.inl rfl
    · exact Or.inr (rfl)
  rintro _ a1 (⟨r, a0, hp, rfl, rfl⟩ | ⟨hx, rfl⟩ | ⟨hx, rfl⟩)
  · skip
    obtain ⟨⟨hv, rfl⟩, c1, c2⟩ := hp
    injection hv with hv
    injection hv with hv
    refine ev_as (lwH_put G b _ μ o _) ?_
    refine e_istore dL_law_1220 (Nat.le_of_ble_eq_true rfl) ?_
    refine e_aload_n dL_law_1222 rfl rfl ?_
    refine e_aload_n dL_law_1223 rfl rfl ?_
    refine e_iload dL_law_1224 rfl ?_
    refine e_iconst (v := 1) dL_law_1226 (by decide) ?_
    refine e_iadd dL_law_1227 ?_
    refine e_scr hN hx0 hx5 (by decide +kernel) (by decide +kernel) dL_law_1228 ?_
    refine e_aload_n dL_law_1229 rfl rfl ?_
    refine e_iload dL_law_1230 rfl ?_
    refine e_iconst (v := 2) dL_law_1232 (by decide) ?_
    refine e_iadd dL_law_1233 ?_
    refine e_scr hN hx0 hx5 (by decide +kernel) (by decide +kernel) dL_law_1234 ?_
    refine ev_as (lwH_mo G b _ μ _) ?_
    refine e_invV (mcY := 0) (msY := 0) (ct_X7_stiffen hS) vX7_stiffen wM_L_148 (mo_at G (b + 157) _ _ 0 (by decide)) rfl dL_law_1235 rfl rfl (Nat.le_of_ble_eq_true rfl) (Nat.le_trans (Nat.le_of_ble_eq_true rfl) hJ) ?_
    rintro _ _ (⟨m1, m2, rfl, μ₁, hS1, h0, rfl⟩ | ⟨m1, rfl, rfl⟩ | ⟨m1, m2, rfl, rfl⟩)
    · skip
      refine e_istore dL_law_1238 (Nat.le_of_ble_eq_true rfl) ?_
      refine e_aload_n dL_law_1240 rfl rfl ?_
      refine e_invV (mcY := 0) (msY := 0) (ct_X7_thrown) vX7_thrown wM_L_88 (mo_at G (b + 157) _ _ 0 (by decide)) rfl dL_law_1241 rfl rfl (Nat.le_of_ble_eq_true rfl) (Nat.le_trans (Nat.le_of_ble_eq_true rfl) hJ) ?_
      rintro _ _ ⟨rfl, rfl⟩
      refine e_iload dL_law_1244 rfl ?_
      refine e_icmp_eq (tgt := 1251) dL_law_1246 (by decide) (fun _ => ?_) (fun q9 => absurd (h0) q9)
      refine e_iload dL_law_1251 rfl ?_
      refine e_if_ne (tgt := 1268) dL_law_1253 (by decide) (fun q9 => absurd rfl q9) (fun _ => ?_)
      refine ev_as (lwH_mo G b _ _ _).symm ?_
      refine e_aload_n dL_law_1256 rfl rfl ?_
      refine e_iconst (v := 0) dL_law_1257 (by decide) ?_
      refine e_lald (N := 1) (lwH_out G b _ _ _) (by decide +kernel) (by decide +kernel) dL_law_1258 ?_
      refine e_iload dL_law_1259 rfl ?_
      refine e_i2l dL_law_1261 ?_
      refine e_lcmp dL_law_1262 ?_
      refine e_if_eq (tgt := 1268) dL_law_1263 (by decide) (fun _ => ?_) (fun q9 => absurd (lw_cmp ((ev_u_self _ _ _).trans (congrArg Int32.toInt64 hv))) q9)
      refine e_goto (tgt := 1438) dL_law_1268 (by decide) ?_
      exact ev_lc (hk _ _ _ (hS1.up (by omega))) ⟨rfl, rfl, rfl, rfl, rfl, trivial⟩
    · exact absurd c1 m1
    · exact absurd c2 m2
  · skip
    rcases hx with ⟨⟨-, rfl⟩, d1⟩ | ⟨⟨e9, -⟩, -⟩
    · skip
      refine e_istore dL_law_1220 (Nat.le_of_ble_eq_true rfl) ?_
      refine e_aload_n dL_law_1222 rfl rfl ?_
      refine e_aload_n dL_law_1223 rfl rfl ?_
      refine e_iload dL_law_1224 rfl ?_
      refine e_iconst (v := 1) dL_law_1226 (by decide) ?_
      refine e_iadd dL_law_1227 ?_
      refine e_scr hN hx0 hx5 (by decide +kernel) (by decide +kernel) dL_law_1228 ?_
      refine e_aload_n dL_law_1229 rfl rfl ?_
      refine e_iload dL_law_1230 rfl ?_
      refine e_iconst (v := 2) dL_law_1232 (by decide) ?_
      refine e_iadd dL_law_1233 ?_
      refine e_scr hN hx0 hx5 (by decide +kernel) (by decide +kernel) dL_law_1234 ?_
      refine ev_as (lwH_mo G b _ μ _) ?_
      refine e_invV (mcY := 0) (msY := 0) (ct_X7_stiffen hS) vX7_stiffen wM_L_148 (mo_at G (b + 157) _ _ 0 (by decide)) rfl dL_law_1235 rfl rfl (Nat.le_of_ble_eq_true rfl) (Nat.le_trans (Nat.le_of_ble_eq_true rfl) hJ) ?_
      rintro _ _ (⟨m1, m2, rfl, μ₁, hS1, h0, rfl⟩ | ⟨m1, rfl, rfl⟩ | ⟨m1, m2, rfl, rfl⟩)
      · exact absurd m1 d1
      · skip
        refine e_istore dL_law_1238 (Nat.le_of_ble_eq_true rfl) ?_
        refine e_aload_n dL_law_1240 rfl rfl ?_
        refine e_invV (mcY := 0) (msY := 0) (ct_X7_thrown) vX7_thrown wM_L_88 (mo_at G (b + 157) _ _ 0 (by decide)) rfl dL_law_1241 rfl rfl (Nat.le_of_ble_eq_true rfl) (Nat.le_trans (Nat.le_of_ble_eq_true rfl) hJ) ?_
        rintro _ _ ⟨rfl, rfl⟩
        refine e_iload dL_law_1244 rfl ?_
        refine e_icmp_eq (tgt := 1251) dL_law_1246 (by decide) (fun _ => ?_) (fun q9 => absurd (ev_u_self μ.1 0 (1 : Int32)) q9)
        refine e_iload dL_law_1251 rfl ?_
        refine e_if_ne (tgt := 1268) dL_law_1253 (by decide) (fun _ => ?_) (fun q9 => absurd q9 (by decide))
        refine ev_as (lwH_mo G b _ _ _).symm ?_
        refine e_goto (tgt := 1438) dL_law_1268 (by decide) ?_
        exact ev_lc (hk _ _ _ ((hS.int (by decide) 1).up (by omega))) ⟨rfl, rfl, rfl, rfl, rfl, trivial⟩
      · exact absurd m1 d1
    · exact absurd e9 (by decide +kernel)
  · skip
    rcases hx with ⟨⟨e9, -⟩, -⟩ | ⟨⟨-, rfl⟩, c1, d2⟩
    · exact absurd e9 (by decide +kernel)
    refine e_istore dL_law_1220 (Nat.le_of_ble_eq_true rfl) ?_
    refine e_aload_n dL_law_1222 rfl rfl ?_
    refine e_aload_n dL_law_1223 rfl rfl ?_
    refine e_iload dL_law_1224 rfl ?_
    refine e_iconst (v := 1) dL_law_1226 (by decide) ?_
    refine e_iadd dL_law_1227 ?_
    refine e_scr hN hx0 hx5 (by decide +kernel) (by decide +kernel) dL_law_1228 ?_
    refine e_aload_n dL_law_1229 rfl rfl ?_
    refine e_iload dL_law_1230 rfl ?_
    refine e_iconst (v := 2) dL_law_1232 (by decide) ?_
    refine e_iadd dL_law_1233 ?_
    refine e_scr hN hx0 hx5 (by decide +kernel) (by decide +kernel) dL_law_1234 ?_
    refine ev_as (lwH_mo G b _ μ _) ?_
    refine e_invV (mcY := 0) (msY := 0) (ct_X7_stiffen hS) vX7_stiffen wM_L_148 (mo_at G (b + 157) _ _ 0 (by decide)) rfl dL_law_1235 rfl rfl (Nat.le_of_ble_eq_true rfl) (Nat.le_trans (Nat.le_of_ble_eq_true rfl) hJ) ?_
    rintro _ _ (⟨m1, m2, rfl, μ₁, hS1, h0, rfl⟩ | ⟨m1, rfl, rfl⟩ | ⟨m1, m2, rfl, rfl⟩)
    · exact absurd m2 d2
    · exact absurd c1 m1
    · skip
      refine e_istore dL_law_1238 (Nat.le_of_ble_eq_true rfl) ?_
      refine e_aload_n dL_law_1240 rfl rfl ?_
      refine e_invV (mcY := 0) (msY := 0) (ct_X7_thrown) vX7_thrown wM_L_88 (mo_at G (b + 157) _ _ 0 (by decide)) rfl dL_law_1241 rfl rfl (Nat.le_of_ble_eq_true rfl) (Nat.le_trans (Nat.le_of_ble_eq_true rfl) hJ) ?_
      rintro _ _ ⟨rfl, rfl⟩
      refine e_iload dL_law_1244 rfl ?_
      refine e_icmp_eq (tgt := 1251) dL_law_1246 (by decide) (fun _ => ?_) (fun q9 => absurd (ev_u_self μ.1 0 (2 : Int32)) q9)
      refine e_iload dL_law_1251 rfl ?_
      refine e_if_ne (tgt := 1268) dL_law_1253 (by decide) (fun _ => ?_) (fun q9 => absurd q9 (by decide))
      refine ev_as (lwH_mo G b _ _ _).symm ?_
      refine e_goto (tgt := 1438) dL_law_1268 (by decide) ?_
      exact ev_lc (hk _ _ _ ((hS.int (by decide) 2).up (by omega))) ⟨rfl, rfl, rfl, rfl, rfl, trivial⟩
set_option maxRecDepth 20000 in
set_option maxHeartbeats 1000000 in
theorem lc_mend (hJ : 13 ≤ J.2.2.1) (hkd : J.1 = true) (hl0 : l.stackTraces = false) (hN : G.2.2.2.1.2.1 ≤ 3072) (hx0 : 0 ≤ x.toInt) (hx5 : x.toInt + 5 < (G.2.2.2.1.2.1 : Int)) (hS : RS T S μ) (hT0 : 0 ≤ T) (hT : T < 2147000000) (hk : ∀ S' μ' o', RS (T + 50) S' μ' → ev_V G l mL_law J 1438 (lwL G b x) [] (lwH G b S' μ' o') k n) : ev_V G l mL_law J 1271 (lwL G b x) [] (lwH G b S μ o) (k + 2) (n + 12) := by
  refine e_aload_n dL_law_1271 rfl rfl ?_
  refine e_aload_n dL_law_1272 rfl rfl ?_
  refine e_iload dL_law_1273 rfl ?_
  refine e_iconst (v := 1) dL_law_1275 (by decide) ?_
  refine e_iadd dL_law_1276 ?_
  refine e_scr hN hx0 hx5 (by decide +kernel) (by decide +kernel) dL_law_1277 ?_
  refine e_aload_n dL_law_1278 rfl rfl ?_
  refine e_invSH (hh := [(0, 9, 12, 26), (0, 9, 15, 61)]) (mcY := 2) (msY := 12) (ct_L_mend (S := S) (μ := μ) (o := o) (Nat.le_of_ble_eq_true rfl) (ct_X6_mend hl0 rfl hS.2.1.1 hS.1.2.1) ?_ ?_) vL_mend wM_L_149 dL_law_1279 rfl rfl (Nat.le_of_ble_eq_true rfl) (Nat.le_trans (Nat.le_of_ble_eq_true rfl) hJ) ?_
  · rintro v a ⟨⟨rfl, rfl⟩, -⟩
    exact ⟨_, rfl, lwH_out G b _ μ o⟩
  · rintro E a (⟨⟨rfl, -⟩, -⟩ | ⟨⟨rfl, -⟩, -⟩)
    · exact Or.inl rfl
    · exact Or.inr (rfl)
  rintro _ a1 (⟨r, a0, hp, rfl, rfl⟩ | ⟨hx, rfl⟩ | ⟨hx, rfl⟩)
  · skip
    obtain ⟨⟨hv, rfl⟩, c1, c2⟩ := hp
    injection hv with hv
    injection hv with hv
    refine ev_as (lwH_put G b _ μ o _) ?_
    refine e_istore dL_law_1282 (Nat.le_of_ble_eq_true rfl) ?_
    refine e_aload_n dL_law_1284 rfl rfl ?_
    refine e_aload_n dL_law_1285 rfl rfl ?_
    refine e_iload dL_law_1286 rfl ?_
    refine e_iconst (v := 1) dL_law_1288 (by decide) ?_
    refine e_iadd dL_law_1289 ?_
    refine e_scr hN hx0 hx5 (by decide +kernel) (by decide +kernel) dL_law_1290 ?_
    refine ev_as (lwH_mo G b _ μ _) ?_
    refine e_invV (mcY := 0) (msY := 0) (ct_X7_mend hS) vX7_mend wM_L_151 (mo_at G (b + 157) _ _ 0 (by decide)) rfl dL_law_1291 rfl rfl (Nat.le_of_ble_eq_true rfl) (Nat.le_trans (Nat.le_of_ble_eq_true rfl) hJ) ?_
    rintro _ _ (⟨m1, m2, rfl, μ₁, hS1, h0, rfl⟩ | ⟨m1, rfl, rfl⟩ | ⟨m1, m2, rfl, rfl⟩)
    · skip
      refine e_istore dL_law_1294 (Nat.le_of_ble_eq_true rfl) ?_
      refine e_aload_n dL_law_1296 rfl rfl ?_
      refine e_invV (mcY := 0) (msY := 0) (ct_X7_thrown) vX7_thrown wM_L_88 (mo_at G (b + 157) _ _ 0 (by decide)) rfl dL_law_1297 rfl rfl (Nat.le_of_ble_eq_true rfl) (Nat.le_trans (Nat.le_of_ble_eq_true rfl) hJ) ?_
      rintro _ _ ⟨rfl, rfl⟩
      refine e_iload dL_law_1300 rfl ?_
      refine e_icmp_eq (tgt := 1307) dL_law_1302 (by decide) (fun _ => ?_) (fun q9 => absurd (h0) q9)
      refine e_iload dL_law_1307 rfl ?_
      refine e_if_ne (tgt := 1324) dL_law_1309 (by decide) (fun q9 => absurd rfl q9) (fun _ => ?_)
      refine ev_as (lwH_mo G b _ _ _).symm ?_
      refine e_aload_n dL_law_1312 rfl rfl ?_
      refine e_iconst (v := 0) dL_law_1313 (by decide) ?_
      refine e_lald (N := 1) (lwH_out G b _ _ _) (by decide +kernel) (by decide +kernel) dL_law_1314 ?_
      refine e_iload dL_law_1315 rfl ?_
      refine e_i2l dL_law_1317 ?_
      refine e_lcmp dL_law_1318 ?_
      refine e_if_eq (tgt := 1324) dL_law_1319 (by decide) (fun _ => ?_) (fun q9 => absurd (lw_cmp ((ev_u_self _ _ _).trans (congrArg Int32.toInt64 hv))) q9)
      refine e_goto (tgt := 1438) dL_law_1324 (by decide) ?_
      exact ev_lc (hk _ _ _ (hS1.up (by omega))) ⟨rfl, rfl, rfl, rfl, rfl, trivial⟩
    · exact absurd c1 m1
    · exact absurd c2 m2
  · skip
    rcases hx with ⟨⟨-, rfl⟩, d1⟩ | ⟨⟨e9, -⟩, -⟩
    · skip
      refine e_istore dL_law_1282 (Nat.le_of_ble_eq_true rfl) ?_
      refine e_aload_n dL_law_1284 rfl rfl ?_
      refine e_aload_n dL_law_1285 rfl rfl ?_
      refine e_iload dL_law_1286 rfl ?_
      refine e_iconst (v := 1) dL_law_1288 (by decide) ?_
      refine e_iadd dL_law_1289 ?_
      refine e_scr hN hx0 hx5 (by decide +kernel) (by decide +kernel) dL_law_1290 ?_
      refine ev_as (lwH_mo G b _ μ _) ?_
      refine e_invV (mcY := 0) (msY := 0) (ct_X7_mend hS) vX7_mend wM_L_151 (mo_at G (b + 157) _ _ 0 (by decide)) rfl dL_law_1291 rfl rfl (Nat.le_of_ble_eq_true rfl) (Nat.le_trans (Nat.le_of_ble_eq_true rfl) hJ) ?_
      rintro _ _ (⟨m1, m2, rfl, μ₁, hS1, h0, rfl⟩ | ⟨m1, rfl, rfl⟩ | ⟨m1, m2, rfl, rfl⟩)
      · exact absurd m1 d1
      · skip
        refine e_istore dL_law_1294 (Nat.le_of_ble_eq_true rfl) ?_
        refine e_aload_n dL_law_1296 rfl rfl ?_
        refine e_invV (mcY := 0) (msY := 0) (ct_X7_thrown) vX7_thrown wM_L_88 (mo_at G (b + 157) _ _ 0 (by decide)) rfl dL_law_1297 rfl rfl (Nat.le_of_ble_eq_true rfl) (Nat.le_trans (Nat.le_of_ble_eq_true rfl) hJ) ?_
        rintro _ _ ⟨rfl, rfl⟩
        refine e_iload dL_law_1300 rfl ?_
        refine e_icmp_eq (tgt := 1307) dL_law_1302 (by decide) (fun _ => ?_) (fun q9 => absurd (ev_u_self μ.1 0 (1 : Int32)) q9)
        refine e_iload dL_law_1307 rfl ?_
        refine e_if_ne (tgt := 1324) dL_law_1309 (by decide) (fun _ => ?_) (fun q9 => absurd q9 (by decide))
        refine ev_as (lwH_mo G b _ _ _).symm ?_
        refine e_goto (tgt := 1438) dL_law_1324 (by decide) ?_
        exact ev_lc (hk _ _ _ ((hS.int (by decide) 1).up (by omega))) ⟨rfl, rfl, rfl, rfl, rfl, trivial⟩
      · exact absurd m1 d1
    · exact absurd e9 (by decide +kernel)
  · skip
    rcases hx with ⟨⟨e9, -⟩, -⟩ | ⟨⟨-, rfl⟩, c1, d2⟩
    · exact absurd e9 (by decide +kernel)
    refine e_istore dL_law_1282 (Nat.le_of_ble_eq_true rfl) ?_
    refine e_aload_n dL_law_1284 rfl rfl ?_
    refine e_aload_n dL_law_1285 rfl rfl ?_
    refine e_iload dL_law_1286 rfl ?_
    refine e_iconst (v := 1) dL_law_1288 (by decide) ?_
    refine e_iadd dL_law_1289 ?_
    refine e_scr hN hx0 hx5 (by decide +kernel) (by decide +kernel) dL_law_1290 ?_
    refine ev_as (lwH_mo G b _ μ _) ?_
    refine e_invV (mcY := 0) (msY := 0) (ct_X7_mend hS) vX7_mend wM_L_151 (mo_at G (b + 157) _ _ 0 (by decide)) rfl dL_law_1291 rfl rfl (Nat.le_of_ble_eq_true rfl) (Nat.le_trans (Nat.le_of_ble_eq_true rfl) hJ) ?_
    rintro _ _ (⟨m1, m2, rfl, μ₁, hS1, h0, rfl⟩ | ⟨m1, rfl, rfl⟩ | ⟨m1, m2, rfl, rfl⟩)
    · exact absurd m2 d2
    · exact absurd c1 m1
    · skip
      refine e_istore dL_law_1294 (Nat.le_of_ble_eq_true rfl) ?_
      refine e_aload_n dL_law_1296 rfl rfl ?_
      refine e_invV (mcY := 0) (msY := 0) (ct_X7_thrown) vX7_thrown wM_L_88 (mo_at G (b + 157) _ _ 0 (by decide)) rfl dL_law_1297 rfl rfl (Nat.le_of_ble_eq_true rfl) (Nat.le_trans (Nat.le_of_ble_eq_true rfl) hJ) ?_
      rintro _ _ ⟨rfl, rfl⟩
      refine e_iload dL_law_1300 rfl ?_
      refine e_icmp_eq (tgt := 1307) dL_law_1302 (by decide) (fun _ => ?_) (fun q9 => absurd (ev_u_self μ.1 0 (2 : Int32)) q9)
      refine e_iload dL_law_1307 rfl ?_
      refine e_if_ne (tgt := 1324) dL_law_1309 (by decide) (fun _ => ?_) (fun q9 => absurd q9 (by decide))
      refine ev_as (lwH_mo G b _ _ _).symm ?_
      refine e_goto (tgt := 1438) dL_law_1324 (by decide) ?_
      exact ev_lc (hk _ _ _ ((hS.int (by decide) 2).up (by omega))) ⟨rfl, rfl, rfl, rfl, rfl, trivial⟩
set_option maxRecDepth 20000 in
set_option maxHeartbeats 1000000 in
theorem lc_move (hJ : 13 ≤ J.2.2.1) (hkd : J.1 = true) (hl0 : l.stackTraces = false) (hN : G.2.2.2.1.2.1 ≤ 3072) (hx0 : 0 ≤ x.toInt) (hx5 : x.toInt + 5 < (G.2.2.2.1.2.1 : Int)) (hS : RS T S μ) (hT0 : 0 ≤ T) (hT : T < 2147000000) (hk : ∀ S' μ' o', RS (T + 50) S' μ' → ev_V G l mL_law J 1438 (lwL G b x) [] (lwH G b S' μ' o') k n) : ev_V G l mL_law J 1327 (lwL G b x) [] (lwH G b S μ o) (k + 1) (n + 6) := by
  by_cases hz1 : lsc G x 1 = 0
  · have hx01 : (0 : Int32) = 0 ∨ (0 : Int32) = 1 := Or.inl rfl
    refine e_aload_n dL_law_1327 rfl rfl ?_
    refine e_aload_n dL_law_1328 rfl rfl ?_
    refine e_iload dL_law_1329 rfl ?_
    refine e_iconst (v := 1) dL_law_1331 (by decide) ?_
    refine e_iadd dL_law_1332 ?_
    refine e_scr hN hx0 hx5 (by decide +kernel) (by decide +kernel) dL_law_1333 ?_
    refine e_if_eq (tgt := 1341) dL_law_1334 (by decide) (fun _ => ?_) (fun q9 => absurd hz1 q9)
    refine e_iconst (v := 0) dL_law_1341 (by decide) ?_
    refine e_aload_n dL_law_1342 rfl rfl ?_
    refine e_iload dL_law_1343 rfl ?_
    refine e_iconst (v := 2) dL_law_1345 (by decide) ?_
    refine e_iadd dL_law_1346 ?_
    refine e_scr hN hx0 hx5 (by decide +kernel) (by decide +kernel) dL_law_1347 ?_
    refine e_aload_n dL_law_1348 rfl rfl ?_
    refine e_invSH (hh := [(0, 10, 13, 13)]) (mcY := 1) (msY := 6) (ct_L_move (S := S) (μ := μ) (o := o) (Nat.le_of_ble_eq_true rfl) (ct_X6_move hl0 rfl hS.2.1.1 hS.1.2.1) ?_ ?_) vL_move wM_L_152 dL_law_1349 rfl rfl (Nat.le_of_ble_eq_true rfl) (Nat.le_trans (Nat.le_of_ble_eq_true rfl) hJ) ?_
    · rintro v a ⟨⟨rfl, rfl⟩, -⟩
      exact ⟨_, rfl, lwH_out G b _ μ o⟩
    · rintro E a ⟨⟨rfl, -⟩, -⟩
      rfl
    rintro _ a1 (⟨r, a0, hp, rfl, rfl⟩ | ⟨hx, rfl⟩)
    · skip
      obtain ⟨⟨hv, rfl⟩, c1⟩ := hp
      injection hv with hv
      injection hv with hv
      refine ev_as (lwH_put G b _ μ o _) ?_
      refine e_istore dL_law_1352 (Nat.le_of_ble_eq_true rfl) ?_
      refine e_aload_n dL_law_1354 rfl rfl ?_
      refine e_aload_n dL_law_1355 rfl rfl ?_
      refine e_iload dL_law_1356 rfl ?_
      refine e_iconst (v := 1) dL_law_1358 (by decide) ?_
      refine e_iadd dL_law_1359 ?_
      refine e_scr hN hx0 hx5 (by decide +kernel) (by decide +kernel) dL_law_1360 ?_
      refine e_if_eq (tgt := 1368) dL_law_1361 (by decide) (fun _ => ?_) (fun q9 => absurd hz1 q9)
      refine e_iconst (v := 0) dL_law_1368 (by decide) ?_
      refine e_aload_n dL_law_1369 rfl rfl ?_
      refine e_iload dL_law_1370 rfl ?_
      refine e_iconst (v := 2) dL_law_1372 (by decide) ?_
      refine e_iadd dL_law_1373 ?_
      refine e_scr hN hx0 hx5 (by decide +kernel) (by decide +kernel) dL_law_1374 ?_
      refine ev_as (lwH_mo G b _ μ _) ?_
      refine e_invV (mcY := 0) (msY := 0) (ct_X7_move hS hx01) vX7_move wM_L_155 (mo_at G (b + 157) _ _ 0 (by decide)) rfl dL_law_1375 rfl rfl (Nat.le_of_ble_eq_true rfl) (Nat.le_trans (Nat.le_of_ble_eq_true rfl) hJ) ?_
      rintro _ _ (⟨m1, rfl, μ₁, hS1, h0, rfl⟩ | ⟨m1, rfl, rfl⟩)
      · skip
        refine e_istore dL_law_1378 (Nat.le_of_ble_eq_true rfl) ?_
        refine e_aload_n dL_law_1380 rfl rfl ?_
        refine e_invV (mcY := 0) (msY := 0) (ct_X7_thrown) vX7_thrown wM_L_88 (mo_at G (b + 157) _ _ 0 (by decide)) rfl dL_law_1381 rfl rfl (Nat.le_of_ble_eq_true rfl) (Nat.le_trans (Nat.le_of_ble_eq_true rfl) hJ) ?_
        rintro _ _ ⟨rfl, rfl⟩
        refine e_iload dL_law_1384 rfl ?_
        refine e_icmp_eq (tgt := 1391) dL_law_1386 (by decide) (fun _ => ?_) (fun q9 => absurd (h0) q9)
        refine e_iload dL_law_1391 rfl ?_
        refine e_if_ne (tgt := 1408) dL_law_1393 (by decide) (fun q9 => absurd rfl q9) (fun _ => ?_)
        refine ev_as (lwH_mo G b _ _ _).symm ?_
        refine e_aload_n dL_law_1396 rfl rfl ?_
        refine e_iconst (v := 0) dL_law_1397 (by decide) ?_
        refine e_lald (N := 1) (lwH_out G b _ _ _) (by decide +kernel) (by decide +kernel) dL_law_1398 ?_
        refine e_iload dL_law_1399 rfl ?_
        refine e_i2l dL_law_1401 ?_
        refine e_lcmp dL_law_1402 ?_
        refine e_if_eq (tgt := 1408) dL_law_1403 (by decide) (fun _ => ?_) (fun q9 => absurd (lw_cmp ((ev_u_self _ _ _).trans (congrArg Int32.toInt64 hv))) q9)
        refine e_goto (tgt := 1438) dL_law_1408 (by decide) ?_
        exact ev_lc (hk _ _ _ (hS1.up (by omega))) ⟨rfl, rfl, rfl, rfl, rfl, trivial⟩
      · exact absurd c1 m1
    · skip
      obtain ⟨⟨-, rfl⟩, d1⟩ := hx
      refine e_istore dL_law_1352 (Nat.le_of_ble_eq_true rfl) ?_
      refine e_aload_n dL_law_1354 rfl rfl ?_
      refine e_aload_n dL_law_1355 rfl rfl ?_
      refine e_iload dL_law_1356 rfl ?_
      refine e_iconst (v := 1) dL_law_1358 (by decide) ?_
      refine e_iadd dL_law_1359 ?_
      refine e_scr hN hx0 hx5 (by decide +kernel) (by decide +kernel) dL_law_1360 ?_
      refine e_if_eq (tgt := 1368) dL_law_1361 (by decide) (fun _ => ?_) (fun q9 => absurd hz1 q9)
      refine e_iconst (v := 0) dL_law_1368 (by decide) ?_
      refine e_aload_n dL_law_1369 rfl rfl ?_
      refine e_iload dL_law_1370 rfl ?_
      refine e_iconst (v := 2) dL_law_1372 (by decide) ?_
      refine e_iadd dL_law_1373 ?_
      refine e_scr hN hx0 hx5 (by decide +kernel) (by decide +kernel) dL_law_1374 ?_
      refine ev_as (lwH_mo G b _ μ _) ?_
      refine e_invV (mcY := 0) (msY := 0) (ct_X7_move hS hx01) vX7_move wM_L_155 (mo_at G (b + 157) _ _ 0 (by decide)) rfl dL_law_1375 rfl rfl (Nat.le_of_ble_eq_true rfl) (Nat.le_trans (Nat.le_of_ble_eq_true rfl) hJ) ?_
      rintro _ _ (⟨m1, rfl, μ₁, hS1, h0, rfl⟩ | ⟨m1, rfl, rfl⟩)
      · exact absurd m1 d1
      · skip
        refine e_istore dL_law_1378 (Nat.le_of_ble_eq_true rfl) ?_
        refine e_aload_n dL_law_1380 rfl rfl ?_
        refine e_invV (mcY := 0) (msY := 0) (ct_X7_thrown) vX7_thrown wM_L_88 (mo_at G (b + 157) _ _ 0 (by decide)) rfl dL_law_1381 rfl rfl (Nat.le_of_ble_eq_true rfl) (Nat.le_trans (Nat.le_of_ble_eq_true rfl) hJ) ?_
        rintro _ _ ⟨rfl, rfl⟩
        refine e_iload dL_law_1384 rfl ?_
        refine e_icmp_eq (tgt := 1391) dL_law_1386 (by decide) (fun _ => ?_) (fun q9 => absurd (ev_u_self μ.1 0 (1 : Int32)) q9)
        refine e_iload dL_law_1391 rfl ?_
        refine e_if_ne (tgt := 1408) dL_law_1393 (by decide) (fun _ => ?_) (fun q9 => absurd q9 (by decide))
        refine ev_as (lwH_mo G b _ _ _).symm ?_
        refine e_goto (tgt := 1438) dL_law_1408 (by decide) ?_
        exact ev_lc (hk _ _ _ ((hS.int (by decide) 1).up (by omega))) ⟨rfl, rfl, rfl, rfl, rfl, trivial⟩
  · have hx01 : (1 : Int32) = 0 ∨ (1 : Int32) = 1 := Or.inr rfl
    refine e_aload_n dL_law_1327 rfl rfl ?_
    refine e_aload_n dL_law_1328 rfl rfl ?_
    refine e_iload dL_law_1329 rfl ?_
    refine e_iconst (v := 1) dL_law_1331 (by decide) ?_
    refine e_iadd dL_law_1332 ?_
    refine e_scr hN hx0 hx5 (by decide +kernel) (by decide +kernel) dL_law_1333 ?_
    refine e_if_eq (tgt := 1341) dL_law_1334 (by decide) (fun q9 => absurd q9 hz1) (fun _ => ?_)
    refine e_iconst (v := 1) dL_law_1337 (by decide) ?_
    refine e_goto (tgt := 1342) dL_law_1338 (by decide) ?_
    refine e_aload_n dL_law_1342 rfl rfl ?_
    refine e_iload dL_law_1343 rfl ?_
    refine e_iconst (v := 2) dL_law_1345 (by decide) ?_
    refine e_iadd dL_law_1346 ?_
    refine e_scr hN hx0 hx5 (by decide +kernel) (by decide +kernel) dL_law_1347 ?_
    refine e_aload_n dL_law_1348 rfl rfl ?_
    refine e_invSH (hh := [(0, 10, 13, 13)]) (mcY := 1) (msY := 6) (ct_L_move (S := S) (μ := μ) (o := o) (Nat.le_of_ble_eq_true rfl) (ct_X6_move hl0 rfl hS.2.1.1 hS.1.2.1) ?_ ?_) vL_move wM_L_152 dL_law_1349 rfl rfl (Nat.le_of_ble_eq_true rfl) (Nat.le_trans (Nat.le_of_ble_eq_true rfl) hJ) ?_
    · rintro v a ⟨⟨rfl, rfl⟩, -⟩
      exact ⟨_, rfl, lwH_out G b _ μ o⟩
    · rintro E a ⟨⟨rfl, -⟩, -⟩
      rfl
    rintro _ a1 (⟨r, a0, hp, rfl, rfl⟩ | ⟨hx, rfl⟩)
    · skip
      obtain ⟨⟨hv, rfl⟩, c1⟩ := hp
      injection hv with hv
      injection hv with hv
      refine ev_as (lwH_put G b _ μ o _) ?_
      refine e_istore dL_law_1352 (Nat.le_of_ble_eq_true rfl) ?_
      refine e_aload_n dL_law_1354 rfl rfl ?_
      refine e_aload_n dL_law_1355 rfl rfl ?_
      refine e_iload dL_law_1356 rfl ?_
      refine e_iconst (v := 1) dL_law_1358 (by decide) ?_
      refine e_iadd dL_law_1359 ?_
      refine e_scr hN hx0 hx5 (by decide +kernel) (by decide +kernel) dL_law_1360 ?_
      refine e_if_eq (tgt := 1368) dL_law_1361 (by decide) (fun q9 => absurd q9 hz1) (fun _ => ?_)
      refine e_iconst (v := 1) dL_law_1364 (by decide) ?_
      refine e_goto (tgt := 1369) dL_law_1365 (by decide) ?_
      refine e_aload_n dL_law_1369 rfl rfl ?_
      refine e_iload dL_law_1370 rfl ?_
      refine e_iconst (v := 2) dL_law_1372 (by decide) ?_
      refine e_iadd dL_law_1373 ?_
      refine e_scr hN hx0 hx5 (by decide +kernel) (by decide +kernel) dL_law_1374 ?_
      refine ev_as (lwH_mo G b _ μ _) ?_
      refine e_invV (mcY := 0) (msY := 0) (ct_X7_move hS hx01) vX7_move wM_L_155 (mo_at G (b + 157) _ _ 0 (by decide)) rfl dL_law_1375 rfl rfl (Nat.le_of_ble_eq_true rfl) (Nat.le_trans (Nat.le_of_ble_eq_true rfl) hJ) ?_
      rintro _ _ (⟨m1, rfl, μ₁, hS1, h0, rfl⟩ | ⟨m1, rfl, rfl⟩)
      · skip
        refine e_istore dL_law_1378 (Nat.le_of_ble_eq_true rfl) ?_
        refine e_aload_n dL_law_1380 rfl rfl ?_
        refine e_invV (mcY := 0) (msY := 0) (ct_X7_thrown) vX7_thrown wM_L_88 (mo_at G (b + 157) _ _ 0 (by decide)) rfl dL_law_1381 rfl rfl (Nat.le_of_ble_eq_true rfl) (Nat.le_trans (Nat.le_of_ble_eq_true rfl) hJ) ?_
        rintro _ _ ⟨rfl, rfl⟩
        refine e_iload dL_law_1384 rfl ?_
        refine e_icmp_eq (tgt := 1391) dL_law_1386 (by decide) (fun _ => ?_) (fun q9 => absurd (h0) q9)
        refine e_iload dL_law_1391 rfl ?_
        refine e_if_ne (tgt := 1408) dL_law_1393 (by decide) (fun q9 => absurd rfl q9) (fun _ => ?_)
        refine ev_as (lwH_mo G b _ _ _).symm ?_
        refine e_aload_n dL_law_1396 rfl rfl ?_
        refine e_iconst (v := 0) dL_law_1397 (by decide) ?_
        refine e_lald (N := 1) (lwH_out G b _ _ _) (by decide +kernel) (by decide +kernel) dL_law_1398 ?_
        refine e_iload dL_law_1399 rfl ?_
        refine e_i2l dL_law_1401 ?_
        refine e_lcmp dL_law_1402 ?_
        refine e_if_eq (tgt := 1408) dL_law_1403 (by decide) (fun _ => ?_) (fun q9 => absurd (lw_cmp ((ev_u_self _ _ _).trans (congrArg Int32.toInt64 hv))) q9)
        refine e_goto (tgt := 1438) dL_law_1408 (by decide) ?_
        exact ev_lc (hk _ _ _ (hS1.up (by omega))) ⟨rfl, rfl, rfl, rfl, rfl, trivial⟩
      · exact absurd c1 m1
    · skip
      obtain ⟨⟨-, rfl⟩, d1⟩ := hx
      refine e_istore dL_law_1352 (Nat.le_of_ble_eq_true rfl) ?_
      refine e_aload_n dL_law_1354 rfl rfl ?_
      refine e_aload_n dL_law_1355 rfl rfl ?_
      refine e_iload dL_law_1356 rfl ?_
      refine e_iconst (v := 1) dL_law_1358 (by decide) ?_
      refine e_iadd dL_law_1359 ?_
      refine e_scr hN hx0 hx5 (by decide +kernel) (by decide +kernel) dL_law_1360 ?_
      refine e_if_eq (tgt := 1368) dL_law_1361 (by decide) (fun q9 => absurd q9 hz1) (fun _ => ?_)
      refine e_iconst (v := 1) dL_law_1364 (by decide) ?_
      refine e_goto (tgt := 1369) dL_law_1365 (by decide) ?_
      refine e_aload_n dL_law_1369 rfl rfl ?_
      refine e_iload dL_law_1370 rfl ?_
      refine e_iconst (v := 2) dL_law_1372 (by decide) ?_
      refine e_iadd dL_law_1373 ?_
      refine e_scr hN hx0 hx5 (by decide +kernel) (by decide +kernel) dL_law_1374 ?_
      refine ev_as (lwH_mo G b _ μ _) ?_
      refine e_invV (mcY := 0) (msY := 0) (ct_X7_move hS hx01) vX7_move wM_L_155 (mo_at G (b + 157) _ _ 0 (by decide)) rfl dL_law_1375 rfl rfl (Nat.le_of_ble_eq_true rfl) (Nat.le_trans (Nat.le_of_ble_eq_true rfl) hJ) ?_
      rintro _ _ (⟨m1, rfl, μ₁, hS1, h0, rfl⟩ | ⟨m1, rfl, rfl⟩)
      · exact absurd m1 d1
      · skip
        refine e_istore dL_law_1378 (Nat.le_of_ble_eq_true rfl) ?_
        refine e_aload_n dL_law_1380 rfl rfl ?_
        refine e_invV (mcY := 0) (msY := 0) (ct_X7_thrown) vX7_thrown wM_L_88 (mo_at G (b + 157) _ _ 0 (by decide)) rfl dL_law_1381 rfl rfl (Nat.le_of_ble_eq_true rfl) (Nat.le_trans (Nat.le_of_ble_eq_true rfl) hJ) ?_
        rintro _ _ ⟨rfl, rfl⟩
        refine e_iload dL_law_1384 rfl ?_
        refine e_icmp_eq (tgt := 1391) dL_law_1386 (by decide) (fun _ => ?_) (fun q9 => absurd (ev_u_self μ.1 0 (1 : Int32)) q9)
        refine e_iload dL_law_1391 rfl ?_
        refine e_if_ne (tgt := 1408) dL_law_1393 (by decide) (fun _ => ?_) (fun q9 => absurd q9 (by decide))
        refine ev_as (lwH_mo G b _ _ _).symm ?_
        refine e_goto (tgt := 1438) dL_law_1408 (by decide) ?_
        exact ev_lc (hk _ _ _ ((hS.int (by decide) 1).up (by omega))) ⟨rfl, rfl, rfl, rfl, rfl, trivial⟩
end LW2
