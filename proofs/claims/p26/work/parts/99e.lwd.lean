/-! the case: ticks -/
section LWD
variable {G : ev_G} {l : Launch} {J : ev_K} {k n : Nat} {a : ev_H} {b u r q8 z pB N j : Nat} {K : KPT} {S : SS} {A : Nat → Nat} {nI : Nat} {mI : Nat → TI} {g : Nat → Option Nat} {q0 : Nat} {x2 x7 x9 x10 k13 i14 : Int32} {T : Int}
theorem nm_tick (σ : CS) : sNm (sTick σ) = sNm σ := by
  have := sM_tick σ
  unfold sM at this; unfold sNm; rw [this]
theorem nm_tickN (σ : CS) : ∀ n, sNm (tickN n σ) = sNm σ
  | 0 => rfl
  | n + 1 => (nm_tick _).trans (nm_tickN σ n)
set_option maxRecDepth 20000 in
theorem lp_tk {i12 t : Int32} {σ : CS} {c0 tt : Nat} (hJ : 15 ≤ J.2.2.1) (ht : t.toInt = (tt : Int)) (htt : tt ≤ 8) (hT : T ≤ 1000) (hk : ∀ (A2 : Nat → Nat) (n2 : Nat) (m2 : Nat → TI) (a2 : ev_H) (z2 : Nat) (w : Int32), ST G b u r q8 K S A2 (tickN tt σ) n2 m2 g a2 → IV (T + tt) (tickN tt σ) n2 m2 → A2 0 = c0 → a2.2 = some z2 → w = sBrks σ tt → ev_V G l mL_law J 410 [some (.ref q0), some (.int 1), some (.int x2), some (.ref b), some (.ref u), some (.ref r), some (.ref c0), some (.int x7), some (.ref q8), some (.int x9), some (.int x10), some (.ref pB), some (.int i12), some (.int k13), some (.int i14), some (.int t), some (.int w)] [] a2 k n) : ∀ (q i : Nat) (x w : Int32) (A : Nat → Nat) (nI : Nat) (mI : Nat → TI) (a : ev_H) (z : Nat), q + i = tt → x.toInt = (i : Int) → ST G b u r q8 K S A (tickN i σ) nI mI g a → IV (T + i) (tickN i σ) nI mI → A 0 = c0 → a.2 = some z → w = sBrks σ i → ev_V G l mL_law J 387 [some (.ref q0), some (.int 1), some (.int x2), some (.ref b), some (.ref u), some (.ref r), some (.ref c0), some (.int x7), some (.ref q8), some (.int x9), some (.int x10), some (.ref pB), some (.int i12), some (.int k13), some (.int i14), some (.int t), some (.int w), some (.int x)] [] a (k + 20 * q) (n + 712 * q) := by
  intro q
  induction q with
  | zero =>
    intro i x w A nI mI a z hq hx h hI hA hz hw
    obtain rfl : i = tt := by omega
    refine e_iload dL_law_387 rfl ?_
    refine e_iload dL_law_389 rfl ?_
    refine e_icmp_ge (tgt := 410) dL_law_391 (by decide) (fun _ => ev_lc (hk A nI mI a z w h hI hA hz hw) ⟨rfl, rfl, rfl, rfl, rfl, rfl, rfl, rfl, rfl, rfl, rfl, rfl, rfl, rfl, rfl, rfl, rfl, trivial⟩) (fun c9 => absurd c9 (by omega))
  | succ q ih =>
    intro i x w A nI mI a z hq hx h hI hA hz hw
    subst hA
    refine e_iload dL_law_387 rfl ?_
    refine e_iload dL_law_389 rfl ?_
    refine e_icmp_ge (tgt := 410) dL_law_391 (by decide) (fun c9 => absurd c9 (by omega)) (fun _ => ?_)
    refine e_top hz fun ht9 => ?_
    refine e_wide (k0 := k + 20 * q + 20) (n0 := n + 712 * q + 712) (by omega) (by omega) ?_
    refine e_iload dL_law_394 rfl ?_
    refine e_aload dL_law_396 rfl ?_
    refine e_invV (mcY := 20) (msY := 712) (ct_X7_ticks h.2.2.2.2.1 hI.1 hI.2.1 (by omega) hI.2.2.2.1 hI.2.2.2.2 hz) vX7_ticks wM_L_274 h.2.2.2.2.1.1.1 rfl dL_law_398 (as := []) rfl rfl (Nat.le_of_ble_eq_true rfl) (Nat.le_trans (Nat.le_of_ble_eq_true rfl) hJ) ?_
    rintro v c ⟨rfl, A', n', m', z', e0, C', en, em, ez, ef, emt⟩
    have h2 : ST G b u r q8 K S A' (tickN (i + 1) σ) n' m' g c := h.wr C' ef (fun y hy => by
      have hy2 : mtA A' (sNm (tickN i σ)) (sPn (sTick (tickN i σ))) y := by
        have hy3 : mtA A' (sNm (sTick (tickN i σ))) (sPn (sTick (tickN i σ))) y := hy
        rw [nm_tick] at hy3; exact hy3
      rcases emt y hy2 with c1 | c1
      · exact Or.inl c1
      · exact Or.inr (fun e he => by have := ht9 y e he; omega))
    have hI2 : IV (T + (i + 1 : Nat)) (tickN (i + 1) σ) n' m' := (hI.tick (by omega) en em).up (by omega)
    refine e_iadd dL_law_401 ?_
    refine e_istore dL_law_402 (Nat.le_of_ble_eq_true rfl) ?_
    refine e_iinc dL_law_404 rfl rfl (Nat.le_of_ble_eq_true rfl) ?_
    refine e_goto (tgt := 387) dL_law_407 (by decide) ?_
    exact ev_lc (ih (i + 1) _ _ A' n' m' c z' (by omega) (ar_inc hx (by omega)) h2 hI2 e0 ez (by rw [hw]; rfl)) ⟨rfl, rfl, rfl, rfl, rfl, rfl, rfl, rfl, rfl, rfl, rfl, rfl, rfl, rfl, rfl, rfl, rfl, rfl, trivial⟩
set_option maxRecDepth 20000 in
theorem lw_0 (hub : ¬ (b ≤ u ∧ u < b + 157)) (hq8 : q8 ≠ b + 36) (hl0 : l.stackTraces = false) (hJ : 15 ≤ J.2.2.1) (h : ST G b u r q8 K S A (S.2.2.2 0) nI mI g a) (hz : a.2 = some z) (hh : hOk S) (hI : IV T (S.2.2.2 0) nI mI) (hT : T ≤ 1000) (hN : sNm (S.2.2.2 0) = N) (h7 : x7.toInt = (N : Int)) (hN1 : 1 ≤ N) (hN6 : N ≤ 6) (h13 : k13.toInt = (j : Int)) (hj : j ≤ N) (h14 : i14 = if j < N then 1 else 0) (hk : ∀ (fl : Int32) (S2 : SS) (A2 : Nat → Nat) (σ2 : CS) (n2 : Nat) (m2 : Nat → TI) (a2 : ev_H) (z2 : Nat), ((fl = 0 ∧ S2 = S) ∨ (fl = 1 ∧ S2 = ss_C (sKeep S) 0 σ2)) → ST G b u r q8 K S2 A2 σ2 n2 m2 g a2 → S2.2.2.2 0 = σ2 → IV (T + 8) σ2 n2 m2 → sNm σ2 = N → A2 0 = A 0 → a2.2 = some z2 → ev_V G l mL_law J 1142 [some (.ref q0), some (.int 1), some (.int x2), some (.ref b), some (.ref u), some (.ref r), some (.ref (A 0)), some (.int x7), some (.ref q8), some (.int x9), some (.int x10), some (.ref pB), some (.int fl)] [] a2 k n) : ev_V G l mL_law J 360 [some (.ref q0), some (.int 1), some (.int x2), some (.ref b), some (.ref u), some (.ref r), some (.ref (A 0)), some (.int x7), some (.ref q8), some (.int x9), some (.int x10), some (.ref pB), some (.int 1), some (.int k13), some (.int i14)] [] a (k + 161) (n + 5702) := by
  refine e_aload dL_law_360 rfl ?_
  refine e_bipush (v := 9) dL_law_362 (by decide) ?_
  refine st_bel h hz (by decide +kernel) wM_L_131 dL_law_364 (Nat.le_of_ble_eq_true rfl) (Nat.le_trans (Nat.le_of_ble_eq_true rfl) hJ) ?_
  intro v a_v v0 v1 h hz
  have w_v : (9 : Int32).toInt = 9 := by decide +kernel
  rw [w_v] at v1
  refine e_istore dL_law_367 (Nat.le_of_ble_eq_true rfl) ?_
  refine e_iload dL_law_369 rfl ?_
  obtain ⟨tt, hv1⟩ : ∃ tt : Nat, v.toInt = (tt : Int) := ⟨v.toInt.toNat, by omega⟩
  have hvt := ar_nat hv1
  refine e_if_le (tgt := 378) dL_law_371 (by decide) (fun c9 => ?_) (fun c9 => ?_)
  · skip
    refine e_iconst (v := 0) dL_law_378 (by decide) ?_
    refine e_istore dL_law_379 (Nat.le_of_ble_eq_true rfl) ?_
    refine e_iconst (v := 0) dL_law_381 (by decide) ?_
    refine e_istore dL_law_382 (Nat.le_of_ble_eq_true rfl) ?_
    refine e_iconst (v := 0) dL_law_384 (by decide) ?_
    refine e_istore dL_law_385 (Nat.le_of_ble_eq_true rfl) ?_
    refine ev_loc (L' := [some (.ref q0), some (.int 1), some (.int x2), some (.ref b), some (.ref u), some (.ref r), some (.ref (A 0)), some (.int x7), some (.ref q8), some (.int x9), some (.int x10), some (.ref pB), some (.int 0), some (.int k13), some (.int i14), some (.int v), some (.int 0), some (.int 0)]) ⟨rfl, rfl, rfl, rfl, rfl, rfl, rfl, rfl, rfl, rfl, rfl, rfl, rfl, rfl, rfl, rfl, rfl, rfl, trivial⟩ ?_
    refine e_wide (k0 := k + 1 + 20 * tt) (n0 := n + 6 + 712 * tt) (by omega) (by omega) ?_
    refine lp_tk (c0 := A 0) (σ := S.2.2.2 0) (i12 := 0) (t := v) hJ hv1 (by omega) hT (fun A2 n2 m2 a2 z2 w h2 hI2 hA2 hz hw => ?_) tt 0 0 0 A nI mI _ z (by omega) ar_0 h (by rw [Int.natCast_zero, Int.add_zero]; exact hI) rfl hz rfl
    have ht0 : tt = 0 := by omega
    subst ht0
    refine e_aload_n dL_law_410 rfl rfl ?_
    refine e_iload dL_law_411 rfl ?_
    refine st_call h2 hq8 hub (lh_pass_A (x := v) hl0 rfl hh hI.1 (by omega)) vL_pass wM_L_264 dL_law_413 (as := [.ref b, .int v]) rfl rfl (Nat.le_of_ble_eq_true rfl) (Nat.le_trans (Nat.le_of_ble_eq_true rfl) hJ) ?_
    intro a_p z h hz
    refine e_iload dL_law_416 rfl ?_
    refine e_if_eq (tgt := 426) dL_law_418 (by decide) (fun _ => ?_) (fun q => absurd rfl q)
    refine e_ldc dL_law_426 wK_L_42 ?_
    refine e_icmp_ne (tgt := 435) dL_law_428 (by decide) (fun q => absurd (rfl) q) (fun _ => ?_)
    refine e_iconst (v := 1) dL_law_431 (by decide) ?_
    refine e_goto (tgt := 436) dL_law_432 (by decide) ?_
    refine e_istore_n dL_law_436 rfl (Nat.le_of_ble_eq_true rfl) ?_
    refine e_goto (tgt := 1142) dL_law_437 (by decide) ?_
    exact ev_lc (hk 0 S A2 _ n2 m2 _ _ (Or.inl ⟨rfl, rfl⟩) h rfl (hI2.up (by omega)) hN hA2 hz) ⟨rfl, rfl, rfl, rfl, rfl, rfl, rfl, rfl, rfl, rfl, rfl, rfl, rfl, trivial⟩
  · skip
    refine e_iconst (v := 1) dL_law_374 (by decide) ?_
    refine e_goto (tgt := 379) dL_law_375 (by decide) ?_
    refine e_istore dL_law_379 (Nat.le_of_ble_eq_true rfl) ?_
    refine e_iconst (v := 0) dL_law_381 (by decide) ?_
    refine e_istore dL_law_382 (Nat.le_of_ble_eq_true rfl) ?_
    refine e_iconst (v := 0) dL_law_384 (by decide) ?_
    refine e_istore dL_law_385 (Nat.le_of_ble_eq_true rfl) ?_
    refine ev_loc (L' := [some (.ref q0), some (.int 1), some (.int x2), some (.ref b), some (.ref u), some (.ref r), some (.ref (A 0)), some (.int x7), some (.ref q8), some (.int x9), some (.int x10), some (.ref pB), some (.int 1), some (.int k13), some (.int i14), some (.int v), some (.int 0), some (.int 0)]) ⟨rfl, rfl, rfl, rfl, rfl, rfl, rfl, rfl, rfl, rfl, rfl, rfl, rfl, rfl, rfl, rfl, rfl, rfl, trivial⟩ ?_
    refine e_wide (k0 := k + 1 + 20 * tt) (n0 := n + 6 + 712 * tt) (by omega) (by omega) ?_
    refine lp_tk (c0 := A 0) (σ := S.2.2.2 0) (i12 := 1) (t := v) hJ hv1 (by omega) hT (fun A2 n2 m2 a2 z2 w h2 hI2 hA2 hz hw => ?_) tt 0 0 0 A nI mI _ z (by omega) ar_0 h (by rw [Int.natCast_zero, Int.add_zero]; exact hI) rfl hz rfl
    refine e_aload_n dL_law_410 rfl rfl ?_
    refine e_iload dL_law_411 rfl ?_
    refine st_call h2 hq8 hub (lh_pass_ok (x := v) hl0 rfl hh hI.1 (by omega)) vL_pass wM_L_264 dL_law_413 (as := [.ref b, .int v]) rfl rfl (Nat.le_of_ble_eq_true rfl) (Nat.le_trans (Nat.le_of_ble_eq_true rfl) hJ) ?_
    intro a_p z h hz
    refine e_iload dL_law_416 rfl ?_
    refine e_if_eq (tgt := 426) dL_law_418 (by decide) (fun q => absurd q (by decide)) (fun _ => ?_)
    refine e_iload dL_law_421 rfl ?_
    refine e_goto (tgt := 428) dL_law_423 (by decide) ?_
    refine e_icmp_ne (tgt := 435) dL_law_428 (by decide) (fun q => absurd (by rw [hw, hvt]) q) (fun _ => ?_)
    refine e_iconst (v := 1) dL_law_431 (by decide) ?_
    refine e_goto (tgt := 436) dL_law_432 (by decide) ?_
    refine e_istore_n dL_law_436 rfl (Nat.le_of_ble_eq_true rfl) ?_
    refine e_goto (tgt := 1142) dL_law_437 (by decide) ?_
    rw [hvt] at h
    exact ev_lc (hk 1 _ A2 _ n2 m2 _ _ (Or.inr ⟨rfl, rfl⟩) h (ss_C_at _ _ _) (hI2.up (by omega)) (by rw [nm_tickN]; exact hN) hA2 hz) ⟨rfl, rfl, rfl, rfl, rfl, rfl, rfl, rfl, rfl, rfl, rfl, rfl, rfl, trivial⟩
end LWD
