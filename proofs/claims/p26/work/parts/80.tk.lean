/-! a tick of the law's chain -/
theorem vis_TP (σ : CS) : vis (cs_A (cs_J (cs_J σ 0 (σ.2.1 0 - (sPull σ 0).toInt64)) 1 (σ.2.1 1 + (sPull σ (sNm σ)).toInt64)) 2 (fillTo (sNm σ) (sMom1 σ) (σ.2.2 2))) (sTP σ) := by
  have e6 : (sTP σ).2.2 = (cs_A (cs_A σ 6 (fillTo (sNm σ + 1) (sPull σ) (σ.2.2 6))) 2 (fillTo (sNm σ) (sMom1 σ) (σ.2.2 2))).2.2 := rfl
  have e7 : (cs_A (cs_J (cs_J σ 0 (σ.2.1 0 - (sPull σ 0).toInt64)) 1 (σ.2.1 1 + (sPull σ (sNm σ)).toInt64)) 2 (fillTo (sNm σ) (sMom1 σ) (σ.2.2 2))).2.2 = (cs_A σ 2 (fillTo (sNm σ) (sMom1 σ) (σ.2.2 2))).2.2 := rfl
  have r : ∀ w, w ≠ 6 → (sTP σ).2.2 w = (cs_A (cs_J (cs_J σ 0 (σ.2.1 0 - (sPull σ 0).toInt64)) 1 (σ.2.1 1 + (sPull σ (sNm σ)).toInt64)) 2 (fillTo (sNm σ) (sMom1 σ) (σ.2.2 2))).2.2 w := fun w h => by
    rw [e6, e7]
    by_cases c : w = 2
    · rw [c, cs_A_2, cs_A_2]
    · rw [cs_A_n _ _ c, cs_A_n _ _ c, cs_A_n _ _ h]
  exact ⟨fun _ _ _ => rfl, fun _ _ => rfl, fun w k hw _ => by rw [r w (by omega)], fun w k _ hw _ => by rw [r w (by omega)], fun w k hw _ _ => by rw [r w (by omega)]⟩
theorem vis_GI {ρ : CS} {T : Int} {m : Nat → TI} (ht : RBt T ρ) (hm : cRev (sTI ρ) (sIn ρ) = rSrt (tol m (sIn ρ))) : vis (givT ρ m (sIn ρ)) (sGI ρ) := by
  obtain ⟨e1, e2, e3⟩ := sGI_of ht hm
  have hk := sGiv_keep ρ (sDue ρ (ρ.1 1))
  rw [← e1]
  exact ⟨fun k _ h => by rw [sGI_1 ρ h, hk.1], fun k _ => by rw [sGI_J], fun w k hw _ => by rw [sGI_2 ρ (by omega) (by omega) (by omega)], fun w k _ hw _ => by rw [sGI_2 ρ (by omega) (by omega) (by omega)], fun w k hw _ _ => by rw [sGI_2 ρ (by omega) (by omega) (by omega)]⟩
theorem tick_TI (σ : CS) : sIn (sTick σ) = sIn (sT1 σ) ∧ ∀ k, sTI (sTick σ) k = sTI (sT1 σ) k := by
  have k3 := sNoteF_keep (sT3 σ) (sPat (sT3 σ)) 32 0
  have r : ∀ w, w ≠ 1 → w ≠ 2 → w ≠ 5 → w ≠ 10 → w ≠ 11 → (sTick σ).2.2 w = (sT1 σ).2.2 w := fun w h1 h2 h5 h10 h11 => by
    have e1 : (sTick σ).2.2 w = (sT3 σ).2.2 w := k3.2.1 w h10 h11
    have e2 : (sT3 σ).2.2 w = (sT2 σ).2.2 w := cs_A_n _ _ h5
    have e3 : (sT2 σ).2.2 w = (sLM (sDM (sT1 σ))).2.2 w := cs_A_n _ _ h1
    rw [e1, e2, e3, sDL_A _ h2]
  refine ⟨?_, fun k => ?_⟩
  · have e : (sTick σ).1 5 = (sT1 σ).1 5 := by
      show ev_u (sNote (sT3 σ) (sPat (sT3 σ))).1 1 ((sNote (sT3 σ) (sPat (sT3 σ))).1 1 + 1) 5 = _
      rw [ev_u_ne _ _ (by decide)]
      exact k3.1 5 (by decide)
    unfold sIn
    rw [e]
  · unfold sTI
    rw [r 7 (by decide) (by decide) (by decide) (by decide) (by decide), r 8 (by decide) (by decide) (by decide) (by decide) (by decide), r 9 (by decide) (by decide) (by decide) (by decide) (by decide)]
/-- what is told ahead stays in the order told -/
theorem tick_LO {σ : CS} {T : Int} {m : Nat → TI} (hv : sInv σ) (ht : RBt T σ) (hm : cRev (sTI σ) (sIn σ) = rSrt (tol m (sIn σ))) : (kepT (σ.1 1) m (sIn σ)).length = sIn (sTick σ) ∧ cRev (sTI (sTick σ)) (sIn (sTick σ)) = rSrt (tol (mAt (kepT (σ.1 1) m (sIn σ))) (sIn (sTick σ))) := by
  obtain ⟨t1, t2⟩ := tick_TI σ
  obtain ⟨e1, e2, e3⟩ := sGI_of (σ := sTP σ) (RBt_TP ht) hm
  have e5 := sGI_5 (σ := sTP σ) hv.2.2.1
  have q1 : sIn (sT1 σ) = (kepT (σ.1 1) m (sIn σ)).length := by
    have a1 : sIn (sT1 σ) = sIn (sTP σ) - sDue (sTP σ) ((sTP σ).1 1) := e5.2
    rw [a1]; exact e2
  refine ⟨by rw [t1, q1], ?_⟩
  rw [t1, cRev_congr (fun k _ => t2 k)]
  have q2 : cRev (sTI (sT1 σ)) (sIn (sT1 σ)) = rSrt (kepT (σ.1 1) m (sIn σ)) := by
    have a1 : sIn (sT1 σ) = sIn (sTP σ) - sDue (sTP σ) ((sTP σ).1 1) := e5.2
    rw [a1]
    exact (cRev_congr (F := sTI (sGI (sTP σ))) (fun k hk => sGI_TI (sTP σ) hk)).trans e3
  rw [q2, q1]
  unfold tol
  rw [mAt_range]
section LTZ
variable {G : ev_G} {l : Launch} {a a0 b : ev_H} {A : Nat → Nat} {σ τ : CS} {nI z : Nat} {mI : Nat → TI} {T : Int}
set_option maxRecDepth 20000 in
theorem lp_tZ {J : ev_K} {k n : Nat} (hJ : J.2.2.2.2.2.1 = fun v b => v = some (.int (sBrN σ)) ∧ ∃ (A' : Nat → Nat) (n' : Nat) (m' : Nat → TI) (z' : Nat), A' 0 = A 0 ∧ LC G b A' (sTick σ) n' m' ∧ n' = sIn (sTick σ) ∧ cRev (sTI (sTick σ)) (sIn (sTick σ)) = rSrt (tol m' (sIn (sTick σ))) ∧ b.2 = some z' ∧ fr a b A (sNm σ) (sPn σ) ∧ (∀ q, mtA A' (sNm σ) (sPn (sTick σ)) q → mtA A (sNm σ) (sPn σ) q ∨ z ≤ q)) {A2 : Nat → Nat} {n2 z2 : Nat} {m2 : Nat → TI} (hA0 : A2 0 = A 0) (hn2 : n2 = sIn (sTick σ)) (hm2 : cRev (sTI (sTick σ)) (sIn (sTick σ)) = rSrt (tol m2 (sIn (sTick σ)))) {b : ev_H} (hB : LC G b A2 (sNote (sT3 σ) (sPat (sT3 σ))) n2 m2) (hfr : fr a b A (sNm σ) (sPn σ)) (hmt : ∀ q, mtA A2 (sNm σ) (sPn (sNote (sT3 σ) (sPat (sT3 σ)))) q → mtA A (sNm σ) (sPn σ) q ∨ z ≤ q) (hnew : ∀ q, z ≤ q → ∀ e, a.1 q ≠ some e) (hN : sNm (sNote (sT3 σ) (sPat (sT3 σ))) = sNm σ) (hsz : b.2 = some z2) : ev_V G l mX7_ticks J 500 [some (.ref (A 0)), none, none, none, some (.int (sBrN σ))] [] b k n := by
  refine ev_loc (L' := [some (.ref (A2 0)), none, none, none, some (.int (sBrN σ))]) (by rw [hA0]; exact ⟨rfl, rfl, trivial⟩) ?_
  refine e_aload_n dX7_ticks_500 rfl rfl ?_
  refine e_dup dX7_ticks_501 rfl ?_
  refine lc_g0 hB wF_X7_41 dX7_ticks_502 ?_
  refine e_iconst (v := 1) dX7_ticks_505 (by decide) ?_
  refine e_iadd dX7_ticks_506 ?_
  refine lc_wt hB  wF_X7_41 dX7_ticks_507 ?_
  intro a10 C10 f10 z10
  refine e_iload dX7_ticks_510 rfl ?_
  exact e_iret rfl dX7_ticks_512 (by
      rw [hJ]
      refine ⟨rfl, A2, n2, m2, z2, hA0, C10, hn2, hm2, z10.trans hsz, fun q e he hq => ?_, hmt⟩
      refine f10 q e (hfr q e he hq) (fun hq2 => ?_)
      rw [hN] at hq2
      rcases hmt q hq2 with h | h
      · exact hq h
      · exact hnew q h e he)
set_option maxRecDepth 20000 in
theorem lp_tN {J : ev_K} {k n : Nat} (hJ : 3 ≤ J.2.2.1) {A1 : Nat → Nat} {b8 : ev_H} {zt : Nat} {y : Int32} (v6 : sInv τ) (hnI : nI ≤ 20) (C9 : LC G b8 A1 τ nI mI) (z8 : b8.2 = some zt) (hk : ∀ (b : ev_H) (A2 : Nat → Nat) (z2 : Nat), A2 0 = A1 0 → LC G b A2 (sNote τ (sPat τ)) nI mI → fr b8 b A1 (sNm τ) (sPn τ) → b.2 = some z2 → (∀ q, mtA A2 (sNm τ) (sPn (sNote τ (sPat τ))) q → mtA A1 (sNm τ) (sPn τ) q ∨ zt ≤ q) → ev_V G l mX7_ticks J 500 [some (.ref (A1 0)), none, none, none, some (.int y)] [] b k n) : ev_V G l mX7_ticks J 405 [some (.ref (A1 0)), none, none, none, some (.int y)] [] b8 (k + 1 + 1) (n + 41 + 2) := by
  have hmn := v6.1.nat
  have hpn3 := v6.2.2.2.2
  have hpe3 : (τ.1 6).toInt = (sPn τ : Int) := by unfold sPn; omega
  refine e_aload_n dX7_ticks_405 rfl rfl ?_
  refine e_invV (mcY := 0) (msY := 0) (ct_X7_pattern C9 v6) vX7_pattern wM_X7_118 C9.1.1 rfl dX7_ticks_406 rfl rfl (Nat.le_of_ble_eq_true rfl) (Nat.le_trans (Nat.le_of_ble_eq_true rfl) hJ) ?_
  rintro _ _ ⟨rfl, e9⟩
  rw [e9]
  clear e9
  refine e_istore dX7_ticks_409 (Nat.le_of_ble_eq_true rfl) ?_
  refine e_iconst (v := 0) dX7_ticks_411 (by decide) ?_
  refine e_istore dX7_ticks_412 (Nat.le_of_ble_eq_true rfl) ?_
  refine ev_loc (L' := [some (.ref (A1 0)), none, none, none, some (.int y), some (.int (sPat (τ))), some (.int 0)]) ⟨rfl, rfl, rfl, rfl, trivial⟩ ?_
  refine lp_tP (σ := τ) hJ C9 v6 (fun i x hx hi hno hor => ?_) (sPn (τ)) 0 _ (by omega) ar_0 (fun j hj => absurd hj (Nat.not_lt_zero _))
  refine e_iload dX7_ticks_444 rfl ?_
  refine e_aload_n dX7_ticks_446 rfl rfl ?_
  refine lc_g7 C9 wF_X7_29 dX7_ticks_447 ?_
  refine lc_n4 C9 v6 dX7_ticks_450 ?_
  refine e_icmp_ge (tgt := 470) dX7_ticks_451 (by decide) (fun c451 => ?_) (fun c451 => ?_)
  · have hi9 : i = sPn (τ) := by omega
    refine e_iload dX7_ticks_470 rfl ?_
    refine e_bipush (v := 32) dX7_ticks_472 (by decide) ?_
    refine e_icmp_ge (tgt := 500) dX7_ticks_474 (by decide) (fun c474 => ?_) (fun c474 => ?_)
    · have w32 := ar_32c
      refine ev_loc (L' := [some (.ref (A1 0)), none, none, none, some (.int y)]) ⟨rfl, rfl, trivial⟩ ?_
      refine e_wide (k0 := k) (n0 := n) (by omega) (by omega) ?_
      have eS := sNote_full (σ := τ) (p := sPat τ) hpn3.1 (by omega) (fun j hj => hno j (by omega))
      exact hk _ A1 zt rfl (by rw [eS]; exact C9) (fr.rf _ _ _ _) z8 (fun q hq => Or.inl (by rw [eS] at hq; exact hq))
    · have w32 := ar_32c
      have hp32 : sPn (τ) < 32 := by omega
      have eS := sNote_new (σ := τ) (p := sPat (τ)) hpn3.1 hp32 (fun j hj => hno j (by omega))
      have g7 := C9.1.2.2.2.2.1
      refine e_top z8 fun ht8 => ?_
      refine e_aload_n dX7_ticks_477 rfl rfl ?_
      refine e_aload_n dX7_ticks_478 rfl rfl ?_
      refine lc_g7 C9 wF_X7_29 dX7_ticks_479 ?_
      refine e_iconst (v := 2) dX7_ticks_482 (by decide) ?_
      refine e_newa (atype := .int) (ty := .int) (t0 := 0) (N := 2) (a0 := (2, .inl (fun _ => 0))) rfl rfl (fun C q => by cases q) wA_int (fun _ => rfl) (by decide +kernel) (by decide) z8 dX7_ticks_483 ?_
      refine e_dup dX7_ticks_485 rfl ?_
      refine e_iconst (v := 0) dX7_ticks_486 (by decide) ?_
      refine e_iload dX7_ticks_487 rfl ?_
      refine e_iast (new_eq _ _ _) (by decide) (by decide) dX7_ticks_489 ?_
      rw [new_put]
      refine e_dup dX7_ticks_490 rfl ?_
      refine e_iconst (v := 1) dX7_ticks_491 (by decide) ?_
      refine e_iconst (v := 1) dX7_ticks_492 (by decide) ?_
      refine e_iast (new_eq _ _ _) (by decide) (by decide) dX7_ticks_493 ?_
      rw [new_put]
      have s9 := sub.new (.inl (G.2.1 0, 2, .inl (ev_u (ev_u (fun _ => 0) (0 : Int32).toInt.toNat (sPat (τ))) (1 : Int32).toInt.toNat 1))) ht8
      have hr9 : (ev_new b8 zt (.inl (G.2.1 0, 2, .inl (ev_u (ev_u (fun _ => 0) (0 : Int32).toInt.toNat (sPat (τ))) (1 : Int32).toInt.toNat 1)))).1 zt = _ := new_eq _ _ _
      have z9 := new_2 b8 (.inl (G.2.1 0, 2, .inl (ev_u (ev_u (fun _ => 0) (0 : Int32).toInt.toNat (sPat (τ))) (1 : Int32).toInt.toNat 1))) z8
      generalize ev_new b8 zt (.inl (G.2.1 0, 2, .inl (ev_u (ev_u (fun _ => 0) (0 : Int32).toInt.toNat (sPat (τ))) (1 : Int32).toInt.toNat 1))) = b9 at s9 hr9 z9
      have C10 := C9.mono s9
      refine e_invN (host := "SpringChainLaw") (mcY := 1) (msY := 41) (ct_L_with C10.1.2.2.2.2.1 (fun k hk => by obtain ⟨f, y1, y2⟩ := C10.2.2.1.2 k hk; exact ⟨_, y1⟩) hr9 (by omega) z9) vL_with (ev_nw_ok 470 (by decide +kernel) rfl) dX7_ticks_494 rfl rfl (Nat.le_of_ble_eq_true rfl) (Nat.le_trans (Nat.le_of_ble_eq_true rfl) hJ) ?_
      rintro _ b10 ⟨rfl, s10, z10, q10⟩
      have C11 := C10.mono s10
      have sP : sPn (sNote τ (sPat τ)) = sPn (τ) + 1 := by
        rw [eS]
        show ((τ).1 6 + 1).toInt.toNat = _
        have := ar_inc (i := sPn (τ)) hpe3 (by omega)
        rw [ar_i1] at this
        rw [this]; rfl
      have hx0 : (0 : Int32).toInt.toNat = 0 := by decide +kernel
      have hx1' : (1 : Int32).toInt.toNat = 1 := by decide +kernel
      have rows : ∀ k, k < sPn (sNote τ (sPat τ)) → aI b10 (G.2.1 0) (if k < sPn (τ) then A1 (70 + k) else zt) 2 (paF (sNote τ (sPat τ)) k) := fun k hk => by
        rw [sP] at hk
        by_cases c : k < sPn (τ)
        · rw [if_pos c]
          refine (C11.2.2.1.2 k c).nth fun i9 _ => ?_
          unfold paF
          rw [eS]
          show (if i9 = 0 then (cs_A (cs_A (τ) 10 _) 11 _).2.2 10 k else (cs_A (cs_A (τ) 10 _) 11 _).2.2 11 k) = _
          rw [cs_A_2, cs_A_n _ _ (by decide), cs_A_2, ev_u_ne _ _ (by omega), ev_u_ne _ _ (by omega)]
        · obtain rfl : k = sPn (τ) := by omega
          rw [if_neg c]
          refine ⟨_, s10 _ _ hr9, fun i9 hi9' => ?_⟩
          unfold paF
          rw [eS, hx0, hx1']
          show _ = (if i9 = 0 then (cs_A (cs_A (τ) 10 _) 11 _).2.2 10 _ else (cs_A (cs_A (τ) 10 _) 11 _).2.2 11 _)
          rw [cs_A_2, cs_A_n _ _ (by decide), cs_A_2, ev_u_self, ev_u_self]
          rcases (show i9 = 0 ∨ i9 = 1 by omega) with rfl | rfl
          · rfl
          · rfl
      have inj : ∀ i9 j9, i9 < sPn (sNote τ (sPat τ)) → j9 < sPn (sNote τ (sPat τ)) → (if i9 < sPn (τ) then A1 (70 + i9) else zt) = (if j9 < sPn (τ) then A1 (70 + j9) else zt) → i9 = j9 := fun i9 j9 h1 h2 h3 => by
        rw [sP] at h1 h2
        have old : ∀ k, k < sPn (τ) → A1 (70 + k) < zt := fun k hk => by obtain ⟨f, y1, y2⟩ := C9.2.2.1.2 k hk; exact ht8 _ _ y1
        by_cases c1 : i9 < sPn (τ) <;> by_cases c2 : j9 < sPn (τ)
        · rw [if_pos c1, if_pos c2] at h3
          exact C9.2.2.2.2.2 _ _ c1 c2 h3
        · rw [if_pos c1, if_neg c2] at h3
          have := old _ c1; omega
        · rw [if_neg c1, if_pos c2] at h3
          have := old _ c2; omega
        · omega
      refine lc_wpt C11 hnI v6 (σ2 := sNote τ (sPat τ)) (fun k hk => (sNoteF_keep (τ) (sPat (τ)) 32 0).1 k hk) (sNoteF_keep (τ) (sPat (τ)) 32 0).2.2 (fun w k hw => by rw [show (sNote τ (sPat τ)).2.2 w = (τ).2.2 w from (sNoteF_keep (τ) (sPat (τ)) 32 0).2.1 w (by omega) (by omega)]) (by rw [sP]; exact q10) rows inj wF_X7_29 dX7_ticks_497 ?_
      intro b11 C12 f12 z12
      refine ev_loc (L' := [some (.ref (A1 0)), none, none, none, some (.int y)]) ⟨rfl, rfl, trivial⟩ ?_
      refine hk b11 (lcP A1 (zt + 1) (fun k => if k < sPn τ then A1 (70 + k) else zt)) _ rfl C12 (((s9.tr s10).fr _ _ _).tr f12) (z12.trans z10) (fun q hq => ?_)
      have oA : ∀ i, i ≠ 4 → i < 70 → lcP A1 (zt + 1) (fun k => if k < sPn (τ) then A1 (70 + k) else zt) i = A1 i := fun i h1 h2 => lcP_o A1 _ _ h1 h2
      rcases hq with rfl | rfl | ⟨k, hk, rfl⟩ | ⟨k, hk, rfl⟩ | ⟨k, hk, rfl⟩
      · exact Or.inl (Or.inl (oA 0 (by omega) (by omega)))
      · exact Or.inl (Or.inr (Or.inl (oA 5 (by omega) (by omega))))
      · exact Or.inl (Or.inr (Or.inr (Or.inl ⟨k, hk, oA _ (by omega) (by omega)⟩)))
      · exact Or.inl (Or.inr (Or.inr (Or.inr (Or.inl ⟨k, hk, oA _ (by omega) (by omega)⟩))))
      · rw [lcP_i]
        rw [sP] at hk
        by_cases c : k < sPn (τ)
        · rw [if_pos c]
          exact Or.inl (Or.inr (Or.inr (Or.inr (Or.inr ⟨k, by omega, rfl⟩))))
        · rw [if_neg c]
          exact Or.inr (by omega)
  · have hi9 : i < sPn (τ) := by omega
    have h10 : (τ).2.2 10 i = sPat (τ) := by rcases hor with h | h; exact absurd h (by omega); exact h.2
    refine e_aload_n dX7_ticks_454 rfl rfl ?_
    refine lc_g7 C9 wF_X7_29 dX7_ticks_455 ?_
    refine e_iload dX7_ticks_458 rfl ?_
    refine lc_q4 C9 hx hi9 dX7_ticks_460 ?_
    refine e_iconst (v := 1) dX7_ticks_461 (by decide) ?_
    refine e_dup2 dX7_ticks_462 rfl rfl ?_
    refine lc_p C9 hi9 (show (1 : Int32).toInt = ((1 : Nat) : Int) by decide +kernel) (by decide) dX7_ticks_463 ?_
    refine e_iconst (v := 1) dX7_ticks_464 (by decide) ?_
    refine e_iadd dX7_ticks_465 ?_
    refine lc_wp C9 hi9 (show (1 : Int32).toInt = ((1 : Nat) : Int) by decide +kernel) dX7_ticks_466 ?_
    intro a11 C11 f11 z11
    have fr11 := (fr.rf _ _ _ _).tr f11
    have sz11 := z11.trans z8
    refine e_goto (tgt := 500) dX7_ticks_467 (by decide) ?_
    refine ev_loc (L' := [some (.ref (A1 0)), none, none, none, some (.int y)]) ⟨rfl, rfl, trivial⟩ ?_
    refine e_wide (k0 := k) (n0 := n) (by omega) (by omega) ?_
    have eS := sNote_inc (σ := τ) (p := sPat τ) hpn3.1 hi9 (by omega) hno h10
    exact hk _ A1 zt rfl (by rw [eS]; exact C11) fr11 sz11 (fun q hq => Or.inl (by rw [eS] at hq; exact hq))
set_option maxRecDepth 20000 in
theorem ct_X7_ticks (hC : LC G a A σ nI mI) (hv : sInv σ) (hb : RB T σ) (hT : T < 2147483646) (hnI : nI = sIn σ) (hm : cRev (sTI σ) (sIn σ) = rSrt (tol mI (sIn σ))) (hz : a.2 = some z) : ev_Ct G l mX7_ticks 3 20 712 [.ref (A 0)] a (fun v b => v = some (.int (sBrN σ)) ∧ ∃ (A' : Nat → Nat) (n' : Nat) (m' : Nat → TI) (z' : Nat), A' 0 = A 0 ∧ LC G b A' (sTick σ) n' m' ∧ n' = sIn (sTick σ) ∧ cRev (sTI (sTick σ)) (sIn (sTick σ)) = rSrt (tol m' (sIn (sTick σ))) ∧ b.2 = some z' ∧ fr a b A (sNm σ) (sPn σ) ∧ (∀ q, mtA A' (sNm σ) (sPn (sTick σ)) q → mtA A (sNm σ) (sPn σ) q ∨ z ≤ q)) (fun _ _ => False) := by
  refine ev_Ct.of (by decide +kernel) (Nat.le_of_ble_eq_true rfl) ?_
  refine e_top hz fun ht => ?_
  have hmn := hv.1.nat
  have hmu : (σ.1 0).toInt = (sNm σ : Int) := hmn.1.symm
  have hin := hv.2.2.1.nat
  have nz : ¬ mtA A (sNm σ) (sPn σ) z := fun h => by obtain ⟨e, h1, -⟩ := hC.mue h; have := ht _ _ h1; omega
  have hnew : ∀ q, z ≤ q → ∀ e, a.1 q ≠ some e := fun q hq e he => by have := ht q e he; omega
  have hx1 : (σ.1 0 + 1).toInt = ((sNm σ + 1 : Nat) : Int) := by have := ar_inc (i := sNm σ) hmu (by omega); rwa [ar_i1] at this
  have v1 := sInv_TP hv
  have v2 := sInv_T1 hv
  have v5 := sInv_T2 hv
  have v6 := sInv_T3 hv
  have bs0 := hb.1
  have bs1 : RBs (sT1 σ) := RBs_GI (σ := sTP σ) (RBs_TP bs0)
  have bs2 : RBs (sLM (sDM (sT1 σ))) := RBs_DL bs1
  have bs3 : RBs (sT2 σ) := RBs_SMi bs2 _
  have bm0 : RBm 140000000 (sTP σ) := RBm_TP hv.1 bs0 hb.2.1
  have bm1 : RBm 141000000 (sT1 σ) := RBm_GI (σ := sTP σ) hv.2.2.1 hb.2.2 bm0
  have hLO := tick_LO hv hb.2.2 hm
  have hkl := kepT_le (σ.1 1) mI (sIn σ)
  have eN1 : σ.1 0 = (sT1 σ).1 0 := (sGI_1 (sTP σ) (by decide)).symm
  have nN1 : sNm (sT1 σ) = sNm σ := by unfold sNm; rw [← eN1]
  have eP1 : (sT1 σ).1 6 = σ.1 6 := sGI_1 (sTP σ) (by decide)
  have nP1 : sPn (sT1 σ) = sPn σ := by unfold sPn; rw [eP1]
  have r20 : (sT2 σ).1 0 = (sT1 σ).1 0 := rfl
  have r26 : (sT2 σ).1 6 = (sT1 σ).1 6 := rfl
  have r30 : (sT3 σ).1 0 = (sT2 σ).1 0 := rfl
  have r36 : (sT3 σ).1 6 = (sT2 σ).1 6 := rfl
  have nN2 : sNm (sT2 σ) = sNm σ := by unfold sNm; rw [r20, ← eN1]
  have nP2 : sPn (sT2 σ) = sPn σ := by unfold sPn; rw [r26, eP1]
  have nN3 : sNm (sT3 σ) = sNm σ := by unfold sNm; rw [r30, r20, ← eN1]
  have nP3 : sPn (sT3 σ) = sPn σ := by unfold sPn; rw [r36, r26, eP1]
  have hpn := hv.2.2.2.2
  have hpe : (σ.1 6).toInt = (sPn σ : Int) := by unfold sPn; omega
  refine e_wide (k0 := ((0 + 1 + 1) + sIn σ + 1) + 1) (n0 := (((0 + 41 + 2) + 41 * sIn σ) + 0) + (sNm σ + 1)) (by omega) (by omega) ?_
  refine e_aload_n dX7_ticks_0 rfl rfl ?_
  refine lc_g4 hC wF_X7_10 dX7_ticks_1 ?_
  refine lc_n1 hC hv dX7_ticks_4 ?_
  refine e_istore_n dX7_ticks_5 rfl (Nat.le_of_ble_eq_true rfl) ?_
  refine e_iload_n dX7_ticks_6 rfl rfl ?_
  refine e_iconst (v := 1) dX7_ticks_7 (by decide) ?_
  refine e_iadd dX7_ticks_8 ?_
  refine e_newa (atype := .long) (ty := .long) (t0 := 1) (N := sNm σ + 1) (a0 := (sNm σ + 1, .inr (.inl (fun _ => 0)))) rfl rfl (fun C q => by cases q) wA_long (fun _ => rfl) hx1 (by show (sNm σ + 1) * _ ≤ _; exact Nat.le_trans (Nat.mul_le_mul (show sNm σ + 1 ≤ 100 by omega) (show componentBytes .long ≤ 8 by decide)) (by decide)) hz dX7_ticks_9 ?_
  refine e_astore_n dX7_ticks_11 rfl (Nat.le_of_ble_eq_true rfl) ?_
  refine e_iconst (v := 0) dX7_ticks_12 (by decide) ?_
  refine e_istore_n dX7_ticks_13 rfl (Nat.le_of_ble_eq_true rfl) ?_
  refine lp_tA (Nat.le_of_ble_eq_true rfl) hC hv bs0 ht (fun F hF => ?_) (sNm σ + 1) 0 _ _ (by omega) ar_0 (fun s hs => absurd hs (Nat.not_lt_zero _))
  have hC1 : LC G (ev_new a z (.inl (G.2.1 1, sNm σ + 1, .inr (.inl F)))) A σ nI mI := hC.mono (sub.new _ ht)
  have hp : (ev_new a z (.inl (G.2.1 1, sNm σ + 1, .inr (.inl F)))).1 z = some (.inl (G.2.1 1, sNm σ + 1, .inr (.inl F))) := new_eq _ _ _
  have hfr : fr a (ev_new a z (.inl (G.2.1 1, sNm σ + 1, .inr (.inl F)))) A (sNm σ) (sPn σ) := (sub.new _ ht).fr _ _ _
  have hsz : (ev_new a z (.inl (G.2.1 1, sNm σ + 1, .inr (.inl F)))).2 = some (z + 1) := new_2 _ _ hz
  generalize ev_new a z (.inl (G.2.1 1, sNm σ + 1, .inr (.inl F))) = b0 at hC1 hp hfr hsz
  refine e_aload_n dX7_ticks_33 rfl rfl ?_
  refine lc_g8 hC1 wF_X7_32 dX7_ticks_34 ?_
  refine e_iconst (v := 1) dX7_ticks_37 (by decide) ?_
  refine e_dup2 dX7_ticks_38 rfl rfl ?_
  refine lc_a1 hC1 (show (1 : Int32).toInt = ((0 + 1 : Nat) : Int) by decide +kernel) (by decide) dX7_ticks_39 ?_
  refine e_aload_n dX7_ticks_40 rfl rfl ?_
  refine e_iconst (v := 0) dX7_ticks_41 (by decide) ?_
  refine pull_at hp (show (0 : Int32).toInt = ((0 : Nat) : Int) by decide +kernel) (by omega) (hF 0 (by omega)) dX7_ticks_42 ?_
  refine e_lsub dX7_ticks_43 ?_
  refine lc_wa1 hC1 (show (1 : Int32).toInt = ((0 + 1 : Nat) : Int) by decide +kernel) (by decide) dX7_ticks_44 ?_
  intro a12 C12 f12 z12
  have fr12 := hfr.tr f12
  have sz12 := z12.trans hsz
  have hp12 := f12 _ _ hp nz
  refine e_aload_n dX7_ticks_45 rfl rfl ?_
  refine lc_g8 C12 wF_X7_32 dX7_ticks_46 ?_
  refine e_iconst (v := 2) dX7_ticks_49 (by decide) ?_
  refine e_dup2 dX7_ticks_50 rfl rfl ?_
  refine lc_a1 C12 (show (2 : Int32).toInt = ((1 + 1 : Nat) : Int) by decide +kernel) (by decide) dX7_ticks_51 ?_
  rw [cs_J_n _ _ (show (1 : Nat) ≠ 0 by decide)]
  refine e_aload_n dX7_ticks_52 rfl rfl ?_
  refine e_iload_n dX7_ticks_53 rfl rfl ?_
  refine pull_at hp12 hmu (by omega) (hF _ (by omega)) dX7_ticks_54 ?_
  refine e_ladd dX7_ticks_55 ?_
  refine lc_wa1 C12 (show (2 : Int32).toInt = ((1 + 1 : Nat) : Int) by decide +kernel) (by decide) dX7_ticks_56 ?_
  intro a13 C13 f13 z13
  have fr13 := fr12.tr f13
  have sz13 := z13.trans sz12
  have hp13 := f13 _ _ hp12 nz
  refine e_iconst (v := 0) dX7_ticks_57 (by decide) ?_
  refine e_istore_n dX7_ticks_58 rfl (Nat.le_of_ble_eq_true rfl) ?_
  refine lp_tB (a := a) (nI := nI) (mI := mI) (Nat.le_of_ble_eq_true rfl) hv bs0 hb.2.1 hF nz (fun b hB hfr hsz => ?_) (sNm σ) 0 _ _ (by omega) ar_0 ?_ hp13 fr13 sz13
  rotate_left
  · have e : cs_A (cs_J (cs_J σ 0 (σ.2.1 0 - (sPull σ 0).toInt64)) 1 (σ.2.1 1 + (sPull σ (sNm σ)).toInt64)) 2 (fillTo 0 (sMom1 σ) (σ.2.2 2)) = cs_J (cs_J σ 0 (σ.2.1 0 - (sPull σ 0).toInt64)) 1 (σ.2.1 1 + (sPull σ (sNm σ)).toInt64) := by
      rw [fillTo_0]
      exact cs_A_self (cs_J (cs_J σ 0 (σ.2.1 0 - (sPull σ 0).toInt64)) 1 (σ.2.1 1 + (sPull σ (sNm σ)).toInt64)) 2
    rw [e]
    exact C13
  have hB2 : LC G b A (sTP σ) nI mI := hB.see (vis_TP σ)
  refine e_top hsz fun ht2 => ?_
  refine e_iconst (v := 0) dX7_ticks_93 (by decide) ?_
  refine e_anewA (N := 0) wq_L_X7_23 (show (0 : Int32).toInt = ((0 : Nat) : Int) by decide +kernel) (by decide) hsz dX7_ticks_94 ?_
  refine e_astore_n dX7_ticks_97 rfl (Nat.le_of_ble_eq_true rfl) ?_
  have s3 := sub.new (.inl (G.2.1 5, 0, .inr (.inr (.inr (.inr (fun _ => none)))))) ht2
  have hB3 := hB2.mono s3
  have hq3 : (ev_new b (z + 1) (.inl (G.2.1 5, 0, .inr (.inr (.inr (.inr (fun _ => none))))))).1 (z + 1) = some (.inl (G.2.1 5, 0, .inr (.inr (.inr (.inr (fun _ => none)))))) := new_eq _ _ _
  have hz3 : (ev_new b (z + 1) (.inl (G.2.1 5, 0, .inr (.inr (.inr (.inr (fun _ => none))))))).2 = some (z + 2) := new_2 _ _ hsz
  have hf3 := hfr.tr (s3.fr A (sNm σ) (sPn σ))
  generalize ev_new b (z + 1) (.inl (G.2.1 5, 0, .inr (.inr (.inr (.inr (fun _ => none)))))) = b3 at s3 hB3 hq3 hz3 hf3
  refine e_aload_n dX7_ticks_98 rfl rfl ?_
  refine lc_g6 hB3 wF_X7_25 dX7_ticks_99 ?_
  refine e_astore dX7_ticks_102 (Nat.le_of_ble_eq_true rfl) ?_
  refine e_aload dX7_ticks_104 rfl ?_
  refine lc_n3 hB3 dX7_ticks_106 ?_
  refine e_istore dX7_ticks_107 (Nat.le_of_ble_eq_true rfl) ?_
  refine e_iconst (v := 0) dX7_ticks_109 (by decide) ?_
  refine e_istore dX7_ticks_110 (Nat.le_of_ble_eq_true rfl) ?_
  refine ev_loc (L' := [some (.ref (A 0)), some (.int (σ.1 0)), none, some (.ref (z + 1)), some (.ref (A 3)), some (.int (Int32.ofNat nI)), some (.int 0)]) ⟨rfl, rfl, rfl, rfl, rfl, rfl, trivial⟩ ?_
  refine e_wide (k0 := (0 + 1 + 1) + sIn σ) (n0 := (0 + 41 + 2) + 41 * sIn σ) (by omega) (by omega) ?_
  refine lp_tD (σ := sTP σ) (a0 := a) (z := z) (Nat.le_of_ble_eq_true rfl) v1 (RBt_TP hb.2.2) bm0 hnI hm (fun b4 rq zt hB4 hR4 hf4 hz4 hzt => ?_) (sIn σ) 0 _ b3 (z + 1) (z + 2) (Nat.add_zero _) ar_0 hB3 ⟨fun _ => 0, ⟨_, hq3, fun k hk => absurd hk (Nat.not_lt_zero _)⟩, fun q hq => absurd hq (Nat.not_lt_zero _)⟩ hf3 hz3 (by omega)
  obtain ⟨g4, hg4, hr4⟩ := hR4
  have g1 := givL_1 ((tol mI (sIn σ)).filter (isDue (σ.1 1))) (sTP σ)
  have g1' : (givT (sTP σ) mI (sIn σ)).1 = σ.1 := g1.1
  have hN4 : sNm (givT (sTP σ) mI (sIn σ)) = sNm σ := by unfold sNm; rw [g1']
  have hP4 : sPn (givT (sTP σ) mI (sIn σ)) = sPn σ := by unfold sPn; rw [g1']
  refine e_aload_n dX7_ticks_189 rfl rfl ?_
  refine e_aload_n dX7_ticks_190 rfl rfl ?_
  refine lc_wi0 hB4 (by have : sNm (givT (sTP σ) mI (sIn (sTP σ))) = sNm σ := hN4; omega) (by have : (kepT ((sTP σ).1 1) mI (sIn (sTP σ))).length ≤ sIn σ := hkl; omega) hg4 hr4 wF_X7_25 dX7_ticks_191 ?_
  intro b5 C5 f5 z5
  have hA10 : lcI A rq g4 0 = A 0 := rfl
  have hmt1 : ∀ m p q, m ≤ 12 → (mtA (lcI A rq g4) m p q ↔ mtA A m p q) := fun m p q hm => lcI_mt hm
  generalize lcI A rq g4 = A1 at C5 hA10 hmt1
  have C6 : LC G b5 A1 (sT1 σ) (kepT (σ.1 1) mI (sIn σ)).length (mAt (kepT (σ.1 1) mI (sIn σ))) := LC.see (σ := givT (sTP σ) mI (sIn (sTP σ))) C5 (vis_GI (ρ := sTP σ) (RBt_TP hb.2.2) hm)
  have f6 : fr a b5 A (sNm σ) (sPn σ) := by
    have q : fr b4 b5 A (sNm (givT (sTP σ) mI (sIn σ))) (sPn (givT (sTP σ) mI (sIn σ))) := f5
    rw [hN4, hP4] at q
    exact hf4.tr q
  have toA1 : ∀ c : ev_H, fr a c A (sNm σ) (sPn σ) → fr a c A1 (sNm σ) (sPn σ) := fun c h q e he hq => h q e he (fun x => hq ((hmt1 _ _ q (by omega)).mpr x))
  have toA : ∀ c : ev_H, fr a c A1 (sNm σ) (sPn σ) → fr a c A (sNm σ) (sPn σ) := fun c h q e he hq => h q e he (fun x => hq ((hmt1 _ _ q (by omega)).mp x))
  have z6 : b5.2 = some zt := z5.trans hz4
  refine ev_loc (L' := [some (.ref (A1 0)), some (.int ((sT1 σ).1 0))]) (by rw [hA10, ← eN1]; exact ⟨rfl, rfl, trivial⟩) ?_
  refine e_wide (k0 := 0 + 1 + 1) (n0 := 0 + 41 + 2) (by omega) (by omega) ?_
  refine e_aload_n dX7_ticks_194 rfl rfl ?_
  refine lc_g4 C6 wF_X7_10 dX7_ticks_195 ?_
  refine e_astore dX7_ticks_198 (Nat.le_of_ble_eq_true rfl) ?_
  refine e_aload dX7_ticks_200 rfl ?_
  refine lc_n1 C6 v2 dX7_ticks_202 ?_
  refine e_istore dX7_ticks_203 (Nat.le_of_ble_eq_true rfl) ?_
  refine e_iconst (v := 0) dX7_ticks_205 (by decide) ?_
  refine e_istore dX7_ticks_206 (Nat.le_of_ble_eq_true rfl) ?_
  refine ev_loc (L' := [some (.ref (A1 0)), some (.int ((sT1 σ).1 0)), none, none, some (.ref (A1 1)), some (.int ((sT1 σ).1 0)), some (.int 0)]) ⟨rfl, rfl, rfl, rfl, rfl, trivial⟩ ?_
  refine lp_tC (σ := sT1 σ) (a0 := a) (z := zt) (Nat.le_of_ble_eq_true rfl) v2 bs1 bm1 (fun b7 C7 f7 z7 => ?_) b5 C6 (by rw [nN1, nP1]; exact toA1 _ f6) z6
  refine e_iconst (v := 0) dX7_ticks_331 (by decide) ?_
  refine e_istore dX7_ticks_332 (Nat.le_of_ble_eq_true rfl) ?_
  refine e_iconst (v := 0) dX7_ticks_334 (by decide) ?_
  refine e_istore dX7_ticks_335 (Nat.le_of_ble_eq_true rfl) ?_
  refine ev_loc (L' := [some (.ref (A1 0)), some (.int ((sT2 σ).1 0)), none, none, some (.int 0), some (.int 0)]) ⟨rfl, congrArg (fun q => some (Value.int q)) r20.symm, rfl, rfl, trivial⟩ ?_
  refine lp_tE (σ := sT2 σ) (a0 := a) (z := zt) (nI := (kepT (σ.1 1) mI (sIn σ)).length) (mI := mAt (kepT (σ.1 1) mI (sIn σ))) (Nat.le_of_ble_eq_true rfl) v5 bs3 (fun y b8 hy C8 f8 z8 => ?_) (sNm (sT2 σ) + 1) 0 _ _ _ (by omega) ar_0 rfl ?_ (by rw [nN2, nP2]; rw [nN1, nP1] at f7; exact f7) z7
  rotate_left
  · have e : sBSi (sT2 σ) 0 = sT2 σ := by
      show cs_A (sT2 σ) 5 (fillTo 0 _ ((sT2 σ).2.2 5)) = _
      rw [fillTo_0]
      exact cs_A_self _ 5
    rw [e]; exact C7
  have hy2 : y = sBrN σ := hy
  subst hy2
  have C9 : LC G b8 A1 (sT3 σ) (kepT (σ.1 1) mI (sIn σ)).length (mAt (kepT (σ.1 1) mI (sIn σ))) := C8
  have f9 : fr a b8 A1 (sNm σ) (sPn σ) := by rw [nN2, nP2] at f8; exact f8

  have hN4 : sNm (sNote (sT3 σ) (sPat (sT3 σ))) = sNm σ := by
    have q := (sNoteF_keep (sT3 σ) (sPat (sT3 σ)) 32 0).1 0 (by decide)
    unfold sNm
    rw [show (sNote (sT3 σ) (sPat (sT3 σ))).1 0 = (sT3 σ).1 0 from q]
    exact nN3
  refine lp_tN (τ := sT3 σ) (Nat.le_of_ble_eq_true rfl) v6 (by omega) C9 z8 (fun b A2 z2 hA2 hB hf hz2 hmt2 => ?_)
  rw [nN3, nP3] at hf hmt2
  refine ev_loc (L' := [some (.ref (A 0)), none, none, none, some (.int (sBrN σ))]) (by rw [← hA10]; exact ⟨rfl, rfl, trivial⟩) ?_
  refine lp_tZ rfl (hA2.trans hA10) hLO.1 hLO.2 hB (toA _ (f9.tr hf)) (fun q hq => ?_) hnew hN4 hz2
  rcases hmt2 q hq with h | h
  · exact Or.inl ((hmt1 _ _ q (by omega)).mp h)
  · exact Or.inr (by omega)
end LTZ
