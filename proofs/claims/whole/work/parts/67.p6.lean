/-! the model's load -/
theorem KR.beg {T : Int} (hT : 0 ≤ T) (σ : CS) {y : Int32} {N : Nat} {δ : Nat → Int64} (hy : y.toInt = (N : Int)) (h1 : 1 ≤ N) (h12 : N ≤ 12) (hδ : ∀ p, p < 199 → δ p = layF y.toInt64 N (N + 1) p) : KR T (sBeg σ y) δ := by
  have z0 := ar_0
  have e0 : (sBeg σ y).1 0 = y := rfl
  have eN : sNm (sBeg σ y) = N := by unfold sNm; rw [e0, hy]; rfl
  have eI : sIn (sBeg σ y) = 0 := by show (0 : Int32).toInt.toNat = 0; rw [z0]; rfl
  have eP : sPn (sBeg σ y) = 0 := by show (0 : Int32).toInt.toNat = 0; rw [z0]; rfl
  have zc : (0 : Int32).toInt64 = 0 := by decide +kernel
  have m0 : ∀ j, j < 12 → (sBeg σ y).2.2 0 j = 10 := fun j hj => if_pos hj
  have m1 : ∀ j, j < 12 → (sBeg σ y).2.2 1 j = 0 := fun j hj => if_pos hj
  have m2 : ∀ j, j < 12 → (sBeg σ y).2.2 2 j = 0 := fun j hj => if_pos hj
  have m3 : ∀ j, j < 13 → (sBeg σ y).2.2 3 j = 100 := fun j hj => if_pos hj
  have m4 : ∀ j, j < 13 → (sBeg σ y).2.2 4 j = 0 := fun j hj => if_pos hj
  have m5 : ∀ j, j < 13 → (sBeg σ y).2.2 5 j = 0 := fun j hj => if_pos hj
  have lz : ∀ p, p < 199 → p ≠ 1 → ¬ (12 ≤ p ∧ p < 12 + 3 * N ∧ p % 3 = 0) → ¬ (48 ≤ p ∧ p < 48 + 3 * (N + 1) ∧ p % 3 = 0) → δ p = 0 := fun p a b d e => by
    rw [hδ p a]; unfold layF; rw [if_neg b, if_neg d, if_neg e]
  refine ⟨⟨⟨?_, ?_, ?_, ?_, ?_, ?_, ?_⟩, ⟨fun k hk => ?_, fun w j hw hj => ?_, fun w s hw hs => ?_⟩, fun w k hw hk => ?_, ?_⟩, sInv_beg σ (by omega) (by omega), ?_, ?_, ?_⟩
  · rw [lz 0 (by decide) (by decide) (by omega) (by omega)]; exact zc.symm
  · rw [hδ 1 (by decide), e0]; exact if_pos rfl
  · rw [lz 2 (by decide) (by decide) (by omega) (by omega)]; exact zc.symm
  · rw [lz 3 (by decide) (by decide) (by omega) (by omega)]; exact zc.symm
  · rw [lz 4 (by decide) (by decide) (by omega) (by omega)]; exact zc.symm
  · rw [lz 5 (by decide) (by decide) (by omega) (by omega)]; exact zc.symm
  · rw [lz 6 (by decide) (by decide) (by omega) (by omega)]; exact zc.symm
  · rw [lz _ (by omega) (by omega) (by omega) (by omega)]
    rcases (show k = 0 ∨ k = 1 ∨ k = 2 ∨ k = 3 ∨ k = 4 by omega) with rfl | rfl | rfl | rfl | rfl <;> rfl
  · rw [eN] at hj
    rcases (show w = 0 ∨ w = 1 ∨ w = 2 by omega) with rfl | rfl | rfl
    · rw [m0 j (by omega), hδ _ (by omega)]
      unfold layF
      rw [if_neg (by omega), if_pos (by omega)]
      decide +kernel
    · rw [m1 j (by omega), lz _ (by omega) (by omega) (by omega) (by omega)]; exact zc.symm
    · rw [m2 j (by omega), lz _ (by omega) (by omega) (by omega) (by omega)]; exact zc.symm
  · rw [eN] at hs
    rcases (show w = 0 ∨ w = 1 ∨ w = 2 by omega) with rfl | rfl | rfl
    · rw [show (3 + 0) = 3 from rfl, m3 s (by omega), hδ _ (by omega)]
      unfold layF
      rw [if_neg (by omega), if_neg (by omega), if_pos (by omega)]
      decide +kernel
    · rw [show (3 + 1) = 4 from rfl, m4 s (by omega), lz _ (by omega) (by omega) (by omega) (by omega)]; exact zc.symm
    · rw [show (3 + 2) = 5 from rfl, m5 s (by omega), lz _ (by omega) (by omega) (by omega) (by omega)]; exact zc.symm
  · rw [eP] at hk; exact absurd hk (Nat.not_lt_zero _)
  · rw [eI]
    exact ⟨fun _ => (0, 0, 0), fun k hk => absurd hk (Nat.not_lt_zero _), rfl⟩
  · have d0 : (sBeg σ y).1 2 = 0 := rfl
    have d3 : (sBeg σ y).1 3 = 0 := rfl
    have d4 : (sBeg σ y).1 4 = 0 := rfl
    have w100 : (100 : Int32).toInt = 100 := by decide +kernel
    unfold RBs
    rw [eN, d0, d3, d4, z0]
    refine ⟨by decide, by decide, fun j hj => ?_, fun s hs => ?_⟩
    · rw [m1 j (by omega), z0]; decide
    · rw [m3 s (by omega), m4 s (by omega), m5 s (by omega), z0, w100]
      exact ⟨by decide, by decide, Or.inl rfl⟩
  · intro j hj
    rw [eN] at hj
    rw [m2 j (by omega), z0]; decide
  · refine ⟨?_, fun k hk => ?_, fun k hk => ?_⟩
    · show 0 ≤ (0 : Int32).toInt ∧ (0 : Int32).toInt ≤ T
      rw [z0]; omega
    · rw [eI] at hk; exact absurd hk (Nat.not_lt_zero _)
    · rw [eP] at hk; exact absurd hk (Nat.not_lt_zero _)
/-- the draft as it is first -/
theorem DR.beg {T : Int} (hT : 0 ≤ T) {S : SS} {μ : MS} {y : Int32} {N : Nat} {δ : Nat → Int64} (hy : y.toInt = (N : Int)) (h1 : 1 ≤ N) (h12 : N ≤ 12) (hδ : ∀ p, p < 199 → δ p = layF y.toInt64 N (N + 1) p) (h9 : μ.1 9 = 0) (h10 : μ.1 10 = 0) (h11 : μ.1 11 = 0) (r1 : ∀ m, m < 12 → S.2.1 1 m = 0) (r2 : ∀ m, m < 12 → S.2.1 2 m = 0) (s9 : S.1 9 = 0) (σ : CS) : DR T (ss_C S 1 (sBeg σ y)) (ms_L μ 1 δ) := by
  refine ⟨?_, ?_, ?_, ⟨?_, Or.inl s9⟩, ?_, fun m hm _ => ?_⟩
  · rw [ss_C_1, ms_L_get]; exact KR.beg hT σ hy h1 h12 hδ
  · show PB (μ.1 9) (S.2.1 1)
    rw [h9]; exact PB.zero r1
  · show PB (μ.1 10) (S.2.1 2)
    rw [h10]; exact PB.zero r2
  · show μ.1 11 = S.1 9
    rw [h11, s9]
  · rw [ss_C_1]; rfl
  · rw [ss_C_1] at hm ⊢
    have eN : sNm (sBeg σ y) = N := by show y.toInt.toNat = N; rw [hy]; rfl
    exact if_pos (show m < 12 by omega)
theorem RH.like {T : Int} {S V : SS} {μ : MS} (h : RH T S μ) (e2 : V.1 2 = S.1 2) (e3 : V.1 3 = S.1 3) (ec : ∀ i, 2 ≤ i → V.2.2.2 i = S.2.2.2 i) : RH T V μ := by
  obtain ⟨h1, h2, h3⟩ := h
  refine ⟨?_, h2.trans e2.symm, fun t ht => ?_⟩
  · unfold hOk; rw [e2, e3]; exact h1
  · rw [e2] at ht ⊢
    rw [e3, ec _ (by omega)]
    exact h3 t ht
/-- ready to read -/
def ldM (μ : MS) (x : Int32) : MS := ms_I (ms_I (ms_I (ms_I (ms_I (ms_I (ms_I (ms_I (ms_I μ 0 0) 1 0) 2 x) 3 0) 4 0) 5 (-1)) 9 0) 10 0) 11 0
theorem ldM_q (μ : MS) (x : Int32) : ldM μ x = qS (ldM μ x) 0 (μ.1 8) 0 (-1) := qS_ext rfl rfl rfl rfl (fun _ _ _ _ _ => rfl) rfl
section P6
variable {G : ev_G} {l : Launch} {c n p q j : Nat} {μ : MS} {h : ev_H} {B : Nat → Int32} {x y z s f e : Int32} {lo hi : Int} {T : Int} {S : SS}
set_option maxRecDepth 20000 in
theorem lp_mload {J : ev_K} {k m : Nat} {μ0 : MS} {S0 : SS} {R : Nat × Nat × SS} {x y : Int32} (hJ : 8 ≤ J.2.2.1) (hB : MB B n μ0) (hB0 : ∀ k, k < n → B k ≠ -1) (hBt : B = tB (S0.2.1 0) n)
    (hG : R.1 = 0 → ∀ (ν : MS) (p : Nat) (s : Int32), kp S0 R.2.2 → DR T R.2.2 ν → FRM μ0 ν → ev_V G l mX7_load J 135 [some (.ref c), some (.int x), some (.int y)] [] (mo G c (qS ν p s 0 f) h) k m)
    (hE : R.1 ≠ 0 → ∀ (ν : MS) (p : Nat) (s e : Int32), FRM μ0 ν → e ≠ 0 → e.toInt = -(R.1 : Int) → ev_V G l mX7_load J 135 [some (.ref c), some (.int x), some (.int y)] [] (mo G c (qS ν p s e (Int32.ofNat R.2.1)) h) k m) :
    ∀ (r i : Nat) (S : SS) (p : Nat) (s : Int32) (ν : MS), r + i = 500 → i ≤ p → p ≤ n → kp S0 S → DR T S ν → FRM μ0 ν → pRun n r S p = R → ev_V G l mX7_load J 113 [some (.ref c), some (.int x), some (.int y)] [] (mo G c (qS ν p s 0 f) h) k m := by
  have hn2 := hB.2.1
  intro r
  induction r with
  | zero =>
    intro i S p s ν hr hip hp hk hD hF hR
    have hBν := hF.mb hB
    have hS0 : tB (S.2.1 0) n = B := by rw [hBt, hk.2.1]
    have hR2 : (0, sk (tB (S.2.1 0) n) n p, S) = R := hR
    subst hR2
    have hsk : sk B n p = p := sk_fix (Or.inl (by omega))
    refine e_aload_n dX7_load_113 rfl rfl ?_
    refine e_invV (mcY := 0) (msY := 0) (ct_X7_isGood1) vX7_isGood wM_X7_69 (mo_at G c _ h 0 (by decide)) rfl dX7_load_114 rfl rfl (Nat.le_of_ble_eq_true rfl) (Nat.le_trans (Nat.le_of_ble_eq_true rfl) hJ) ?_
    rintro _ _ ⟨rfl, rfl⟩
    refine e_if_eq (tgt := 135) dX7_load_117 (by decide) (fun c117 => ?_) (fun c117 => ?_)
    · first | exact absurd c117 (by decide) | exact absurd rfl c117
    · refine e_aload_n dX7_load_120 rfl rfl ?_
      refine e_invV (mcY := 0) (msY := 0) (ct_X7_ahead hBν hp) vX7_ahead wM_X7_73 (mo_at G c _ h 0 (by decide)) rfl dX7_load_121 rfl rfl (Nat.le_of_ble_eq_true rfl) (Nat.le_trans (Nat.le_of_ble_eq_true rfl) hJ) ?_
      rintro _ _ ⟨rfl, rfl⟩
      refine e_iconst (v := (-1)) dX7_load_124 (by decide) ?_
      refine e_icmp_eq (tgt := 135) dX7_load_125 (by decide) (fun c125 => ?_) (fun c125 => ?_)
      · exact ev_lc (hG rfl ν _ s hk hD hF) ⟨rfl, rfl, rfl, trivial⟩
      · rw [hsk, hB.2.2.2 p (by omega)] at c125; exact absurd rfl c125
  | succ r ih =>
    intro i S p s ν hr hip hp hk hD hF hR
    have hBν := hF.mb hB
    have hS0 : tB (S.2.1 0) n = B := by rw [hBt, hk.2.1]
    have hsr := sk_rng B hp
    unfold pRun at hR
    rw [hS0] at hR
    have hok : okR n (sk B n p) (sM (S.2.2.2 1)) ((S.2.2.2 1).1 5).toInt (pStm B n (sM (S.2.2.2 1)) ((S.2.2.2 1).1 5).toInt (S.1 9) (S.2.1 1) (S.2.1 2) (sk B n p)) := ok_Stm hB.2.2.2
    refine e_aload_n dX7_load_113 rfl rfl ?_
    refine e_invV (mcY := 0) (msY := 0) (ct_X7_isGood1) vX7_isGood wM_X7_69 (mo_at G c _ h 0 (by decide)) rfl dX7_load_114 rfl rfl (Nat.le_of_ble_eq_true rfl) (Nat.le_trans (Nat.le_of_ble_eq_true rfl) hJ) ?_
    rintro _ _ ⟨rfl, rfl⟩
    refine e_if_eq (tgt := 135) dX7_load_117 (by decide) (fun c117 => ?_) (fun c117 => ?_)
    · first | exact absurd c117 (by decide) | exact absurd rfl c117
    · refine e_aload_n dX7_load_120 rfl rfl ?_
      refine e_invV (mcY := 0) (msY := 0) (ct_X7_ahead hBν hp) vX7_ahead wM_X7_73 (mo_at G c _ h 0 (by decide)) rfl dX7_load_121 rfl rfl (Nat.le_of_ble_eq_true rfl) (Nat.le_trans (Nat.le_of_ble_eq_true rfl) hJ) ?_
      rintro _ _ ⟨rfl, rfl⟩
      refine e_iconst (v := (-1)) dX7_load_124 (by decide) ?_
      refine e_icmp_eq (tgt := 135) dX7_load_125 (by decide) (fun c125 => ?_) (fun c125 => ?_)
      · have hge : n ≤ sk B n p := Nat.le_of_not_lt fun q => hB0 _ q c125
        rw [if_pos hge] at hR
        subst hR
        exact ev_lc (hG rfl ν _ s hk hD hF) ⟨rfl, rfl, rfl, trivial⟩
      · have hlt : ¬ n ≤ sk B n p := fun q => c125 (hB.2.2.2 _ q)
        rw [if_neg hlt] at hR
        refine e_aload_n dX7_load_128 rfl rfl ?_
        refine e_invV (mcY := 0) (msY := 0) (ct_X7_statement (T := T) (S := S) hBν hsr.2 hD) vX7_statement wM_X7_189 (mo_at G c _ h 0 (by decide)) rfl dX7_load_129 rfl rfl (Nat.le_of_ble_eq_true rfl) (Nat.le_trans (Nat.le_of_ble_eq_true rfl) hJ) ?_
        rintro _ _ ⟨rfl, hz⟩
        rw [sk_sk B hp] at hz
        rcases hz with ⟨z1, z2, μ2, s2, hD2, hF2, rfl⟩ | ⟨kk, ww, hor, μ2, p2, s2, e2, hF2, he2, hv2, rfl⟩
        · refine e_goto (tgt := 113) dX7_load_132 (by decide) ?_
          rw [if_pos z1, if_pos z2] at hR
          have q1 := hok z1
          have q3 := sk_rng B q1.2.1
          exact ih (i + 1) _ _ s2 μ2 (by omega) (by omega) (Nat.lt_of_not_le fun q => by rw [hB.2.2.2 _ q] at z2; exact absurd z2 (by decide)) (hk.trans (kp_aS _ S)) hD2 (hF.trans hF2) hR
        · refine e_goto (tgt := 113) dX7_load_132 (by decide) ?_
          refine e_aload_n dX7_load_113 rfl rfl ?_
          refine e_invV (mcY := 0) (msY := 0) (ct_X7_isGood0 he2) vX7_isGood wM_X7_69 (mo_at G c _ h 0 (by decide)) rfl dX7_load_114 rfl rfl (Nat.le_of_ble_eq_true rfl) (Nat.le_trans (Nat.le_of_ble_eq_true rfl) hJ) ?_
          rintro _ _ ⟨rfl, rfl⟩
          refine e_if_eq (tgt := 135) dX7_load_117 (by decide) (fun c117 => ?_) (fun c117 => ?_)
          · have hRe : R.1 = kk ∧ R.2.1 = ww ∧ kk ≠ 0 := by
              rcases hor with ⟨y1, y2, y3, y4⟩ | ⟨y1, y2, y3⟩
              · rw [if_pos y1, if_neg y2] at hR
                subst hR
                exact ⟨y3.symm, y4.symm, by omega⟩
              · rw [if_neg y1] at hR
                subst hR
                exact ⟨y2.symm, y3.symm, by omega⟩
            rw [← hRe.2.1]
            exact ev_lc (hE (by rw [hRe.1]; exact hRe.2.2) μ2 p2 s2 e2 (hF.trans hF2) he2 (by rw [hRe.1]; exact hv2)) ⟨rfl, rfl, rfl, trivial⟩
          · first | exact absurd c117 (by decide) | exact absurd rfl c117
set_option maxRecDepth 20000 in
theorem lp_mldE {J : ev_K} {b : Nat} {ν : MS} (hJ : 7 ≤ J.2.2.1) (hS : RS T S μ) (hF : FRM (ldM μ x) ν) (h0 : (pAll b S x.toInt.toNat).1 ≠ 0) (he : e ≠ 0) (hv : e.toInt = -((pAll b S x.toInt.toNat).1 : Int)) (hQ : ∀ v a, (((pAll b S x.toInt.toNat).1 ≠ 0 ∧ v = some (.int (Int32.ofInt (-((pAll b S x.toInt.toNat).1 : Int)))) ∧ ∃ μ₁ : MS, (∀ U, lf S U (Int32.ofNat (pAll b S x.toInt.toNat).2.1) → RS T U μ₁) ∧ μ₁.1 0 = 0 ∧ a = mo G c μ₁ h) ∨ ((pAll b S x.toInt.toNat).1 = 0 ∧ v = some (.int (((pAll b S x.toInt.toNat).2.2.2.2.2 1).1 0)) ∧ ∃ μ₁ : MS, (∀ V, lf S V (-1) → V.2.2.2 1 = (pAll b S x.toInt.toNat).2.2.2.2.2 1 → RS T (ss_C (sKeep V) 0 (sBec ((sKeep V).2.2.2 0) ((sKeep V).2.2.2 1))) μ₁) ∧ μ₁.1 0 = 0 ∧ a = mo G c μ₁ h)) → J.2.2.2.2.2.1 v a) {k m : Nat} {y : Int32} : ev_V G l mX7_load J 135 [some (.ref c), some (.int x), some (.int y)] [] (mo G c (qS ν p s e (Int32.ofNat (pAll b S x.toInt.toNat).2.1)) h) k m := by
  refine e_aload_n dX7_load_135 rfl rfl ?_
  refine e_aload_n dX7_load_136 rfl rfl ?_
  refine qS_g6 wF_X7_62 dX7_load_137 ?_
  refine qS_p7 wF_X7_13 dX7_load_140 ?_
  refine e_aload_n dX7_load_143 rfl rfl ?_
  refine e_invV (mcY := 0) (msY := 0) (ct_X7_isGood0 he) vX7_isGood wM_X7_69 (mo_at G c _ h 0 (by decide)) rfl dX7_load_144 rfl rfl (Nat.le_of_ble_eq_true rfl) (Nat.le_trans (Nat.le_of_ble_eq_true rfl) hJ) ?_
  rintro _ _ ⟨rfl, rfl⟩
  refine e_if_ne (tgt := 155) dX7_load_147 (by decide) (fun c147 => ?_) (fun c147 => ?_)
  · first | exact absurd c147 (by decide) | exact absurd rfl c147
  · refine e_aload_n dX7_load_150 rfl rfl ?_
    refine qS_g5 wF_X7_59 dX7_load_151 ?_
    exact e_iret rfl dX7_load_154 (hQ _ _ (by
        refine Or.inl ⟨h0, ?_, _, ?_, ?_, rfl⟩
        · rw [show e = Int32.ofInt (-((pAll b S x.toInt.toNat).1 : Int)) from ar_eq (by have hre := ar_r e; rw [hv] at hre; rw [hv, Int32.toInt_ofInt_of_le (by omega) (by omega)])]
        · intro U hU
          obtain ⟨u0, u1, u2, u3, u4⟩ := hU
          have q : ∀ k, k ≠ 3 → k ≠ 4 → k ≠ 5 → k ≠ 8 → k ≠ 6 → (qS (ms_I ν 6 (Int32.ofNat (pAll b S x.toInt.toNat).2.1)) p s e (Int32.ofNat (pAll b S x.toInt.toNat).2.1)).1 k = ν.1 k := fun k a3 a4 a5 a8 a6 => (qS_0 _ _ _ _ _ a3 a4 a5 a8).trans (ms_I_ne _ _ a6)
          refine ⟨?_, ?_, ⟨?_, by rw [u0, ar_0]; decide, fun k hk => ?_⟩, ?_⟩
          · rw [u4 0 (by decide)]
            show KR T _ (ν.2.1 0)
            rw [hF.2.1 0 (by decide)]; exact hS.1
          · refine RH.like (S := S) (RH.rows hS.2.1 ?_ (fun i a1 a2 => hF.2.1 i (by omega))) u2 u3 (fun i hi => u4 i (by omega))
            rw [q 7 (by decide) (by decide) (by decide) (by decide) (by decide), hF.1 7 (by decide) (by decide) (by decide)]; rfl
          · rw [q 1 (by decide) (by decide) (by decide) (by decide) (by decide), hF.1 1 (by decide) (by decide) (by decide), u0]; rfl
          · rw [u0, ar_0] at hk; exact absurd hk (Nat.not_lt_zero _)
          · rw [u1]; rfl
        · show ν.1 0 = 0
          rw [hF.1 0 (by decide) (by decide) (by decide)]; rfl))
set_option maxRecDepth 20000 in
theorem lp_mldG {J : ev_K} {b : Nat} {ν : MS} (hJ : 7 ≤ J.2.2.1) (hS : RS T S μ) (hF : FRM (ldM μ x) ν) (h0 : (pAll b S x.toInt.toNat).1 = 0) (hD : DR T (pAll b S x.toInt.toNat).2.2 ν) (hQ : ∀ v a, (((pAll b S x.toInt.toNat).1 ≠ 0 ∧ v = some (.int (Int32.ofInt (-((pAll b S x.toInt.toNat).1 : Int)))) ∧ ∃ μ₁ : MS, (∀ U, lf S U (Int32.ofNat (pAll b S x.toInt.toNat).2.1) → RS T U μ₁) ∧ μ₁.1 0 = 0 ∧ a = mo G c μ₁ h) ∨ ((pAll b S x.toInt.toNat).1 = 0 ∧ v = some (.int (((pAll b S x.toInt.toNat).2.2.2.2.2 1).1 0)) ∧ ∃ μ₁ : MS, (∀ V, lf S V (-1) → V.2.2.2 1 = (pAll b S x.toInt.toNat).2.2.2.2.2 1 → RS T (ss_C (sKeep V) 0 (sBec ((sKeep V).2.2.2 0) ((sKeep V).2.2.2 1))) μ₁) ∧ μ₁.1 0 = 0 ∧ a = mo G c μ₁ h)) → J.2.2.2.2.2.1 v a) {k m : Nat} {y : Int32} : ev_V G l mX7_load J 135 [some (.ref c), some (.int x), some (.int y)] [] (mo G c (qS ν p s 0 (-1)) h) k m := by
  have q : ∀ k, k ≠ 3 → k ≠ 4 → k ≠ 5 → k ≠ 8 → k ≠ 6 → (qS (ms_I ν 6 (-1)) p s 0 (-1)).1 k = ν.1 k := fun k a3 a4 a5 a8 a6 => (qS_0 _ _ _ _ _ a3 a4 a5 a8).trans (ms_I_ne _ _ a6)
  have hK1 : KR T (S.2.2.2 0) ((qS (ms_I ν 6 (-1)) p s 0 (-1)).2.1 0) := by
    show KR T _ (ν.2.1 0)
    rw [hF.2.1 0 (by decide)]; exact hS.1
  have hH1 : RH T S (qS (ms_I ν 6 (-1)) p s 0 (-1)) := by
    refine RH.rows hS.2.1 ?_ (fun i a1 a2 => hF.2.1 i (by omega))
    rw [q 7 (by decide) (by decide) (by decide) (by decide) (by decide), hF.1 7 (by decide) (by decide) (by decide)]; rfl

  refine e_aload_n dX7_load_135 rfl rfl ?_
  refine e_aload_n dX7_load_136 rfl rfl ?_
  refine qS_g6 wF_X7_62 dX7_load_137 ?_
  refine qS_p7 wF_X7_13 dX7_load_140 ?_
  refine e_aload_n dX7_load_143 rfl rfl ?_
  refine e_invV (mcY := 0) (msY := 0) (ct_X7_isGood1) vX7_isGood wM_X7_69 (mo_at G c _ h 0 (by decide)) rfl dX7_load_144 rfl rfl (Nat.le_of_ble_eq_true rfl) (Nat.le_trans (Nat.le_of_ble_eq_true rfl) hJ) ?_
  rintro _ _ ⟨rfl, rfl⟩
  refine e_if_ne (tgt := 155) dX7_load_147 (by decide) (fun c147 => ?_) (fun c147 => ?_)
  · refine e_aload_n dX7_load_155 rfl rfl ?_
    refine e_invV (mcY := 0) (msY := 0) (ct_X7_rememberL (T := T) (S := S) hK1 hH1) vX7_remember wM_X7_192 (mo_at G c _ h 0 (by decide)) rfl dX7_load_156 rfl rfl (Nat.le_of_ble_eq_true rfl) (Nat.le_trans (Nat.le_of_ble_eq_true rfl) hJ) ?_
    rintro _ _ ⟨rfl, μ₁, r1, r2, r3, r4, r5, rfl⟩
    refine e_aload_n dX7_load_159 rfl rfl ?_
    refine mo_g9 wF_X7_21 dX7_load_160 ?_
    refine e_aload_n dX7_load_163 rfl rfl ?_
    refine mo_g8 wF_X7_17 dX7_load_164 ?_
    refine e_invS (mcY := 0) (msY := 0) (ct_X7_copy (q := 1) (t := 0) (by decide) (by decide) (by decide)) vX7_copy wM_X7_195 dX7_load_167 rfl rfl (Nat.le_of_ble_eq_true rfl) (Nat.le_trans (Nat.le_of_ble_eq_true rfl) hJ) ?_
    rintro _ _ ⟨rfl, rfl⟩
    have hKD : KR T ((pAll b S x.toInt.toNat).2.2.2.2.2 1) ((ms_L μ₁ 0 (fillL 199 (μ₁.2.1 1) (μ₁.2.1 0))).2.1 0) := by
      rw [ms_L_get]
      exact KR.row hD.1 (fun i hi => by rw [fillL_lt _ _ hi, r5]; rfl)
    refine e_aload_n dX7_load_170 rfl rfl ?_
    refine e_invV (mcY := 0) (msY := 0) (ct_X7_masses (σ := (pAll b S x.toInt.toNat).2.2.2.2.2 1) hKD.1) vX7_masses wM_X7_199 (mo_at G c _ h 0 (by decide)) rfl dX7_load_171 rfl rfl (Nat.le_of_ble_eq_true rfl) (Nat.le_trans (Nat.le_of_ble_eq_true rfl) hJ) ?_
    rintro _ _ ⟨rfl, rfl⟩
    exact e_iret rfl dX7_load_174 (hQ _ _ (by
        refine Or.inr ⟨h0, rfl, _, ?_, ?_, rfl⟩
        · intro V hV hV1
          obtain ⟨u0, u1, u2, u3, u4⟩ := hV
          have k1 : (sKeep V).2.2.2 1 = (pAll b S x.toInt.toNat).2.2.2.2.2 1 := by rw [sKeep_C, ev_u_ne _ _ (by omega), hV1]
          refine ⟨?_, ?_, ⟨?_, ?_, fun k hk => ?_⟩, ?_⟩
          · show KR T (ev_u (sKeep V).2.2.2 0 (sBec ((sKeep V).2.2.2 0) ((sKeep V).2.2.2 1)) 0) _
            rw [ev_u_self, k1]
            exact hKD.bec _
          · refine RH.chain ?_ (by decide) _
            refine RH.like (S := sKeep S) (r1.rows rfl (fun i a1 a2 => ms_L_ne _ _ (by omega))) ?_ ?_ (fun i hi => ?_)
            · rw [sKeep_c, sKeep_c, u2]
            · rw [sKeep_n, sKeep_n, u3]
            · rw [sKeep_C, sKeep_C, u3, u4 _ (by omega), u4 0 (by decide)]
              by_cases e : i = 2 + (S.1 3).toInt.toNat
              · rw [e, ev_u_self, ev_u_self]
              · rw [ev_u_ne _ _ e, ev_u_ne _ _ e, u4 i (by omega)]
          · show μ₁.1 1 = (sKeep V).1 0
            rw [r2 1 (by decide), q 1 (by decide) (by decide) (by decide) (by decide) (by decide), hF.1 1 (by decide) (by decide) (by decide), sKeep_o V (by decide) (by decide), u0]; rfl
          · show 0 ≤ ((sKeep V).1 0).toInt ∧ ((sKeep V).1 0).toInt ≤ 500
            rw [sKeep_o V (by decide) (by decide), u0, ar_0]; decide
          · have hk2 : k < ((sKeep V).1 0).toInt.toNat := hk
            rw [sKeep_o V (by decide) (by decide), u0, ar_0] at hk2; exact absurd hk2 (Nat.not_lt_zero _)
          · show μ₁.1 6 = (sKeep V).1 1
            rw [r2 6 (by decide), sKeep_o V (by decide) (by decide), u1]; rfl
        · show μ₁.1 0 = 0
          rw [r2 0 (by decide), q 0 (by decide) (by decide) (by decide) (by decide) (by decide), hF.1 0 (by decide) (by decide) (by decide)]; rfl))
  · first | exact absurd c147 (by decide) | exact absurd rfl c147
set_option maxRecDepth 20000 in
theorem lp_mbad {J : ev_K} {k m : Nat} {ν : MS} (hJ : 7 ≤ J.2.2.1) (he : e ≠ 0) {x y : Int32} (hk : ev_V G l mX7_load J 135 [some (.ref c), some (.int x), some (.int y)] [] (mo G c (qS ν p s e f) h) k m) : ev_V G l mX7_load J 113 [some (.ref c), some (.int x), some (.int y)] [] (mo G c (qS ν p s e f) h) k m := by
  refine e_aload_n dX7_load_113 rfl rfl ?_
  refine e_invV (mcY := 0) (msY := 0) (ct_X7_isGood0 he) vX7_isGood wM_X7_69 (mo_at G c _ h 0 (by decide)) rfl dX7_load_114 rfl rfl (Nat.le_of_ble_eq_true rfl) (Nat.le_trans (Nat.le_of_ble_eq_true rfl) hJ) ?_
  rintro _ _ ⟨rfl, rfl⟩
  refine e_if_eq (tgt := 135) dX7_load_117 (by decide) (fun c117 => ?_) (fun c117 => ?_)
  · exact ev_lc hk ⟨rfl, rfl, rfl, trivial⟩
  · first | exact absurd c117 (by decide) | exact absurd rfl c117
set_option maxRecDepth 20000 in
theorem ct_X7_load {b : Nat} (hS : RS T S μ) (hT0 : 0 ≤ T) : ev_Ct G l mX7_load 8 0 0 [.ref c, .int x] (mo G c μ h) (fun v a => ((0 ≤ x.toInt ∧ x.toInt ≤ (S.1 0).toInt) ∧ (((pAll b S x.toInt.toNat).1 ≠ 0 ∧ v = some (.int (Int32.ofInt (-((pAll b S x.toInt.toNat).1 : Int)))) ∧ ∃ μ₁ : MS, (∀ U, lf S U (Int32.ofNat (pAll b S x.toInt.toNat).2.1) → RS T U μ₁) ∧ μ₁.1 0 = 0 ∧ a = mo G c μ₁ h) ∨ ((pAll b S x.toInt.toNat).1 = 0 ∧ v = some (.int (((pAll b S x.toInt.toNat).2.2.2.2.2 1).1 0)) ∧ ∃ μ₁ : MS, (∀ V, lf S V (-1) → V.2.2.2 1 = (pAll b S x.toInt.toNat).2.2.2.2.2 1 → RS T (ss_C (sKeep V) 0 (sBec ((sKeep V).2.2.2 0) ((sKeep V).2.2.2 1))) μ₁) ∧ μ₁.1 0 = 0 ∧ a = mo G c μ₁ h))) ∨ (¬ (0 ≤ x.toInt ∧ x.toInt ≤ (S.1 0).toInt) ∧ v = some (.int 0) ∧ a = mo G c (ms_I μ 0 1) h)) (fun _ _ => False) := by
  refine ev_Ct.of (by decide +kernel) (Nat.le_of_ble_eq_true rfl) ?_
  have hB3 := hS.2.2.1
  have z0 := ar_0
  have z1 := ar_1
  have w12 : (12 : Int32).toInt = 12 := by decide +kernel
  have e1 : (ms_I μ 0 0).1 1 = S.1 0 := (ms_I_ne _ _ (by decide)).trans hB3.1
  have hb1 := hB3.2.1
  refine e_aload_n dX7_load_0 rfl rfl ?_
  refine e_iconst (v := 0) dX7_load_1 (by decide) ?_
  refine mo_p0 wF_X7_39 dX7_load_2 ?_
  refine e_aload_n dX7_load_5 rfl rfl ?_
  refine e_iload_n dX7_load_6 rfl rfl ?_
  refine e_iconst (v := 0) dX7_load_7 (by decide) ?_
  refine e_aload_n dX7_load_8 rfl rfl ?_
  refine mo_g2 wF_X7_46 dX7_load_9 ?_
  rw [e1]
  refine e_invS (mcY := 0) (msY := 0) (ct_X7_in) vX7_in wM_X7_65 dX7_load_12 rfl rfl (Nat.le_of_ble_eq_true rfl) (Nat.le_of_ble_eq_true rfl) ?_
  rintro _ _ hc
  rcases hc with ⟨hin, rfl, rfl⟩ | ⟨hin, rfl, rfl⟩
  · refine e_if_ne (tgt := 22) dX7_load_15 (by decide) (fun c15 => ?_) (fun c15 => ?_)
    · refine e_iconst (v := 0) dX7_load_22 (by decide) ?_
      refine e_iconst (v := 1) dX7_load_23 (by decide) ?_
      refine e_invV (mcY := 0) (msY := 0) (ct_X7_fails0 (ms_I_get μ 0 0)) vX7_fails wM_X7_183 (mo_at G c _ h 0 (by decide)) rfl dX7_load_24 rfl rfl (Nat.le_of_ble_eq_true rfl) (Nat.le_of_ble_eq_true rfl) ?_
      rintro _ _ ⟨rfl, rfl⟩
      refine e_if_eq (tgt := 32) dX7_load_27 (by decide) (fun c27 => ?_) (fun c27 => ?_)
      · refine e_aload_n dX7_load_32 rfl rfl ?_
        refine e_iconst (v := 0) dX7_load_33 (by decide) ?_
        refine mo_p2 wF_X7_46 dX7_load_34 ?_
        refine e_aload_n dX7_load_37 rfl rfl ?_
        refine e_iload_n dX7_load_38 rfl rfl ?_
        refine mo_p3 wF_X7_49 dX7_load_39 ?_
        refine e_aload_n dX7_load_42 rfl rfl ?_
        refine e_iconst (v := 0) dX7_load_43 (by decide) ?_
        refine mo_p4 wF_X7_52 dX7_load_44 ?_
        refine e_aload_n dX7_load_47 rfl rfl ?_
        refine e_iconst (v := 0) dX7_load_48 (by decide) ?_
        refine mo_p5 wF_X7_59 dX7_load_49 ?_
        refine e_aload_n dX7_load_52 rfl rfl ?_
        refine e_iconst (v := (-1)) dX7_load_53 (by decide) ?_
        refine mo_p6 wF_X7_62 dX7_load_54 ?_
        refine e_aload_n dX7_load_57 rfl rfl ?_
        refine e_iconst (v := 0) dX7_load_58 (by decide) ?_
        refine mo_p14 wF_X7_115 dX7_load_59 ?_
        refine e_aload_n dX7_load_62 rfl rfl ?_
        refine e_iconst (v := 0) dX7_load_63 (by decide) ?_
        refine mo_p15 wF_X7_121 dX7_load_64 ?_
        refine e_aload_n dX7_load_67 rfl rfl ?_
        refine e_iconst (v := 0) dX7_load_68 (by decide) ?_
        refine mo_p16_0 wF_X7_155 dX7_load_69 ?_
        have hxn : x.toInt.toNat ≤ 500 := by omega
        have hB : MB (tB (S.2.1 0) x.toInt.toNat) x.toInt.toNat (ldM μ x) := by
          refine ⟨ar_ofE (by show x.toInt = (x.toInt.toNat : Int); omega) (by omega), hxn, fun k hk => ?_, fun k hk => tB_ge hk⟩
          rw [tB_lt hk]
          exact hB3.2.2 k (by omega)
        have hB0 : ∀ k, k < x.toInt.toNat → tB (S.2.1 0) x.toInt.toNat k ≠ -1 := fun k hk q => by
          rw [tB_lt hk] at q
          have := and255 (S.2.1 0 k)
          rw [q, ar_m1] at this
          omega
        have hQ : ∀ (v : Option Value) (a : ev_H), (((pAll b S x.toInt.toNat).1 ≠ 0 ∧ v = some (.int (Int32.ofInt (-((pAll b S x.toInt.toNat).1 : Int)))) ∧ ∃ μ₁ : MS, (∀ U, lf S U (Int32.ofNat (pAll b S x.toInt.toNat).2.1) → RS T U μ₁) ∧ μ₁.1 0 = 0 ∧ a = mo G c μ₁ h) ∨ ((pAll b S x.toInt.toNat).1 = 0 ∧ v = some (.int (((pAll b S x.toInt.toNat).2.2.2.2.2 1).1 0)) ∧ ∃ μ₁ : MS, (∀ V, lf S V (-1) → V.2.2.2 1 = (pAll b S x.toInt.toNat).2.2.2.2.2 1 → RS T (ss_C (sKeep V) 0 (sBec ((sKeep V).2.2.2 0) ((sKeep V).2.2.2 1))) μ₁) ∧ μ₁.1 0 = 0 ∧ a = mo G c μ₁ h)) → (((0 ≤ x.toInt ∧ x.toInt ≤ (S.1 0).toInt) ∧ (((pAll b S x.toInt.toNat).1 ≠ 0 ∧ v = some (.int (Int32.ofInt (-((pAll b S x.toInt.toNat).1 : Int)))) ∧ ∃ μ₁ : MS, (∀ U, lf S U (Int32.ofNat (pAll b S x.toInt.toNat).2.1) → RS T U μ₁) ∧ μ₁.1 0 = 0 ∧ a = mo G c μ₁ h) ∨ ((pAll b S x.toInt.toNat).1 = 0 ∧ v = some (.int (((pAll b S x.toInt.toNat).2.2.2.2.2 1).1 0)) ∧ ∃ μ₁ : MS, (∀ V, lf S V (-1) → V.2.2.2 1 = (pAll b S x.toInt.toNat).2.2.2.2.2 1 → RS T (ss_C (sKeep V) 0 (sBec ((sKeep V).2.2.2 0) ((sKeep V).2.2.2 1))) μ₁) ∧ μ₁.1 0 = 0 ∧ a = mo G c μ₁ h))) ∨ (¬ (0 ≤ x.toInt ∧ x.toInt ≤ (S.1 0).toInt) ∧ v = some (.int 0) ∧ a = mo G c (ms_I μ 0 1) h)) := fun v a q => Or.inl ⟨by omega, q⟩
        have hpA : pAll b S x.toInt.toNat = (if (pHd (tB (S.2.1 0) x.toInt.toNat) x.toInt.toNat 0).1 = 0 then pRun x.toInt.toNat 500 (ss_C (rC (rU b S (Int32.ofNat x.toInt.toNat)) 12) 1 (sBeg (S.2.2.2 1) (Int32.ofInt (pHd (tB (S.2.1 0) x.toInt.toNat) x.toInt.toNat 0).2.2))) (pHd (tB (S.2.1 0) x.toInt.toNat) x.toInt.toNat 0).2.1 else ((pHd (tB (S.2.1 0) x.toInt.toNat) x.toInt.toNat 0).1, (pHd (tB (S.2.1 0) x.toInt.toNat) x.toInt.toNat 0).2.1, rC (rU b S (Int32.ofNat x.toInt.toNat)) 12)) := rfl
        have hT5 : tB (S.2.1 0) x.toInt.toNat = tB (S.2.1 0) x.toInt.toNat := rfl
        generalize hBe : tB (S.2.1 0) x.toInt.toNat = B at hB hB0 hpA hT5
        generalize hne : x.toInt.toNat = n at *
        have hrow : ∀ i, (ldM μ x).2.1 i = μ.2.1 i := fun i => rfl
        have hR2 := FRM.refl (ldM μ x)
        refine ev_as (a' := mo G c (qS (ldM μ x) 0 (μ.1 8) 0 (-1)) h) (congrArg (fun ν => mo G c ν h) (ldM_q μ x)) ?_
        have hs0 := sk_rng B (Nat.zero_le n)
        refine e_aload_n dX7_load_72 rfl rfl ?_
        refine e_ldcS (j := 1) (tx := "chain") dX7_load_73 (by decide +kernel) ?_
        refine e_invV (mcY := 0) (msY := 0) (ct_X7_takeWord1 hB (Nat.zero_le n) (j := 1) (by decide)) vX7_takeWord wM_X7_107 (mo_at G c _ h 0 (by decide)) rfl dX7_load_75 rfl rfl (Nat.le_of_ble_eq_true rfl) (Nat.le_of_ble_eq_true rfl) ?_
        rintro _ _ hc
        rcases hc with ⟨hw, rfl, rfl⟩ | ⟨hw, rfl, rfl⟩
        · rw [show ev_len.getD 1 0 = 5 from rfl]
          have h5 : sk B n 0 + 5 ≤ n := wAt_n hB.2.2.2 hw (by decide)
          have hwb := wB_iff.mpr hw
          refine e_if_ne (tgt := 91) dX7_load_78 (by decide) (fun c78 => ?_) (fun c78 => ?_)
          · refine e_aload_n dX7_load_91 rfl rfl ?_
            refine e_iconst (v := 1) dX7_load_92 (by decide) ?_
            refine e_bipush (v := 12) dX7_load_93 (by decide) ?_
            refine e_invV (mcY := 0) (msY := 0) (ct_num (lo := 1) (hi := 12) hB h5 ar_1 w12 (by omega) (by omega)) vX7_number wM_X7_102 (mo_at G c _ h 0 (by decide)) rfl dX7_load_95 rfl rfl (Nat.le_of_ble_eq_true rfl) (Nat.le_of_ble_eq_true rfl) ?_
            rintro _ _ hc
            generalize er1 : pN B n (1) (12) (sk B n 0 + 5) = r1 at hc
            obtain ⟨k1, q1, m1⟩ := r1
            dsimp only at hc
            rcases hc with ⟨hr1, rfl, rfl⟩ | ⟨hr1, rfl, p1, s1, e1, he1, hv1, rfl⟩
            · subst hr1
              have g1 := pN_0 hB.2.2.2 h5 (lo := 1) (hi := 12) (by rw [er1])
              rw [er1] at g1
              change sk B n 0 + 5 < q1 ∧ q1 ≤ n ∧ 1 ≤ m1 ∧ m1 ≤ 12 at g1
              refine e_istore_n dX7_load_98 rfl (Nat.le_of_ble_eq_true rfl) ?_
              refine e_aload_n dX7_load_99 rfl rfl ?_
              refine qS_g9 wF_X7_21 dX7_load_100 ?_
              refine e_iload_n dX7_load_103 rfl rfl ?_
              refine e_invS (mcY := 0) (msY := 0) (ct_X7_layChain (q := 1) (by decide) (N := m1.toNat) (by rw [ar_ofI (by omega) (by omega)]; omega) (by omega)) vX7_layChain wM_X7_35 dX7_load_104 rfl rfl (Nat.le_of_ble_eq_true rfl) (Nat.le_of_ble_eq_true rfl) ?_
              rintro _ _ ⟨rfl, δ0, hδ0, rfl⟩
              refine ev_as (a' := mo G c (qS (ms_L (ldM μ x) 1 δ0) q1 (Int32.ofNat (sk B n (sk B n 0 + 5))) 0 (-1)) h) rfl ?_
              have hB1 : MB B n (ms_L (ldM μ x) 1 δ0) := (FRM.row (ldM μ x) δ0).mb hB
              refine e_aload_n dX7_load_107 rfl rfl ?_
              refine e_bipush (v := 59) dX7_load_108 (by decide) ?_
              refine e_invV (mcY := 0) (msY := 0) (ct_X7_expect1 hB1 g1.2.1 (by decide)) vX7_expect wM_X7_180 (mo_at G c _ h 0 (by decide)) rfl dX7_load_110 rfl rfl (Nat.le_of_ble_eq_true rfl) (Nat.le_of_ble_eq_true rfl) ?_
              rintro _ _ ⟨rfl, hz⟩
              rcases hz with ⟨hz, rfl⟩ | ⟨hz, rfl⟩
              · have hh : pHd B n 0 = (0, sk B n q1 + 1, m1) := by unfold pHd; rw [hwb, cond_true, er1, if_pos rfl, if_pos hz]
                have hpe : pAll b S n = pRun n 500 (ss_C (rC (rU b S (Int32.ofNat n)) 12) 1 (sBeg (S.2.2.2 1) (Int32.ofInt m1))) (sk B n q1 + 1) := by rw [hpA, hh, if_pos rfl]
                have hm1 : (Int32.ofInt m1).toInt = (m1.toNat : Int) := by rw [ar_ofI (by omega) (by omega)]; omega
                have rc1 : ∀ m, m < 12 → (rC (rU b S (Int32.ofNat n)) 12).2.1 1 m = 0 := fun m hm => if_pos hm
                have rc2 : ∀ m, m < 12 → (rC (rU b S (Int32.ofNat n)) 12).2.1 2 m = 0 := fun m hm => if_pos hm
                have hlt : sk B n q1 + 1 ≤ n := Nat.lt_of_not_le fun q => by rw [hB.2.2.2 _ q] at hz; exact absurd hz (by decide)
                refine lp_mload (T := T) (μ0 := ms_L (ldM μ x) 1 δ0) (S0 := ss_C (rC (rU b S (Int32.ofNat n)) 12) 1 (sBeg (S.2.2.2 1) (Int32.ofInt m1))) (R := pAll b S n) (Nat.le_of_ble_eq_true rfl) hB1 hB0 (by rw [← hBe]; rfl) (fun h0 ν p s hkp hD hF => ?_) (fun h0 ν p s e hF he hv => ?_) 500 0 _ _ _ _ (by omega) (Nat.zero_le _) hlt (kp.rfl' _) (DR.beg hT0 hm1 (by omega) (by omega) hδ0 rfl rfl rfl rc1 rc2 rfl _) (FRM.refl _) hpe.symm
                · subst hne
                  exact lp_mldG (b := b) (Nat.le_of_ble_eq_true rfl) hS ((FRM.row _ δ0).trans hF) h0 hD hQ
                · subst hne
                  exact lp_mldE (b := b) (Nat.le_of_ble_eq_true rfl) hS ((FRM.row _ δ0).trans hF) h0 he hv hQ
              · refine lp_mbad (Nat.le_of_ble_eq_true rfl) (by decide) ?_
                have hh : pHd B n 0 = (2, sk B n q1, 0) := by unfold pHd; rw [hwb, cond_true, er1, if_pos rfl, if_neg hz]
                have hpe : pAll b S n = (2, sk B n q1, rC (rU b S (Int32.ofNat n)) 12) := by rw [hpA, hh]; exact if_neg (show ¬ (2 : Nat) = 0 by decide)
                have hp1 : (pAll b S n).1 = 2 := by rw [hpe]
                have hp2 : (pAll b S n).2.1 = sk B n q1 := by rw [hpe]
                rw [← hp2]
                subst hne
                exact ev_lc (lp_mldE (b := b) (Nat.le_of_ble_eq_true rfl) hS (FRM.row _ δ0) (by rw [hp1]; decide) (by decide) (by rw [hp1]; decide +kernel) hQ) ⟨rfl, rfl, rfl, trivial⟩
            · refine e_istore_n dX7_load_98 rfl (Nat.le_of_ble_eq_true rfl) ?_
              refine e_aload_n dX7_load_99 rfl rfl ?_
              refine qS_g9 wF_X7_21 dX7_load_100 ?_
              refine e_iload_n dX7_load_103 rfl rfl ?_
              refine e_invS (mcY := 0) (msY := 0) (ct_X7_layChain (q := 1) (by decide) (N := 0) ar_0 (by decide)) vX7_layChain wM_X7_35 dX7_load_104 rfl rfl (Nat.le_of_ble_eq_true rfl) (Nat.le_of_ble_eq_true rfl) ?_
              rintro _ _ ⟨rfl, δ0, hδ0, rfl⟩
              refine ev_as (a' := mo G c (qS (ms_L (ldM μ x) 1 δ0) p1 s1 e1 (Int32.ofNat q1)) h) rfl ?_
              refine e_aload_n dX7_load_107 rfl rfl ?_
              refine e_bipush (v := 59) dX7_load_108 (by decide) ?_
              refine e_invV (mcY := 0) (msY := 0) (ct_X7_expect0 he1) vX7_expect wM_X7_180 (mo_at G c _ h 0 (by decide)) rfl dX7_load_110 rfl rfl (Nat.le_of_ble_eq_true rfl) (Nat.le_of_ble_eq_true rfl) ?_
              rintro _ _ ⟨rfl, rfl⟩
              refine lp_mbad (Nat.le_of_ble_eq_true rfl) he1 ?_
              have hh : pHd B n 0 = (k1, q1, m1) := by unfold pHd; rw [hwb, cond_true, er1, if_neg hr1]
              have hpe : pAll b S n = (k1, q1, rC (rU b S (Int32.ofNat n)) 12) := by rw [hpA, hh]; exact if_neg hr1
              have hp1 : (pAll b S n).1 = k1 := by rw [hpe]
              have hp2 : (pAll b S n).2.1 = q1 := by rw [hpe]
              rw [← hp2]
              subst hne
              exact ev_lc (lp_mldE (b := b) (Nat.le_of_ble_eq_true rfl) hS (FRM.row _ δ0) (by rw [hp1]; exact hr1) he1 (by rw [hp1]; exact hv1) hQ) ⟨rfl, rfl, rfl, trivial⟩
          · first | exact absurd c78 (by decide) | exact absurd rfl c78
        · have hwb := wB_no hw
          refine e_if_ne (tgt := 91) dX7_load_78 (by decide) (fun c78 => ?_) (fun c78 => ?_)
          · first | exact absurd c78 (by decide) | exact absurd rfl c78
          · refine e_aload_n dX7_load_81 rfl rfl ?_
            refine e_bipush (v := (-2)) dX7_load_82 (by decide) ?_
            refine e_aload_n dX7_load_84 rfl rfl ?_
            refine qS_g4 wF_X7_52 dX7_load_85 ?_
            refine e_invV (mcY := 0) (msY := 0) (ct_X7_report1) vX7_report wM_X7_86 (mo_at G c _ h 0 (by decide)) rfl dX7_load_88 rfl rfl (Nat.le_of_ble_eq_true rfl) (Nat.le_of_ble_eq_true rfl) ?_
            rintro _ _ ⟨rfl, rfl⟩
            refine e_aload_n dX7_load_91 rfl rfl ?_
            refine e_iconst (v := 1) dX7_load_92 (by decide) ?_
            refine e_bipush (v := 12) dX7_load_93 (by decide) ?_
            refine e_invV (mcY := 0) (msY := 0) (ct_X7_number0 (by decide)) vX7_number wM_X7_102 (mo_at G c _ h 0 (by decide)) rfl dX7_load_95 rfl rfl (Nat.le_of_ble_eq_true rfl) (Nat.le_of_ble_eq_true rfl) ?_
            rintro _ _ ⟨rfl, rfl⟩
            refine e_istore_n dX7_load_98 rfl (Nat.le_of_ble_eq_true rfl) ?_
            refine e_aload_n dX7_load_99 rfl rfl ?_
            refine qS_g9 wF_X7_21 dX7_load_100 ?_
            refine e_iload_n dX7_load_103 rfl rfl ?_
            refine e_invS (mcY := 0) (msY := 0) (ct_X7_layChain (q := 1) (by decide) (N := 0) ar_0 (by decide)) vX7_layChain wM_X7_35 dX7_load_104 rfl rfl (Nat.le_of_ble_eq_true rfl) (Nat.le_of_ble_eq_true rfl) ?_
            rintro _ _ ⟨rfl, δ0, hδ0, rfl⟩
            refine ev_as (a' := mo G c (qS (ms_L (ldM μ x) 1 δ0) (sk B n 0) (μ.1 8) (-2) (Int32.ofNat (sk B n 0))) h) rfl ?_
            refine e_aload_n dX7_load_107 rfl rfl ?_
            refine e_bipush (v := 59) dX7_load_108 (by decide) ?_
            refine e_invV (mcY := 0) (msY := 0) (ct_X7_expect0 (by decide)) vX7_expect wM_X7_180 (mo_at G c _ h 0 (by decide)) rfl dX7_load_110 rfl rfl (Nat.le_of_ble_eq_true rfl) (Nat.le_of_ble_eq_true rfl) ?_
            rintro _ _ ⟨rfl, rfl⟩
            refine lp_mbad (Nat.le_of_ble_eq_true rfl) (by decide) ?_
            have hh : pHd B n 0 = (2, sk B n 0, 0) := by unfold pHd; rw [hwb, cond_false]
            have hpe : pAll b S n = (2, sk B n 0, rC (rU b S (Int32.ofNat n)) 12) := by rw [hpA, hh]; exact if_neg (show ¬ (2 : Nat) = 0 by decide)
            have hp1 : (pAll b S n).1 = 2 := by rw [hpe]
            have hp2 : (pAll b S n).2.1 = sk B n 0 := by rw [hpe]
            rw [← hp2]
            subst hne
            exact ev_lc (lp_mldE (b := b) (Nat.le_of_ble_eq_true rfl) hS (FRM.row _ δ0) (by rw [hp1]; decide) (by decide) (by rw [hp1]; decide +kernel) hQ) ⟨rfl, rfl, rfl, trivial⟩
      · first | exact absurd c27 (by decide) | exact absurd rfl c27
    · first | exact absurd c15 (by decide) | exact absurd rfl c15
  · refine e_if_ne (tgt := 22) dX7_load_15 (by decide) (fun c15 => ?_) (fun c15 => ?_)
    · first | exact absurd c15 (by decide) | exact absurd rfl c15
    · refine e_iconst (v := 1) dX7_load_18 (by decide) ?_
      refine e_goto (tgt := 23) dX7_load_19 (by decide) ?_
      refine e_iconst (v := 1) dX7_load_23 (by decide) ?_
      refine e_invV (mcY := 0) (msY := 0) (ct_X7_fails1 (ms_I_get μ 0 0) (by decide : (1 : Int32) ≠ 0)) vX7_fails wM_X7_183 (mo_at G c _ h 0 (by decide)) rfl dX7_load_24 rfl rfl (Nat.le_of_ble_eq_true rfl) (Nat.le_of_ble_eq_true rfl) ?_
      rintro _ _ ⟨rfl, rfl⟩
      rw [ms_I_I]
      refine e_if_eq (tgt := 32) dX7_load_27 (by decide) (fun c27 => ?_) (fun c27 => ?_)
      · first | exact absurd c27 (by decide) | exact absurd rfl c27
      · refine e_iconst (v := 0) dX7_load_30 (by decide) ?_
        exact e_iret rfl dX7_load_31 (Or.inr ⟨fun q => by omega, rfl, rfl⟩)
end P6
