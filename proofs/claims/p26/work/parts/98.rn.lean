/-! a random chain, made and loaded -/
section RNZ
variable {G : ev_G} {l : Launch} {a : ev_H} {b u r z0 : Nat} {S0 : SS} {fb : Nat → Int32} {s : Int32}
set_option maxRecDepth 20000 in
theorem ct_L_randomChain (hl0 : l.stackTraces = false) (hz : a.2 = some z0) (hS : SY G b S0 a) (hu : a.1 u = some (.inl (G.2.1 0, 8, .inl fb))) (hfb : ∀ j, j < 6 → fb j = 0) (hr : a.1 r = some (.inr (9, [.int s]))) (hub : ¬ (b ≤ u ∧ u < b + 157)) (h0 : S0.1 0 = 0) (hh : hOk S0) : ev_Ct G l mL_randomChain 14 63 276 [.ref b, .ref u, .ref r] a (fun v c => ∃ (A : Nat → Nat) (σ : CS) (nI : Nat) (mI : Nat → TI) (V : SS), v = some (.ref (A 0)) ∧ SY G b (ss_C (sKeep V) 0 σ) c ∧ (V.1 0 = 0 ∧ V.1 1 = -1 ∧ V.1 2 = S0.1 2 ∧ V.1 3 = S0.1 3 ∧ ∀ i, i ≠ 1 → V.2.2.2 i = S0.2.2.2 i) ∧ LC G c A σ nI mI ∧ IV 0 σ nI mI ∧ (1 ≤ sNm σ ∧ sNm σ ≤ 6) ∧ (∀ q, mtA A (sNm σ) (sPn σ) q → z0 ≤ q) ∧ (∃ s' : Int32, c.1 r = some (.inr (9, [.int s']))) ∧ (∀ (q : Nat) (e : va_E), a.1 q = some e → ¬ (b ≤ q ∧ q < b + 157) → q ≠ u → q ≠ r → c.1 q = some e) ∧ (∃ f9 : Nat → Int32, c.1 u = some (.inl (G.2.1 0, 8, .inl f9))) ∧ c.2 = none) (fun _ _ => False) := by
  refine ev_Ct.of (by decide +kernel) (Nat.le_of_ble_eq_true rfl) ?_
  refine e_top hz fun ht0 => ?_
  have w6 : (6 : Int32).toInt = 6 := by decide +kernel
  refine e_wide (k0 := ((((((((0 + 1) + 9) + 1) + 18) + 1) + 6) + 1 + 1) + 1) + 24) (n0 := ((((((((0 + 6) + 141) + 1) + 36) + 1) + 9) + 1 + 1) + 1) + 79) (by decide) (by decide) ?_
  refine e_iconst (v := 1) dL_randomChain_0 (by decide) ?_
  refine e_aload_n dL_randomChain_1 rfl rfl ?_
  refine e_bipush (v := 6) dL_randomChain_2 (by decide) ?_
  refine e_invV (mcY := 0) (msY := 0) (ct_X9_below hr (by decide +kernel)) vX9_below wM_L_131 hr rfl dL_randomChain_4 (as := [.int 6]) rfl rfl (Nat.le_of_ble_eq_true rfl) (Nat.le_of_ble_eq_true rfl) ?_
  rintro v c ⟨y, t, rfl, ⟨y0, y1⟩, e⟩
  rw [e]
  rw [w6] at y1
  refine e_iadd dL_randomChain_7 ?_
  have hx3 : ((1 : Int32) + y).toInt = 1 + y.toInt := by rw [ar_add (by rw [ar_1]; omega) (by rw [ar_1]; omega), ar_1]
  generalize (1 : Int32) + y = x3 at hx3 ⊢
  obtain ⟨m, hm⟩ : ∃ m : Nat, x3.toInt = (m : Int) := ⟨x3.toInt.toNat, by omega⟩
  have h3 : 1 ≤ x3.toInt ∧ x3.toInt ≤ 6 := by omega
  refine e_istore_n dL_randomChain_8 rfl (Nat.le_of_ble_eq_true rfl) ?_
  refine e_iload_n dL_randomChain_9 rfl rfl ?_
  have hO := ct_X7_of (G := G) (l := l) (a := ev_put a r (.inr (9, [.int t]))) hm (by omega) (by omega) hz (fun _ => (0, 0, 0))
  refine e_invS (mcY := 24) (msY := 79) hO vX7_of wM_L_136 dL_randomChain_10 (as := [.int x3]) rfl rfl (Nat.le_of_ble_eq_true rfl) (Nat.le_of_ble_eq_true rfl) ?_
  rintro v c1 ⟨rfl, s1, z1, hC⟩
  have hJ : 14 ≤ 14 := Nat.le_refl _
  have w0 : ∀ p, wdT [] p = 0 := fun p => by unfold wdT; rw [chT_ge (Nat.zero_le _), chT_ge (Nat.zero_le _), chT_ge (Nat.zero_le _), chT_ge (Nat.zero_le _)]
  have hT0 : TX G b u S0 [] a := ⟨S0, hS, ⟨⟨fb, hu, hfb 0 (by decide), fun j hj => by rw [hfb (1 + j) (by omega), w0]; decide +kernel⟩, h0, fun k hk => absurd hk (Nat.not_lt_zero _), fun c hc => absurd hc List.not_mem_nil⟩, ⟨fun _ _ => rfl, rfl⟩⟩
  have hR : RC G a b u r z0 S0 [] (ofA z0 m) (cs_of x3) 0 (fun _ => (0, 0, 0)) c1 := ⟨(hT0.rnd hr).sub s1, hC, ⟨t, s1 _ _ (put_eq _ _ _)⟩, ⟨_, z1⟩, fun q hq => mut_ge (ofA_ge _ _) hq, fun q e he _ _ q3 => s1 _ _ ((put_ne _ _ q3).trans he)⟩
  have lx := nmW_le (x := x3) (m := 1) (by omega) (by omega) (by omega) (by omega)
  have hT : ([] : List Nat).length ≤ 0 := Nat.le_refl _
  refine e_astore dL_randomChain_13 (Nat.le_of_ble_eq_true rfl) ?_
  refine e_aload_n dL_randomChain_15 rfl rfl ?_
  refine e_aload_n dL_randomChain_16 rfl rfl ?_
  refine e_ldcS (j := 1) (tx := "chain") dL_randomChain_17 (by decide +kernel) ?_
  refine e_iconst (v := 1) dL_randomChain_19 (by decide) ?_
  refine rc_arr (N := 1) hR (show (1 : Int32).toInt = ((1 : Nat) : Int) by decide +kernel) (by decide) dL_randomChain_20 ?_
  intro z hz ht
  refine e_dup dL_randomChain_22 rfl ?_
  refine e_iconst (v := 0) dL_randomChain_23 (by decide) ?_
  refine e_iload_n dL_randomChain_24 rfl rfl ?_
  refine rc_iast (j := 0) (show (0 : Int32).toInt = ((0 : Nat) : Int) by decide +kernel) (by decide) dL_randomChain_25 ?_
  refine rc_all hub hR hz ht (j := 1) (by decide) (by decide) (rng1 ⟨by omega, by omega⟩) (by rw [nms1_]; simp only [List.length_append, txtl, (by decide +kernel : (txtN 1).length = 5), List.length_nil]; omega) wM_L_144 dL_randomChain_26 (Nat.le_of_ble_eq_true rfl) (Nat.le_of_ble_eq_true rfl) ?_
  intro a_w hR
  rw [nms1_] at hR
  refine e_aload_n dL_randomChain_29 rfl rfl ?_
  refine e_aload_n dL_randomChain_30 rfl rfl ?_
  refine e_ldcS (j := 22) (tx := ";") dL_randomChain_31 (by decide +kernel) ?_
  refine rc_word hub hR (j := 22) (by decide) (by simp only [List.length_append, txtl, (by decide +kernel : (txtN 1).length = 5), List.length_nil]; show _ + 1 ≤ 480; omega) wM_L_117 dL_randomChain_33 (Nat.le_of_ble_eq_true rfl) (Nat.le_of_ble_eq_true rfl) ?_
  intro a_v hR
  have eT : [] ++ txtN 1 ++ nmW x3 ++ txtN 22 = txtN 1 ++ (nmW x3 ++ [59]) := by
    rw [txt22]; simp only [List.append_assoc, List.nil_append]
  rw [eT] at hR
  have hB := sBeg_at (S0.2.2.2 1) x3
  have hRX : RX G a b u r z0 S0 (S0.2.2.2 1) (ofA z0 m 0) x3 0 0 0 8 0 0 a_v := ⟨_, _, _, _, _, hR.see (vis_beg (S0.2.2.2 1) (by omega) (by omega)), PG.head (by omega), IV.beg _ _ (by omega) (by omega), rfl, fun k _ hk => (hB.1 k hk).2.2, by
    have e1 : (txtN 1).length = 5 := by decide +kernel
    simp only [List.length_append, List.length_cons, List.length_nil, e1]; omega, Nat.le_refl _, rfl⟩
  refine ev_loc (L' := [some (.ref b), some (.ref u), some (.ref r), some (.int x3), some (.ref (ofA z0 m 0))]) ⟨rfl, rfl, rfl, rfl, rfl, trivial⟩ ?_
  generalize ofA z0 m 0 = c0 at hRX ⊢
  refine rs_B (t := 8) (cc := 0) hub ht0 hJ h3 (by decide) (by decide) (fun a hRX => ?_) hRX
  refine rs_C (t := 30) (cc := 2) hub ht0 hJ h3 (by decide) (by decide) (fun a hRX => ?_) hRX
  refine rs_D (t := 102) (cc := 5) hub ht0 hJ h3 (by decide) (by decide) (fun a dt2 hRX => ?_) hRX
  refine rs_E (t := 111) (cc := 6) hub ht0 hJ h3 (by decide) (by decide) (fun a hRX => ?_) hRX
  refine rs_F (t := 351) (cc := 24) hub ht0 hJ h3 (by decide) (by decide) (fun a hRX => ?_) hRX
  refine rs_G (t := 366) (cc := 25) hub ht0 hJ h3 (by decide) (by decide) (fun a i hi hRX => ?_) hRX
  obtain ⟨T, A, D, mI, c, hR, hP, hI, h3x, hs, hT, hc, rfl⟩ := hRX
  refine e_aload_n dL_randomChain_785 rfl rfl ?_
  refine e_aload_n dL_randomChain_786 rfl rfl ?_
  refine e_invS (mcY := 1) (msY := 6) (ct_L_loadText hl0 hR.1 hP rfl hh hub (by omega)) vL_loadText wM_L_211 dL_randomChain_787 (as := [.ref b, .ref u]) rfl rfl (Nat.le_of_ble_eq_true rfl) (Nat.le_of_ble_eq_true rfl) ?_
  rintro v c9 ⟨rfl, V, hV, hV1, hvD, hSY, hw, hu9, hz9⟩
  refine e_iload_n dL_randomChain_790 rfl rfl ?_
  refine e_icmp_ne (tgt := 799) dL_randomChain_791 (by decide) (fun q9 => absurd h3x q9) (fun _ => ?_)
  refine e_aload dL_randomChain_794 rfl ?_
  refine e_goto (tgt := 800) dL_randomChain_796 (by decide) ?_
  have n1 : sNm (sBec (V.2.2.2 0) D) = sNm D := by unfold sNm; rw [sBec_1 _ D (by decide)]
  have n3 : sPn (sBec (V.2.2.2 0) D) = sPn D := by unfold sPn; rw [sBec_1 _ D (by decide)]
  have hmn := hI.1.1.nat
  have hN : (D.1 0).toInt = ((sNm D : Nat) : Int) := hmn.1.symm
  rw [h3x] at hN
  obtain ⟨sr, hsr⟩ := hR.2.2.1
  exact e_aret (ty := .object "SpringChainLaw$Chain") rfl (Or.inl ⟨_, rfl⟩) (Or.inr ⟨_, rfl⟩) dL_randomChain_800 ⟨A, sBec (V.2.2.2 0) D, i, mI, V, rfl, hSY, hV, (hR.1.lc hR.2.1 hw).see (vis_bec (V.2.2.2 0) hI.1 hI.2.1.1), hI.bec _, by rw [n1]; omega, by rw [n1, n3]; exact hR.2.2.2.2.1, ⟨sr, hR.1.ob hsr kok_9.1 kok_9.2.1 kok_9.2.2 hw⟩, fun q e he q1 q2 q3 => hw q e (hR.2.2.2.2.2 q e he q1 q2 q3) q1 q2, hu9, hz9⟩
end RNZ
