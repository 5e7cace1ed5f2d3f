/-! the model reads its data -/
theorem ar_dl0 {x : Int32} (h : ¬ lg_cmp x.toInt64 0 = 0) : ¬ x.toInt = 0 := fun q => h (ar_lcmp0.mpr (by rw [ar_eq (q.trans ar_0.symm)]; decide +kernel))
theorem ar_de0 {x : Int32} (h : lg_cmp x.toInt64 0 = 0) : x.toInt = 0 := by have := congrArg Int64.toInt (ar_lcmp0.mp h); rw [ar_64] at this; rw [this]; decide +kernel
theorem ar_dle {x : Int32} (h : (lg_cmp x.toInt64 0).toInt ≤ 0) : x.toInt ≤ 0 := by have := ar_lc_le h; rw [ar_64] at this; have z : (0 : Int64).toInt = 0 := (by decide +kernel); omega
theorem ar_dgt {x : Int32} (h : 0 < (lg_cmp x.toInt64 0).toInt) : 0 < x.toInt := by have := ar_lc_gt h; rw [ar_64] at this; have z : (0 : Int64).toInt = 0 := (by decide +kernel); omega
theorem ar_dge {x : Int32} (h : 0 ≤ (lg_cmp x.toInt64 0).toInt) : 0 ≤ x.toInt := by have := ar_lc_ge h; rw [ar_64] at this; have z : (0 : Int64).toInt = 0 := (by decide +kernel); omega
theorem ar_dlt {x : Int32} (h : (lg_cmp x.toInt64 0).toInt < 0) : x.toInt < 0 := by have := ar_lc_lt h; rw [ar_64] at this; have z : (0 : Int64).toInt = 0 := (by decide +kernel); omega
theorem sSgn_p {σ : CS} {j : Nat} (h : 0 < (σ.2.2 1 j).toInt) : sSgn σ j = 1 := if_pos h
theorem sSgn_n {σ : CS} {j : Nat} (h : (σ.2.2 1 j).toInt < 0) : sSgn σ j = -1 := (if_neg (by omega)).trans (if_pos h)
theorem sSgn_0 {σ : CS} {j : Nat} (h : (σ.2.2 1 j).toInt = 0) : sSgn σ j = 0 := (if_neg (by omega)).trans (if_neg (by omega))
theorem sDig_p {σ : CS} {j : Nat} (h : 0 < (σ.2.2 1 j).toInt) : sDig σ j = 1 := by unfold sDig; rw [sSgn_p h]; decide +kernel
theorem sDig_n {σ : CS} {j : Nat} (h : (σ.2.2 1 j).toInt < 0) : sDig σ j = 2 := by unfold sDig; rw [sSgn_n h]; decide +kernel
theorem sDig_0 {σ : CS} {j : Nat} (h : (σ.2.2 1 j).toInt = 0) : sDig σ j = 0 := by unfold sDig; rw [sSgn_0 h]; decide +kernel
theorem sSgn_rng (σ : CS) (j : Nat) : sSgn σ j = 0 ∨ sSgn σ j = 1 ∨ sSgn σ j = -1 := by
  unfold sSgn
  split
  · exact Or.inr (Or.inl rfl)
  · split
    · exact Or.inr (Or.inr rfl)
    · exact Or.inl rfl
theorem sNodT_rng (σ : CS) : ∀ i, (sNodT σ i).2 = 0 ∨ (sNodT σ i).2 = 1 ∨ (sNodT σ i).2 = -1
  | 0 => Or.inl rfl
  | i + 1 => by
    unfold sNodT
    split
    · exact sNodT_rng σ i
    · exact sSgn_rng σ i
theorem ar_labs {x : Int32} (h : -2147483648 < x.toInt) : (if (0 : Int64) < x.toInt64 then x.toInt64 else -x.toInt64).toInt = (sAbs x).toInt := by
  have z : (0 : Int64).toInt = 0 := by decide +kernel
  unfold sAbs
  have hr := ar_r x
  by_cases c : 0 < x.toInt
  · rw [if_pos (ar_lt64.mpr (by rw [z, ar_64]; exact c)), if_pos (Int32.le_iff_toInt_le.mpr (by rw [ar_0]; omega)), ar_64]
  · rw [if_neg (fun q => c (by have := ar_lt64.mp q; rwa [z, ar_64] at this)), Int64.toInt_neg, ar_64, ar_bmL (by omega) (by omega)]
    by_cases d : x.toInt = 0
    · rw [if_pos (Int32.le_iff_toInt_le.mpr (by rw [ar_0]; omega)), d]; rfl
    · rw [if_neg (fun q => by have := Int32.le_iff_toInt_le.mp q; rw [ar_0] at this; omega), ar_sub (by rw [ar_0]; omega) (by rw [ar_0]; omega), ar_0]
      omega
section M2
variable {G : ev_G} {l : Launch} {c j w : Nat} {μ : MS} {σ : CS} {h : ev_H} {x y z : Int32} {T : Int}
set_option maxRecDepth 20000 in
theorem lp_mpat {J : ev_K} {k n : Nat} (hJ : 2 ≤ J.2.2.1) (hR : RD σ (μ.2.1 0)) (hv : sInv σ) (hk : ∀ y : Int32, y = sPat σ → ev_V G l mX7_patternNow J 55 [none, some (.int y)] [] (mo G c μ h) k n) : ∀ (r i : Nat) (x : Int32) (y : Int32), r + i = sNm σ → x.toInt = sM σ - 1 - (i : Int) → y = sPatT σ i → ev_V G l mX7_patternNow J 9 [some (.ref c), some (.int y), some (.int x)] [] (mo G c μ h) k n := by
  intro r
  induction r using Nat.strongRecOn with
  | ind r ih =>
    intro i x y
    intro hr hx hy
    have hmn := hv.1.nat
    have hmu : (σ.1 0).toInt = sM σ := rfl
    have z0 := ar_0
    have z1 := ar_1
    have zL : (0 : Int64).toInt = 0 := by decide +kernel
    have zc : (0 : Int32).toInt64 = 0 := by decide +kernel
    refine e_iload_n dX7_patternNow_9 rfl rfl ?_
    refine e_if_lt (tgt := 55) dX7_patternNow_10 (by decide) (fun c10 => ?_) (fun c10 => ?_)
    · obtain rfl : i = sNm σ := by omega
      exact ev_lc (hk y hy) ⟨rfl, trivial⟩
    · refine e_iconst (v := 3) dX7_patternNow_13 (by decide) ?_
      refine e_iload_n dX7_patternNow_14 rfl rfl ?_
      refine e_imul dX7_patternNow_15 ?_
      refine e_aload_n dX7_patternNow_16 rfl rfl ?_
      refine e_iload_n dX7_patternNow_17 rfl rfl ?_
      refine e_iconst (v := 1) dX7_patternNow_18 (by decide) ?_
      refine e_invV (mcY := 0) (msY := 0) (ct_of (j := sNm σ - 1 - i) (w := 1) hR hv (by omega) ar_1 (by omega) (by decide)) vX7_of wM_X7_201 (mo_at G c _ h 0 (by decide)) rfl dX7_patternNow_19 rfl rfl (Nat.le_of_ble_eq_true rfl) (Nat.le_trans (Nat.le_of_ble_eq_true rfl) hJ) ?_
      rintro _ _ ⟨rfl, rfl⟩
      refine e_lconst (v := 0) dX7_patternNow_22 (by decide) ?_
      refine e_lcmp dX7_patternNow_23 ?_
      refine e_if_ne (tgt := 31) dX7_patternNow_24 (by decide) (fun c24 => ?_) (fun c24 => ?_)
      · have e24 := ar_dl0 c24
        refine e_aload_n dX7_patternNow_31 rfl rfl ?_
        refine e_iload_n dX7_patternNow_32 rfl rfl ?_
        refine e_iconst (v := 1) dX7_patternNow_33 (by decide) ?_
        refine e_invV (mcY := 0) (msY := 0) (ct_of (j := sNm σ - 1 - i) (w := 1) hR hv (by omega) ar_1 (by omega) (by decide)) vX7_of wM_X7_201 (mo_at G c _ h 0 (by decide)) rfl dX7_patternNow_34 rfl rfl (Nat.le_of_ble_eq_true rfl) (Nat.le_trans (Nat.le_of_ble_eq_true rfl) hJ) ?_
        rintro _ _ ⟨rfl, rfl⟩
        refine e_lconst (v := 0) dX7_patternNow_37 (by decide) ?_
        refine e_lcmp dX7_patternNow_38 ?_
        refine e_if_le (tgt := 46) dX7_patternNow_39 (by decide) (fun c39 => ?_) (fun c39 => ?_)
        · have e24b := sDig_n (show (σ.2.2 1 (sNm σ - 1 - i)).toInt < 0 by have := ar_dle c39; omega)
          refine e_iconst (v := 2) dX7_patternNow_46 (by decide) ?_
          refine e_iadd dX7_patternNow_47 ?_
          refine e_istore_n dX7_patternNow_48 rfl (Nat.le_of_ble_eq_true rfl) ?_
          refine e_iinc dX7_patternNow_49 rfl rfl (Nat.le_of_ble_eq_true rfl) ?_
          refine e_goto (tgt := 9) dX7_patternNow_52 (by decide) ?_
          refine ev_loc (L' := [some (.ref c), some (.int _), some (.int _)]) ⟨rfl, rfl, rfl, trivial⟩ (ih (r - 1) (by omega) (i + 1) _ _ (by omega) ?_ ?_)
          · rw [ar_im1, ar_add (by rw [ar_m1]; omega) (by rw [ar_m1]; omega), ar_m1]
            omega
          · rw [hy]
            show _ = 3 * sPatT σ i + sDig σ (sNm σ - 1 - i)
            first | rw [e24b] | rw [e24]
        · have e24b := sDig_p (ar_dgt c39)
          refine e_iconst (v := 1) dX7_patternNow_42 (by decide) ?_
          refine e_goto (tgt := 47) dX7_patternNow_43 (by decide) ?_
          refine e_iadd dX7_patternNow_47 ?_
          refine e_istore_n dX7_patternNow_48 rfl (Nat.le_of_ble_eq_true rfl) ?_
          refine e_iinc dX7_patternNow_49 rfl rfl (Nat.le_of_ble_eq_true rfl) ?_
          refine e_goto (tgt := 9) dX7_patternNow_52 (by decide) ?_
          refine ev_loc (L' := [some (.ref c), some (.int _), some (.int _)]) ⟨rfl, rfl, rfl, trivial⟩ (ih (r - 1) (by omega) (i + 1) _ _ (by omega) ?_ ?_)
          · rw [ar_im1, ar_add (by rw [ar_m1]; omega) (by rw [ar_m1]; omega), ar_m1]
            omega
          · rw [hy]
            show _ = 3 * sPatT σ i + sDig σ (sNm σ - 1 - i)
            first | rw [e24b] | rw [e24]
      · have e24 := sDig_0 (ar_de0 c24)
        refine e_iconst (v := 0) dX7_patternNow_27 (by decide) ?_
        refine e_goto (tgt := 47) dX7_patternNow_28 (by decide) ?_
        refine e_iadd dX7_patternNow_47 ?_
        refine e_istore_n dX7_patternNow_48 rfl (Nat.le_of_ble_eq_true rfl) ?_
        refine e_iinc dX7_patternNow_49 rfl rfl (Nat.le_of_ble_eq_true rfl) ?_
        refine e_goto (tgt := 9) dX7_patternNow_52 (by decide) ?_
        refine ev_loc (L' := [some (.ref c), some (.int _), some (.int _)]) ⟨rfl, rfl, rfl, trivial⟩ (ih (r - 1) (by omega) (i + 1) _ _ (by omega) ?_ ?_)
        · rw [ar_im1, ar_add (by rw [ar_m1]; omega) (by rw [ar_m1]; omega), ar_m1]
          omega
        · rw [hy]
          show _ = 3 * sPatT σ i + sDig σ (sNm σ - 1 - i)
          first | rw [e24b] | rw [e24]
set_option maxRecDepth 20000 in
theorem ct_X7_patternNow (hR : RD σ (μ.2.1 0)) (hv : sInv σ) : ev_Ct G l mX7_patternNow 2 0 0 [.ref c] (mo G c μ h) (fun v a => v = some (.int (sPat σ)) ∧ a = mo G c μ h) (fun _ _ => False) := by
  refine ev_Ct.of (by decide +kernel) (Nat.le_of_ble_eq_true rfl) ?_
  have hmn := hv.1.nat
  have hmu : (σ.1 0).toInt = sM σ := rfl
  have z0 := ar_0
  have z1 := ar_1
  have zL : (0 : Int64).toInt = 0 := by decide +kernel
  have zc : (0 : Int32).toInt64 = 0 := by decide +kernel
  refine e_iconst (v := 0) dX7_patternNow_0 (by decide) ?_
  refine e_istore_n dX7_patternNow_1 rfl (Nat.le_of_ble_eq_true rfl) ?_
  refine e_aload_n dX7_patternNow_2 rfl rfl ?_
  refine e_invV (mcY := 0) (msY := 0) (ct_X7_masses hR) vX7_masses wM_X7_199 (mo_at G c _ h 0 (by decide)) rfl dX7_patternNow_3 rfl rfl (Nat.le_of_ble_eq_true rfl) (Nat.le_of_ble_eq_true rfl) ?_
  rintro _ _ ⟨rfl, rfl⟩
  refine e_iconst (v := 1) dX7_patternNow_6 (by decide) ?_
  refine e_isub dX7_patternNow_7 ?_
  refine e_istore_n dX7_patternNow_8 rfl (Nat.le_of_ble_eq_true rfl) ?_
  refine ev_loc (L' := [some (.ref c), some (.int 0), some (.int (σ.1 0 - 1))]) ⟨rfl, rfl, rfl, trivial⟩ ?_
  refine lp_mpat (Nat.le_refl _) hR hv (fun y hy => ?_) (sNm σ) 0 _ _ (by omega) (by rw [ar_sub (by rw [ar_1]; omega) (by rw [ar_1]; omega), ar_1]; omega) rfl
  subst hy
  exact e_iload_n dX7_patternNow_55 rfl rfl (e_iret rfl dX7_patternNow_56 ⟨rfl, rfl⟩)
set_option maxRecDepth 20000 in
theorem lp_mnod {J : ev_K} {k n : Nat} (hJ : 2 ≤ J.2.2.1) (hR : RD σ (μ.2.1 0)) (hv : sInv σ) (hk : ∀ y z : Int32, (y, z) = sNodT σ (sNm σ) → ev_V G l mX7_nodes J 80 [none, some (.int y)] [] (mo G c μ h) k n) : ∀ (r i : Nat) (x : Int32) (y z : Int32), r + i = sNm σ → x.toInt = (i : Int) → (y, z) = sNodT σ i → ev_V G l mX7_nodes J 6 [some (.ref c), some (.int y), some (.int z), some (.int x)] [] (mo G c μ h) k n := by
  intro r
  induction r using Nat.strongRecOn with
  | ind r ih =>
    intro i x y z
    intro hr hx hy
    have hn : x.toInt.toNat = i := ar_nat hx
    have hmn := hv.1.nat
    have hmu : (σ.1 0).toInt = sM σ := rfl
    have z0 := ar_0
    have z1 := ar_1
    have zL : (0 : Int64).toInt = 0 := by decide +kernel
    have zc : (0 : Int32).toInt64 = 0 := by decide +kernel
    refine e_iload_n dX7_nodes_6 rfl rfl ?_
    refine e_aload_n dX7_nodes_7 rfl rfl ?_
    refine e_invV (mcY := 0) (msY := 0) (ct_X7_masses hR) vX7_masses wM_X7_199 (mo_at G c _ h 0 (by decide)) rfl dX7_nodes_8 rfl rfl (Nat.le_of_ble_eq_true rfl) (Nat.le_trans (Nat.le_of_ble_eq_true rfl) hJ) ?_
    rintro _ _ ⟨rfl, rfl⟩
    refine e_icmp_ge (tgt := 80) dX7_nodes_11 (by decide) (fun c11 => ?_) (fun c11 => ?_)
    · obtain rfl : i = sNm σ := by omega
      exact ev_lc (hk y z hy) ⟨rfl, trivial⟩
    · refine e_aload_n dX7_nodes_14 rfl rfl ?_
      refine e_iload_n dX7_nodes_15 rfl rfl ?_
      refine e_iconst (v := 1) dX7_nodes_16 (by decide) ?_
      refine e_invV (mcY := 0) (msY := 0) (ct_of (j := i) (w := 1) hR hv hx ar_1 (by omega) (by decide)) vX7_of wM_X7_201 (mo_at G c _ h 0 (by decide)) rfl dX7_nodes_17 rfl rfl (Nat.le_of_ble_eq_true rfl) (Nat.le_trans (Nat.le_of_ble_eq_true rfl) hJ) ?_
      rintro _ _ ⟨rfl, rfl⟩
      refine e_lconst (v := 0) dX7_nodes_20 (by decide) ?_
      refine e_lcmp dX7_nodes_21 ?_
      refine e_if_le (tgt := 29) dX7_nodes_22 (by decide) (fun c22 => ?_) (fun c22 => ?_)
      · have e22 := ar_dle c22
        refine e_aload_n dX7_nodes_29 rfl rfl ?_
        refine e_iload_n dX7_nodes_30 rfl rfl ?_
        refine e_iconst (v := 1) dX7_nodes_31 (by decide) ?_
        refine e_invV (mcY := 0) (msY := 0) (ct_of (j := i) (w := 1) hR hv hx ar_1 (by omega) (by decide)) vX7_of wM_X7_201 (mo_at G c _ h 0 (by decide)) rfl dX7_nodes_32 rfl rfl (Nat.le_of_ble_eq_true rfl) (Nat.le_trans (Nat.le_of_ble_eq_true rfl) hJ) ?_
        rintro _ _ ⟨rfl, rfl⟩
        refine e_lconst (v := 0) dX7_nodes_35 (by decide) ?_
        refine e_lcmp dX7_nodes_36 ?_
        refine e_if_ge (tgt := 44) dX7_nodes_37 (by decide) (fun c37 => ?_) (fun c37 => ?_)
        · have hs := sSgn_0 (σ := σ) (j := i) (by have := ar_dge c37; omega)
          refine e_iconst (v := 0) dX7_nodes_44 (by decide) ?_
          refine e_istore dX7_nodes_45 (Nat.le_of_ble_eq_true rfl) ?_
          refine e_iload_n dX7_nodes_47 rfl rfl ?_
          refine e_iload_n dX7_nodes_48 rfl rfl ?_
          refine e_iload dX7_nodes_49 rfl ?_
          refine e_imul dX7_nodes_51 ?_
          refine e_if_ge (tgt := 59) dX7_nodes_52 (by decide) (fun c52 => ?_) (fun c52 => ?_)
          · refine e_iconst (v := 0) dX7_nodes_59 (by decide) ?_
            refine e_iadd dX7_nodes_60 ?_
            refine e_istore_n dX7_nodes_61 rfl (Nat.le_of_ble_eq_true rfl) ?_
            refine e_iload dX7_nodes_62 rfl ?_
            refine e_if_ne (tgt := 71) dX7_nodes_64 (by decide) (fun c64 => ?_) (fun c64 => ?_)
            · first | exact absurd c64 (by decide) | exact absurd rfl c64
            · refine e_iload_n dX7_nodes_67 rfl rfl ?_
              refine e_goto (tgt := 73) dX7_nodes_68 (by decide) ?_
              refine e_istore_n dX7_nodes_73 rfl (Nat.le_of_ble_eq_true rfl) ?_
              refine e_iinc dX7_nodes_74 rfl rfl (Nat.le_of_ble_eq_true rfl) ?_
              refine e_goto (tgt := 6) dX7_nodes_77 (by decide) ?_
              have hy1 : y = (sNodT σ i).1 := congrArg Prod.fst hy
              have hy2 : z = (sNodT σ i).2 := congrArg Prod.snd hy
              have hz := sNodT_rng σ i
              rw [← hy2] at hz
              refine ev_loc (L' := [some (.ref c), some (.int _), some (.int _), some (.int _)]) ⟨rfl, rfl, rfl, rfl, trivial⟩ (ih (r - 1) (by omega) (i + 1) _ _ _ (by omega) (ar_inc hx (by omega)) ?_)
              show _ = (if sSgn σ i = 0 then sNodT σ i else ((sNodT σ i).1 + (if (sNodT σ i).2 = -sSgn σ i then 1 else 0), sSgn σ i))
              rw [hs, ← hy]
              clear hy hy1 hy2
              rcases hz with rfl | rfl | rfl <;> first | exact absurd c52 (by decide +kernel) | (simp; done) | rfl
          · refine e_iconst (v := 1) dX7_nodes_55 (by decide) ?_
            refine e_goto (tgt := 60) dX7_nodes_56 (by decide) ?_
            refine e_iadd dX7_nodes_60 ?_
            refine e_istore_n dX7_nodes_61 rfl (Nat.le_of_ble_eq_true rfl) ?_
            refine e_iload dX7_nodes_62 rfl ?_
            refine e_if_ne (tgt := 71) dX7_nodes_64 (by decide) (fun c64 => ?_) (fun c64 => ?_)
            · first | exact absurd c64 (by decide) | exact absurd rfl c64
            · refine e_iload_n dX7_nodes_67 rfl rfl ?_
              refine e_goto (tgt := 73) dX7_nodes_68 (by decide) ?_
              refine e_istore_n dX7_nodes_73 rfl (Nat.le_of_ble_eq_true rfl) ?_
              refine e_iinc dX7_nodes_74 rfl rfl (Nat.le_of_ble_eq_true rfl) ?_
              refine e_goto (tgt := 6) dX7_nodes_77 (by decide) ?_
              have hy1 : y = (sNodT σ i).1 := congrArg Prod.fst hy
              have hy2 : z = (sNodT σ i).2 := congrArg Prod.snd hy
              have hz := sNodT_rng σ i
              rw [← hy2] at hz
              refine ev_loc (L' := [some (.ref c), some (.int _), some (.int _), some (.int _)]) ⟨rfl, rfl, rfl, rfl, trivial⟩ (ih (r - 1) (by omega) (i + 1) _ _ _ (by omega) (ar_inc hx (by omega)) ?_)
              show _ = (if sSgn σ i = 0 then sNodT σ i else ((sNodT σ i).1 + (if (sNodT σ i).2 = -sSgn σ i then 1 else 0), sSgn σ i))
              rw [hs, ← hy]
              clear hy hy1 hy2
              rcases hz with rfl | rfl | rfl <;> first | exact absurd c52 (by decide +kernel) | (simp; done) | rfl
        · have hs := sSgn_n (ar_dlt c37)
          refine e_iconst (v := (-1)) dX7_nodes_40 (by decide) ?_
          refine e_goto (tgt := 45) dX7_nodes_41 (by decide) ?_
          refine e_istore dX7_nodes_45 (Nat.le_of_ble_eq_true rfl) ?_
          refine e_iload_n dX7_nodes_47 rfl rfl ?_
          refine e_iload_n dX7_nodes_48 rfl rfl ?_
          refine e_iload dX7_nodes_49 rfl ?_
          refine e_imul dX7_nodes_51 ?_
          refine e_if_ge (tgt := 59) dX7_nodes_52 (by decide) (fun c52 => ?_) (fun c52 => ?_)
          · refine e_iconst (v := 0) dX7_nodes_59 (by decide) ?_
            refine e_iadd dX7_nodes_60 ?_
            refine e_istore_n dX7_nodes_61 rfl (Nat.le_of_ble_eq_true rfl) ?_
            refine e_iload dX7_nodes_62 rfl ?_
            refine e_if_ne (tgt := 71) dX7_nodes_64 (by decide) (fun c64 => ?_) (fun c64 => ?_)
            · refine e_iload dX7_nodes_71 rfl ?_
              refine e_istore_n dX7_nodes_73 rfl (Nat.le_of_ble_eq_true rfl) ?_
              refine e_iinc dX7_nodes_74 rfl rfl (Nat.le_of_ble_eq_true rfl) ?_
              refine e_goto (tgt := 6) dX7_nodes_77 (by decide) ?_
              have hy1 : y = (sNodT σ i).1 := congrArg Prod.fst hy
              have hy2 : z = (sNodT σ i).2 := congrArg Prod.snd hy
              have hz := sNodT_rng σ i
              rw [← hy2] at hz
              refine ev_loc (L' := [some (.ref c), some (.int _), some (.int _), some (.int _)]) ⟨rfl, rfl, rfl, rfl, trivial⟩ (ih (r - 1) (by omega) (i + 1) _ _ _ (by omega) (ar_inc hx (by omega)) ?_)
              show _ = (if sSgn σ i = 0 then sNodT σ i else ((sNodT σ i).1 + (if (sNodT σ i).2 = -sSgn σ i then 1 else 0), sSgn σ i))
              rw [hs, ← hy]
              clear hy hy1 hy2
              rcases hz with rfl | rfl | rfl <;> first | exact absurd c52 (by decide +kernel) | (simp; done) | rfl
            · first | exact absurd c64 (by decide) | exact absurd rfl c64
          · refine e_iconst (v := 1) dX7_nodes_55 (by decide) ?_
            refine e_goto (tgt := 60) dX7_nodes_56 (by decide) ?_
            refine e_iadd dX7_nodes_60 ?_
            refine e_istore_n dX7_nodes_61 rfl (Nat.le_of_ble_eq_true rfl) ?_
            refine e_iload dX7_nodes_62 rfl ?_
            refine e_if_ne (tgt := 71) dX7_nodes_64 (by decide) (fun c64 => ?_) (fun c64 => ?_)
            · refine e_iload dX7_nodes_71 rfl ?_
              refine e_istore_n dX7_nodes_73 rfl (Nat.le_of_ble_eq_true rfl) ?_
              refine e_iinc dX7_nodes_74 rfl rfl (Nat.le_of_ble_eq_true rfl) ?_
              refine e_goto (tgt := 6) dX7_nodes_77 (by decide) ?_
              have hy1 : y = (sNodT σ i).1 := congrArg Prod.fst hy
              have hy2 : z = (sNodT σ i).2 := congrArg Prod.snd hy
              have hz := sNodT_rng σ i
              rw [← hy2] at hz
              refine ev_loc (L' := [some (.ref c), some (.int _), some (.int _), some (.int _)]) ⟨rfl, rfl, rfl, rfl, trivial⟩ (ih (r - 1) (by omega) (i + 1) _ _ _ (by omega) (ar_inc hx (by omega)) ?_)
              show _ = (if sSgn σ i = 0 then sNodT σ i else ((sNodT σ i).1 + (if (sNodT σ i).2 = -sSgn σ i then 1 else 0), sSgn σ i))
              rw [hs, ← hy]
              clear hy hy1 hy2
              rcases hz with rfl | rfl | rfl <;> first | exact absurd c52 (by decide +kernel) | (simp; done) | rfl
            · first | exact absurd c64 (by decide) | exact absurd rfl c64
      · have hs := sSgn_p (ar_dgt c22)
        refine e_iconst (v := 1) dX7_nodes_25 (by decide) ?_
        refine e_goto (tgt := 45) dX7_nodes_26 (by decide) ?_
        refine e_istore dX7_nodes_45 (Nat.le_of_ble_eq_true rfl) ?_
        refine e_iload_n dX7_nodes_47 rfl rfl ?_
        refine e_iload_n dX7_nodes_48 rfl rfl ?_
        refine e_iload dX7_nodes_49 rfl ?_
        refine e_imul dX7_nodes_51 ?_
        refine e_if_ge (tgt := 59) dX7_nodes_52 (by decide) (fun c52 => ?_) (fun c52 => ?_)
        · refine e_iconst (v := 0) dX7_nodes_59 (by decide) ?_
          refine e_iadd dX7_nodes_60 ?_
          refine e_istore_n dX7_nodes_61 rfl (Nat.le_of_ble_eq_true rfl) ?_
          refine e_iload dX7_nodes_62 rfl ?_
          refine e_if_ne (tgt := 71) dX7_nodes_64 (by decide) (fun c64 => ?_) (fun c64 => ?_)
          · refine e_iload dX7_nodes_71 rfl ?_
            refine e_istore_n dX7_nodes_73 rfl (Nat.le_of_ble_eq_true rfl) ?_
            refine e_iinc dX7_nodes_74 rfl rfl (Nat.le_of_ble_eq_true rfl) ?_
            refine e_goto (tgt := 6) dX7_nodes_77 (by decide) ?_
            have hy1 : y = (sNodT σ i).1 := congrArg Prod.fst hy
            have hy2 : z = (sNodT σ i).2 := congrArg Prod.snd hy
            have hz := sNodT_rng σ i
            rw [← hy2] at hz
            refine ev_loc (L' := [some (.ref c), some (.int _), some (.int _), some (.int _)]) ⟨rfl, rfl, rfl, rfl, trivial⟩ (ih (r - 1) (by omega) (i + 1) _ _ _ (by omega) (ar_inc hx (by omega)) ?_)
            show _ = (if sSgn σ i = 0 then sNodT σ i else ((sNodT σ i).1 + (if (sNodT σ i).2 = -sSgn σ i then 1 else 0), sSgn σ i))
            rw [hs, ← hy]
            clear hy hy1 hy2
            rcases hz with rfl | rfl | rfl <;> first | exact absurd c52 (by decide +kernel) | (simp; done) | rfl
          · first | exact absurd c64 (by decide) | exact absurd rfl c64
        · refine e_iconst (v := 1) dX7_nodes_55 (by decide) ?_
          refine e_goto (tgt := 60) dX7_nodes_56 (by decide) ?_
          refine e_iadd dX7_nodes_60 ?_
          refine e_istore_n dX7_nodes_61 rfl (Nat.le_of_ble_eq_true rfl) ?_
          refine e_iload dX7_nodes_62 rfl ?_
          refine e_if_ne (tgt := 71) dX7_nodes_64 (by decide) (fun c64 => ?_) (fun c64 => ?_)
          · refine e_iload dX7_nodes_71 rfl ?_
            refine e_istore_n dX7_nodes_73 rfl (Nat.le_of_ble_eq_true rfl) ?_
            refine e_iinc dX7_nodes_74 rfl rfl (Nat.le_of_ble_eq_true rfl) ?_
            refine e_goto (tgt := 6) dX7_nodes_77 (by decide) ?_
            have hy1 : y = (sNodT σ i).1 := congrArg Prod.fst hy
            have hy2 : z = (sNodT σ i).2 := congrArg Prod.snd hy
            have hz := sNodT_rng σ i
            rw [← hy2] at hz
            refine ev_loc (L' := [some (.ref c), some (.int _), some (.int _), some (.int _)]) ⟨rfl, rfl, rfl, rfl, trivial⟩ (ih (r - 1) (by omega) (i + 1) _ _ _ (by omega) (ar_inc hx (by omega)) ?_)
            show _ = (if sSgn σ i = 0 then sNodT σ i else ((sNodT σ i).1 + (if (sNodT σ i).2 = -sSgn σ i then 1 else 0), sSgn σ i))
            rw [hs, ← hy]
            clear hy hy1 hy2
            rcases hz with rfl | rfl | rfl <;> first | exact absurd c52 (by decide +kernel) | (simp; done) | rfl
          · first | exact absurd c64 (by decide) | exact absurd rfl c64
set_option maxRecDepth 20000 in
theorem ct_X7_nodes (hR : RD σ (μ.2.1 0)) (hv : sInv σ) : ev_Ct G l mX7_nodes 2 0 0 [.ref c] (mo G c μ h) (fun v a => v = some (.int (sNod σ)) ∧ a = mo G c μ h) (fun _ _ => False) := by
  refine ev_Ct.of (by decide +kernel) (Nat.le_of_ble_eq_true rfl) ?_
  have hmn := hv.1.nat
  have hmu : (σ.1 0).toInt = sM σ := rfl
  have z0 := ar_0
  have z1 := ar_1
  have zL : (0 : Int64).toInt = 0 := by decide +kernel
  have zc : (0 : Int32).toInt64 = 0 := by decide +kernel
  refine e_iconst (v := 0) dX7_nodes_0 (by decide) ?_
  refine e_istore_n dX7_nodes_1 rfl (Nat.le_of_ble_eq_true rfl) ?_
  refine e_iconst (v := 0) dX7_nodes_2 (by decide) ?_
  refine e_istore_n dX7_nodes_3 rfl (Nat.le_of_ble_eq_true rfl) ?_
  refine e_iconst (v := 0) dX7_nodes_4 (by decide) ?_
  refine e_istore_n dX7_nodes_5 rfl (Nat.le_of_ble_eq_true rfl) ?_
  refine ev_loc (L' := [some (.ref c), some (.int 0), some (.int 0), some (.int 0)]) ⟨rfl, rfl, rfl, rfl, trivial⟩ ?_
  refine lp_mnod (Nat.le_refl _) hR hv (fun y z hy => ?_) (sNm σ) 0 _ _ _ (by omega) ar_0 rfl
  have hy1 : y = sNod σ := congrArg Prod.fst hy
  subst hy1
  exact e_iload_n dX7_nodes_80 rfl rfl (e_iret rfl dX7_nodes_81 ⟨rfl, rfl⟩)
set_option maxRecDepth 20000 in
theorem lp_mbrk {J : ev_K} {k n : Nat} (hJ : 3 ≤ J.2.2.1) (hR : RD σ (μ.2.1 0)) (hv : sInv σ) (hk : ∀ y : Int32, y = acc32 0 (sBrk σ) (sNm σ + 1) → ev_V G l mX7_brokenSprings J 34 [none, some (.int y)] [] (mo G c μ h) k n) : ∀ (r i : Nat) (x : Int32) (y : Int32), r + i = sNm σ + 1 → x.toInt = (i : Int) → y = acc32 0 (sBrk σ) i → ev_V G l mX7_brokenSprings J 4 [some (.ref c), some (.int y), some (.int x)] [] (mo G c μ h) k n := by
  intro r
  induction r using Nat.strongRecOn with
  | ind r ih =>
    intro i x y
    intro hr hx hy
    have hn : x.toInt.toNat = i := ar_nat hx
    have hmn := hv.1.nat
    have hmu : (σ.1 0).toInt = sM σ := rfl
    have z0 := ar_0
    have z1 := ar_1
    have zL : (0 : Int64).toInt = 0 := by decide +kernel
    have zc : (0 : Int32).toInt64 = 0 := by decide +kernel
    refine e_iload_n dX7_brokenSprings_4 rfl rfl ?_
    refine e_aload_n dX7_brokenSprings_5 rfl rfl ?_
    refine e_invV (mcY := 0) (msY := 0) (ct_X7_masses hR) vX7_masses wM_X7_199 (mo_at G c _ h 0 (by decide)) rfl dX7_brokenSprings_6 rfl rfl (Nat.le_of_ble_eq_true rfl) (Nat.le_trans (Nat.le_of_ble_eq_true rfl) hJ) ?_
    rintro _ _ ⟨rfl, rfl⟩
    refine e_icmp_gt (tgt := 34) dX7_brokenSprings_9 (by decide) (fun c9 => ?_) (fun c9 => ?_)
    · obtain rfl : i = sNm σ + 1 := by omega
      exact ev_lc (hk y hy) ⟨rfl, trivial⟩
    · refine e_iload_n dX7_brokenSprings_12 rfl rfl ?_
      refine e_aload_n dX7_brokenSprings_13 rfl rfl ?_
      refine e_iload_n dX7_brokenSprings_14 rfl rfl ?_
      refine e_invV (mcY := 0) (msY := 0) (ct_X7_isWhole hR hv hx (by omega)) vX7_isWhole wM_X7_212 (mo_at G c _ h 0 (by decide)) rfl dX7_brokenSprings_15 rfl rfl (Nat.le_of_ble_eq_true rfl) (Nat.le_trans (Nat.le_of_ble_eq_true rfl) hJ) ?_
      rintro _ _ hc
      rcases hc with ⟨hw, rfl, rfl⟩ | ⟨hw, rfl, rfl⟩
      · refine e_if_eq (tgt := 25) dX7_brokenSprings_18 (by decide) (fun c18 => ?_) (fun c18 => ?_)
        · first | exact absurd c18 (by decide) | exact absurd rfl c18
        · refine e_iconst (v := 0) dX7_brokenSprings_21 (by decide) ?_
          refine e_goto (tgt := 26) dX7_brokenSprings_22 (by decide) ?_
          refine e_iadd dX7_brokenSprings_26 ?_
          refine e_istore_n dX7_brokenSprings_27 rfl (Nat.le_of_ble_eq_true rfl) ?_
          refine e_iinc dX7_brokenSprings_28 rfl rfl (Nat.le_of_ble_eq_true rfl) ?_
          refine e_goto (tgt := 4) dX7_brokenSprings_31 (by decide) ?_
          refine ih (r - 1) (by omega) (i + 1) _ _ (by omega) (ar_inc hx (by omega)) ?_
          rw [hy]
          show _ = acc32 0 (sBrk σ) i + sBrk σ i
          congr 1
          unfold sBrk
          first | (rw [if_pos hw]; done) | (rw [if_neg hw]; done)
      · refine e_if_eq (tgt := 25) dX7_brokenSprings_18 (by decide) (fun c18 => ?_) (fun c18 => ?_)
        · refine e_iconst (v := 1) dX7_brokenSprings_25 (by decide) ?_
          refine e_iadd dX7_brokenSprings_26 ?_
          refine e_istore_n dX7_brokenSprings_27 rfl (Nat.le_of_ble_eq_true rfl) ?_
          refine e_iinc dX7_brokenSprings_28 rfl rfl (Nat.le_of_ble_eq_true rfl) ?_
          refine e_goto (tgt := 4) dX7_brokenSprings_31 (by decide) ?_
          refine ih (r - 1) (by omega) (i + 1) _ _ (by omega) (ar_inc hx (by omega)) ?_
          rw [hy]
          show _ = acc32 0 (sBrk σ) i + sBrk σ i
          congr 1
          unfold sBrk
          first | (rw [if_pos hw]; done) | (rw [if_neg hw]; done)
        · first | exact absurd c18 (by decide) | exact absurd rfl c18
set_option maxRecDepth 20000 in
theorem ct_X7_brokenSprings (hR : RD σ (μ.2.1 0)) (hv : sInv σ) : ev_Ct G l mX7_brokenSprings 3 0 0 [.ref c] (mo G c μ h) (fun v a => v = some (.int (acc32 0 (sBrk σ) (sNm σ + 1))) ∧ a = mo G c μ h) (fun _ _ => False) := by
  refine ev_Ct.of (by decide +kernel) (Nat.le_of_ble_eq_true rfl) ?_
  have hmn := hv.1.nat
  have hmu : (σ.1 0).toInt = sM σ := rfl
  have z0 := ar_0
  have z1 := ar_1
  have zL : (0 : Int64).toInt = 0 := by decide +kernel
  have zc : (0 : Int32).toInt64 = 0 := by decide +kernel
  refine e_iconst (v := 0) dX7_brokenSprings_0 (by decide) ?_
  refine e_istore_n dX7_brokenSprings_1 rfl (Nat.le_of_ble_eq_true rfl) ?_
  refine e_iconst (v := 0) dX7_brokenSprings_2 (by decide) ?_
  refine e_istore_n dX7_brokenSprings_3 rfl (Nat.le_of_ble_eq_true rfl) ?_
  refine ev_loc (L' := [some (.ref c), some (.int 0), some (.int 0)]) ⟨rfl, rfl, rfl, trivial⟩ ?_
  refine lp_mbrk (Nat.le_refl _) hR hv (fun y hy => ?_) (sNm σ + 1 - 0) 0 _ _ (by omega) ar_0 rfl
  subst hy
  exact e_iload_n dX7_brokenSprings_34 rfl rfl (e_iret rfl dX7_brokenSprings_35 ⟨rfl, rfl⟩)
set_option maxRecDepth 20000 in
theorem lp_mstl {J : ev_K} {k n : Nat} (hJ : 2 ≤ J.2.2.1) (hR : RD σ (μ.2.1 0)) (hv : sInv σ) (hk : ∀ y : Int32, y = acc32 0 (sRest σ) (sNm σ) → ev_V G l mX7_still J 37 [none, some (.int y)] [] (mo G c μ h) k n) : ∀ (r i : Nat) (x : Int32) (y : Int32), r + i = sNm σ → x.toInt = (i : Int) → y = acc32 0 (sRest σ) i → ev_V G l mX7_still J 4 [some (.ref c), some (.int y), some (.int x)] [] (mo G c μ h) k n := by
  intro r
  induction r using Nat.strongRecOn with
  | ind r ih =>
    intro i x y
    intro hr hx hy
    have hn : x.toInt.toNat = i := ar_nat hx
    have hmn := hv.1.nat
    have hmu : (σ.1 0).toInt = sM σ := rfl
    have z0 := ar_0
    have z1 := ar_1
    have zL : (0 : Int64).toInt = 0 := by decide +kernel
    have zc : (0 : Int32).toInt64 = 0 := by decide +kernel
    refine e_iload_n dX7_still_4 rfl rfl ?_
    refine e_aload_n dX7_still_5 rfl rfl ?_
    refine e_invV (mcY := 0) (msY := 0) (ct_X7_masses hR) vX7_masses wM_X7_199 (mo_at G c _ h 0 (by decide)) rfl dX7_still_6 rfl rfl (Nat.le_of_ble_eq_true rfl) (Nat.le_trans (Nat.le_of_ble_eq_true rfl) hJ) ?_
    rintro _ _ ⟨rfl, rfl⟩
    refine e_icmp_ge (tgt := 37) dX7_still_9 (by decide) (fun c9 => ?_) (fun c9 => ?_)
    · obtain rfl : i = sNm σ := by omega
      exact ev_lc (hk y hy) ⟨rfl, trivial⟩
    · refine e_iload_n dX7_still_12 rfl rfl ?_
      refine e_aload_n dX7_still_13 rfl rfl ?_
      refine e_iload_n dX7_still_14 rfl rfl ?_
      refine e_iconst (v := 2) dX7_still_15 (by decide) ?_
      refine e_invV (mcY := 0) (msY := 0) (ct_of (j := i) (w := 2) hR hv hx (by decide +kernel) (by omega) (by decide)) vX7_of wM_X7_201 (mo_at G c _ h 0 (by decide)) rfl dX7_still_16 rfl rfl (Nat.le_of_ble_eq_true rfl) (Nat.le_trans (Nat.le_of_ble_eq_true rfl) hJ) ?_
      rintro _ _ ⟨rfl, rfl⟩
      refine e_lconst (v := 0) dX7_still_19 (by decide) ?_
      refine e_lcmp dX7_still_20 ?_
      refine e_if_ne (tgt := 28) dX7_still_21 (by decide) (fun c21 => ?_) (fun c21 => ?_)
      · have e21 : ¬ σ.2.2 2 i = 0 := fun q => ar_dl0 c21 (by rw [q]; exact ar_0)
        refine e_iconst (v := 0) dX7_still_28 (by decide) ?_
        refine e_iadd dX7_still_29 ?_
        refine e_istore_n dX7_still_30 rfl (Nat.le_of_ble_eq_true rfl) ?_
        refine e_iinc dX7_still_31 rfl rfl (Nat.le_of_ble_eq_true rfl) ?_
        refine e_goto (tgt := 4) dX7_still_34 (by decide) ?_
        refine ih (r - 1) (by omega) (i + 1) _ _ (by omega) (ar_inc hx (by omega)) ?_
        rw [hy]
        show _ = acc32 0 (sRest σ) i + sRest σ i
        congr 1
        unfold sRest
        first | (rw [if_pos e21]; done) | (rw [if_neg e21]; done)
      · have e21 : σ.2.2 2 i = 0 := ar_eq ((ar_de0 c21).trans ar_0.symm)
        refine e_iconst (v := 1) dX7_still_24 (by decide) ?_
        refine e_goto (tgt := 29) dX7_still_25 (by decide) ?_
        refine e_iadd dX7_still_29 ?_
        refine e_istore_n dX7_still_30 rfl (Nat.le_of_ble_eq_true rfl) ?_
        refine e_iinc dX7_still_31 rfl rfl (Nat.le_of_ble_eq_true rfl) ?_
        refine e_goto (tgt := 4) dX7_still_34 (by decide) ?_
        refine ih (r - 1) (by omega) (i + 1) _ _ (by omega) (ar_inc hx (by omega)) ?_
        rw [hy]
        show _ = acc32 0 (sRest σ) i + sRest σ i
        congr 1
        unfold sRest
        first | (rw [if_pos e21]; done) | (rw [if_neg e21]; done)
set_option maxRecDepth 20000 in
theorem ct_X7_still (hR : RD σ (μ.2.1 0)) (hv : sInv σ) : ev_Ct G l mX7_still 2 0 0 [.ref c] (mo G c μ h) (fun v a => v = some (.int (acc32 0 (sRest σ) (sNm σ))) ∧ a = mo G c μ h) (fun _ _ => False) := by
  refine ev_Ct.of (by decide +kernel) (Nat.le_of_ble_eq_true rfl) ?_
  have hmn := hv.1.nat
  have hmu : (σ.1 0).toInt = sM σ := rfl
  have z0 := ar_0
  have z1 := ar_1
  have zL : (0 : Int64).toInt = 0 := by decide +kernel
  have zc : (0 : Int32).toInt64 = 0 := by decide +kernel
  refine e_iconst (v := 0) dX7_still_0 (by decide) ?_
  refine e_istore_n dX7_still_1 rfl (Nat.le_of_ble_eq_true rfl) ?_
  refine e_iconst (v := 0) dX7_still_2 (by decide) ?_
  refine e_istore_n dX7_still_3 rfl (Nat.le_of_ble_eq_true rfl) ?_
  refine ev_loc (L' := [some (.ref c), some (.int 0), some (.int 0)]) ⟨rfl, rfl, rfl, trivial⟩ ?_
  refine lp_mstl (Nat.le_refl _) hR hv (fun y hy => ?_) (sNm σ - 0) 0 _ _ (by omega) ar_0 rfl
  subst hy
  exact e_iload_n dX7_still_37 rfl rfl (e_iret rfl dX7_still_38 ⟨rfl, rfl⟩)
set_option maxRecDepth 20000 in
theorem lp_mpcs {J : ev_K} {k n : Nat} (hJ : 3 ≤ J.2.2.1) (hR : RD σ (μ.2.1 0)) (hv : sInv σ) (hb : RBs σ) (hk : ∀ y : Int32, y = acc32 0 (sPcs σ) (sNm σ) → ev_V G l mX7_pieces J 50 [none, some (.int y)] [] (mo G c μ h) k n) : ∀ (r i : Nat) (x : Int32) (y : Int32), r + i = sNm σ → x.toInt = (i : Int) → y = acc32 0 (sPcs σ) i → 1 ≤ i → ev_V G l mX7_pieces J 9 [some (.ref c), some (.int y), some (.int x)] [] (mo G c μ h) k n := by
  intro r
  induction r using Nat.strongRecOn with
  | ind r ih =>
    intro i x y
    intro hr hx hy hi1
    have hn : x.toInt.toNat = i := ar_nat hx
    have hmn := hv.1.nat
    have hmu : (σ.1 0).toInt = sM σ := rfl
    have z0 := ar_0
    have z1 := ar_1
    have zL : (0 : Int64).toInt = 0 := by decide +kernel
    have zc : (0 : Int32).toInt64 = 0 := by decide +kernel
    refine e_iload_n dX7_pieces_9 rfl rfl ?_
    refine e_aload_n dX7_pieces_10 rfl rfl ?_
    refine e_invV (mcY := 0) (msY := 0) (ct_X7_masses hR) vX7_masses wM_X7_199 (mo_at G c _ h 0 (by decide)) rfl dX7_pieces_11 rfl rfl (Nat.le_of_ble_eq_true rfl) (Nat.le_trans (Nat.le_of_ble_eq_true rfl) hJ) ?_
    rintro _ _ ⟨rfl, rfl⟩
    refine e_icmp_ge (tgt := 50) dX7_pieces_14 (by decide) (fun c14 => ?_) (fun c14 => ?_)
    · obtain rfl : i = sNm σ := by omega
      exact ev_lc (hk y hy) ⟨rfl, trivial⟩
    · refine e_iload_n dX7_pieces_17 rfl rfl ?_
      refine e_aload_n dX7_pieces_18 rfl rfl ?_
      refine e_iload_n dX7_pieces_19 rfl rfl ?_
      refine e_invV (mcY := 0) (msY := 0) (ct_X7_isWhole hR hv hx (by omega)) vX7_isWhole wM_X7_212 (mo_at G c _ h 0 (by decide)) rfl dX7_pieces_20 rfl rfl (Nat.le_of_ble_eq_true rfl) (Nat.le_trans (Nat.le_of_ble_eq_true rfl) hJ) ?_
      rintro _ _ hc
      rcases hc with ⟨hw, rfl, rfl⟩ | ⟨hw, rfl, rfl⟩
      · refine e_if_eq (tgt := 41) dX7_pieces_23 (by decide) (fun c23 => ?_) (fun c23 => ?_)
        · first | exact absurd c23 (by decide) | exact absurd rfl c23
        · refine e_aload_n dX7_pieces_26 rfl rfl ?_
          refine e_iload_n dX7_pieces_27 rfl rfl ?_
          refine e_iconst (v := 0) dX7_pieces_28 (by decide) ?_
          refine e_invV (mcY := 0) (msY := 0) (ct_oS (j := i) (w := 0) hR hv hx ar_0 (by omega) (by decide)) vX7_ofSpring wM_X7_209 (mo_at G c _ h 0 (by decide)) rfl dX7_pieces_29 rfl rfl (Nat.le_of_ble_eq_true rfl) (Nat.le_trans (Nat.le_of_ble_eq_true rfl) hJ) ?_
          rintro _ _ ⟨rfl, rfl⟩
          refine e_lconst (v := 0) dX7_pieces_32 (by decide) ?_
          refine e_lcmp dX7_pieces_33 ?_
          refine e_if_le (tgt := 41) dX7_pieces_34 (by decide) (fun c34 => ?_) (fun c34 => ?_)
          · have e34 : ¬ (σ.2.2 5 i = 0 ∧ σ.2.2 3 i ≠ 0) := fun q => q.2 (ar_eq (by have q1 : (σ.2.2 3 i).toInt ≤ 0 := ar_dle c34; have := (hb.2.2.2 i (by omega)).1; omega))
            refine e_iconst (v := 1) dX7_pieces_41 (by decide) ?_
            refine e_iadd dX7_pieces_42 ?_
            refine e_istore_n dX7_pieces_43 rfl (Nat.le_of_ble_eq_true rfl) ?_
            refine e_iinc dX7_pieces_44 rfl rfl (Nat.le_of_ble_eq_true rfl) ?_
            refine e_goto (tgt := 9) dX7_pieces_47 (by decide) ?_
            refine ih (r - 1) (by omega) (i + 1) _ _ (by omega) (ar_inc hx (by omega)) ?_ (by omega)
            rw [hy]
            show _ = acc32 0 (sPcs σ) i + sPcs σ i
            congr 1
            unfold sPcs
            rw [if_neg (by omega)]
            first | (rw [if_pos e34]; done) | (rw [if_neg e34]; done) | (rw [if_neg (fun q => hw q.1)]; done)
          · have e34 : σ.2.2 5 i = 0 ∧ σ.2.2 3 i ≠ 0 := ⟨hw, fun q => by have := ar_dgt c34; rw [show σ.2.2 (3 + 0) i = σ.2.2 3 i from rfl, q] at this; omega⟩
            refine e_iconst (v := 0) dX7_pieces_37 (by decide) ?_
            refine e_goto (tgt := 42) dX7_pieces_38 (by decide) ?_
            refine e_iadd dX7_pieces_42 ?_
            refine e_istore_n dX7_pieces_43 rfl (Nat.le_of_ble_eq_true rfl) ?_
            refine e_iinc dX7_pieces_44 rfl rfl (Nat.le_of_ble_eq_true rfl) ?_
            refine e_goto (tgt := 9) dX7_pieces_47 (by decide) ?_
            refine ih (r - 1) (by omega) (i + 1) _ _ (by omega) (ar_inc hx (by omega)) ?_ (by omega)
            rw [hy]
            show _ = acc32 0 (sPcs σ) i + sPcs σ i
            congr 1
            unfold sPcs
            rw [if_neg (by omega)]
            first | (rw [if_pos e34]; done) | (rw [if_neg e34]; done) | (rw [if_neg (fun q => hw q.1)]; done)
      · refine e_if_eq (tgt := 41) dX7_pieces_23 (by decide) (fun c23 => ?_) (fun c23 => ?_)
        · refine e_iconst (v := 1) dX7_pieces_41 (by decide) ?_
          refine e_iadd dX7_pieces_42 ?_
          refine e_istore_n dX7_pieces_43 rfl (Nat.le_of_ble_eq_true rfl) ?_
          refine e_iinc dX7_pieces_44 rfl rfl (Nat.le_of_ble_eq_true rfl) ?_
          refine e_goto (tgt := 9) dX7_pieces_47 (by decide) ?_
          refine ih (r - 1) (by omega) (i + 1) _ _ (by omega) (ar_inc hx (by omega)) ?_ (by omega)
          rw [hy]
          show _ = acc32 0 (sPcs σ) i + sPcs σ i
          congr 1
          unfold sPcs
          rw [if_neg (by omega)]
          first | (rw [if_pos e34]; done) | (rw [if_neg e34]; done) | (rw [if_neg (fun q => hw q.1)]; done)
        · first | exact absurd c23 (by decide) | exact absurd rfl c23
set_option maxRecDepth 20000 in
theorem ct_X7_pieces (hR : RD σ (μ.2.1 0)) (hv : sInv σ) (hb : RBs σ) : ev_Ct G l mX7_pieces 3 0 0 [.ref c] (mo G c μ h) (fun v a => v = some (.int (acc32 0 (sPcs σ) (sNm σ))) ∧ a = mo G c (ms_I μ 0 0) h) (fun _ _ => False) := by
  refine ev_Ct.of (by decide +kernel) (Nat.le_of_ble_eq_true rfl) ?_
  have hmn := hv.1.nat
  have hmu : (σ.1 0).toInt = sM σ := rfl
  have z0 := ar_0
  have z1 := ar_1
  have zL : (0 : Int64).toInt = 0 := by decide +kernel
  have zc : (0 : Int32).toInt64 = 0 := by decide +kernel
  refine e_aload_n dX7_pieces_0 rfl rfl ?_
  refine e_iconst (v := 0) dX7_pieces_1 (by decide) ?_
  refine mo_p0 wF_X7_39 dX7_pieces_2 ?_
  refine e_iconst (v := 1) dX7_pieces_5 (by decide) ?_
  refine e_istore_n dX7_pieces_6 rfl (Nat.le_of_ble_eq_true rfl) ?_
  refine e_iconst (v := 1) dX7_pieces_7 (by decide) ?_
  refine e_istore_n dX7_pieces_8 rfl (Nat.le_of_ble_eq_true rfl) ?_
  refine ev_loc (L' := [some (.ref c), some (.int 1), some (.int 1)]) ⟨rfl, rfl, rfl, trivial⟩ ?_
  refine lp_mpcs (μ := ms_I μ 0 0) (Nat.le_refl _) hR hv hb (fun y hy => ?_) (sNm σ - 1) 1 _ _ (by omega) ar_1 (by simp [acc32, sPcs]) (Nat.le_refl _)
  subst hy
  exact e_iload_n dX7_pieces_50 rfl rfl (e_iret rfl dX7_pieces_51 ⟨rfl, rfl⟩)
set_option maxRecDepth 20000 in
theorem lp_mfar {J : ev_K} {k n : Nat} (hJ : 2 ≤ J.2.2.1) (hR : RD σ (μ.2.1 0)) (hv : sInv σ) (hb : RBs σ) (hk : ∀ y : Int32, y.toInt = (sFarT σ (sNm σ) : Int) → ev_V G l mX7_farthest J 42 [none, some (.int y)] [] (mo G c μ h) k n) : ∀ (r i : Nat) (x : Int32) (y : Int32), r + i = sNm σ → x.toInt = (i : Int) → y.toInt = (sFarT σ i : Int) → 1 ≤ i → ev_V G l mX7_farthest J 4 [some (.ref c), some (.int y), some (.int x)] [] (mo G c μ h) k n := by
  intro r
  induction r using Nat.strongRecOn with
  | ind r ih =>
    intro i x y
    intro hr hx hy hi1
    have hn : x.toInt.toNat = i := ar_nat hx
    have hmn := hv.1.nat
    have hmu : (σ.1 0).toInt = sM σ := rfl
    have z0 := ar_0
    have z1 := ar_1
    have zL : (0 : Int64).toInt = 0 := by decide +kernel
    have zc : (0 : Int32).toInt64 = 0 := by decide +kernel
    have hf := sFarT_le σ i
    have b1 : i < sNm σ → _ := fun q => (hb.2.2.1 i q).1
    have b2 := (hb.2.2.1 (sFarT σ i) (by omega)).1
    refine e_iload_n dX7_farthest_4 rfl rfl ?_
    refine e_aload_n dX7_farthest_5 rfl rfl ?_
    refine e_invV (mcY := 0) (msY := 0) (ct_X7_masses hR) vX7_masses wM_X7_199 (mo_at G c _ h 0 (by decide)) rfl dX7_farthest_6 rfl rfl (Nat.le_of_ble_eq_true rfl) (Nat.le_trans (Nat.le_of_ble_eq_true rfl) hJ) ?_
    rintro _ _ ⟨rfl, rfl⟩
    refine e_icmp_ge (tgt := 42) dX7_farthest_9 (by decide) (fun c9 => ?_) (fun c9 => ?_)
    · obtain rfl : i = sNm σ := by omega
      exact ev_lc (hk y hy) ⟨rfl, trivial⟩
    · refine e_aload_n dX7_farthest_12 rfl rfl ?_
      refine e_iload_n dX7_farthest_13 rfl rfl ?_
      refine e_iconst (v := 1) dX7_farthest_14 (by decide) ?_
      refine e_invV (mcY := 0) (msY := 0) (ct_of (j := i) (w := 1) hR hv hx ar_1 (by omega) (by decide)) vX7_of wM_X7_201 (mo_at G c _ h 0 (by decide)) rfl dX7_farthest_15 rfl rfl (Nat.le_of_ble_eq_true rfl) (Nat.le_trans (Nat.le_of_ble_eq_true rfl) hJ) ?_
      rintro _ _ ⟨rfl, rfl⟩
      refine e_mabsL wM_X7_241 (Nat.le_of_ble_eq_true rfl) (Nat.le_trans (Nat.le_of_ble_eq_true rfl) hJ) dX7_farthest_18 ?_
      refine e_aload_n dX7_farthest_21 rfl rfl ?_
      refine e_iload_n dX7_farthest_22 rfl rfl ?_
      refine e_iconst (v := 1) dX7_farthest_23 (by decide) ?_
      refine e_invV (mcY := 0) (msY := 0) (ct_of (j := sFarT σ i) (w := 1) hR hv hy ar_1 (by omega) (by decide)) vX7_of wM_X7_201 (mo_at G c _ h 0 (by decide)) rfl dX7_farthest_24 rfl rfl (Nat.le_of_ble_eq_true rfl) (Nat.le_trans (Nat.le_of_ble_eq_true rfl) hJ) ?_
      rintro _ _ ⟨rfl, rfl⟩
      refine e_mabsL wM_X7_241 (Nat.le_of_ble_eq_true rfl) (Nat.le_trans (Nat.le_of_ble_eq_true rfl) hJ) dX7_farthest_27 ?_
      refine e_lcmp dX7_farthest_30 ?_
      refine e_if_le (tgt := 36) dX7_farthest_31 (by decide) (fun c31 => ?_) (fun c31 => ?_)
      · have e31 : ¬ (sAbs (σ.2.2 1 (sFarT σ i))).toInt < (sAbs (σ.2.2 1 i)).toInt := fun q => by have b3 := b1 (by omega); have := ar_lc_le c31; rw [ar_labs (by omega), ar_labs (by omega)] at this; omega
        refine e_iinc dX7_farthest_36 rfl rfl (Nat.le_of_ble_eq_true rfl) ?_
        refine e_goto (tgt := 4) dX7_farthest_39 (by decide) ?_
        refine ev_loc (L' := [some (.ref c), some (.int _), some (.int _)]) ⟨rfl, rfl, rfl, trivial⟩ (ih (r - 1) (by omega) (i + 1) _ _ (by omega) (ar_inc hx (by omega)) ?_ (by omega))
        show _ = (((if (sAbs (σ.2.2 1 (sFarT σ i))).toInt < (sAbs (σ.2.2 1 i)).toInt then i else sFarT σ i : Nat)) : Int)
        first
          | (rw [if_pos e31]; exact hx)
          | (rw [if_neg e31]; exact hy)
      · have e31 : (sAbs (σ.2.2 1 (sFarT σ i))).toInt < (sAbs (σ.2.2 1 i)).toInt := by have b3 := b1 (by omega); have := ar_lc_gt c31; rw [ar_labs (by omega), ar_labs (by omega)] at this; omega
        refine e_iload_n dX7_farthest_34 rfl rfl ?_
        refine e_istore_n dX7_farthest_35 rfl (Nat.le_of_ble_eq_true rfl) ?_
        refine e_iinc dX7_farthest_36 rfl rfl (Nat.le_of_ble_eq_true rfl) ?_
        refine e_goto (tgt := 4) dX7_farthest_39 (by decide) ?_
        refine ev_loc (L' := [some (.ref c), some (.int _), some (.int _)]) ⟨rfl, rfl, rfl, trivial⟩ (ih (r - 1) (by omega) (i + 1) _ _ (by omega) (ar_inc hx (by omega)) ?_ (by omega))
        show _ = (((if (sAbs (σ.2.2 1 (sFarT σ i))).toInt < (sAbs (σ.2.2 1 i)).toInt then i else sFarT σ i : Nat)) : Int)
        first
          | (rw [if_pos e31]; exact hx)
          | (rw [if_neg e31]; exact hy)
set_option maxRecDepth 20000 in
theorem ct_X7_farthest (hR : RD σ (μ.2.1 0)) (hv : sInv σ) (hb : RBs σ) : ev_Ct G l mX7_farthest 2 0 0 [.ref c] (mo G c μ h) (fun v a => v = some (.int (sFar σ)) ∧ a = mo G c μ h) (fun _ _ => False) := by
  refine ev_Ct.of (by decide +kernel) (Nat.le_of_ble_eq_true rfl) ?_
  have hmn := hv.1.nat
  have hmu : (σ.1 0).toInt = sM σ := rfl
  have z0 := ar_0
  have z1 := ar_1
  have zL : (0 : Int64).toInt = 0 := by decide +kernel
  have zc : (0 : Int32).toInt64 = 0 := by decide +kernel
  refine e_iconst (v := 0) dX7_farthest_0 (by decide) ?_
  refine e_istore_n dX7_farthest_1 rfl (Nat.le_of_ble_eq_true rfl) ?_
  refine e_iconst (v := 1) dX7_farthest_2 (by decide) ?_
  refine e_istore_n dX7_farthest_3 rfl (Nat.le_of_ble_eq_true rfl) ?_
  refine ev_loc (L' := [some (.ref c), some (.int 0), some (.int 1)]) ⟨rfl, rfl, rfl, trivial⟩ ?_
  refine lp_mfar (Nat.le_refl _) hR hv hb (fun y hy => ?_) (sNm σ - 1) 1 _ _ (by omega) ar_1 (by unfold sFarT sFarT; split <;> exact ar_0) (Nat.le_refl _)
  have hy2 := sFar_of hv.1 hy
  subst hy2
  exact e_iload_n dX7_farthest_42 rfl rfl (e_iret rfl dX7_farthest_43 ⟨rfl, rfl⟩)
set_option maxRecDepth 20000 in
theorem ct_X7_told (hR : RD σ (μ.2.1 0)) (hv : sInv σ) (hb : RBs σ) (x0 : 0 ≤ x.toInt) (x1 : x.toInt ≤ 11) : ev_Ct G l mX7_told 4 0 0 [.ref c, .int x] (mo G c μ h) (fun v a => v = some (.int (sTell σ x.toInt.toNat)) ∧ a = mo G c μ h) (fun _ _ => False) := by
  refine ev_Ct.of (by decide +kernel) (Nat.le_of_ble_eq_true rfl) ?_
  have hmn := hv.1.nat
  have hmu : (σ.1 0).toInt = sM σ := rfl
  have z0 := ar_0
  have z1 := ar_1
  have zL : (0 : Int64).toInt = 0 := by decide +kernel
  have zc : (0 : Int32).toInt64 = 0 := by decide +kernel
  have w2 : (2 : Int32).toInt = 2 := by decide +kernel
  have w3 : (3 : Int32).toInt = 3 := by decide +kernel
  have w4 : (4 : Int32).toInt = 4 := by decide +kernel
  have w5 : (5 : Int32).toInt = 5 := by decide +kernel
  have w6 : (6 : Int32).toInt = 6 := by decide +kernel
  refine e_iload_n dX7_told_0 rfl rfl ?_
  rcases (show x.toInt = 0 ∨ x.toInt = 1 ∨ x.toInt = 2 ∨ x.toInt = 3 ∨ x.toInt = 4 ∨ x.toInt = 5 ∨ x.toInt = 6 ∨ x.toInt = 7 ∨ x.toInt = 8 ∨ x.toInt = 9 ∨ x.toInt = 10 ∨ x.toInt = 11 by omega) with hsw | hsw | hsw | hsw | hsw | hsw | hsw | hsw | hsw | hsw | hsw | hsw
  · refine e_tableIn (off := 59) (tgt := 60) dX7_told_1 (by omega) (by omega) (by rw [hsw]; rfl) (by decide) ?_
    refine e_aload_n dX7_told_60 rfl rfl ?_
    refine mo_g8 wF_X7_17 dX7_told_61 ?_
    refine e_iconst (v := 0) dX7_told_64 (by decide) ?_
    refine mo_l2 (by omega) (by omega) dX7_told_65 ?_
    refine e_l2i dX7_told_66 ?_
    exact e_iret rfl dX7_told_67 (⟨by rw [hsw]; show some (Value.int (μ.2.1 0 0).toInt32) = some (Value.int (σ.1 1)); rw [hR.1.1, ar_6432], rfl⟩)
  · refine e_tableIn (off := 67) (tgt := 68) dX7_told_1 (by omega) (by omega) (by rw [hsw]; rfl) (by decide) ?_
    refine e_aload_n dX7_told_68 rfl rfl ?_
    refine e_invV (mcY := 0) (msY := 0) (ct_X7_masses hR) vX7_masses wM_X7_199 (mo_at G c _ h 0 (by decide)) rfl dX7_told_69 rfl rfl (Nat.le_of_ble_eq_true rfl) (Nat.le_of_ble_eq_true rfl) ?_
    rintro _ _ ⟨rfl, rfl⟩
    exact e_iret rfl dX7_told_72 (⟨by rw [hsw]; rfl, rfl⟩)
  · refine e_tableIn (off := 72) (tgt := 73) dX7_told_1 (by omega) (by omega) (by rw [hsw]; rfl) (by decide) ?_
    refine e_aload_n dX7_told_73 rfl rfl ?_
    refine e_invV (mcY := 0) (msY := 0) (ct_X7_brokenSprings hR hv) vX7_brokenSprings wM_X7_250 (mo_at G c _ h 0 (by decide)) rfl dX7_told_74 rfl rfl (Nat.le_of_ble_eq_true rfl) (Nat.le_of_ble_eq_true rfl) ?_
    rintro _ _ ⟨rfl, rfl⟩
    exact e_iret rfl dX7_told_77 (⟨by rw [hsw]; rfl, rfl⟩)
  · refine e_tableIn (off := 77) (tgt := 78) dX7_told_1 (by omega) (by omega) (by rw [hsw]; rfl) (by decide) ?_
    refine e_aload_n dX7_told_78 rfl rfl ?_
    refine mo_g8 wF_X7_17 dX7_told_79 ?_
    refine e_iconst (v := 2) dX7_told_82 (by decide) ?_
    refine mo_l2 (by omega) (by omega) dX7_told_83 ?_
    refine e_l2i dX7_told_84 ?_
    exact e_iret rfl dX7_told_85 (⟨by rw [hsw]; show some (Value.int (μ.2.1 0 2).toInt32) = some (Value.int (σ.1 3)); rw [hR.1.2.2.1, ar_6432], rfl⟩)
  · refine e_tableIn (off := 85) (tgt := 86) dX7_told_1 (by omega) (by omega) (by rw [hsw]; rfl) (by decide) ?_
    refine e_aload_n dX7_told_86 rfl rfl ?_
    refine mo_g8 wF_X7_17 dX7_told_87 ?_
    refine e_iconst (v := 3) dX7_told_90 (by decide) ?_
    refine mo_l2 (by omega) (by omega) dX7_told_91 ?_
    refine e_l2i dX7_told_92 ?_
    exact e_iret rfl dX7_told_93 (⟨by rw [hsw]; show some (Value.int (μ.2.1 0 3).toInt32) = some (Value.int (σ.1 4)); rw [hR.1.2.2.2.1, ar_6432], rfl⟩)
  · refine e_tableIn (off := 93) (tgt := 94) dX7_told_1 (by omega) (by omega) (by rw [hsw]; rfl) (by decide) ?_
    refine e_aload_n dX7_told_94 rfl rfl ?_
    refine mo_g8 wF_X7_17 dX7_told_95 ?_
    refine e_iconst (v := 4) dX7_told_98 (by decide) ?_
    refine mo_l2 (by omega) (by omega) dX7_told_99 ?_
    refine e_l2i dX7_told_100 ?_
    exact e_iret rfl dX7_told_101 (⟨by rw [hsw]; show some (Value.int (μ.2.1 0 4).toInt32) = some (Value.int (σ.1 2)); rw [hR.1.2.2.2.2.1, ar_6432], rfl⟩)
  · refine e_tableIn (off := 101) (tgt := 102) dX7_told_1 (by omega) (by omega) (by rw [hsw]; rfl) (by decide) ?_
    refine e_aload_n dX7_told_102 rfl rfl ?_
    refine mo_g8 wF_X7_17 dX7_told_103 ?_
    refine e_iconst (v := 5) dX7_told_106 (by decide) ?_
    refine mo_l2 (by omega) (by omega) dX7_told_107 ?_
    refine e_l2i dX7_told_108 ?_
    exact e_iret rfl dX7_told_109 (⟨by rw [hsw]; show some (Value.int (μ.2.1 0 5).toInt32) = some (Value.int (σ.1 5)); rw [hR.1.2.2.2.2.2.1, ar_6432], rfl⟩)
  · refine e_tableIn (off := 109) (tgt := 110) dX7_told_1 (by omega) (by omega) (by rw [hsw]; rfl) (by decide) ?_
    refine e_aload_n dX7_told_110 rfl rfl ?_
    refine e_invV (mcY := 0) (msY := 0) (ct_X7_patternNow hR hv) vX7_patternNow wM_X7_218 (mo_at G c _ h 0 (by decide)) rfl dX7_told_111 rfl rfl (Nat.le_of_ble_eq_true rfl) (Nat.le_of_ble_eq_true rfl) ?_
    rintro _ _ ⟨rfl, rfl⟩
    exact e_iret rfl dX7_told_114 (⟨by rw [hsw]; rfl, rfl⟩)
  · refine e_tableIn (off := 114) (tgt := 115) dX7_told_1 (by omega) (by omega) (by rw [hsw]; rfl) (by decide) ?_
    refine e_aload_n dX7_told_115 rfl rfl ?_
    refine e_invV (mcY := 0) (msY := 0) (ct_X7_nodes hR hv) vX7_nodes wM_X7_253 (mo_at G c _ h 0 (by decide)) rfl dX7_told_116 rfl rfl (Nat.le_of_ble_eq_true rfl) (Nat.le_of_ble_eq_true rfl) ?_
    rintro _ _ ⟨rfl, rfl⟩
    exact e_iret rfl dX7_told_119 (⟨by rw [hsw]; rfl, rfl⟩)
  · refine e_tableIn (off := 119) (tgt := 120) dX7_told_1 (by omega) (by omega) (by rw [hsw]; rfl) (by decide) ?_
    refine e_aload_n dX7_told_120 rfl rfl ?_
    refine mo_g8 wF_X7_17 dX7_told_121 ?_
    refine e_bipush (v := 6) dX7_told_124 (by decide) ?_
    refine mo_l2 (by omega) (by omega) dX7_told_126 ?_
    refine e_l2i dX7_told_127 ?_
    exact e_iret rfl dX7_told_128 (⟨by rw [hsw]; show some (Value.int (μ.2.1 0 6).toInt32) = some (Value.int (σ.1 6)); rw [hR.1.2.2.2.2.2.2, ar_6432], rfl⟩)
  · refine e_tableIn (off := 128) (tgt := 129) dX7_told_1 (by omega) (by omega) (by rw [hsw]; rfl) (by decide) ?_
    refine e_aload_n dX7_told_129 rfl rfl ?_
    refine e_invV (mcY := 0) (msY := 0) (ct_X7_still hR hv) vX7_still wM_X7_256 (mo_at G c _ h 0 (by decide)) rfl dX7_told_130 rfl rfl (Nat.le_of_ble_eq_true rfl) (Nat.le_of_ble_eq_true rfl) ?_
    rintro _ _ ⟨rfl, rfl⟩
    exact e_iret rfl dX7_told_133 (⟨by rw [hsw]; rfl, rfl⟩)
  · refine e_tableOut (tgt := 134) dX7_told_1 (by omega) (by decide) ?_
    refine e_aload_n dX7_told_134 rfl rfl ?_
    refine e_invV (mcY := 0) (msY := 0) (ct_X7_farthest hR hv hb) vX7_farthest wM_X7_259 (mo_at G c _ h 0 (by decide)) rfl dX7_told_135 rfl rfl (Nat.le_of_ble_eq_true rfl) (Nat.le_of_ble_eq_true rfl) ?_
    rintro _ _ ⟨rfl, rfl⟩
    exact e_iret rfl dX7_told_138 (⟨by rw [hsw]; rfl, rfl⟩)
set_option maxRecDepth 20000 in
theorem lp_macc0 {J : ev_K} {k n : Nat} (hJ : 2 ≤ J.2.2.1) (hR : RD σ (μ.2.1 0)) (hv : sInv σ) {w0 : Int32} (hw0 : w0.toInt = 0) (hk : ∀ u : Int64, u = accL 0 (sMomL σ) (sNm σ) → ev_V G l mX7_toldAccount J 89 [some (.ref c), some (.int w0), some (.long u)] [] (mo G c μ h) k n) : ∀ (r i : Nat) (x : Int32) (u : Int64), r + i = sNm σ → x.toInt = (i : Int) → u = accL 0 (sMomL σ) i → ev_V G l mX7_toldAccount J 24 [some (.ref c), some (.int w0), some (.long u), none, some (.int x)] [] (mo G c μ h) k n := by
  intro r
  induction r using Nat.strongRecOn with
  | ind r ih =>
    intro i x u
    intro hr hx hu
    have hn : x.toInt.toNat = i := ar_nat hx
    have hmn := hv.1.nat
    have hmu : (σ.1 0).toInt = sM σ := rfl
    have z0 := ar_0
    have z1 := ar_1
    have zL : (0 : Int64).toInt = 0 := by decide +kernel
    have zc : (0 : Int32).toInt64 = 0 := by decide +kernel
    have w7 : (7 : Int32).toInt = 7 := by decide +kernel
    have wn : i < sNm σ → (2 : Int64) * (σ.2.2 0 i).toInt64 ≠ 0 := fun q => hv.2.1.ne2 q
    refine e_iload dX7_toldAccount_24 rfl ?_
    refine e_aload_n dX7_toldAccount_26 rfl rfl ?_
    refine e_invV (mcY := 0) (msY := 0) (ct_X7_masses hR) vX7_masses wM_X7_199 (mo_at G c _ h 0 (by decide)) rfl dX7_toldAccount_27 rfl rfl (Nat.le_of_ble_eq_true rfl) (Nat.le_trans (Nat.le_of_ble_eq_true rfl) hJ) ?_
    rintro _ _ ⟨rfl, rfl⟩
    refine e_icmp_ge (tgt := 89) dX7_toldAccount_30 (by decide) (fun c30 => ?_) (fun c30 => ?_)
    · obtain rfl : i = sNm σ := by omega
      exact ev_lc (hk u hu) ⟨rfl, rfl, rfl, trivial⟩
    · refine e_iload_n dX7_toldAccount_33 rfl rfl ?_
      refine e_bipush (v := 7) dX7_toldAccount_34 (by decide) ?_
      refine e_icmp_ge (tgt := 89) dX7_toldAccount_36 (by decide) (fun c36 => ?_) (fun c36 => ?_)
      · omega
      · refine e_lload_n dX7_toldAccount_39 rfl rfl ?_
        refine e_iload_n dX7_toldAccount_40 rfl rfl ?_
        refine e_if_ne (tgt := 54) dX7_toldAccount_41 (by decide) (fun c41 => ?_) (fun c41 => ?_)
        · refine e_aload_n dX7_toldAccount_54 rfl rfl ?_
          refine e_iload dX7_toldAccount_55 rfl ?_
          refine e_iconst (v := 2) dX7_toldAccount_57 (by decide) ?_
          refine e_invV (mcY := 0) (msY := 0) (ct_of (j := i) (w := 2) hR hv hx (by decide +kernel) (by omega) (by decide)) vX7_of wM_X7_201 (mo_at G c _ h 0 (by decide)) rfl dX7_toldAccount_58 rfl rfl (Nat.le_of_ble_eq_true rfl) (Nat.le_trans (Nat.le_of_ble_eq_true rfl) hJ) ?_
          rintro _ _ ⟨rfl, rfl⟩
          refine e_aload_n dX7_toldAccount_61 rfl rfl ?_
          refine e_iload dX7_toldAccount_62 rfl ?_
          refine e_iconst (v := 2) dX7_toldAccount_64 (by decide) ?_
          refine e_invV (mcY := 0) (msY := 0) (ct_of (j := i) (w := 2) hR hv hx (by decide +kernel) (by omega) (by decide)) vX7_of wM_X7_201 (mo_at G c _ h 0 (by decide)) rfl dX7_toldAccount_65 rfl rfl (Nat.le_of_ble_eq_true rfl) (Nat.le_trans (Nat.le_of_ble_eq_true rfl) hJ) ?_
          rintro _ _ ⟨rfl, rfl⟩
          refine e_lmul dX7_toldAccount_68 ?_
          refine e_ldc2 dX7_toldAccount_69 wK_X7_265 ?_
          refine e_aload_n dX7_toldAccount_72 rfl rfl ?_
          refine e_iload dX7_toldAccount_73 rfl ?_
          refine e_iconst (v := 0) dX7_toldAccount_75 (by decide) ?_
          refine e_invV (mcY := 0) (msY := 0) (ct_of (j := i) (w := 0) hR hv hx ar_0 (by omega) (by decide)) vX7_of wM_X7_201 (mo_at G c _ h 0 (by decide)) rfl dX7_toldAccount_76 rfl rfl (Nat.le_of_ble_eq_true rfl) (Nat.le_trans (Nat.le_of_ble_eq_true rfl) hJ) ?_
          rintro _ _ ⟨rfl, rfl⟩
          refine e_lmul dX7_toldAccount_79 ?_
          refine e_ldiv dX7_toldAccount_80 (wn (by omega)) ?_
          refine e_ladd dX7_toldAccount_81 ?_
          refine e_lstore_n dX7_toldAccount_82 rfl (Nat.le_of_ble_eq_true rfl) ?_
          refine e_iinc dX7_toldAccount_83 rfl rfl (Nat.le_of_ble_eq_true rfl) ?_
          refine e_goto (tgt := 24) dX7_toldAccount_86 (by decide) ?_
          refine ih (r - 1) (by omega) (i + 1) _ _ (by omega) (ar_inc hx (by omega)) ?_
          rw [hu]
          first | rfl | exact absurd (ar_eq (hw0.trans z0.symm)) c41 | (rw [c41] at hw0; omega)
        · refine e_aload_n dX7_toldAccount_44 rfl rfl ?_
          refine e_iload dX7_toldAccount_45 rfl ?_
          refine e_iconst (v := 2) dX7_toldAccount_47 (by decide) ?_
          refine e_invV (mcY := 0) (msY := 0) (ct_of (j := i) (w := 2) hR hv hx (by decide +kernel) (by omega) (by decide)) vX7_of wM_X7_201 (mo_at G c _ h 0 (by decide)) rfl dX7_toldAccount_48 rfl rfl (Nat.le_of_ble_eq_true rfl) (Nat.le_trans (Nat.le_of_ble_eq_true rfl) hJ) ?_
          rintro _ _ ⟨rfl, rfl⟩
          refine e_goto (tgt := 81) dX7_toldAccount_51 (by decide) ?_
          refine e_ladd dX7_toldAccount_81 ?_
          refine e_lstore_n dX7_toldAccount_82 rfl (Nat.le_of_ble_eq_true rfl) ?_
          refine e_iinc dX7_toldAccount_83 rfl rfl (Nat.le_of_ble_eq_true rfl) ?_
          refine e_goto (tgt := 24) dX7_toldAccount_86 (by decide) ?_
          refine ih (r - 1) (by omega) (i + 1) _ _ (by omega) (ar_inc hx (by omega)) ?_
          rw [hu]
          first | rfl | exact absurd (ar_eq (hw0.trans z0.symm)) c41 | (rw [c41] at hw0; omega)
set_option maxRecDepth 20000 in
theorem lp_macc6 {J : ev_K} {k n : Nat} (hJ : 2 ≤ J.2.2.1) (hR : RD σ (μ.2.1 0)) (hv : sInv σ) {w0 : Int32} (hw0 : w0.toInt = 6) (hk : ∀ u : Int64, u = accL 0 (sEm σ) (sNm σ) → ev_V G l mX7_toldAccount J 89 [some (.ref c), some (.int w0), some (.long u)] [] (mo G c μ h) k n) : ∀ (r i : Nat) (x : Int32) (u : Int64), r + i = sNm σ → x.toInt = (i : Int) → u = accL 0 (sEm σ) i → ev_V G l mX7_toldAccount J 24 [some (.ref c), some (.int w0), some (.long u), none, some (.int x)] [] (mo G c μ h) k n := by
  intro r
  induction r using Nat.strongRecOn with
  | ind r ih =>
    intro i x u
    intro hr hx hu
    have hn : x.toInt.toNat = i := ar_nat hx
    have hmn := hv.1.nat
    have hmu : (σ.1 0).toInt = sM σ := rfl
    have z0 := ar_0
    have z1 := ar_1
    have zL : (0 : Int64).toInt = 0 := by decide +kernel
    have zc : (0 : Int32).toInt64 = 0 := by decide +kernel
    have w7 : (7 : Int32).toInt = 7 := by decide +kernel
    have wn : i < sNm σ → (2 : Int64) * (σ.2.2 0 i).toInt64 ≠ 0 := fun q => hv.2.1.ne2 q
    refine e_iload dX7_toldAccount_24 rfl ?_
    refine e_aload_n dX7_toldAccount_26 rfl rfl ?_
    refine e_invV (mcY := 0) (msY := 0) (ct_X7_masses hR) vX7_masses wM_X7_199 (mo_at G c _ h 0 (by decide)) rfl dX7_toldAccount_27 rfl rfl (Nat.le_of_ble_eq_true rfl) (Nat.le_trans (Nat.le_of_ble_eq_true rfl) hJ) ?_
    rintro _ _ ⟨rfl, rfl⟩
    refine e_icmp_ge (tgt := 89) dX7_toldAccount_30 (by decide) (fun c30 => ?_) (fun c30 => ?_)
    · obtain rfl : i = sNm σ := by omega
      exact ev_lc (hk u hu) ⟨rfl, rfl, rfl, trivial⟩
    · refine e_iload_n dX7_toldAccount_33 rfl rfl ?_
      refine e_bipush (v := 7) dX7_toldAccount_34 (by decide) ?_
      refine e_icmp_ge (tgt := 89) dX7_toldAccount_36 (by decide) (fun c36 => ?_) (fun c36 => ?_)
      · omega
      · refine e_lload_n dX7_toldAccount_39 rfl rfl ?_
        refine e_iload_n dX7_toldAccount_40 rfl rfl ?_
        refine e_if_ne (tgt := 54) dX7_toldAccount_41 (by decide) (fun c41 => ?_) (fun c41 => ?_)
        · refine e_aload_n dX7_toldAccount_54 rfl rfl ?_
          refine e_iload dX7_toldAccount_55 rfl ?_
          refine e_iconst (v := 2) dX7_toldAccount_57 (by decide) ?_
          refine e_invV (mcY := 0) (msY := 0) (ct_of (j := i) (w := 2) hR hv hx (by decide +kernel) (by omega) (by decide)) vX7_of wM_X7_201 (mo_at G c _ h 0 (by decide)) rfl dX7_toldAccount_58 rfl rfl (Nat.le_of_ble_eq_true rfl) (Nat.le_trans (Nat.le_of_ble_eq_true rfl) hJ) ?_
          rintro _ _ ⟨rfl, rfl⟩
          refine e_aload_n dX7_toldAccount_61 rfl rfl ?_
          refine e_iload dX7_toldAccount_62 rfl ?_
          refine e_iconst (v := 2) dX7_toldAccount_64 (by decide) ?_
          refine e_invV (mcY := 0) (msY := 0) (ct_of (j := i) (w := 2) hR hv hx (by decide +kernel) (by omega) (by decide)) vX7_of wM_X7_201 (mo_at G c _ h 0 (by decide)) rfl dX7_toldAccount_65 rfl rfl (Nat.le_of_ble_eq_true rfl) (Nat.le_trans (Nat.le_of_ble_eq_true rfl) hJ) ?_
          rintro _ _ ⟨rfl, rfl⟩
          refine e_lmul dX7_toldAccount_68 ?_
          refine e_ldc2 dX7_toldAccount_69 wK_X7_265 ?_
          refine e_aload_n dX7_toldAccount_72 rfl rfl ?_
          refine e_iload dX7_toldAccount_73 rfl ?_
          refine e_iconst (v := 0) dX7_toldAccount_75 (by decide) ?_
          refine e_invV (mcY := 0) (msY := 0) (ct_of (j := i) (w := 0) hR hv hx ar_0 (by omega) (by decide)) vX7_of wM_X7_201 (mo_at G c _ h 0 (by decide)) rfl dX7_toldAccount_76 rfl rfl (Nat.le_of_ble_eq_true rfl) (Nat.le_trans (Nat.le_of_ble_eq_true rfl) hJ) ?_
          rintro _ _ ⟨rfl, rfl⟩
          refine e_lmul dX7_toldAccount_79 ?_
          refine e_ldiv dX7_toldAccount_80 (wn (by omega)) ?_
          refine e_ladd dX7_toldAccount_81 ?_
          refine e_lstore_n dX7_toldAccount_82 rfl (Nat.le_of_ble_eq_true rfl) ?_
          refine e_iinc dX7_toldAccount_83 rfl rfl (Nat.le_of_ble_eq_true rfl) ?_
          refine e_goto (tgt := 24) dX7_toldAccount_86 (by decide) ?_
          refine ih (r - 1) (by omega) (i + 1) _ _ (by omega) (ar_inc hx (by omega)) ?_
          rw [hu]
          first | rfl | exact absurd (ar_eq (hw0.trans z0.symm)) c41 | (rw [c41] at hw0; omega)
        · refine e_aload_n dX7_toldAccount_44 rfl rfl ?_
          refine e_iload dX7_toldAccount_45 rfl ?_
          refine e_iconst (v := 2) dX7_toldAccount_47 (by decide) ?_
          refine e_invV (mcY := 0) (msY := 0) (ct_of (j := i) (w := 2) hR hv hx (by decide +kernel) (by omega) (by decide)) vX7_of wM_X7_201 (mo_at G c _ h 0 (by decide)) rfl dX7_toldAccount_48 rfl rfl (Nat.le_of_ble_eq_true rfl) (Nat.le_trans (Nat.le_of_ble_eq_true rfl) hJ) ?_
          rintro _ _ ⟨rfl, rfl⟩
          refine e_goto (tgt := 81) dX7_toldAccount_51 (by decide) ?_
          refine e_ladd dX7_toldAccount_81 ?_
          refine e_lstore_n dX7_toldAccount_82 rfl (Nat.le_of_ble_eq_true rfl) ?_
          refine e_iinc dX7_toldAccount_83 rfl rfl (Nat.le_of_ble_eq_true rfl) ?_
          refine e_goto (tgt := 24) dX7_toldAccount_86 (by decide) ?_
          refine ih (r - 1) (by omega) (i + 1) _ _ (by omega) (ar_inc hx (by omega)) ?_
          rw [hu]
          first | rfl | exact absurd (ar_eq (hw0.trans z0.symm)) c41 | (rw [c41] at hw0; omega)
set_option maxRecDepth 20000 in
theorem lp_macc7 {J : ev_K} {k n : Nat} (hJ : 4 ≤ J.2.2.1) (hR : RD σ (μ.2.1 0)) (hv : sInv σ) (hb : RBs σ) {w0 : Int32} (hw0 : w0.toInt = 7) (hk : ∀ u : Int64, u = accL 0 (sEs σ) (sNm σ + 1) → ev_V G l mX7_toldAccount J 154 [none, none, some (.long u)] [] (mo G c μ h) k n) : ∀ (r i : Nat) (x : Int32) (u : Int64), r + i = sNm σ + 1 → x.toInt = (i : Int) → u = accL 0 (sEs σ) i → ev_V G l mX7_toldAccount J 92 [some (.ref c), some (.int w0), some (.long u), none, some (.int x)] [] (mo G c μ h) k n := by
  intro r
  induction r using Nat.strongRecOn with
  | ind r ih =>
    intro i x u
    intro hr hx hu
    have hn : x.toInt.toNat = i := ar_nat hx
    have hmn := hv.1.nat
    have hmu : (σ.1 0).toInt = sM σ := rfl
    have z0 := ar_0
    have z1 := ar_1
    have zL : (0 : Int64).toInt = 0 := by decide +kernel
    have zc : (0 : Int32).toInt64 = 0 := by decide +kernel
    have w7 : (7 : Int32).toInt = 7 := by decide +kernel
    refine e_iload dX7_toldAccount_92 rfl ?_
    refine e_aload_n dX7_toldAccount_94 rfl rfl ?_
    refine e_invV (mcY := 0) (msY := 0) (ct_X7_masses hR) vX7_masses wM_X7_199 (mo_at G c _ h 0 (by decide)) rfl dX7_toldAccount_95 rfl rfl (Nat.le_of_ble_eq_true rfl) (Nat.le_trans (Nat.le_of_ble_eq_true rfl) hJ) ?_
    rintro _ _ ⟨rfl, rfl⟩
    refine e_icmp_gt (tgt := 154) dX7_toldAccount_98 (by decide) (fun c98 => ?_) (fun c98 => ?_)
    · obtain rfl : i = sNm σ + 1 := by omega
      exact ev_lc (hk u hu) ⟨rfl, trivial⟩
    · refine e_iload_n dX7_toldAccount_101 rfl rfl ?_
      refine e_bipush (v := 7) dX7_toldAccount_102 (by decide) ?_
      refine e_icmp_ne (tgt := 154) dX7_toldAccount_104 (by decide) (fun c104 => ?_) (fun c104 => ?_)
      · exact absurd (ar_eq (hw0.trans w7.symm)) c104
      · refine e_lload_n dX7_toldAccount_107 rfl rfl ?_
        refine e_aload_n dX7_toldAccount_108 rfl rfl ?_
        refine e_iload dX7_toldAccount_109 rfl ?_
        refine e_invV (mcY := 0) (msY := 0) (ct_X7_isWhole hR hv hx (by omega)) vX7_isWhole wM_X7_212 (mo_at G c _ h 0 (by decide)) rfl dX7_toldAccount_111 rfl rfl (Nat.le_of_ble_eq_true rfl) (Nat.le_trans (Nat.le_of_ble_eq_true rfl) hJ) ?_
        rintro _ _ hc
        rcases hc with ⟨hw, rfl, rfl⟩ | ⟨hw, rfl, rfl⟩
        · refine e_if_eq (tgt := 145) dX7_toldAccount_114 (by decide) (fun c114 => ?_) (fun c114 => ?_)
          · first | exact absurd c114 (by decide) | exact absurd rfl c114
          · refine e_aload_n dX7_toldAccount_117 rfl rfl ?_
            refine e_iload dX7_toldAccount_118 rfl ?_
            refine e_iconst (v := 0) dX7_toldAccount_120 (by decide) ?_
            refine e_invV (mcY := 0) (msY := 0) (ct_oS (j := i) (w := 0) hR hv hx ar_0 (by omega) (by decide)) vX7_ofSpring wM_X7_209 (mo_at G c _ h 0 (by decide)) rfl dX7_toldAccount_121 rfl rfl (Nat.le_of_ble_eq_true rfl) (Nat.le_trans (Nat.le_of_ble_eq_true rfl) hJ) ?_
            rintro _ _ ⟨rfl, rfl⟩
            refine e_aload_n dX7_toldAccount_124 rfl rfl ?_
            refine e_iload dX7_toldAccount_125 rfl ?_
            refine e_invV (mcY := 0) (msY := 0) (ct_X7_stretch hR hv hb hx (by omega)) vX7_stretch wM_X7_215 (mo_at G c _ h 0 (by decide)) rfl dX7_toldAccount_127 rfl rfl (Nat.le_of_ble_eq_true rfl) (Nat.le_trans (Nat.le_of_ble_eq_true rfl) hJ) ?_
            rintro _ _ ⟨rfl, rfl⟩
            refine e_lmul dX7_toldAccount_130 ?_
            refine e_aload_n dX7_toldAccount_131 rfl rfl ?_
            refine e_iload dX7_toldAccount_132 rfl ?_
            refine e_invV (mcY := 0) (msY := 0) (ct_X7_stretch hR hv hb hx (by omega)) vX7_stretch wM_X7_215 (mo_at G c _ h 0 (by decide)) rfl dX7_toldAccount_134 rfl rfl (Nat.le_of_ble_eq_true rfl) (Nat.le_trans (Nat.le_of_ble_eq_true rfl) hJ) ?_
            rintro _ _ ⟨rfl, rfl⟩
            refine e_lmul dX7_toldAccount_137 ?_
            refine e_ldc2 dX7_toldAccount_138 wK_X7_267 ?_
            refine e_ldiv dX7_toldAccount_141 (by decide) ?_
            refine e_goto (tgt := 146) dX7_toldAccount_142 (by decide) ?_
            refine e_ladd dX7_toldAccount_146 ?_
            refine e_lstore_n dX7_toldAccount_147 rfl (Nat.le_of_ble_eq_true rfl) ?_
            refine e_iinc dX7_toldAccount_148 rfl rfl (Nat.le_of_ble_eq_true rfl) ?_
            refine e_goto (tgt := 92) dX7_toldAccount_151 (by decide) ?_
            refine ih (r - 1) (by omega) (i + 1) _ _ (by omega) (ar_inc hx (by omega)) ?_
            rw [hu]
            show _ = accL 0 (sEs σ) i + sEs σ i
            congr 1
            unfold sEs
            first | (rw [if_pos hw]; done) | (rw [if_neg hw]; done)
        · refine e_if_eq (tgt := 145) dX7_toldAccount_114 (by decide) (fun c114 => ?_) (fun c114 => ?_)
          · refine e_lconst (v := 0) dX7_toldAccount_145 (by decide) ?_
            refine e_ladd dX7_toldAccount_146 ?_
            refine e_lstore_n dX7_toldAccount_147 rfl (Nat.le_of_ble_eq_true rfl) ?_
            refine e_iinc dX7_toldAccount_148 rfl rfl (Nat.le_of_ble_eq_true rfl) ?_
            refine e_goto (tgt := 92) dX7_toldAccount_151 (by decide) ?_
            refine ih (r - 1) (by omega) (i + 1) _ _ (by omega) (ar_inc hx (by omega)) ?_
            rw [hu]
            show _ = accL 0 (sEs σ) i + sEs σ i
            congr 1
            unfold sEs
            first | (rw [if_pos hw]; done) | (rw [if_neg hw]; done)
          · first | exact absurd c114 (by decide) | exact absurd rfl c114
set_option maxRecDepth 20000 in
theorem lp_macc_skip (hR : RD σ (μ.2.1 0)) (hv : sInv σ) {J : ev_K} {k n : Nat} (hJ : 2 ≤ J.2.2.1) {w0 : Int32} (hw0 : w0.toInt ≠ 7) {u : Int64} (hk : ev_V G l mX7_toldAccount J 154 [none, none, some (.long u)] [] (mo G c μ h) k n) : ev_V G l mX7_toldAccount J 89 [some (.ref c), some (.int w0), some (.long u)] [] (mo G c μ h) k n := by
  have w7 : (7 : Int32).toInt = 7 := by decide +kernel
  have hmn := hv.1.nat
  have hmu : (σ.1 0).toInt = sM σ := rfl
  have z0 := ar_0
  refine e_iconst (v := 0) dX7_toldAccount_89 (by decide) ?_
  refine e_istore dX7_toldAccount_90 (Nat.le_of_ble_eq_true rfl) ?_
  refine e_iload dX7_toldAccount_92 rfl ?_
  refine e_aload_n dX7_toldAccount_94 rfl rfl ?_
  refine e_invV (mcY := 0) (msY := 0) (ct_X7_masses hR) vX7_masses wM_X7_199 (mo_at G c _ h 0 (by decide)) rfl dX7_toldAccount_95 rfl rfl (Nat.le_of_ble_eq_true rfl) (Nat.le_trans (Nat.le_of_ble_eq_true rfl) hJ) ?_
  rintro _ _ ⟨rfl, rfl⟩
  refine e_icmp_gt (tgt := 154) dX7_toldAccount_98 (by decide) (fun c98 => ?_) (fun c98 => ?_)
  · omega
  · refine e_iload_n dX7_toldAccount_101 rfl rfl ?_
    refine e_bipush (v := 7) dX7_toldAccount_102 (by decide) ?_
    refine e_icmp_ne (tgt := 154) dX7_toldAccount_104 (by decide) (fun c104 => ?_) (fun c104 => ?_)
    · exact ev_lc hk ⟨rfl, trivial⟩
    · exact absurd (c104 ▸ w7) hw0
set_option maxRecDepth 20000 in
theorem lp_macc_no (hR : RD σ (μ.2.1 0)) (hv : sInv σ) {J : ev_K} {k n : Nat} (hJ : 2 ≤ J.2.2.1) {w0 : Int32} (hw0 : w0.toInt = 7) {u : Int64} (hk : ev_V G l mX7_toldAccount J 89 [some (.ref c), some (.int w0), some (.long u)] [] (mo G c μ h) k n) : ev_V G l mX7_toldAccount J 24 [some (.ref c), some (.int w0), some (.long u), none, some (.int 0)] [] (mo G c μ h) k n := by
  have w7 : (7 : Int32).toInt = 7 := by decide +kernel
  have hmn := hv.1.nat
  have hmu : (σ.1 0).toInt = sM σ := rfl
  have z0 := ar_0
  refine e_iload dX7_toldAccount_24 rfl ?_
  refine e_aload_n dX7_toldAccount_26 rfl rfl ?_
  refine e_invV (mcY := 0) (msY := 0) (ct_X7_masses hR) vX7_masses wM_X7_199 (mo_at G c _ h 0 (by decide)) rfl dX7_toldAccount_27 rfl rfl (Nat.le_of_ble_eq_true rfl) (Nat.le_trans (Nat.le_of_ble_eq_true rfl) hJ) ?_
  rintro _ _ ⟨rfl, rfl⟩
  refine e_icmp_ge (tgt := 89) dX7_toldAccount_30 (by decide) (fun c30 => ?_) (fun c30 => ?_)
  · omega
  · refine e_iload_n dX7_toldAccount_33 rfl rfl ?_
    refine e_bipush (v := 7) dX7_toldAccount_34 (by decide) ?_
    refine e_icmp_ge (tgt := 89) dX7_toldAccount_36 (by decide) (fun c36 => ?_) (fun c36 => ?_)
    · exact ev_lc hk ⟨rfl, rfl, rfl, trivial⟩
    · omega
set_option maxRecDepth 20000 in
theorem ct_X7_toldAccount (hR : RD σ (μ.2.1 0)) (hv : sInv σ) (hb : RBs σ) (x0 : 0 ≤ x.toInt) (x1 : x.toInt ≤ 7) : ev_Ct G l mX7_toldAccount 5 0 0 [.ref c, .int x] (mo G c μ h) (fun v a => v = some (.long (sAcc σ x.toInt.toNat)) ∧ a = mo G c μ h) (fun _ _ => False) := by
  refine ev_Ct.of (by decide +kernel) (Nat.le_of_ble_eq_true rfl) ?_
  have hmn := hv.1.nat
  have hmu : (σ.1 0).toInt = sM σ := rfl
  have z0 := ar_0
  have z1 := ar_1
  have zL : (0 : Int64).toInt = 0 := by decide +kernel
  have zc : (0 : Int32).toInt64 = 0 := by decide +kernel
  have w5 : (5 : Int32).toInt = 5 := by decide +kernel
  have w6 : (6 : Int32).toInt = 6 := by decide +kernel
  refine e_iload_n dX7_toldAccount_0 rfl rfl ?_
  refine e_iconst (v := 1) dX7_toldAccount_1 (by decide) ?_
  refine e_iconst (v := 5) dX7_toldAccount_2 (by decide) ?_
  refine e_invS (mcY := 0) (msY := 0) (ct_X7_in) vX7_in wM_X7_65 dX7_toldAccount_3 rfl rfl (Nat.le_of_ble_eq_true rfl) (Nat.le_of_ble_eq_true rfl) ?_
  rintro _ _ hc
  rcases hc with ⟨hin1, rfl, rfl⟩ | ⟨hin1, rfl, rfl⟩
  · have e6 : (6 + x).toInt = 6 + x.toInt := by rw [ar_add (by omega) (by omega), w6]
    refine e_if_eq (tgt := 19) dX7_toldAccount_6 (by decide) (fun c6 => ?_) (fun c6 => ?_)
    · first | exact absurd c6 (by decide) | exact absurd rfl c6
    · refine e_aload_n dX7_toldAccount_9 rfl rfl ?_
      refine mo_g8 wF_X7_17 dX7_toldAccount_10 ?_
      refine e_bipush (v := 6) dX7_toldAccount_13 (by decide) ?_
      refine e_iload_n dX7_toldAccount_15 rfl rfl ?_
      refine e_iadd dX7_toldAccount_16 ?_
      refine mo_l2 (by omega) (by omega) dX7_toldAccount_17 ?_
      exact e_lret rfl dX7_toldAccount_18 (⟨by rcases (show x.toInt = 1 ∨ x.toInt = 2 ∨ x.toInt = 3 ∨ x.toInt = 4 ∨ x.toInt = 5 by omega) with e | e | e | e | e <;> rw [e6, e] <;> first | exact congrArg (fun q => some (Value.long q)) (hR.2.1.1 0 (by decide)) | exact congrArg (fun q => some (Value.long q)) (hR.2.1.1 1 (by decide)) | exact congrArg (fun q => some (Value.long q)) (hR.2.1.1 2 (by decide)) | exact congrArg (fun q => some (Value.long q)) (hR.2.1.1 3 (by decide)) | exact congrArg (fun q => some (Value.long q)) (hR.2.1.1 4 (by decide)), rfl⟩)
  · refine e_if_eq (tgt := 19) dX7_toldAccount_6 (by decide) (fun c6 => ?_) (fun c6 => ?_)
    · refine e_lconst (v := 0) dX7_toldAccount_19 (by decide) ?_
      refine e_lstore_n dX7_toldAccount_20 rfl (Nat.le_of_ble_eq_true rfl) ?_
      refine e_iconst (v := 0) dX7_toldAccount_21 (by decide) ?_
      refine e_istore dX7_toldAccount_22 (Nat.le_of_ble_eq_true rfl) ?_
      have hlast : ∀ u : Int64, u = sAcc σ x.toInt.toNat → ev_V G l mX7_toldAccount (false, [], 5, 0, 0, (fun v a => v = some (Value.long (sAcc σ x.toInt.toNat)) ∧ a = mo G c μ h), fun _ _ => False) 154 [none, none, some (.long u)] [] (mo G c μ h) 0 0 := fun u hu => by
        subst hu
        exact e_lload_n dX7_toldAccount_154 rfl rfl (e_lret rfl dX7_toldAccount_155 ⟨rfl, rfl⟩)
      rcases (show x.toInt = 0 ∨ x.toInt = 6 ∨ x.toInt = 7 by omega) with e | e | e
      · refine lp_macc0 (Nat.le_of_ble_eq_true rfl) hR hv e (fun u hu => ?_) (sNm σ) 0 _ _ (by omega) ar_0 rfl
        exact lp_macc_skip hR hv (Nat.le_of_ble_eq_true rfl) (by omega) (hlast u (by rw [hu, e]; rfl))
      · refine lp_macc6 (Nat.le_of_ble_eq_true rfl) hR hv e (fun u hu => ?_) (sNm σ) 0 _ _ (by omega) ar_0 rfl
        exact lp_macc_skip hR hv (Nat.le_of_ble_eq_true rfl) (by omega) (hlast u (by rw [hu, e]; rfl))
      · refine lp_macc_no hR hv (Nat.le_of_ble_eq_true rfl) e ?_
        refine e_iconst (v := 0) dX7_toldAccount_89 (by decide) ?_
        refine e_istore dX7_toldAccount_90 (Nat.le_of_ble_eq_true rfl) ?_
        refine ev_loc (L' := [some (.ref c), some (.int x), some (.long 0), none, some (.int 0)]) ⟨rfl, rfl, rfl, rfl, trivial⟩ ?_
        exact lp_macc7 (Nat.le_of_ble_eq_true rfl) hR hv hb e (fun u hu => hlast u (by rw [hu, e]; rfl)) (sNm σ + 1) 0 _ _ (by omega) ar_0 rfl
    · first | exact absurd c6 (by decide) | exact absurd rfl c6
set_option maxRecDepth 20000 in
theorem ct_X7_toldMass (hR : RD σ (μ.2.1 0)) (hv : sInv σ) (hx : x.toInt = (j : Int)) (hj : j < sNm σ) (y0 : 0 ≤ y.toInt) (y1 : y.toInt ≤ 3) : ev_Ct G l mX7_toldMass 2 0 0 [.ref c, .int x, .int y] (mo G c μ h) (fun v a => v = some (.int (sTellM σ j y.toInt.toNat)) ∧ a = mo G c μ h) (fun _ _ => False) := by
  refine ev_Ct.of (by decide +kernel) (Nat.le_of_ble_eq_true rfl) ?_
  have hmn := hv.1.nat
  have hmu : (σ.1 0).toInt = sM σ := rfl
  have z0 := ar_0
  have z1 := ar_1
  have zL : (0 : Int64).toInt = 0 := by decide +kernel
  have zc : (0 : Int32).toInt64 = 0 := by decide +kernel
  have w3 : (3 : Int32).toInt = 3 := by decide +kernel
  have hwt := hv.2.1 j hj
  refine e_iload_n dX7_toldMass_0 rfl rfl ?_
  refine e_iconst (v := 3) dX7_toldMass_1 (by decide) ?_
  refine e_icmp_ne (tgt := 21) dX7_toldMass_2 (by decide) (fun c2 => ?_) (fun c2 => ?_)
  · refine e_aload_n dX7_toldMass_21 rfl rfl ?_
    refine e_iload_n dX7_toldMass_22 rfl rfl ?_
    refine e_iload_n dX7_toldMass_23 rfl rfl ?_
    refine e_invV (mcY := 0) (msY := 0) (ct_of (j := j) (w := y.toInt.toNat) hR hv hx (by omega) hj (by have : y.toInt ≠ 3 := fun q => c2 (ar_eq (q.trans w3.symm)); omega)) vX7_of wM_X7_201 (mo_at G c _ h 0 (by decide)) rfl dX7_toldMass_24 rfl rfl (Nat.le_of_ble_eq_true rfl) (Nat.le_of_ble_eq_true rfl) ?_
    rintro _ _ ⟨rfl, rfl⟩
    refine e_l2i dX7_toldMass_27 ?_
    exact e_iret rfl dX7_toldMass_28 (⟨by first | (rw [c2, w3, ← ar_64div (by omega), ar_6432]; rfl) | (rw [ar_6432]; have : y.toInt ≠ 3 := fun q => c2 (ar_eq (q.trans w3.symm)); rcases (show y.toInt = 0 ∨ y.toInt = 1 ∨ y.toInt = 2 by omega) with e | e | e <;> rw [e] <;> rfl), rfl⟩)
  · refine e_aload_n dX7_toldMass_5 rfl rfl ?_
    refine e_iload_n dX7_toldMass_6 rfl rfl ?_
    refine e_iconst (v := 2) dX7_toldMass_7 (by decide) ?_
    refine e_invV (mcY := 0) (msY := 0) (ct_of (j := j) (w := 2) hR hv hx (by decide +kernel) hj (by decide)) vX7_of wM_X7_201 (mo_at G c _ h 0 (by decide)) rfl dX7_toldMass_8 rfl rfl (Nat.le_of_ble_eq_true rfl) (Nat.le_of_ble_eq_true rfl) ?_
    rintro _ _ ⟨rfl, rfl⟩
    refine e_aload_n dX7_toldMass_11 rfl rfl ?_
    refine e_iload_n dX7_toldMass_12 rfl rfl ?_
    refine e_iconst (v := 0) dX7_toldMass_13 (by decide) ?_
    refine e_invV (mcY := 0) (msY := 0) (ct_of (j := j) (w := 0) hR hv hx ar_0 hj (by decide)) vX7_of wM_X7_201 (mo_at G c _ h 0 (by decide)) rfl dX7_toldMass_14 rfl rfl (Nat.le_of_ble_eq_true rfl) (Nat.le_of_ble_eq_true rfl) ?_
    rintro _ _ ⟨rfl, rfl⟩
    refine e_ldiv dX7_toldMass_17 (hv.2.1.ne64 hj) ?_
    refine e_goto (tgt := 27) dX7_toldMass_18 (by decide) ?_
    refine e_l2i dX7_toldMass_27 ?_
    exact e_iret rfl dX7_toldMass_28 (⟨by first | (rw [c2, w3, ← ar_64div (by omega), ar_6432]; rfl) | (rw [ar_6432]; have : y.toInt ≠ 3 := fun q => c2 (ar_eq (q.trans w3.symm)); rcases (show y.toInt = 0 ∨ y.toInt = 1 ∨ y.toInt = 2 by omega) with e | e | e <;> rw [e] <;> rfl), rfl⟩)
set_option maxRecDepth 20000 in
theorem ct_X7_toldSpring (hR : RD σ (μ.2.1 0)) (hv : sInv σ) (hb : RBs σ) (hx : x.toInt = (j : Int)) (hj : j ≤ sNm σ) (y0 : 0 ≤ y.toInt) (y1 : y.toInt ≤ 4) : ev_Ct G l mX7_toldSpring 5 0 0 [.ref c, .int x, .int y] (mo G c μ h) (fun v a => v = some (.int (sTellS σ j y.toInt.toNat)) ∧ a = mo G c μ h) (fun _ _ => False) := by
  refine ev_Ct.of (by decide +kernel) (Nat.le_of_ble_eq_true rfl) ?_
  have hmn := hv.1.nat
  have hmu : (σ.1 0).toInt = sM σ := rfl
  have z0 := ar_0
  have z1 := ar_1
  have zL : (0 : Int64).toInt = 0 := by decide +kernel
  have zc : (0 : Int32).toInt64 = 0 := by decide +kernel
  have w3 : (3 : Int32).toInt = 3 := by decide +kernel
  have w4 : (4 : Int32).toInt = 4 := by decide +kernel
  have hbr := (hb.2.2.2 j hj).2.2
  refine e_iload_n dX7_toldSpring_0 rfl rfl ?_
  refine e_iconst (v := 3) dX7_toldSpring_1 (by decide) ?_
  refine e_icmp_ne (tgt := 13) dX7_toldSpring_2 (by decide) (fun c2 => ?_) (fun c2 => ?_)
  · refine e_iload_n dX7_toldSpring_13 rfl rfl ?_
    refine e_iconst (v := 4) dX7_toldSpring_14 (by decide) ?_
    refine e_icmp_ne (tgt := 26) dX7_toldSpring_15 (by decide) (fun c15 => ?_) (fun c15 => ?_)
    · refine e_aload_n dX7_toldSpring_26 rfl rfl ?_
      refine e_iload_n dX7_toldSpring_27 rfl rfl ?_
      refine e_iload_n dX7_toldSpring_28 rfl rfl ?_
      refine e_invV (mcY := 0) (msY := 0) (ct_oS (j := j) (w := y.toInt.toNat) hR hv hx (by omega) hj (by have : y.toInt ≠ 3 := fun q => c2 (ar_eq (q.trans w3.symm)); have : y.toInt ≠ 4 := fun q => c15 (ar_eq (q.trans w4.symm)); omega)) vX7_ofSpring wM_X7_209 (mo_at G c _ h 0 (by decide)) rfl dX7_toldSpring_29 rfl rfl (Nat.le_of_ble_eq_true rfl) (Nat.le_of_ble_eq_true rfl) ?_
      rintro _ _ ⟨rfl, rfl⟩
      refine e_l2i dX7_toldSpring_32 ?_
      exact e_iret rfl dX7_toldSpring_33 (⟨by first | (rw [c2, w3, ar_6432]; rfl) | (rw [c15, w4, ar_6432]; rfl) | (rw [ar_6432]; have : y.toInt ≠ 3 := fun q => c2 (ar_eq (q.trans w3.symm)); have : y.toInt ≠ 4 := fun q => c15 (ar_eq (q.trans w4.symm)); rcases (show y.toInt = 0 ∨ y.toInt = 1 ∨ y.toInt = 2 by omega) with e | e | e <;> rw [e] <;> first | rfl | (show some (Value.int (σ.2.2 5 j)) = some (Value.int (sBrk σ j)); unfold sBrk; rcases hbr with q | q <;> rw [q] <;> rfl)), rfl⟩)
    · refine e_aload_n dX7_toldSpring_18 rfl rfl ?_
      refine e_iload_n dX7_toldSpring_19 rfl rfl ?_
      refine e_invV (mcY := 0) (msY := 0) (ct_X7_pull hR hv hb hx hj) vX7_pull wM_X7_225 (mo_at G c _ h 0 (by decide)) rfl dX7_toldSpring_20 rfl rfl (Nat.le_of_ble_eq_true rfl) (Nat.le_of_ble_eq_true rfl) ?_
      rintro _ _ ⟨rfl, rfl⟩
      refine e_goto (tgt := 32) dX7_toldSpring_23 (by decide) ?_
      refine e_l2i dX7_toldSpring_32 ?_
      exact e_iret rfl dX7_toldSpring_33 (⟨by first | (rw [c2, w3, ar_6432]; rfl) | (rw [c15, w4, ar_6432]; rfl) | (rw [ar_6432]; have : y.toInt ≠ 3 := fun q => c2 (ar_eq (q.trans w3.symm)); have : y.toInt ≠ 4 := fun q => c15 (ar_eq (q.trans w4.symm)); rcases (show y.toInt = 0 ∨ y.toInt = 1 ∨ y.toInt = 2 by omega) with e | e | e <;> rw [e] <;> first | rfl | (show some (Value.int (σ.2.2 5 j)) = some (Value.int (sBrk σ j)); unfold sBrk; rcases hbr with q | q <;> rw [q] <;> rfl)), rfl⟩)
  · refine e_aload_n dX7_toldSpring_5 rfl rfl ?_
    refine e_iload_n dX7_toldSpring_6 rfl rfl ?_
    refine e_invV (mcY := 0) (msY := 0) (ct_X7_stretch hR hv hb hx hj) vX7_stretch wM_X7_215 (mo_at G c _ h 0 (by decide)) rfl dX7_toldSpring_7 rfl rfl (Nat.le_of_ble_eq_true rfl) (Nat.le_of_ble_eq_true rfl) ?_
    rintro _ _ ⟨rfl, rfl⟩
    refine e_goto (tgt := 32) dX7_toldSpring_10 (by decide) ?_
    refine e_l2i dX7_toldSpring_32 ?_
    exact e_iret rfl dX7_toldSpring_33 (⟨by first | (rw [c2, w3, ar_6432]; rfl) | (rw [c15, w4, ar_6432]; rfl) | (rw [ar_6432]; have : y.toInt ≠ 3 := fun q => c2 (ar_eq (q.trans w3.symm)); have : y.toInt ≠ 4 := fun q => c15 (ar_eq (q.trans w4.symm)); rcases (show y.toInt = 0 ∨ y.toInt = 1 ∨ y.toInt = 2 by omega) with e | e | e <;> rw [e] <;> first | rfl | (show some (Value.int (σ.2.2 5 j)) = some (Value.int (sBrk σ j)); unfold sBrk; rcases hbr with q | q <;> rw [q] <;> rfl)), rfl⟩)
set_option maxRecDepth 20000 in
theorem lp_mcen {J : ev_K} {k n : Nat} (hJ : 2 ≤ J.2.2.1) (hR : RD σ (μ.2.1 0)) (hv : sInv σ) (hk : ∀ u t : Int64, u = accL 0 (sMo σ) (sNm σ) → t = accL 0 (sWe σ) (sNm σ) → ev_V G l mX7_centre J 55 [none, some (.long u), none, some (.long t)] [] (mo G c μ h) k n) : ∀ (r i : Nat) (x : Int32) (u t : Int64), r + i = sNm σ → x.toInt = (i : Int) → u = accL 0 (sMo σ) i → t = accL 0 (sWe σ) i → ev_V G l mX7_centre J 12 [some (.ref c), some (.long u), none, some (.long t), none, some (.int x)] [] (mo G c μ h) k n := by
  intro r
  induction r using Nat.strongRecOn with
  | ind r ih =>
    intro i x u t
    intro hr hx hu ht
    have hn : x.toInt.toNat = i := ar_nat hx
    have hmn := hv.1.nat
    have hmu : (σ.1 0).toInt = sM σ := rfl
    have z0 := ar_0
    have z1 := ar_1
    have zL : (0 : Int64).toInt = 0 := by decide +kernel
    have zc : (0 : Int32).toInt64 = 0 := by decide +kernel
    refine e_iload dX7_centre_12 rfl ?_
    refine e_aload_n dX7_centre_14 rfl rfl ?_
    refine e_invV (mcY := 0) (msY := 0) (ct_X7_masses hR) vX7_masses wM_X7_199 (mo_at G c _ h 0 (by decide)) rfl dX7_centre_15 rfl rfl (Nat.le_of_ble_eq_true rfl) (Nat.le_trans (Nat.le_of_ble_eq_true rfl) hJ) ?_
    rintro _ _ ⟨rfl, rfl⟩
    refine e_icmp_ge (tgt := 55) dX7_centre_18 (by decide) (fun c18 => ?_) (fun c18 => ?_)
    · obtain rfl : i = sNm σ := by omega
      exact ev_lc (hk u t hu ht) ⟨rfl, rfl, trivial⟩
    · refine e_lload_n dX7_centre_21 rfl rfl ?_
      refine e_aload_n dX7_centre_22 rfl rfl ?_
      refine e_iload dX7_centre_23 rfl ?_
      refine e_iconst (v := 0) dX7_centre_25 (by decide) ?_
      refine e_invV (mcY := 0) (msY := 0) (ct_of (j := i) (w := 0) hR hv hx ar_0 (by omega) (by decide)) vX7_of wM_X7_201 (mo_at G c _ h 0 (by decide)) rfl dX7_centre_26 rfl rfl (Nat.le_of_ble_eq_true rfl) (Nat.le_trans (Nat.le_of_ble_eq_true rfl) hJ) ?_
      rintro _ _ ⟨rfl, rfl⟩
      refine e_aload_n dX7_centre_29 rfl rfl ?_
      refine e_iload dX7_centre_30 rfl ?_
      refine e_iconst (v := 1) dX7_centre_32 (by decide) ?_
      refine e_invV (mcY := 0) (msY := 0) (ct_of (j := i) (w := 1) hR hv hx ar_1 (by omega) (by decide)) vX7_of wM_X7_201 (mo_at G c _ h 0 (by decide)) rfl dX7_centre_33 rfl rfl (Nat.le_of_ble_eq_true rfl) (Nat.le_trans (Nat.le_of_ble_eq_true rfl) hJ) ?_
      rintro _ _ ⟨rfl, rfl⟩
      refine e_lmul dX7_centre_36 ?_
      refine e_ladd dX7_centre_37 ?_
      refine e_lstore_n dX7_centre_38 rfl (Nat.le_of_ble_eq_true rfl) ?_
      refine e_lload_n dX7_centre_39 rfl rfl ?_
      refine e_aload_n dX7_centre_40 rfl rfl ?_
      refine e_iload dX7_centre_41 rfl ?_
      refine e_iconst (v := 0) dX7_centre_43 (by decide) ?_
      refine e_invV (mcY := 0) (msY := 0) (ct_of (j := i) (w := 0) hR hv hx ar_0 (by omega) (by decide)) vX7_of wM_X7_201 (mo_at G c _ h 0 (by decide)) rfl dX7_centre_44 rfl rfl (Nat.le_of_ble_eq_true rfl) (Nat.le_trans (Nat.le_of_ble_eq_true rfl) hJ) ?_
      rintro _ _ ⟨rfl, rfl⟩
      refine e_ladd dX7_centre_47 ?_
      refine e_lstore_n dX7_centre_48 rfl (Nat.le_of_ble_eq_true rfl) ?_
      refine e_iinc dX7_centre_49 rfl rfl (Nat.le_of_ble_eq_true rfl) ?_
      refine e_goto (tgt := 12) dX7_centre_52 (by decide) ?_
      refine ih (r - 1) (by omega) (i + 1) _ _ _ (by omega) (ar_inc hx (by omega)) ?_ ?_
      · rw [hu]; rfl
      · rw [ht]; rfl
set_option maxRecDepth 20000 in
theorem ct_X7_centre (hR : RD σ (μ.2.1 0)) (hv : sInv σ) : ev_Dt G l mX7_centre 2 0 0 [.ref c] (mo G c μ h) (fun v a => (∃ r : UInt64, v = some (.double r) ∧ alike64 r (FP.ddiv (FP.l2d (accL 0 (sMo σ) (sNm σ))) (FP.l2d (accL 0 (sWe σ) (sNm σ)))) = true) ∧ a = mo G c (ms_I μ 0 0) h) := by
  refine ev_Dt.of (X := fun _ _ => False) (by decide +kernel) (Nat.le_of_ble_eq_true rfl) ?_
  have hmn := hv.1.nat
  have hmu : (σ.1 0).toInt = sM σ := rfl
  have z0 := ar_0
  have z1 := ar_1
  have zL : (0 : Int64).toInt = 0 := by decide +kernel
  have zc : (0 : Int32).toInt64 = 0 := by decide +kernel
  refine e_aload_n dX7_centre_0 rfl rfl ?_
  refine e_iconst (v := 0) dX7_centre_1 (by decide) ?_
  refine mo_p0 wF_X7_39 dX7_centre_2 ?_
  refine e_lconst (v := 0) dX7_centre_5 (by decide) ?_
  refine e_lstore_n dX7_centre_6 rfl (Nat.le_of_ble_eq_true rfl) ?_
  refine e_lconst (v := 0) dX7_centre_7 (by decide) ?_
  refine e_lstore_n dX7_centre_8 rfl (Nat.le_of_ble_eq_true rfl) ?_
  refine e_iconst (v := 0) dX7_centre_9 (by decide) ?_
  refine e_istore dX7_centre_10 (Nat.le_of_ble_eq_true rfl) ?_
  refine ev_loc (L' := [some (.ref c), some (.long 0), none, some (.long 0), none, some (.int 0)]) ⟨rfl, rfl, rfl, rfl, trivial⟩ ?_
  refine lp_mcen (μ := ms_I μ 0 0) (Nat.le_refl _) hR hv (fun u t hu ht => ?_) (sNm σ) 0 _ _ _ (by omega) ar_0 rfl rfl
  subst hu
  subst ht
  refine e_lload_n dX7_centre_55 rfl rfl ?_
  refine e_l2d dX7_centre_56 ?_
  refine e_lload_n dX7_centre_57 rfl rfl ?_
  refine e_l2d dX7_centre_58 ?_
  refine e_ddiv dX7_centre_59 rfl (fun r hr => ?_)
  exact e_dret rfl dX7_centre_60 ⟨⟨r, rfl, hr⟩, rfl⟩
end M2
