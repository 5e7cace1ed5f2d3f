/-! the law's chain reads itself: nodes, numbers told, accounts, checksum -/
theorem nod_0 {σ : CS} {i : Nat} (h : (σ.2.2 1 i).toInt = 0) : sNodT σ (i + 1) = sNodT σ i := if_pos (sSgn_0 h)
theorem sSgn_ne {σ : CS} {i : Nat} (h : (σ.2.2 1 i).toInt ≠ 0) : sSgn σ i ≠ 0 := by
  by_cases c : 0 < (σ.2.2 1 i).toInt
  · rw [sSgn_p c]; decide
  · rw [sSgn_n (by omega)]; decide
theorem nod_n {σ : CS} {i : Nat} (h : (σ.2.2 1 i).toInt ≠ 0) (h2 : (sNodT σ i).2 = 0) : sNodT σ (i + 1) = ((sNodT σ i).1, sSgn σ i) := by
  have e : sNodT σ (i + 1) = ((sNodT σ i).1 + (if (sNodT σ i).2 = -sSgn σ i then 1 else 0), sSgn σ i) := if_neg (sSgn_ne h)
  rw [e, h2, if_neg, Int32.add_zero]
  by_cases c : 0 < (σ.2.2 1 i).toInt
  · rw [sSgn_p c]; decide
  · rw [sSgn_n (by omega)]; decide
theorem nod_r {σ : CS} {i j : Nat} (h : (σ.2.2 1 i).toInt ≠ 0) (h2 : (sNodT σ i).2 = sSgn σ j) (h3 : (σ.2.2 1 j).toInt ≠ 0) {d : Int32} (hd : d = if (0 < (σ.2.2 1 j).toInt ↔ 0 < (σ.2.2 1 i).toInt) then 0 else 1) : sNodT σ (i + 1) = ((sNodT σ i).1 + d, sSgn σ i) := by
  have e : sNodT σ (i + 1) = ((sNodT σ i).1 + (if (sNodT σ i).2 = -sSgn σ i then 1 else 0), sSgn σ i) := if_neg (sSgn_ne h)
  rw [e, h2, hd]
  by_cases c : 0 < (σ.2.2 1 i).toInt <;> by_cases c2 : 0 < (σ.2.2 1 j).toInt
  · rw [sSgn_p c, sSgn_p c2, if_neg (by decide), if_pos (by simp [c, c2])]
  · rw [sSgn_p c, sSgn_n (j := j) (by omega), if_pos rfl, if_neg (by simp [c, c2])]
  · rw [sSgn_n (j := i) (by omega), sSgn_p c2, if_pos (by decide), if_neg (by simp [c, c2])]
  · rw [sSgn_n (j := i) (by omega), sSgn_n (j := j) (by omega), if_neg (by decide), if_pos (by simp [c, c2])]
theorem ifn1 {a b : Int} (h : 0 < a) (h2 : b ≤ 0) : (1 : Int32) = if (0 < a ↔ 0 < b) then 0 else 1 := (if_neg (by omega)).symm
theorem ifn2 {a b : Int} (h : a ≤ 0) (h2 : 0 < b) : (1 : Int32) = if (0 < a ↔ 0 < b) then 0 else 1 := (if_neg (by omega)).symm
theorem nod_z {σ : CS} {i : Nat} {y s : Int32} (hy : y = (sNodT σ i).1) (nd : sNodT σ (i + 1) = ((sNodT σ i).1 + 0, s)) : y = (sNodT σ (i + 1)).1 := by rw [nd, hy, Int32.add_zero]
theorem nod_i {σ : CS} {i : Nat} {y s : Int32} (hy : y = (sNodT σ i).1) (nd : sNodT σ (i + 1) = ((sNodT σ i).1 + 1, s)) : y + Int32.ofInt 1 = (sNodT σ (i + 1)).1 := by rw [nd, hy, ar_i1]
/-- what a sum is after i masses -/
def acM (σ : CS) (w i : Nat) : Int64 := if w = 0 then accL 0 (sMomL σ) i else if w = 6 then accL 0 (sEm σ) i else 0
def acS (σ : CS) (w i : Nat) : Int64 := if w = 7 then accL 0 (sEs σ) i else acM σ w (sNm σ)
theorem acM_0 (σ : CS) (w : Nat) : 0 = acM σ w 0 := by
  unfold acM
  by_cases c : w = 0
  · rw [if_pos c]; rfl
  · rw [if_neg c]
    by_cases c2 : w = 6
    · rw [if_pos c2]; rfl
    · rw [if_neg c2]
theorem acS_0 (σ : CS) (w : Nat) : acM σ w (sNm σ) = acS σ w 0 := by
  unfold acS
  by_cases c : w = 7
  · rw [if_pos c]; unfold acM; rw [if_neg (by omega), if_neg (by omega)]; rfl
  · rw [if_neg c]
theorem sAcc_l (σ : CS) {w : Nat} (hw : w < 8) : sAcc σ w = if 1 ≤ w ∧ w ≤ 5 then acJ σ w else acS σ w (sNm σ + 1) := by
  rcases (show w = 0 ∨ w = 1 ∨ w = 2 ∨ w = 3 ∨ w = 4 ∨ w = 5 ∨ w = 6 ∨ w = 7 by omega) with rfl | rfl | rfl | rfl | rfl | rfl | rfl | rfl <;> rfl
theorem sEm_ne {σ : CS} (hw : sWt σ) {j : Nat} (hj : j < sNm σ) : ¬ (2 * (σ.2.2 0 j).toInt64 = 0) := by
  intro e
  have h := hw j hj
  have e2 := congrArg Int64.toInt e
  have t2 : (2 : Int64).toInt = 2 := by decide +kernel
  have t0 : (0 : Int64).toInt = 0 := by decide +kernel
  rw [ar_mulL (by rw [t2, ar_64]; omega) (by rw [t2, ar_64]; omega), t2, ar_64, t0] at e2
  omega
section LRE
variable {G : ev_G} {l : Launch} {a : ev_H} {A : Nat → Nat} {σ : CS} {nI : Nat} {mI : Nat → TI} {j w : Nat} {x y u : Int32} {z : Int64}
set_option maxRecDepth 20000 in
theorem lp_nod {J : ev_K} {k n : Nat} (hJ : 0 ≤ J.2.2.1) (hC : LC G a A σ nI mI) (hv : sInv σ) (hk : ∀ y : Int32, y = (sNodT σ (sNm σ)).1 → ev_V G l mX7_nodes J 90 [none, some (.int y)] [] a k n) : ∀ (r i : Nat) (x y : Int32) (wv : Value), r + i = sNm σ → x.toInt = (i : Int) → y = (sNodT σ i).1 → ((wv = .null ∧ (sNodT σ i).2 = 0) ∨ ∃ j, j < i ∧ wv = .ref (A (10 + j)) ∧ (sNodT σ i).2 = sSgn σ j ∧ (σ.2.2 1 j).toInt ≠ 0) → ev_V G l mX7_nodes J 16 [some (.ref (A 0)), some (.int y), some wv, some (.ref (A 1)), some (.int (σ.1 0)), some (.int x)] [] a k n := by
  intro r
  induction r using Nat.strongRecOn with
  | ind r ih =>
    intro i x y wv hr hx hy hw
    have hn : x.toInt.toNat = i := ar_nat hx
    have hmn := hv.1.nat
    have hmu : (σ.1 0).toInt = (sNm σ : Int) := hmn.1.symm
    have hmu2 : (σ.1 0).toInt = sM σ := rfl
    have z0 := ar_0
    have z1 := ar_1
    have zL : (0 : Int64).toInt = 0 := by decide +kernel
    rcases hw with ⟨rfl, hs⟩ | ⟨j, hj, rfl, hs, hs2⟩
    · refine e_iload dX7_nodes_16 rfl ?_
      refine e_iload dX7_nodes_18 rfl ?_
      refine e_icmp_ge (tgt := 90) dX7_nodes_20 (by decide) (fun c20 => ?_) (fun c20 => ?_)
      · obtain rfl : i = sNm σ := by omega
        exact ev_lc (hk y hy) ⟨rfl, trivial⟩
      · have hi : i < sNm σ := by omega
        refine e_aload_n dX7_nodes_23 rfl rfl ?_
        refine e_iload dX7_nodes_24 rfl ?_
        refine lc_q1 hC hx hi dX7_nodes_26 ?_
        refine e_astore dX7_nodes_27 (Nat.le_of_ble_eq_true rfl) ?_
        refine e_aload dX7_nodes_29 rfl ?_
        refine lc_m1 hC hi wF_X7_67 dX7_nodes_31 ?_
        refine e_lconst (v := 0) dX7_nodes_34 (by decide) ?_
        refine e_lcmp dX7_nodes_35 ?_
        refine e_if_ne (tgt := 42) dX7_nodes_36 (by decide) (fun c36 => ?_) (fun c36 => ?_)
        · have d36 := ar_dl0 c36
          refine e_aload_nN dX7_nodes_42 rfl rfl ?_
          refine e_ifnullN (tgt := 81) dX7_nodes_43 (by decide) ?_
          refine e_aload dX7_nodes_81 rfl ?_
          refine e_astore_n dX7_nodes_83 rfl (Nat.le_of_ble_eq_true rfl) ?_
          refine e_iinc dX7_nodes_84 rfl rfl (Nat.le_of_ble_eq_true rfl) ?_
          refine e_goto (tgt := 16) dX7_nodes_87 (by decide) ?_
          have hr1 : r - 1 < r := by omega
          have hr2 : r - 1 + (i + 1) = sNm σ := by omega
          have hx2 := ar_inc hx (show i < 2147483647 by omega)
          first
            | exact ev_lc (ih (r - 1) hr1 (i + 1) _ _ _ hr2 hx2 (hy.trans (congrArg Prod.fst (nod_0 d36)).symm) (Or.inl ⟨rfl, (congrArg Prod.snd (nod_0 d36)).trans hs⟩)) ⟨rfl, rfl, rfl, rfl, rfl, rfl, trivial⟩
            | exact ev_lc (ih (r - 1) hr1 (i + 1) _ _ _ hr2 hx2 (hy.trans (congrArg Prod.fst (nod_n d36 hs)).symm) (Or.inr ⟨i, Nat.lt_succ_self i, rfl, congrArg Prod.snd (nod_n d36 hs), d36⟩)) ⟨rfl, rfl, rfl, rfl, rfl, rfl, trivial⟩
        · have d36 := ar_de0 c36
          refine e_goto (tgt := 84) dX7_nodes_39 (by decide) ?_
          refine e_iinc dX7_nodes_84 rfl rfl (Nat.le_of_ble_eq_true rfl) ?_
          refine e_goto (tgt := 16) dX7_nodes_87 (by decide) ?_
          have hr1 : r - 1 < r := by omega
          have hr2 : r - 1 + (i + 1) = sNm σ := by omega
          have hx2 := ar_inc hx (show i < 2147483647 by omega)
          first
            | exact ev_lc (ih (r - 1) hr1 (i + 1) _ _ _ hr2 hx2 (hy.trans (congrArg Prod.fst (nod_0 d36)).symm) (Or.inl ⟨rfl, (congrArg Prod.snd (nod_0 d36)).trans hs⟩)) ⟨rfl, rfl, rfl, rfl, rfl, rfl, trivial⟩
            | exact ev_lc (ih (r - 1) hr1 (i + 1) _ _ _ hr2 hx2 (hy.trans (congrArg Prod.fst (nod_n d36 hs)).symm) (Or.inr ⟨i, Nat.lt_succ_self i, rfl, congrArg Prod.snd (nod_n d36 hs), d36⟩)) ⟨rfl, rfl, rfl, rfl, rfl, rfl, trivial⟩
    · refine e_iload dX7_nodes_16 rfl ?_
      refine e_iload dX7_nodes_18 rfl ?_
      refine e_icmp_ge (tgt := 90) dX7_nodes_20 (by decide) (fun c20 => ?_) (fun c20 => ?_)
      · obtain rfl : i = sNm σ := by omega
        exact ev_lc (hk y hy) ⟨rfl, trivial⟩
      · have hi : i < sNm σ := by omega
        refine e_aload_n dX7_nodes_23 rfl rfl ?_
        refine e_iload dX7_nodes_24 rfl ?_
        refine lc_q1 hC hx hi dX7_nodes_26 ?_
        refine e_astore dX7_nodes_27 (Nat.le_of_ble_eq_true rfl) ?_
        refine e_aload dX7_nodes_29 rfl ?_
        refine lc_m1 hC hi wF_X7_67 dX7_nodes_31 ?_
        refine e_lconst (v := 0) dX7_nodes_34 (by decide) ?_
        refine e_lcmp dX7_nodes_35 ?_
        refine e_if_ne (tgt := 42) dX7_nodes_36 (by decide) (fun c36 => ?_) (fun c36 => ?_)
        · have d36 := ar_dl0 c36
          refine e_aload_n dX7_nodes_42 rfl rfl ?_
          refine e_ifnull dX7_nodes_43 ?_
          refine e_aload_n dX7_nodes_46 rfl rfl ?_
          refine lc_m1 hC (show j < sNm σ by omega) wF_X7_67 dX7_nodes_47 ?_
          refine e_lconst (v := 0) dX7_nodes_50 (by decide) ?_
          refine e_lcmp dX7_nodes_51 ?_
          refine e_if_le (tgt := 59) dX7_nodes_52 (by decide) (fun c52 => ?_) (fun c52 => ?_)
          · have p52 := ar_dle c52
            refine e_iconst (v := 0) dX7_nodes_59 (by decide) ?_
            refine e_aload dX7_nodes_60 rfl ?_
            refine lc_m1 hC hi wF_X7_67 dX7_nodes_62 ?_
            refine e_lconst (v := 0) dX7_nodes_65 (by decide) ?_
            refine e_lcmp dX7_nodes_66 ?_
            refine e_if_le (tgt := 74) dX7_nodes_67 (by decide) (fun c67 => ?_) (fun c67 => ?_)
            · have p67 := ar_dle c67
              refine e_iconst (v := 0) dX7_nodes_74 (by decide) ?_
              refine e_icmp_eq (tgt := 81) dX7_nodes_75 (by decide) (fun c75 => ?_) (fun c75 => ?_)
              · have nd : sNodT σ (i + 1) = ((sNodT σ i).1 + 0, sSgn σ i) := by
                  first
                    | exact absurd c75 (by decide)
                    | exact nod_r d36 hs hs2 (if_pos (iff_of_true p52 p67)).symm
                    | exact nod_r d36 hs hs2 (if_pos (iff_of_false (Int.not_lt.mpr p52) (Int.not_lt.mpr p67))).symm
                refine e_aload dX7_nodes_81 rfl ?_
                refine e_astore_n dX7_nodes_83 rfl (Nat.le_of_ble_eq_true rfl) ?_
                refine e_iinc dX7_nodes_84 rfl rfl (Nat.le_of_ble_eq_true rfl) ?_
                refine e_goto (tgt := 16) dX7_nodes_87 (by decide) ?_
                have hr1 : r - 1 < r := by omega
                have hr2 : r - 1 + (i + 1) = sNm σ := by omega
                have hx2 := ar_inc hx (show i < 2147483647 by omega)
                first
                  | exact ev_lc (ih (r - 1) hr1 (i + 1) _ _ _ hr2 hx2 (hy.trans (congrArg Prod.fst (nod_0 d36)).symm) (Or.inr ⟨j, Nat.lt_succ_of_lt hj, rfl, (congrArg Prod.snd (nod_0 d36)).trans hs, hs2⟩)) ⟨rfl, rfl, rfl, rfl, rfl, rfl, trivial⟩
                  | exact ev_lc (ih (r - 1) hr1 (i + 1) _ _ _ hr2 hx2 (nod_z hy nd) (Or.inr ⟨i, Nat.lt_succ_self i, rfl, congrArg Prod.snd nd, d36⟩)) ⟨rfl, rfl, rfl, rfl, rfl, rfl, trivial⟩
                  | exact ev_lc (ih (r - 1) hr1 (i + 1) _ _ _ hr2 hx2 (nod_i hy nd) (Or.inr ⟨i, Nat.lt_succ_self i, rfl, congrArg Prod.snd nd, d36⟩)) ⟨rfl, rfl, rfl, rfl, rfl, rfl, trivial⟩
              · have nd : sNodT σ (i + 1) = ((sNodT σ i).1 + 1, sSgn σ i) := by
                  first
                    | exact absurd rfl c75
                    | exact nod_r d36 hs hs2 (ifn1 p52 p67)
                    | exact nod_r d36 hs hs2 (ifn2 p52 p67)
                refine e_iinc dX7_nodes_78 rfl rfl (Nat.le_of_ble_eq_true rfl) ?_
                refine e_aload dX7_nodes_81 rfl ?_
                refine e_astore_n dX7_nodes_83 rfl (Nat.le_of_ble_eq_true rfl) ?_
                refine e_iinc dX7_nodes_84 rfl rfl (Nat.le_of_ble_eq_true rfl) ?_
                refine e_goto (tgt := 16) dX7_nodes_87 (by decide) ?_
                have hr1 : r - 1 < r := by omega
                have hr2 : r - 1 + (i + 1) = sNm σ := by omega
                have hx2 := ar_inc hx (show i < 2147483647 by omega)
                first
                  | exact ev_lc (ih (r - 1) hr1 (i + 1) _ _ _ hr2 hx2 (hy.trans (congrArg Prod.fst (nod_0 d36)).symm) (Or.inr ⟨j, Nat.lt_succ_of_lt hj, rfl, (congrArg Prod.snd (nod_0 d36)).trans hs, hs2⟩)) ⟨rfl, rfl, rfl, rfl, rfl, rfl, trivial⟩
                  | exact ev_lc (ih (r - 1) hr1 (i + 1) _ _ _ hr2 hx2 (nod_z hy nd) (Or.inr ⟨i, Nat.lt_succ_self i, rfl, congrArg Prod.snd nd, d36⟩)) ⟨rfl, rfl, rfl, rfl, rfl, rfl, trivial⟩
                  | exact ev_lc (ih (r - 1) hr1 (i + 1) _ _ _ hr2 hx2 (nod_i hy nd) (Or.inr ⟨i, Nat.lt_succ_self i, rfl, congrArg Prod.snd nd, d36⟩)) ⟨rfl, rfl, rfl, rfl, rfl, rfl, trivial⟩
            · have p67 := ar_dgt c67
              refine e_iconst (v := 1) dX7_nodes_70 (by decide) ?_
              refine e_goto (tgt := 75) dX7_nodes_71 (by decide) ?_
              refine e_icmp_eq (tgt := 81) dX7_nodes_75 (by decide) (fun c75 => ?_) (fun c75 => ?_)
              · have nd : sNodT σ (i + 1) = ((sNodT σ i).1 + 0, sSgn σ i) := by
                  first
                    | exact absurd c75 (by decide)
                    | exact nod_r d36 hs hs2 (if_pos (iff_of_true p52 p67)).symm
                    | exact nod_r d36 hs hs2 (if_pos (iff_of_false (Int.not_lt.mpr p52) (Int.not_lt.mpr p67))).symm
                refine e_aload dX7_nodes_81 rfl ?_
                refine e_astore_n dX7_nodes_83 rfl (Nat.le_of_ble_eq_true rfl) ?_
                refine e_iinc dX7_nodes_84 rfl rfl (Nat.le_of_ble_eq_true rfl) ?_
                refine e_goto (tgt := 16) dX7_nodes_87 (by decide) ?_
                have hr1 : r - 1 < r := by omega
                have hr2 : r - 1 + (i + 1) = sNm σ := by omega
                have hx2 := ar_inc hx (show i < 2147483647 by omega)
                first
                  | exact ev_lc (ih (r - 1) hr1 (i + 1) _ _ _ hr2 hx2 (hy.trans (congrArg Prod.fst (nod_0 d36)).symm) (Or.inr ⟨j, Nat.lt_succ_of_lt hj, rfl, (congrArg Prod.snd (nod_0 d36)).trans hs, hs2⟩)) ⟨rfl, rfl, rfl, rfl, rfl, rfl, trivial⟩
                  | exact ev_lc (ih (r - 1) hr1 (i + 1) _ _ _ hr2 hx2 (nod_z hy nd) (Or.inr ⟨i, Nat.lt_succ_self i, rfl, congrArg Prod.snd nd, d36⟩)) ⟨rfl, rfl, rfl, rfl, rfl, rfl, trivial⟩
                  | exact ev_lc (ih (r - 1) hr1 (i + 1) _ _ _ hr2 hx2 (nod_i hy nd) (Or.inr ⟨i, Nat.lt_succ_self i, rfl, congrArg Prod.snd nd, d36⟩)) ⟨rfl, rfl, rfl, rfl, rfl, rfl, trivial⟩
              · have nd : sNodT σ (i + 1) = ((sNodT σ i).1 + 1, sSgn σ i) := by
                  first
                    | exact absurd rfl c75
                    | exact nod_r d36 hs hs2 (ifn1 p52 p67)
                    | exact nod_r d36 hs hs2 (ifn2 p52 p67)
                refine e_iinc dX7_nodes_78 rfl rfl (Nat.le_of_ble_eq_true rfl) ?_
                refine e_aload dX7_nodes_81 rfl ?_
                refine e_astore_n dX7_nodes_83 rfl (Nat.le_of_ble_eq_true rfl) ?_
                refine e_iinc dX7_nodes_84 rfl rfl (Nat.le_of_ble_eq_true rfl) ?_
                refine e_goto (tgt := 16) dX7_nodes_87 (by decide) ?_
                have hr1 : r - 1 < r := by omega
                have hr2 : r - 1 + (i + 1) = sNm σ := by omega
                have hx2 := ar_inc hx (show i < 2147483647 by omega)
                first
                  | exact ev_lc (ih (r - 1) hr1 (i + 1) _ _ _ hr2 hx2 (hy.trans (congrArg Prod.fst (nod_0 d36)).symm) (Or.inr ⟨j, Nat.lt_succ_of_lt hj, rfl, (congrArg Prod.snd (nod_0 d36)).trans hs, hs2⟩)) ⟨rfl, rfl, rfl, rfl, rfl, rfl, trivial⟩
                  | exact ev_lc (ih (r - 1) hr1 (i + 1) _ _ _ hr2 hx2 (nod_z hy nd) (Or.inr ⟨i, Nat.lt_succ_self i, rfl, congrArg Prod.snd nd, d36⟩)) ⟨rfl, rfl, rfl, rfl, rfl, rfl, trivial⟩
                  | exact ev_lc (ih (r - 1) hr1 (i + 1) _ _ _ hr2 hx2 (nod_i hy nd) (Or.inr ⟨i, Nat.lt_succ_self i, rfl, congrArg Prod.snd nd, d36⟩)) ⟨rfl, rfl, rfl, rfl, rfl, rfl, trivial⟩
          · have p52 := ar_dgt c52
            refine e_iconst (v := 1) dX7_nodes_55 (by decide) ?_
            refine e_goto (tgt := 60) dX7_nodes_56 (by decide) ?_
            refine e_aload dX7_nodes_60 rfl ?_
            refine lc_m1 hC hi wF_X7_67 dX7_nodes_62 ?_
            refine e_lconst (v := 0) dX7_nodes_65 (by decide) ?_
            refine e_lcmp dX7_nodes_66 ?_
            refine e_if_le (tgt := 74) dX7_nodes_67 (by decide) (fun c67 => ?_) (fun c67 => ?_)
            · have p67 := ar_dle c67
              refine e_iconst (v := 0) dX7_nodes_74 (by decide) ?_
              refine e_icmp_eq (tgt := 81) dX7_nodes_75 (by decide) (fun c75 => ?_) (fun c75 => ?_)
              · have nd : sNodT σ (i + 1) = ((sNodT σ i).1 + 0, sSgn σ i) := by
                  first
                    | exact absurd c75 (by decide)
                    | exact nod_r d36 hs hs2 (if_pos (iff_of_true p52 p67)).symm
                    | exact nod_r d36 hs hs2 (if_pos (iff_of_false (Int.not_lt.mpr p52) (Int.not_lt.mpr p67))).symm
                refine e_aload dX7_nodes_81 rfl ?_
                refine e_astore_n dX7_nodes_83 rfl (Nat.le_of_ble_eq_true rfl) ?_
                refine e_iinc dX7_nodes_84 rfl rfl (Nat.le_of_ble_eq_true rfl) ?_
                refine e_goto (tgt := 16) dX7_nodes_87 (by decide) ?_
                have hr1 : r - 1 < r := by omega
                have hr2 : r - 1 + (i + 1) = sNm σ := by omega
                have hx2 := ar_inc hx (show i < 2147483647 by omega)
                first
                  | exact ev_lc (ih (r - 1) hr1 (i + 1) _ _ _ hr2 hx2 (hy.trans (congrArg Prod.fst (nod_0 d36)).symm) (Or.inr ⟨j, Nat.lt_succ_of_lt hj, rfl, (congrArg Prod.snd (nod_0 d36)).trans hs, hs2⟩)) ⟨rfl, rfl, rfl, rfl, rfl, rfl, trivial⟩
                  | exact ev_lc (ih (r - 1) hr1 (i + 1) _ _ _ hr2 hx2 (nod_z hy nd) (Or.inr ⟨i, Nat.lt_succ_self i, rfl, congrArg Prod.snd nd, d36⟩)) ⟨rfl, rfl, rfl, rfl, rfl, rfl, trivial⟩
                  | exact ev_lc (ih (r - 1) hr1 (i + 1) _ _ _ hr2 hx2 (nod_i hy nd) (Or.inr ⟨i, Nat.lt_succ_self i, rfl, congrArg Prod.snd nd, d36⟩)) ⟨rfl, rfl, rfl, rfl, rfl, rfl, trivial⟩
              · have nd : sNodT σ (i + 1) = ((sNodT σ i).1 + 1, sSgn σ i) := by
                  first
                    | exact absurd rfl c75
                    | exact nod_r d36 hs hs2 (ifn1 p52 p67)
                    | exact nod_r d36 hs hs2 (ifn2 p52 p67)
                refine e_iinc dX7_nodes_78 rfl rfl (Nat.le_of_ble_eq_true rfl) ?_
                refine e_aload dX7_nodes_81 rfl ?_
                refine e_astore_n dX7_nodes_83 rfl (Nat.le_of_ble_eq_true rfl) ?_
                refine e_iinc dX7_nodes_84 rfl rfl (Nat.le_of_ble_eq_true rfl) ?_
                refine e_goto (tgt := 16) dX7_nodes_87 (by decide) ?_
                have hr1 : r - 1 < r := by omega
                have hr2 : r - 1 + (i + 1) = sNm σ := by omega
                have hx2 := ar_inc hx (show i < 2147483647 by omega)
                first
                  | exact ev_lc (ih (r - 1) hr1 (i + 1) _ _ _ hr2 hx2 (hy.trans (congrArg Prod.fst (nod_0 d36)).symm) (Or.inr ⟨j, Nat.lt_succ_of_lt hj, rfl, (congrArg Prod.snd (nod_0 d36)).trans hs, hs2⟩)) ⟨rfl, rfl, rfl, rfl, rfl, rfl, trivial⟩
                  | exact ev_lc (ih (r - 1) hr1 (i + 1) _ _ _ hr2 hx2 (nod_z hy nd) (Or.inr ⟨i, Nat.lt_succ_self i, rfl, congrArg Prod.snd nd, d36⟩)) ⟨rfl, rfl, rfl, rfl, rfl, rfl, trivial⟩
                  | exact ev_lc (ih (r - 1) hr1 (i + 1) _ _ _ hr2 hx2 (nod_i hy nd) (Or.inr ⟨i, Nat.lt_succ_self i, rfl, congrArg Prod.snd nd, d36⟩)) ⟨rfl, rfl, rfl, rfl, rfl, rfl, trivial⟩
            · have p67 := ar_dgt c67
              refine e_iconst (v := 1) dX7_nodes_70 (by decide) ?_
              refine e_goto (tgt := 75) dX7_nodes_71 (by decide) ?_
              refine e_icmp_eq (tgt := 81) dX7_nodes_75 (by decide) (fun c75 => ?_) (fun c75 => ?_)
              · have nd : sNodT σ (i + 1) = ((sNodT σ i).1 + 0, sSgn σ i) := by
                  first
                    | exact absurd c75 (by decide)
                    | exact nod_r d36 hs hs2 (if_pos (iff_of_true p52 p67)).symm
                    | exact nod_r d36 hs hs2 (if_pos (iff_of_false (Int.not_lt.mpr p52) (Int.not_lt.mpr p67))).symm
                refine e_aload dX7_nodes_81 rfl ?_
                refine e_astore_n dX7_nodes_83 rfl (Nat.le_of_ble_eq_true rfl) ?_
                refine e_iinc dX7_nodes_84 rfl rfl (Nat.le_of_ble_eq_true rfl) ?_
                refine e_goto (tgt := 16) dX7_nodes_87 (by decide) ?_
                have hr1 : r - 1 < r := by omega
                have hr2 : r - 1 + (i + 1) = sNm σ := by omega
                have hx2 := ar_inc hx (show i < 2147483647 by omega)
                first
                  | exact ev_lc (ih (r - 1) hr1 (i + 1) _ _ _ hr2 hx2 (hy.trans (congrArg Prod.fst (nod_0 d36)).symm) (Or.inr ⟨j, Nat.lt_succ_of_lt hj, rfl, (congrArg Prod.snd (nod_0 d36)).trans hs, hs2⟩)) ⟨rfl, rfl, rfl, rfl, rfl, rfl, trivial⟩
                  | exact ev_lc (ih (r - 1) hr1 (i + 1) _ _ _ hr2 hx2 (nod_z hy nd) (Or.inr ⟨i, Nat.lt_succ_self i, rfl, congrArg Prod.snd nd, d36⟩)) ⟨rfl, rfl, rfl, rfl, rfl, rfl, trivial⟩
                  | exact ev_lc (ih (r - 1) hr1 (i + 1) _ _ _ hr2 hx2 (nod_i hy nd) (Or.inr ⟨i, Nat.lt_succ_self i, rfl, congrArg Prod.snd nd, d36⟩)) ⟨rfl, rfl, rfl, rfl, rfl, rfl, trivial⟩
              · have nd : sNodT σ (i + 1) = ((sNodT σ i).1 + 1, sSgn σ i) := by
                  first
                    | exact absurd rfl c75
                    | exact nod_r d36 hs hs2 (ifn1 p52 p67)
                    | exact nod_r d36 hs hs2 (ifn2 p52 p67)
                refine e_iinc dX7_nodes_78 rfl rfl (Nat.le_of_ble_eq_true rfl) ?_
                refine e_aload dX7_nodes_81 rfl ?_
                refine e_astore_n dX7_nodes_83 rfl (Nat.le_of_ble_eq_true rfl) ?_
                refine e_iinc dX7_nodes_84 rfl rfl (Nat.le_of_ble_eq_true rfl) ?_
                refine e_goto (tgt := 16) dX7_nodes_87 (by decide) ?_
                have hr1 : r - 1 < r := by omega
                have hr2 : r - 1 + (i + 1) = sNm σ := by omega
                have hx2 := ar_inc hx (show i < 2147483647 by omega)
                first
                  | exact ev_lc (ih (r - 1) hr1 (i + 1) _ _ _ hr2 hx2 (hy.trans (congrArg Prod.fst (nod_0 d36)).symm) (Or.inr ⟨j, Nat.lt_succ_of_lt hj, rfl, (congrArg Prod.snd (nod_0 d36)).trans hs, hs2⟩)) ⟨rfl, rfl, rfl, rfl, rfl, rfl, trivial⟩
                  | exact ev_lc (ih (r - 1) hr1 (i + 1) _ _ _ hr2 hx2 (nod_z hy nd) (Or.inr ⟨i, Nat.lt_succ_self i, rfl, congrArg Prod.snd nd, d36⟩)) ⟨rfl, rfl, rfl, rfl, rfl, rfl, trivial⟩
                  | exact ev_lc (ih (r - 1) hr1 (i + 1) _ _ _ hr2 hx2 (nod_i hy nd) (Or.inr ⟨i, Nat.lt_succ_self i, rfl, congrArg Prod.snd nd, d36⟩)) ⟨rfl, rfl, rfl, rfl, rfl, rfl, trivial⟩
        · have d36 := ar_de0 c36
          refine e_goto (tgt := 84) dX7_nodes_39 (by decide) ?_
          refine e_iinc dX7_nodes_84 rfl rfl (Nat.le_of_ble_eq_true rfl) ?_
          refine e_goto (tgt := 16) dX7_nodes_87 (by decide) ?_
          have hr1 : r - 1 < r := by omega
          have hr2 : r - 1 + (i + 1) = sNm σ := by omega
          have hx2 := ar_inc hx (show i < 2147483647 by omega)
          first
            | exact ev_lc (ih (r - 1) hr1 (i + 1) _ _ _ hr2 hx2 (hy.trans (congrArg Prod.fst (nod_0 d36)).symm) (Or.inr ⟨j, Nat.lt_succ_of_lt hj, rfl, (congrArg Prod.snd (nod_0 d36)).trans hs, hs2⟩)) ⟨rfl, rfl, rfl, rfl, rfl, rfl, trivial⟩
            | exact ev_lc (ih (r - 1) hr1 (i + 1) _ _ _ hr2 hx2 (nod_z hy nd) (Or.inr ⟨i, Nat.lt_succ_self i, rfl, congrArg Prod.snd nd, d36⟩)) ⟨rfl, rfl, rfl, rfl, rfl, rfl, trivial⟩
            | exact ev_lc (ih (r - 1) hr1 (i + 1) _ _ _ hr2 hx2 (nod_i hy nd) (Or.inr ⟨i, Nat.lt_succ_self i, rfl, congrArg Prod.snd nd, d36⟩)) ⟨rfl, rfl, rfl, rfl, rfl, rfl, trivial⟩
set_option maxRecDepth 20000 in
theorem ct_X7_nodes (hC : LC G a A σ nI mI) (hv : sInv σ) : ev_Ct G l mX7_nodes 0 0 0 [.ref (A 0)] a (fun v b => v = some (.int (sNod σ)) ∧ b = a) (fun _ _ => False) := by
  refine ev_Ct.of (by decide +kernel) (Nat.le_of_ble_eq_true rfl) ?_
  have hmn := hv.1.nat
  have hmu : (σ.1 0).toInt = (sNm σ : Int) := hmn.1.symm
  have hmu2 : (σ.1 0).toInt = sM σ := rfl
  have z0 := ar_0
  have z1 := ar_1
  refine e_iconst (v := 0) dX7_nodes_0 (by decide) ?_
  refine e_istore_n dX7_nodes_1 rfl (Nat.le_of_ble_eq_true rfl) ?_
  refine e_null dX7_nodes_2 ?_
  refine e_astore_nN dX7_nodes_3 rfl (Nat.le_of_ble_eq_true rfl) ?_
  refine e_aload_n dX7_nodes_4 rfl rfl ?_
  refine lc_g4 hC wF_X7_10 dX7_nodes_5 ?_
  refine e_astore_n dX7_nodes_8 rfl (Nat.le_of_ble_eq_true rfl) ?_
  refine e_aload_n dX7_nodes_9 rfl rfl ?_
  refine lc_n1 hC hv dX7_nodes_10 ?_
  refine e_istore dX7_nodes_11 (Nat.le_of_ble_eq_true rfl) ?_
  refine e_iconst (v := 0) dX7_nodes_13 (by decide) ?_
  refine e_istore dX7_nodes_14 (Nat.le_of_ble_eq_true rfl) ?_
  refine ev_loc (L' := [some (.ref (A 0)), some (.int 0), some .null, some (.ref (A 1)), some (.int (σ.1 0)), some (.int 0)]) ⟨rfl, rfl, rfl, rfl, rfl, rfl, trivial⟩ ?_
  refine lp_nod (Nat.le_refl _) hC hv (fun y hy => ?_) (sNm σ) 0 _ _ _ (by omega) ar_0 rfl (Or.inl ⟨rfl, rfl⟩)
  subst hy
  refine e_iload_n dX7_nodes_90 rfl rfl ?_
  exact e_iret rfl dX7_nodes_91 (⟨rfl, rfl⟩)
set_option maxRecDepth 20000 in
theorem lp_told {J : ev_K} {k n : Nat} (hJ : 1 ≤ J.2.2.1) (hC : LC G a A σ nI mI) (hv : sInv σ) (hb : RBs σ) {w0 : Int32} (hk : ∀ y u : Int32, y = acc32 0 (sRest σ) (sNm σ) → u.toInt = (sFarT σ (sNm σ) : Int) → ev_V G l mX7_told J 73 [some (.ref (A 0)), some (.int w0), some (.int y), some (.int u)] [] a k n) : ∀ (r i : Nat) (x : Int32) (y u : Int32), r + i = sNm σ → x.toInt = (i : Int) → y = acc32 0 (sRest σ) i → u.toInt = (sFarT σ i : Int) → ev_V G l mX7_told J 7 [some (.ref (A 0)), some (.int w0), some (.int y), some (.int u), some (.int x)] [] a k n := by
  intro r
  induction r using Nat.strongRecOn with
  | ind r ih =>
    intro i x y u hr hx hy hu
    have hn : x.toInt.toNat = i := ar_nat hx
    have hmn := hv.1.nat
    have hmu : (σ.1 0).toInt = (sNm σ : Int) := hmn.1.symm
    have hmu2 : (σ.1 0).toInt = sM σ := rfl
    have z0 := ar_0
    have z1 := ar_1
    have hF := sFarT_le σ i
    have hb1 := hb.2.2.1
    refine e_iload dX7_told_7 rfl ?_
    refine e_aload_n dX7_told_9 rfl rfl ?_
    refine lc_g4 hC wF_X7_10 dX7_told_10 ?_
    refine lc_n1 hC hv dX7_told_13 ?_
    refine e_icmp_ge (tgt := 73) dX7_told_14 (by decide) (fun c14 => ?_) (fun c14 => ?_)
    · obtain rfl : i = sNm σ := by omega
      exact ev_lc (hk y u hy hu) ⟨rfl, rfl, rfl, rfl, trivial⟩
    · have hi : i < sNm σ := by omega
      have hFm : sFarT σ i < sNm σ := by omega
      have b1 := hb1 i hi
      have b2 := hb1 _ hFm
      refine e_aload_n dX7_told_17 rfl rfl ?_
      refine lc_g4 hC wF_X7_10 dX7_told_18 ?_
      refine e_iload dX7_told_21 rfl ?_
      refine lc_q1 hC hx hi dX7_told_23 ?_
      refine lc_m2 hC hi wF_X7_87 dX7_told_24 ?_
      refine e_lconst (v := 0) dX7_told_27 (by decide) ?_
      refine e_lcmp dX7_told_28 ?_
      refine e_if_ne (tgt := 35) dX7_told_29 (by decide) (fun c29 => ?_) (fun c29 => ?_)
      · have eR : sRest σ i = 0 := if_neg (fun q => ar_dl0 c29 (by rw [q]; exact ar_0))
        refine e_aload_n dX7_told_35 rfl rfl ?_
        refine lc_g4 hC wF_X7_10 dX7_told_36 ?_
        refine e_iload dX7_told_39 rfl ?_
        refine lc_q1 hC hx hi dX7_told_41 ?_
        refine lc_m1 hC hi wF_X7_67 dX7_told_42 ?_
        refine e_mabsL wM_X7_112 (Nat.le_of_ble_eq_true rfl) (Nat.le_trans (Nat.le_of_ble_eq_true rfl) hJ) dX7_told_45 ?_
        refine e_aload_n dX7_told_48 rfl rfl ?_
        refine lc_g4 hC wF_X7_10 dX7_told_49 ?_
        refine e_iload_n dX7_told_52 rfl rfl ?_
        refine lc_q1 hC hu hFm dX7_told_53 ?_
        refine lc_m1 hC hFm wF_X7_67 dX7_told_54 ?_
        refine e_mabsL wM_X7_112 (Nat.le_of_ble_eq_true rfl) (Nat.le_trans (Nat.le_of_ble_eq_true rfl) hJ) dX7_told_57 ?_
        refine e_lcmp dX7_told_60 ?_
        refine e_if_le (tgt := 67) dX7_told_61 (by decide) (fun c61 => ?_) (fun c61 => ?_)
        · have q61 := ar_lc_le c61
          rw [ar_labs (by omega), ar_labs (by omega)] at q61
          have eF : sFarT σ (i + 1) = sFarT σ i := if_neg (by omega)
          refine e_iinc dX7_told_67 rfl rfl (Nat.le_of_ble_eq_true rfl) ?_
          refine e_goto (tgt := 7) dX7_told_70 (by decide) ?_
          exact ev_lc (ih (r - 1) (by omega) (i + 1) _ _ _ (by omega) (ar_inc hx (by omega)) (by show _ = acc32 0 (sRest σ) i + sRest σ i; rw [hy, eR]; first | rw [ar_i1] | rw [Int32.add_zero]) (by rw [eF]; assumption)) ⟨rfl, rfl, rfl, rfl, rfl, trivial⟩
        · have q61 := ar_lc_gt c61
          rw [ar_labs (by omega), ar_labs (by omega)] at q61
          have eF : sFarT σ (i + 1) = i := if_pos q61
          refine e_iload dX7_told_64 rfl ?_
          refine e_istore_n dX7_told_66 rfl (Nat.le_of_ble_eq_true rfl) ?_
          refine e_iinc dX7_told_67 rfl rfl (Nat.le_of_ble_eq_true rfl) ?_
          refine e_goto (tgt := 7) dX7_told_70 (by decide) ?_
          exact ev_lc (ih (r - 1) (by omega) (i + 1) _ _ _ (by omega) (ar_inc hx (by omega)) (by show _ = acc32 0 (sRest σ) i + sRest σ i; rw [hy, eR]; first | rw [ar_i1] | rw [Int32.add_zero]) (by rw [eF]; assumption)) ⟨rfl, rfl, rfl, rfl, rfl, trivial⟩
      · have eR : sRest σ i = 1 := if_pos (ar_eq ((ar_de0 c29).trans ar_0.symm))
        refine e_iinc dX7_told_32 rfl rfl (Nat.le_of_ble_eq_true rfl) ?_
        refine e_aload_n dX7_told_35 rfl rfl ?_
        refine lc_g4 hC wF_X7_10 dX7_told_36 ?_
        refine e_iload dX7_told_39 rfl ?_
        refine lc_q1 hC hx hi dX7_told_41 ?_
        refine lc_m1 hC hi wF_X7_67 dX7_told_42 ?_
        refine e_mabsL wM_X7_112 (Nat.le_of_ble_eq_true rfl) (Nat.le_trans (Nat.le_of_ble_eq_true rfl) hJ) dX7_told_45 ?_
        refine e_aload_n dX7_told_48 rfl rfl ?_
        refine lc_g4 hC wF_X7_10 dX7_told_49 ?_
        refine e_iload_n dX7_told_52 rfl rfl ?_
        refine lc_q1 hC hu hFm dX7_told_53 ?_
        refine lc_m1 hC hFm wF_X7_67 dX7_told_54 ?_
        refine e_mabsL wM_X7_112 (Nat.le_of_ble_eq_true rfl) (Nat.le_trans (Nat.le_of_ble_eq_true rfl) hJ) dX7_told_57 ?_
        refine e_lcmp dX7_told_60 ?_
        refine e_if_le (tgt := 67) dX7_told_61 (by decide) (fun c61 => ?_) (fun c61 => ?_)
        · have q61 := ar_lc_le c61
          rw [ar_labs (by omega), ar_labs (by omega)] at q61
          have eF : sFarT σ (i + 1) = sFarT σ i := if_neg (by omega)
          refine e_iinc dX7_told_67 rfl rfl (Nat.le_of_ble_eq_true rfl) ?_
          refine e_goto (tgt := 7) dX7_told_70 (by decide) ?_
          exact ev_lc (ih (r - 1) (by omega) (i + 1) _ _ _ (by omega) (ar_inc hx (by omega)) (by show _ = acc32 0 (sRest σ) i + sRest σ i; rw [hy, eR]; first | rw [ar_i1] | rw [Int32.add_zero]) (by rw [eF]; assumption)) ⟨rfl, rfl, rfl, rfl, rfl, trivial⟩
        · have q61 := ar_lc_gt c61
          rw [ar_labs (by omega), ar_labs (by omega)] at q61
          have eF : sFarT σ (i + 1) = i := if_pos q61
          refine e_iload dX7_told_64 rfl ?_
          refine e_istore_n dX7_told_66 rfl (Nat.le_of_ble_eq_true rfl) ?_
          refine e_iinc dX7_told_67 rfl rfl (Nat.le_of_ble_eq_true rfl) ?_
          refine e_goto (tgt := 7) dX7_told_70 (by decide) ?_
          exact ev_lc (ih (r - 1) (by omega) (i + 1) _ _ _ (by omega) (ar_inc hx (by omega)) (by show _ = acc32 0 (sRest σ) i + sRest σ i; rw [hy, eR]; first | rw [ar_i1] | rw [Int32.add_zero]) (by rw [eF]; assumption)) ⟨rfl, rfl, rfl, rfl, rfl, trivial⟩
set_option maxRecDepth 20000 in
theorem ct_X7_told (hC : LC G a A σ nI mI) (hv : sInv σ) (hb : RBs σ) (hI : Int32.ofNat nI = σ.1 5) (hx : x.toInt = (w : Int)) (hw : w < 12) : ev_Ct G l mX7_told 2 0 0 [.ref (A 0), .int x] a (fun v b => v = some (.int (sTell σ w)) ∧ b = a) (fun _ _ => False) := by
  refine ev_Ct.of (by decide +kernel) (Nat.le_of_ble_eq_true rfl) ?_
  have hmn := hv.1.nat
  have hmu : (σ.1 0).toInt = (sNm σ : Int) := hmn.1.symm
  have hmu2 : (σ.1 0).toInt = sM σ := rfl
  have z0 := ar_0
  have z1 := ar_1
  have w2 : (2 : Int32).toInt = 2 := by decide +kernel
  have w3 : (3 : Int32).toInt = 3 := by decide +kernel
  have w4 : (4 : Int32).toInt = 4 := by decide +kernel
  have w5 : (5 : Int32).toInt = 5 := by decide +kernel
  have w6 : (6 : Int32).toInt = 6 := by decide +kernel
  have w7 : (7 : Int32).toInt = 7 := by decide +kernel
  have w8 : (8 : Int32).toInt = 8 := by decide +kernel
  have w9 : (9 : Int32).toInt = 9 := by decide +kernel
  have w10 : (10 : Int32).toInt = 10 := by decide +kernel
  have w12 : (12 : Int32).toInt = 12 := by decide +kernel
  refine e_iconst (v := 0) dX7_told_0 (by decide) ?_
  refine e_istore_n dX7_told_1 rfl (Nat.le_of_ble_eq_true rfl) ?_
  refine e_iconst (v := 0) dX7_told_2 (by decide) ?_
  refine e_istore_n dX7_told_3 rfl (Nat.le_of_ble_eq_true rfl) ?_
  refine e_iconst (v := 0) dX7_told_4 (by decide) ?_
  refine e_istore dX7_told_5 (Nat.le_of_ble_eq_true rfl) ?_
  refine ev_loc (L' := [some (.ref (A 0)), some (.int x), some (.int 0), some (.int 0), some (.int 0)]) ⟨rfl, rfl, rfl, rfl, rfl, trivial⟩ ?_
  refine lp_told (Nat.le_of_ble_eq_true rfl) hC hv hb (fun y u hy hu => ?_) (sNm σ) 0 _ _ _ (by omega) ar_0 rfl ar_0
  have hFl := sFarT_le σ (sNm σ)
  have hu2 : u = Int32.ofNat (sFarT σ (sNm σ)) := ar_ofE hu (by omega)
  refine e_iload_n dX7_told_73 rfl rfl ?_
  refine e_if_ne (tgt := 84) dX7_told_74 (by decide) (fun c74 => ?_) (fun c74 => ?_)
  · have n74 : w ≠ 0 := fun q => c74 (ar_eq (by rw [hx, q]; exact ar_0.symm))
    refine e_iload_n dX7_told_84 rfl rfl ?_
    refine e_iconst (v := 1) dX7_told_85 (by decide) ?_
    refine e_icmp_ne (tgt := 97) dX7_told_86 (by decide) (fun c86 => ?_) (fun c86 => ?_)
    · have n86 : w ≠ 1 := fun q => c86 (ar_eq (by rw [hx, q]; exact ar_1.symm))
      refine e_iload_n dX7_told_97 rfl rfl ?_
      refine e_iconst (v := 2) dX7_told_98 (by decide) ?_
      refine e_icmp_ne (tgt := 109) dX7_told_99 (by decide) (fun c99 => ?_) (fun c99 => ?_)
      · have n99 : w ≠ 2 := fun q => c99 (ar_eq (by rw [hx, q]; exact w2.symm))
        refine e_iload_n dX7_told_109 rfl rfl ?_
        refine e_iconst (v := 3) dX7_told_110 (by decide) ?_
        refine e_icmp_ne (tgt := 121) dX7_told_111 (by decide) (fun c111 => ?_) (fun c111 => ?_)
        · have n111 : w ≠ 3 := fun q => c111 (ar_eq (by rw [hx, q]; exact w3.symm))
          refine e_iload_n dX7_told_121 rfl rfl ?_
          refine e_iconst (v := 4) dX7_told_122 (by decide) ?_
          refine e_icmp_ne (tgt := 133) dX7_told_123 (by decide) (fun c123 => ?_) (fun c123 => ?_)
          · have n123 : w ≠ 4 := fun q => c123 (ar_eq (by rw [hx, q]; exact w4.symm))
            refine e_iload_n dX7_told_133 rfl rfl ?_
            refine e_iconst (v := 5) dX7_told_134 (by decide) ?_
            refine e_icmp_ne (tgt := 145) dX7_told_135 (by decide) (fun c135 => ?_) (fun c135 => ?_)
            · have n135 : w ≠ 5 := fun q => c135 (ar_eq (by rw [hx, q]; exact w5.symm))
              refine e_iload_n dX7_told_145 rfl rfl ?_
              refine e_bipush (v := 6) dX7_told_146 (by decide) ?_
              refine e_icmp_ne (tgt := 159) dX7_told_148 (by decide) (fun c148 => ?_) (fun c148 => ?_)
              · have n148 : w ≠ 6 := fun q => c148 (ar_eq (by rw [hx, q]; exact w6.symm))
                refine e_iload_n dX7_told_159 rfl rfl ?_
                refine e_bipush (v := 7) dX7_told_160 (by decide) ?_
                refine e_icmp_ne (tgt := 172) dX7_told_162 (by decide) (fun c162 => ?_) (fun c162 => ?_)
                · have n162 : w ≠ 7 := fun q => c162 (ar_eq (by rw [hx, q]; exact w7.symm))
                  refine e_iload_n dX7_told_172 rfl rfl ?_
                  refine e_bipush (v := 8) dX7_told_173 (by decide) ?_
                  refine e_icmp_ne (tgt := 185) dX7_told_175 (by decide) (fun c175 => ?_) (fun c175 => ?_)
                  · have n175 : w ≠ 8 := fun q => c175 (ar_eq (by rw [hx, q]; exact w8.symm))
                    refine e_iload_n dX7_told_185 rfl rfl ?_
                    refine e_bipush (v := 9) dX7_told_186 (by decide) ?_
                    refine e_icmp_ne (tgt := 199) dX7_told_188 (by decide) (fun c188 => ?_) (fun c188 => ?_)
                    · have n188 : w ≠ 9 := fun q => c188 (ar_eq (by rw [hx, q]; exact w9.symm))
                      refine e_iload_n dX7_told_199 rfl rfl ?_
                      refine e_bipush (v := 10) dX7_told_200 (by decide) ?_
                      refine e_icmp_ne (tgt := 209) dX7_told_202 (by decide) (fun c202 => ?_) (fun c202 => ?_)
                      · have n202 : w ≠ 10 := fun q => c202 (ar_eq (by rw [hx, q]; exact w10.symm))
                        have e9 : w = 11 := by omega
                        have lv : some (Value.int (u)) = some (Value.int (sTell σ w)) ∧ a = a := by subst e9; exact ⟨congrArg (fun q => some (Value.int q)) (hu2), rfl⟩
                        refine e_iload_n dX7_told_209 rfl rfl ?_
                        exact e_iret rfl dX7_told_210 (lv)
                      · have e202 : w = 10 := by rw [c202, w10] at hx; omega
                        have lv : some (Value.int (y)) = some (Value.int (sTell σ w)) ∧ a = a := by subst e202; exact ⟨congrArg (fun q => some (Value.int q)) (hy), rfl⟩
                        refine e_iload_n dX7_told_205 rfl rfl ?_
                        refine e_goto (tgt := 210) dX7_told_206 (by decide) ?_
                        exact e_iret rfl dX7_told_210 (lv)
                    · have e188 : w = 9 := by rw [c188, w9] at hx; omega
                      have lv : some (Value.int (σ.1 6)) = some (Value.int (sTell σ w)) ∧ a = a := by subst e188; exact ⟨rfl, rfl⟩
                      refine e_aload_n dX7_told_191 rfl rfl ?_
                      refine lc_g7 hC wF_X7_29 dX7_told_192 ?_
                      refine lc_n4 hC hv dX7_told_195 ?_
                      refine e_goto (tgt := 210) dX7_told_196 (by decide) ?_
                      exact e_iret rfl dX7_told_210 (lv)
                  · have e175 : w = 8 := by rw [c175, w8] at hx; omega
                    have lv : some (Value.int (sNod σ)) = some (Value.int (sTell σ w)) ∧ a = a := by subst e175; exact ⟨rfl, rfl⟩
                    refine e_aload_n dX7_told_178 rfl rfl ?_
                    refine e_invV (mcY := 0) (msY := 0) (ct_X7_nodes hC hv) vX7_nodes wM_X7_125 hC.1.1 rfl dX7_told_179 rfl rfl (Nat.le_of_ble_eq_true rfl) (Nat.le_of_ble_eq_true rfl) ?_
                    rintro _ _ ⟨rfl, rfl⟩
                    refine e_goto (tgt := 210) dX7_told_182 (by decide) ?_
                    exact e_iret rfl dX7_told_210 (lv)
                · have e162 : w = 7 := by rw [c162, w7] at hx; omega
                  have lv : some (Value.int (sPat σ)) = some (Value.int (sTell σ w)) ∧ a = a := by subst e162; exact ⟨rfl, rfl⟩
                  refine e_aload_n dX7_told_165 rfl rfl ?_
                  refine e_invV (mcY := 0) (msY := 0) (ct_X7_pattern hC hv) vX7_pattern wM_X7_118 hC.1.1 rfl dX7_told_166 rfl rfl (Nat.le_of_ble_eq_true rfl) (Nat.le_of_ble_eq_true rfl) ?_
                  rintro _ _ ⟨rfl, rfl⟩
                  refine e_goto (tgt := 210) dX7_told_169 (by decide) ?_
                  exact e_iret rfl dX7_told_210 (lv)
              · have e148 : w = 6 := by rw [c148, w6] at hx; omega
                have lv : some (Value.int (Int32.ofNat nI)) = some (Value.int (sTell σ w)) ∧ a = a := by subst e148; exact ⟨congrArg (fun q => some (Value.int q)) (hI), rfl⟩
                refine e_aload_n dX7_told_151 rfl rfl ?_
                refine lc_g6 hC wF_X7_25 dX7_told_152 ?_
                refine lc_n3 hC dX7_told_155 ?_
                refine e_goto (tgt := 210) dX7_told_156 (by decide) ?_
                exact e_iret rfl dX7_told_210 (lv)
            · have e135 : w = 5 := by rw [c135, w5] at hx; omega
              have lv : some (Value.int (σ.1 2)) = some (Value.int (sTell σ w)) ∧ a = a := by subst e135; exact ⟨rfl, rfl⟩
              refine e_aload_n dX7_told_138 rfl rfl ?_
              refine lc_g3 hC wF_X7_51 dX7_told_139 ?_
              refine e_goto (tgt := 210) dX7_told_142 (by decide) ?_
              exact e_iret rfl dX7_told_210 (lv)
          · have e123 : w = 4 := by rw [c123, w4] at hx; omega
            have lv : some (Value.int (σ.1 4)) = some (Value.int (sTell σ w)) ∧ a = a := by subst e123; exact ⟨rfl, rfl⟩
            refine e_aload_n dX7_told_126 rfl rfl ?_
            refine lc_g2 hC wF_X7_48 dX7_told_127 ?_
            refine e_goto (tgt := 210) dX7_told_130 (by decide) ?_
            exact e_iret rfl dX7_told_210 (lv)
        · have e111 : w = 3 := by rw [c111, w3] at hx; omega
          have lv : some (Value.int (σ.1 3)) = some (Value.int (sTell σ w)) ∧ a = a := by subst e111; exact ⟨rfl, rfl⟩
          refine e_aload_n dX7_told_114 rfl rfl ?_
          refine lc_g1 hC wF_X7_45 dX7_told_115 ?_
          refine e_goto (tgt := 210) dX7_told_118 (by decide) ?_
          exact e_iret rfl dX7_told_210 (lv)
      · have e99 : w = 2 := by rw [c99, w2] at hx; omega
        have lv : some (Value.int (acc32 0 (sBrk σ) (sNm σ + 1))) = some (Value.int (sTell σ w)) ∧ a = a := by subst e99; exact ⟨rfl, rfl⟩
        refine e_aload_n dX7_told_102 rfl rfl ?_
        refine e_invV (mcY := 0) (msY := 0) (ct_X7_broken hC hv) vX7_broken wM_X7_122 hC.1.1 rfl dX7_told_103 rfl rfl (Nat.le_of_ble_eq_true rfl) (Nat.le_of_ble_eq_true rfl) ?_
        rintro _ _ ⟨rfl, rfl⟩
        refine e_goto (tgt := 210) dX7_told_106 (by decide) ?_
        exact e_iret rfl dX7_told_210 (lv)
    · have e86 : w = 1 := by rw [c86, ar_1] at hx; omega
      have lv : some (Value.int (σ.1 0)) = some (Value.int (sTell σ w)) ∧ a = a := by subst e86; exact ⟨rfl, rfl⟩
      refine e_aload_n dX7_told_89 rfl rfl ?_
      refine lc_g4 hC wF_X7_10 dX7_told_90 ?_
      refine lc_n1 hC hv dX7_told_93 ?_
      refine e_goto (tgt := 210) dX7_told_94 (by decide) ?_
      exact e_iret rfl dX7_told_210 (lv)
  · have e74 : w = 0 := by rw [c74, ar_0] at hx; omega
    have lv : some (Value.int (σ.1 1)) = some (Value.int (sTell σ w)) ∧ a = a := by subst e74; exact ⟨rfl, rfl⟩
    refine e_aload_n dX7_told_77 rfl rfl ?_
    refine lc_g0 hC wF_X7_41 dX7_told_78 ?_
    refine e_goto (tgt := 210) dX7_told_81 (by decide) ?_
    exact e_iret rfl dX7_told_210 (lv)
set_option maxRecDepth 20000 in
theorem lp_accm {J : ev_K} {k n : Nat} (hJ : 0 ≤ J.2.2.1) (hC : LC G a A σ nI mI) (hv : sInv σ) {w0 : Int32} (hw0 : w0.toInt = (w : Int)) (hk : ∀ z : Int64, z = acM σ w (sNm σ) → ev_V G l mX7_account J 79 [some (.ref (A 0)), some (.int w0), some (.long z), none] [] a k n) : ∀ (r i : Nat) (x : Int32) (z : Int64), r + i = sNm σ → x.toInt = (i : Int) → z = acM σ w i → ev_V G l mX7_account J 16 [some (.ref (A 0)), some (.int w0), some (.long z), none, some (.ref (A 1)), some (.int (σ.1 0)), some (.int x)] [] a k n := by
  intro r
  induction r using Nat.strongRecOn with
  | ind r ih =>
    intro i x z hr hx hz
    have hn : x.toInt.toNat = i := ar_nat hx
    have hmn := hv.1.nat
    have hmu : (σ.1 0).toInt = (sNm σ : Int) := hmn.1.symm
    have hmu2 : (σ.1 0).toInt = sM σ := rfl
    have z0 := ar_0
    have z1 := ar_1
    have w6 : (6 : Int32).toInt = 6 := by decide +kernel
    refine e_iload dX7_account_16 rfl ?_
    refine e_iload dX7_account_18 rfl ?_
    refine e_icmp_ge (tgt := 79) dX7_account_20 (by decide) (fun c20 => ?_) (fun c20 => ?_)
    · obtain rfl : i = sNm σ := by omega
      exact ev_lc (hk z hz) ⟨rfl, rfl, rfl, trivial⟩
    · have hi : i < sNm σ := by omega
      refine e_aload dX7_account_23 rfl ?_
      refine e_iload dX7_account_25 rfl ?_
      refine lc_q1 hC hx hi dX7_account_27 ?_
      refine e_astore dX7_account_28 (Nat.le_of_ble_eq_true rfl) ?_
      refine e_iload_n dX7_account_30 rfl rfl ?_
      refine e_if_ne (tgt := 42) dX7_account_31 (by decide) (fun c31 => ?_) (fun c31 => ?_)
      · have n31 : w ≠ 0 := fun q => c31 (ar_eq (by rw [hw0, q]; exact ar_0.symm))
        refine e_iload_n dX7_account_42 rfl rfl ?_
        refine e_bipush (v := 6) dX7_account_43 (by decide) ?_
        refine e_icmp_ne (tgt := 73) dX7_account_45 (by decide) (fun c45 => ?_) (fun c45 => ?_)
        · have n45 : w ≠ 6 := fun q => c45 (ar_eq (by rw [hw0, q]; exact w6.symm))
          refine e_iinc dX7_account_73 rfl rfl (Nat.le_of_ble_eq_true rfl) ?_
          refine e_goto (tgt := 16) dX7_account_76 (by decide) ?_
          refine ev_lc (ih (r - 1) (by omega) (i + 1) _ _ (by omega) (ar_inc hx (by omega)) ?_) ⟨rfl, rfl, rfl, rfl, rfl, rfl, trivial⟩
          rw [hz]
          unfold acM
          by_cases a0 : w = 0
          · first
              | (exfalso; omega)
              | (rw [if_pos a0, if_pos a0]; rfl)
          · by_cases a6 : w = 6
            · first
                | (exfalso; omega)
                | (rw [if_neg a0, if_neg a0, if_pos a6, if_pos a6]; rfl)
            · first
                | (exfalso; omega)
                | (rw [if_neg a0, if_neg a0, if_neg a6, if_neg a6])
        · have e45 : w = 6 := by rw [c45, w6] at hw0; omega
          refine e_lload_n dX7_account_48 rfl rfl ?_
          refine e_aload dX7_account_49 rfl ?_
          refine lc_m2 hC hi wF_X7_87 dX7_account_51 ?_
          refine e_aload dX7_account_54 rfl ?_
          refine lc_m2 hC hi wF_X7_87 dX7_account_56 ?_
          refine e_lmul dX7_account_59 ?_
          refine e_ldc2 dX7_account_60 wK_X7_128 ?_
          refine e_aload dX7_account_63 rfl ?_
          refine lc_m0 hC hi wF_X7_104 dX7_account_65 ?_
          refine e_i2l dX7_account_68 ?_
          refine e_lmul dX7_account_69 ?_
          refine e_ldiv dX7_account_70 (sEm_ne hv.2.1 hi) ?_
          refine e_ladd dX7_account_71 ?_
          refine e_lstore_n dX7_account_72 rfl (Nat.le_of_ble_eq_true rfl) ?_
          refine e_iinc dX7_account_73 rfl rfl (Nat.le_of_ble_eq_true rfl) ?_
          refine e_goto (tgt := 16) dX7_account_76 (by decide) ?_
          refine ev_lc (ih (r - 1) (by omega) (i + 1) _ _ (by omega) (ar_inc hx (by omega)) ?_) ⟨rfl, rfl, rfl, rfl, rfl, rfl, trivial⟩
          rw [hz]
          unfold acM
          by_cases a0 : w = 0
          · first
              | (exfalso; omega)
              | (rw [if_pos a0, if_pos a0]; rfl)
          · by_cases a6 : w = 6
            · first
                | (exfalso; omega)
                | (rw [if_neg a0, if_neg a0, if_pos a6, if_pos a6]; rfl)
            · first
                | (exfalso; omega)
                | (rw [if_neg a0, if_neg a0, if_neg a6, if_neg a6])
      · have e31 : w = 0 := by rw [c31, ar_0] at hw0; omega
        refine e_lload_n dX7_account_34 rfl rfl ?_
        refine e_aload dX7_account_35 rfl ?_
        refine lc_m2 hC hi wF_X7_87 dX7_account_37 ?_
        refine e_ladd dX7_account_40 ?_
        refine e_lstore_n dX7_account_41 rfl (Nat.le_of_ble_eq_true rfl) ?_
        refine e_iload_n dX7_account_42 rfl rfl ?_
        refine e_bipush (v := 6) dX7_account_43 (by decide) ?_
        refine e_icmp_ne (tgt := 73) dX7_account_45 (by decide) (fun c45 => ?_) (fun c45 => ?_)
        · have n45 : w ≠ 6 := fun q => c45 (ar_eq (by rw [hw0, q]; exact w6.symm))
          refine e_iinc dX7_account_73 rfl rfl (Nat.le_of_ble_eq_true rfl) ?_
          refine e_goto (tgt := 16) dX7_account_76 (by decide) ?_
          refine ev_lc (ih (r - 1) (by omega) (i + 1) _ _ (by omega) (ar_inc hx (by omega)) ?_) ⟨rfl, rfl, rfl, rfl, rfl, rfl, trivial⟩
          rw [hz]
          unfold acM
          by_cases a0 : w = 0
          · first
              | (exfalso; omega)
              | (rw [if_pos a0, if_pos a0]; rfl)
          · by_cases a6 : w = 6
            · first
                | (exfalso; omega)
                | (rw [if_neg a0, if_neg a0, if_pos a6, if_pos a6]; rfl)
            · first
                | (exfalso; omega)
                | (rw [if_neg a0, if_neg a0, if_neg a6, if_neg a6])
        · have e45 : w = 6 := by rw [c45, w6] at hw0; omega
          refine e_lload_n dX7_account_48 rfl rfl ?_
          refine e_aload dX7_account_49 rfl ?_
          refine lc_m2 hC hi wF_X7_87 dX7_account_51 ?_
          refine e_aload dX7_account_54 rfl ?_
          refine lc_m2 hC hi wF_X7_87 dX7_account_56 ?_
          refine e_lmul dX7_account_59 ?_
          refine e_ldc2 dX7_account_60 wK_X7_128 ?_
          refine e_aload dX7_account_63 rfl ?_
          refine lc_m0 hC hi wF_X7_104 dX7_account_65 ?_
          refine e_i2l dX7_account_68 ?_
          refine e_lmul dX7_account_69 ?_
          refine e_ldiv dX7_account_70 (sEm_ne hv.2.1 hi) ?_
          refine e_ladd dX7_account_71 ?_
          refine e_lstore_n dX7_account_72 rfl (Nat.le_of_ble_eq_true rfl) ?_
          refine e_iinc dX7_account_73 rfl rfl (Nat.le_of_ble_eq_true rfl) ?_
          refine e_goto (tgt := 16) dX7_account_76 (by decide) ?_
          refine ev_lc (ih (r - 1) (by omega) (i + 1) _ _ (by omega) (ar_inc hx (by omega)) ?_) ⟨rfl, rfl, rfl, rfl, rfl, rfl, trivial⟩
          rw [hz]
          unfold acM
          by_cases a0 : w = 0
          · first
              | (exfalso; omega)
              | (rw [if_pos a0, if_pos a0]; rfl)
          · by_cases a6 : w = 6
            · first
                | (exfalso; omega)
                | (rw [if_neg a0, if_neg a0, if_pos a6, if_pos a6]; rfl)
            · first
                | (exfalso; omega)
                | (rw [if_neg a0, if_neg a0, if_neg a6, if_neg a6])
set_option maxRecDepth 20000 in
theorem lp_accs {J : ev_K} {k n : Nat} (hJ : 1 ≤ J.2.2.1) (hC : LC G a A σ nI mI) (hv : sInv σ) (hb : RBs σ) {w0 : Int32} (hw0 : w0.toInt = (w : Int)) (hk : ∀ z : Int64, z = acS σ w (sNm σ + 1) → ev_V G l mX7_account J 149 [some (.ref (A 0)), some (.int w0), some (.long z), none] [] a k n) : ∀ (r i : Nat) (x : Int32) (z : Int64), r + i = sNm σ + 1 → x.toInt = (i : Int) → z = acS σ w i → ev_V G l mX7_account J 82 [some (.ref (A 0)), some (.int w0), some (.long z), none, some (.int x)] [] a k n := by
  intro r
  induction r using Nat.strongRecOn with
  | ind r ih =>
    intro i x z hr hx hz
    have hn : x.toInt.toNat = i := ar_nat hx
    have hmn := hv.1.nat
    have hmu : (σ.1 0).toInt = (sNm σ : Int) := hmn.1.symm
    have hmu2 : (σ.1 0).toInt = sM σ := rfl
    have z0 := ar_0
    have z1 := ar_1
    have w7 : (7 : Int32).toInt = 7 := by decide +kernel
    have hM : (Int32.ofNat (sNm σ + 1)).toInt = ((sNm σ + 1 : Nat) : Int) := ar_of (by omega)
    refine e_iload dX7_account_82 rfl ?_
    refine e_aload_n dX7_account_84 rfl rfl ?_
    refine lc_g5 hC wF_X7_19 dX7_account_85 ?_
    refine lc_n2 hC dX7_account_88 ?_
    refine e_icmp_ge (tgt := 149) dX7_account_89 (by decide) (fun c89 => ?_) (fun c89 => ?_)
    · obtain rfl : i = sNm σ + 1 := by omega
      exact ev_lc (hk z hz) ⟨rfl, rfl, rfl, trivial⟩
    · have hi : i < sNm σ + 1 := by omega
      refine e_iload_n dX7_account_92 rfl rfl ?_
      refine e_bipush (v := 7) dX7_account_93 (by decide) ?_
      refine e_icmp_ne (tgt := 149) dX7_account_95 (by decide) (fun c95 => ?_) (fun c95 => ?_)
      · have n95 : w ≠ 7 := fun q => c95 (ar_eq (by rw [hw0, q]; exact w7.symm))
        exact ev_lc (hk z (by rw [hz]; unfold acS; rw [if_neg n95, if_neg n95])) ⟨rfl, rfl, rfl, trivial⟩
      · have e95 : w = 7 := by rw [c95, w7] at hw0; omega
        refine e_aload_n dX7_account_98 rfl rfl ?_
        refine lc_g5 hC wF_X7_19 dX7_account_99 ?_
        refine e_iload dX7_account_102 rfl ?_
        refine lc_q2 hC hx hi dX7_account_104 ?_
        refine lc_s2 hC hi wF_X7_71 dX7_account_105 ?_
        refine e_if_ne (tgt := 143) dX7_account_108 (by decide) (fun c108 => ?_) (fun c108 => ?_)
        · have eS : sEs σ i = 0 := if_neg c108
          refine e_iinc dX7_account_143 rfl rfl (Nat.le_of_ble_eq_true rfl) ?_
          refine e_goto (tgt := 82) dX7_account_146 (by decide) ?_
          refine ev_lc (ih (r - 1) (by omega) (i + 1) _ _ (by omega) (ar_inc hx (by omega)) ?_) ⟨rfl, rfl, rfl, rfl, trivial⟩
          rw [hz]
          unfold acS
          rw [if_pos e95, if_pos e95]
          show _ = accL 0 (sEs σ) i + sEs σ i
          rw [eS]
          try rw [Int64.add_zero]
        · have eS : sEs σ i = (σ.2.2 3 i).toInt64 * (sStr σ i).toInt64 * (sStr σ i).toInt64 / 200 := if_pos c108
          refine e_lload_n dX7_account_111 rfl rfl ?_
          refine e_aload_n dX7_account_112 rfl rfl ?_
          refine lc_g5 hC wF_X7_19 dX7_account_113 ?_
          refine e_iload dX7_account_116 rfl ?_
          refine lc_q2 hC hx hi dX7_account_118 ?_
          refine lc_s0 hC hi wF_X7_75 dX7_account_119 ?_
          refine e_i2l dX7_account_122 ?_
          refine e_aload_n dX7_account_123 rfl rfl ?_
          refine e_iload dX7_account_124 rfl ?_
          refine e_invV (mcY := 0) (msY := 0) (ct_X7_stretch hC hv hb hx hi) vX7_stretch wM_X7_78 hC.1.1 rfl dX7_account_126 rfl rfl (Nat.le_of_ble_eq_true rfl) (Nat.le_trans (Nat.le_of_ble_eq_true rfl) hJ) ?_
          rintro _ _ ⟨rfl, rfl⟩
          refine e_lmul dX7_account_129 ?_
          refine e_aload_n dX7_account_130 rfl rfl ?_
          refine e_iload dX7_account_131 rfl ?_
          refine e_invV (mcY := 0) (msY := 0) (ct_X7_stretch hC hv hb hx hi) vX7_stretch wM_X7_78 hC.1.1 rfl dX7_account_133 rfl rfl (Nat.le_of_ble_eq_true rfl) (Nat.le_trans (Nat.le_of_ble_eq_true rfl) hJ) ?_
          rintro _ _ ⟨rfl, rfl⟩
          refine e_lmul dX7_account_136 ?_
          refine e_ldc2 dX7_account_137 wK_X7_130 ?_
          refine e_ldiv dX7_account_140 (by decide) ?_
          refine e_ladd dX7_account_141 ?_
          refine e_lstore_n dX7_account_142 rfl (Nat.le_of_ble_eq_true rfl) ?_
          refine e_iinc dX7_account_143 rfl rfl (Nat.le_of_ble_eq_true rfl) ?_
          refine e_goto (tgt := 82) dX7_account_146 (by decide) ?_
          refine ev_lc (ih (r - 1) (by omega) (i + 1) _ _ (by omega) (ar_inc hx (by omega)) ?_) ⟨rfl, rfl, rfl, rfl, trivial⟩
          rw [hz]
          unfold acS
          rw [if_pos e95, if_pos e95]
          show _ = accL 0 (sEs σ) i + sEs σ i
          rw [eS]
          try rw [Int64.add_zero]
set_option maxRecDepth 20000 in
theorem ct_X7_account (hC : LC G a A σ nI mI) (hv : sInv σ) (hb : RBs σ) (hx : x.toInt = (w : Int)) (hw : w < 8) : ev_Ct G l mX7_account 1 0 0 [.ref (A 0), .int x] a (fun v b => v = some (.long (sAcc σ w)) ∧ b = a) (fun _ _ => False) := by
  refine ev_Ct.of (by decide +kernel) (Nat.le_of_ble_eq_true rfl) ?_
  have hmn := hv.1.nat
  have hmu : (σ.1 0).toInt = (sNm σ : Int) := hmn.1.symm
  have hmu2 : (σ.1 0).toInt = sM σ := rfl
  have z0 := ar_0
  have z1 := ar_1
  have w2 : (2 : Int32).toInt = 2 := by decide +kernel
  have w3 : (3 : Int32).toInt = 3 := by decide +kernel
  have w4 : (4 : Int32).toInt = 4 := by decide +kernel
  have w5 : (5 : Int32).toInt = 5 := by decide +kernel
  have w6 : (6 : Int32).toInt = 6 := by decide +kernel
  have w7 : (7 : Int32).toInt = 7 := by decide +kernel
  have w8 : (8 : Int32).toInt = 8 := by decide +kernel
  have w9 : (9 : Int32).toInt = 9 := by decide +kernel
  have w10 : (10 : Int32).toInt = 10 := by decide +kernel
  have w12 : (12 : Int32).toInt = 12 := by decide +kernel
  refine e_lconst (v := 0) dX7_account_0 (by decide) ?_
  refine e_lstore_n dX7_account_1 rfl (Nat.le_of_ble_eq_true rfl) ?_
  refine e_aload_n dX7_account_2 rfl rfl ?_
  refine lc_g4 hC wF_X7_10 dX7_account_3 ?_
  refine e_astore dX7_account_6 (Nat.le_of_ble_eq_true rfl) ?_
  refine e_aload dX7_account_8 rfl ?_
  refine lc_n1 hC hv dX7_account_10 ?_
  refine e_istore dX7_account_11 (Nat.le_of_ble_eq_true rfl) ?_
  refine e_iconst (v := 0) dX7_account_13 (by decide) ?_
  refine e_istore dX7_account_14 (Nat.le_of_ble_eq_true rfl) ?_
  refine ev_loc (L' := [some (.ref (A 0)), some (.int x), some (.long 0), none, some (.ref (A 1)), some (.int (σ.1 0)), some (.int 0)]) ⟨rfl, rfl, rfl, rfl, rfl, rfl, trivial⟩ ?_
  refine lp_accm (Nat.le_of_ble_eq_true rfl) hC hv hx (fun z hz => ?_) (sNm σ) 0 _ _ (by omega) ar_0 (acM_0 σ w)
  refine e_iconst (v := 0) dX7_account_79 (by decide) ?_
  refine e_istore dX7_account_80 (Nat.le_of_ble_eq_true rfl) ?_
  refine ev_loc (L' := [some (.ref (A 0)), some (.int x), some (.long z), none, some (.int 0)]) ⟨rfl, rfl, rfl, rfl, trivial⟩ ?_
  refine lp_accs (Nat.le_of_ble_eq_true rfl) hC hv hb hx (fun z2 hz2 => ?_) (sNm σ + 1) 0 _ _ (by omega) ar_0 (hz.trans (acS_0 σ w))
  refine e_iload_n dX7_account_149 rfl rfl ?_
  refine e_if_le (tgt := 168) dX7_account_150 (by decide) (fun c150 => ?_) (fun c150 => ?_)
  · have d150 : ¬ (1 ≤ w ∧ w ≤ 5) := by omega
    have lv : some (Value.long z2) = some (Value.long (sAcc σ w)) ∧ a = a := ⟨by rw [sAcc_l σ hw, if_neg d150, hz2], rfl⟩
    refine e_lload_n dX7_account_168 rfl rfl ?_
    exact e_lret rfl dX7_account_169 (lv)
  · have d150 : 1 ≤ w := by omega
    refine e_iload_n dX7_account_153 rfl rfl ?_
    refine e_bipush (v := 6) dX7_account_154 (by decide) ?_
    refine e_icmp_ge (tgt := 168) dX7_account_156 (by decide) (fun c156 => ?_) (fun c156 => ?_)
    · have d156 : ¬ (1 ≤ w ∧ w ≤ 5) := by omega
      have lv : some (Value.long z2) = some (Value.long (sAcc σ w)) ∧ a = a := ⟨by rw [sAcc_l σ hw, if_neg d156, hz2], rfl⟩
      refine e_lload_n dX7_account_168 rfl rfl ?_
      exact e_lret rfl dX7_account_169 (lv)
    · have d156 : 1 ≤ w ∧ w ≤ 5 := by omega
      have lv : some (Value.long (acJ σ w)) = some (Value.long (sAcc σ w)) ∧ a = a := ⟨by rw [sAcc_l σ hw, if_pos d156], rfl⟩
      refine e_aload_n dX7_account_159 rfl rfl ?_
      refine lc_g8 hC wF_X7_32 dX7_account_160 ?_
      refine e_iload_n dX7_account_163 rfl rfl ?_
      refine lc_a hC hx (by omega) dX7_account_164 ?_
      refine e_goto (tgt := 169) dX7_account_165 (by decide) ?_
      exact e_lret rfl dX7_account_169 (lv)
end LRE
