/-! rows over the law's own chain -/
theorem cs_A_2 (σ : CS) (w : Nat) (f : Nat → Int32) : (cs_A σ w f).2.2 w = f := ev_u_self _ _ _
theorem cs_A_n (σ : CS) {w v : Nat} (f : Nat → Int32) (h : v ≠ w) : (cs_A σ w f).2.2 v = σ.2.2 v := ev_u_ne _ _ h
theorem nm_of {σ : CS} (hv : sInv σ) : Int32.ofNat (sNm σ) = σ.1 0 := by
  have h := hv.1.nat
  have h2 := hv.1
  exact ar_eq (by rw [ar_of (by omega)]; show ((σ.1 0).toInt.toNat : Int) = _; have : sM σ = (σ.1 0).toInt := rfl; unfold sOk at h2; omega)
theorem pn_of {σ : CS} (hv : sInv σ) : Int32.ofNat (sPn σ) = σ.1 6 := by
  have h2 := hv.2.2.2.2
  exact ar_eq (by rw [ar_of (by show (σ.1 6).toInt.toNat ≤ 2000; omega)]; show ((σ.1 6).toInt.toNat : Int) = _; omega)
/-- other impulses -/
def lcI (A : Nat → Nat) (q : Nat) (g : Nat → Nat) (i : Nat) : Nat := if i = 3 then q else if 50 ≤ i ∧ i < 70 then g (i - 50) else A i
/-- other patterns -/
def lcP (A : Nat → Nat) (q : Nat) (g : Nat → Nat) (i : Nat) : Nat := if i = 4 then q else if 70 ≤ i then g (i - 70) else A i
theorem lcI_3 (A : Nat → Nat) (q : Nat) (g : Nat → Nat) : lcI A q g 3 = q := rfl
theorem lcI_i (A : Nat → Nat) (q : Nat) (g : Nat → Nat) {k : Nat} (h : k < 20) : lcI A q g (50 + k) = g k := by
  unfold lcI
  rw [if_neg (by omega), if_pos (by omega), show 50 + k - 50 = k by omega]
theorem lcI_o (A : Nat → Nat) (q : Nat) (g : Nat → Nat) {i : Nat} (h : i ≠ 3) (h2 : i < 50 ∨ 70 ≤ i) : lcI A q g i = A i := by
  unfold lcI
  rw [if_neg h, if_neg (by omega)]
theorem lcP_4 (A : Nat → Nat) (q : Nat) (g : Nat → Nat) : lcP A q g 4 = q := rfl
theorem lcP_i (A : Nat → Nat) (q : Nat) (g : Nat → Nat) (k : Nat) : lcP A q g (70 + k) = g k := by
  unfold lcP
  rw [if_neg (by omega), if_pos (by omega), show 70 + k - 70 = k by omega]
theorem lcP_o (A : Nat → Nat) (q : Nat) (g : Nat → Nat) {i : Nat} (h : i ≠ 4) (h2 : i < 70) : lcP A q g i = A i := by
  unfold lcP
  rw [if_neg h, if_neg (by omega)]
section LCR
variable {G : ev_G} {l : Launch} {M : ev_M} {J : ev_K} {pc k n idx : Nat} {L : List (Option Value)} {st : List Value} {a : ev_H} {A : Nat → Nat} {σ : CS} {nI : Nat} {mI : Nat → TI} {j w : Nat} {x y v : Int32} {z : Int64}
theorem lc_g0 (hC : LC G a A σ nI mI) (hw : Cond.fieldLink M.1.cls idx "SpringChainLaw$Chain" "time" "I" ∈ ev_ws) (hd : decode M.2.1 pc = .ok (.getfield idx, 3)) (k0 : ev_V G l M J (pc + 3) L (.int (σ.1 1) :: st) a k n) : ev_V G l M J pc L (.ref (A 0) :: st) a k n := e_getf (C := RX7) (T := TX7) (N := 9) (ci := 7) 0 inX7 rfl hC.1.1 (by decide) hw rfl hd k0
theorem lc_g1 (hC : LC G a A σ nI mI) (hw : Cond.fieldLink M.1.cls idx "SpringChainLaw$Chain" "left" "I" ∈ ev_ws) (hd : decode M.2.1 pc = .ok (.getfield idx, 3)) (k0 : ev_V G l M J (pc + 3) L (.int (σ.1 3) :: st) a k n) : ev_V G l M J pc L (.ref (A 0) :: st) a k n := e_getf (C := RX7) (T := TX7) (N := 9) (ci := 7) 1 inX7 rfl hC.1.1 (by decide) hw rfl hd k0
theorem lc_g2 (hC : LC G a A σ nI mI) (hw : Cond.fieldLink M.1.cls idx "SpringChainLaw$Chain" "right" "I" ∈ ev_ws) (hd : decode M.2.1 pc = .ok (.getfield idx, 3)) (k0 : ev_V G l M J (pc + 3) L (.int (σ.1 4) :: st) a k n) : ev_V G l M J pc L (.ref (A 0) :: st) a k n := e_getf (C := RX7) (T := TX7) (N := 9) (ci := 7) 2 inX7 rfl hC.1.1 (by decide) hw rfl hd k0
theorem lc_g3 (hC : LC G a A σ nI mI) (hw : Cond.fieldLink M.1.cls idx "SpringChainLaw$Chain" "damping" "I" ∈ ev_ws) (hd : decode M.2.1 pc = .ok (.getfield idx, 3)) (k0 : ev_V G l M J (pc + 3) L (.int (σ.1 2) :: st) a k n) : ev_V G l M J pc L (.ref (A 0) :: st) a k n := e_getf (C := RX7) (T := TX7) (N := 9) (ci := 7) 3 inX7 rfl hC.1.1 (by decide) hw rfl hd k0
theorem lc_g4 (hC : LC G a A σ nI mI) (hw : Cond.fieldLink M.1.cls idx "SpringChainLaw$Chain" "masses" "[LSpringChainLaw$Mass;" ∈ ev_ws) (hd : decode M.2.1 pc = .ok (.getfield idx, 3)) (k0 : ev_V G l M J (pc + 3) L (.ref (A 1) :: st) a k n) : ev_V G l M J pc L (.ref (A 0) :: st) a k n := e_getf (C := RX7) (T := TX7) (N := 9) (ci := 7) 4 inX7 rfl hC.1.1 (by decide) hw rfl hd k0
theorem lc_g5 (hC : LC G a A σ nI mI) (hw : Cond.fieldLink M.1.cls idx "SpringChainLaw$Chain" "springs" "[LSpringChainLaw$Spring;" ∈ ev_ws) (hd : decode M.2.1 pc = .ok (.getfield idx, 3)) (k0 : ev_V G l M J (pc + 3) L (.ref (A 2) :: st) a k n) : ev_V G l M J pc L (.ref (A 0) :: st) a k n := e_getf (C := RX7) (T := TX7) (N := 9) (ci := 7) 5 inX7 rfl hC.1.1 (by decide) hw rfl hd k0
theorem lc_g6 (hC : LC G a A σ nI mI) (hw : Cond.fieldLink M.1.cls idx "SpringChainLaw$Chain" "impulses" "[[I" ∈ ev_ws) (hd : decode M.2.1 pc = .ok (.getfield idx, 3)) (k0 : ev_V G l M J (pc + 3) L (.ref (A 3) :: st) a k n) : ev_V G l M J pc L (.ref (A 0) :: st) a k n := e_getf (C := RX7) (T := TX7) (N := 9) (ci := 7) 6 inX7 rfl hC.1.1 (by decide) hw rfl hd k0
theorem lc_g7 (hC : LC G a A σ nI mI) (hw : Cond.fieldLink M.1.cls idx "SpringChainLaw$Chain" "patterns" "[[I" ∈ ev_ws) (hd : decode M.2.1 pc = .ok (.getfield idx, 3)) (k0 : ev_V G l M J (pc + 3) L (.ref (A 4) :: st) a k n) : ev_V G l M J pc L (.ref (A 0) :: st) a k n := e_getf (C := RX7) (T := TX7) (N := 9) (ci := 7) 7 inX7 rfl hC.1.1 (by decide) hw rfl hd k0
theorem lc_g8 (hC : LC G a A σ nI mI) (hw : Cond.fieldLink M.1.cls idx "SpringChainLaw$Chain" "accounts" "[J" ∈ ev_ws) (hd : decode M.2.1 pc = .ok (.getfield idx, 3)) (k0 : ev_V G l M J (pc + 3) L (.ref (A 5) :: st) a k n) : ev_V G l M J pc L (.ref (A 0) :: st) a k n := e_getf (C := RX7) (T := TX7) (N := 9) (ci := 7) 8 inX7 rfl hC.1.1 (by decide) hw rfl hd k0
theorem lc_m0 (hC : LC G a A σ nI mI) (hj : j < sNm σ) (hw : Cond.fieldLink M.1.cls idx "SpringChainLaw$Mass" "weight" "I" ∈ ev_ws) (hd : decode M.2.1 pc = .ok (.getfield idx, 3)) (k0 : ev_V G l M J (pc + 3) L (.int (σ.2.2 0 j) :: st) a k n) : ev_V G l M J pc L (.ref (A (10 + j)) :: st) a k n := e_getf (C := RX8) (T := TX8) (N := 3) (ci := 8) 0 inX8 rfl (hC.2.1.1 j hj) (by decide) hw rfl hd k0
theorem lc_m1 (hC : LC G a A σ nI mI) (hj : j < sNm σ) (hw : Cond.fieldLink M.1.cls idx "SpringChainLaw$Mass" "place" "J" ∈ ev_ws) (hd : decode M.2.1 pc = .ok (.getfield idx, 3)) (k0 : ev_V G l M J (pc + 3) L (.long (σ.2.2 1 j).toInt64 :: st) a k n) : ev_V G l M J pc L (.ref (A (10 + j)) :: st) a k n := e_getf (C := RX8) (T := TX8) (N := 3) (ci := 8) 1 inX8 rfl (hC.2.1.1 j hj) (by decide) hw rfl hd k0
theorem lc_m2 (hC : LC G a A σ nI mI) (hj : j < sNm σ) (hw : Cond.fieldLink M.1.cls idx "SpringChainLaw$Mass" "momentum" "J" ∈ ev_ws) (hd : decode M.2.1 pc = .ok (.getfield idx, 3)) (k0 : ev_V G l M J (pc + 3) L (.long (σ.2.2 2 j).toInt64 :: st) a k n) : ev_V G l M J pc L (.ref (A (10 + j)) :: st) a k n := e_getf (C := RX8) (T := TX8) (N := 3) (ci := 8) 2 inX8 rfl (hC.2.1.1 j hj) (by decide) hw rfl hd k0
theorem lc_s0 (hC : LC G a A σ nI mI) (hj : j < sNm σ + 1) (hw : Cond.fieldLink M.1.cls idx "SpringChainLaw$Spring" "stiffness" "I" ∈ ev_ws) (hd : decode M.2.1 pc = .ok (.getfield idx, 3)) (k0 : ev_V G l M J (pc + 3) L (.int (σ.2.2 3 j) :: st) a k n) : ev_V G l M J pc L (.ref (A (30 + j)) :: st) a k n := e_getf (C := RX10) (T := TX10) (N := 3) (ci := 10) 0 inX10 rfl (hC.2.1.2 j hj) (by decide) hw rfl hd k0
theorem lc_s1 (hC : LC G a A σ nI mI) (hj : j < sNm σ + 1) (hw : Cond.fieldLink M.1.cls idx "SpringChainLaw$Spring" "limit" "I" ∈ ev_ws) (hd : decode M.2.1 pc = .ok (.getfield idx, 3)) (k0 : ev_V G l M J (pc + 3) L (.int (σ.2.2 4 j) :: st) a k n) : ev_V G l M J pc L (.ref (A (30 + j)) :: st) a k n := e_getf (C := RX10) (T := TX10) (N := 3) (ci := 10) 1 inX10 rfl (hC.2.1.2 j hj) (by decide) hw rfl hd k0
theorem lc_s2 (hC : LC G a A σ nI mI) (hj : j < sNm σ + 1) (hw : Cond.fieldLink M.1.cls idx "SpringChainLaw$Spring" "isBroken" "Z" ∈ ev_ws) (hd : decode M.2.1 pc = .ok (.getfield idx, 3)) (k0 : ev_V G l M J (pc + 3) L (.int (σ.2.2 5 j) :: st) a k n) : ev_V G l M J pc L (.ref (A (30 + j)) :: st) a k n := e_getf (C := RX10) (T := TX10) (N := 3) (ci := 10) 2 inX10 rfl (hC.2.1.2 j hj) (by decide) hw rfl hd k0
theorem lc_q1 (hC : LC G a A σ nI mI) (hx : x.toInt = (j : Int)) (hj : j < sNm σ) (hd : decode M.2.1 pc = .ok (.aaload, 1)) (k0 : ev_V G l M J (pc + 1) L (.ref (A (10 + j)) :: st) a k n) : ev_V G l M J pc L (.int x :: .ref (A 1) :: st) a k n := by
  obtain ⟨f, x1, x2⟩ := hC.1.2.1
  refine e_aald (t0 := 7) x1 rfl rfl (by omega) (by omega) hd ?_
  rw [ar_nat hx, x2 j hj]
  exact k0
theorem lc_q2 (hC : LC G a A σ nI mI) (hx : x.toInt = (j : Int)) (hj : j < sNm σ + 1) (hd : decode M.2.1 pc = .ok (.aaload, 1)) (k0 : ev_V G l M J (pc + 1) L (.ref (A (30 + j)) :: st) a k n) : ev_V G l M J pc L (.int x :: .ref (A 2) :: st) a k n := by
  obtain ⟨f, x1, x2⟩ := hC.1.2.2.1
  refine e_aald (t0 := 8) x1 rfl rfl (by omega) (by omega) hd ?_
  rw [ar_nat hx, x2 j hj]
  exact k0
theorem lc_q3 (hC : LC G a A σ nI mI) (hx : x.toInt = (j : Int)) (hj : j < nI) (hd : decode M.2.1 pc = .ok (.aaload, 1)) (k0 : ev_V G l M J (pc + 1) L (.ref (A (50 + j)) :: st) a k n) : ev_V G l M J pc L (.int x :: .ref (A 3) :: st) a k n := by
  obtain ⟨f, x1, x2⟩ := hC.1.2.2.2.1
  refine e_aald (t0 := 5) x1 rfl rfl (by omega) (by omega) hd ?_
  rw [ar_nat hx, x2 j hj]
  exact k0
theorem lc_q4 (hC : LC G a A σ nI mI) (hx : x.toInt = (j : Int)) (hj : j < sPn σ) (hd : decode M.2.1 pc = .ok (.aaload, 1)) (k0 : ev_V G l M J (pc + 1) L (.ref (A (70 + j)) :: st) a k n) : ev_V G l M J pc L (.int x :: .ref (A 4) :: st) a k n := by
  obtain ⟨f, x1, x2⟩ := hC.1.2.2.2.2.1
  refine e_aald (t0 := 5) x1 rfl rfl (by omega) (by omega) hd ?_
  rw [ar_nat hx, x2 j hj]
  exact k0
theorem lc_n1 (hC : LC G a A σ nI mI) (hv : sInv σ) (hd : decode M.2.1 pc = .ok (.arraylength, 1)) (k0 : ev_V G l M J (pc + 1) L (.int (σ.1 0) :: st) a k n) : ev_V G l M J pc L (.ref (A 1) :: st) a k n := by
  obtain ⟨f, x1, x2⟩ := hC.1.2.1
  exact e_alen (t0 := 7) x1 rfl (nm_of hv) hd k0
theorem lc_n2 (hC : LC G a A σ nI mI) (hd : decode M.2.1 pc = .ok (.arraylength, 1)) (k0 : ev_V G l M J (pc + 1) L (.int (Int32.ofNat (sNm σ + 1)) :: st) a k n) : ev_V G l M J pc L (.ref (A 2) :: st) a k n := by
  obtain ⟨f, x1, x2⟩ := hC.1.2.2.1
  exact e_alen (t0 := 8) x1 rfl (rfl) hd k0
theorem lc_n3 (hC : LC G a A σ nI mI) (hd : decode M.2.1 pc = .ok (.arraylength, 1)) (k0 : ev_V G l M J (pc + 1) L (.int (Int32.ofNat nI) :: st) a k n) : ev_V G l M J pc L (.ref (A 3) :: st) a k n := by
  obtain ⟨f, x1, x2⟩ := hC.1.2.2.2.1
  exact e_alen (t0 := 5) x1 rfl (rfl) hd k0
theorem lc_n4 (hC : LC G a A σ nI mI) (hv : sInv σ) (hd : decode M.2.1 pc = .ok (.arraylength, 1)) (k0 : ev_V G l M J (pc + 1) L (.int (σ.1 6) :: st) a k n) : ev_V G l M J pc L (.ref (A 4) :: st) a k n := by
  obtain ⟨f, x1, x2⟩ := hC.1.2.2.2.2.1
  exact e_alen (t0 := 5) x1 rfl (pn_of hv) hd k0
theorem lc_i (hC : LC G a A σ nI mI) (hj : j < nI) (hx : x.toInt = (w : Int)) (hw3 : w < 3) (hd : decode M.2.1 pc = .ok (.iaload, 1)) (k0 : ev_V G l M J (pc + 1) L (.int (tiF (mI j) w) :: st) a k n) : ev_V G l M J pc L (.int x :: .ref (A (50 + j)) :: st) a k n := by
  obtain ⟨f, x1, x2⟩ := hC.2.2.1.1 j hj
  refine e_iald (N := 3) x1 (by omega) (by omega) hd ?_
  rw [ar_nat hx, x2 w hw3]
  exact k0
theorem lc_p (hC : LC G a A σ nI mI) (hj : j < sPn σ) (hx : x.toInt = (w : Int)) (hw2 : w < 2) (hd : decode M.2.1 pc = .ok (.iaload, 1)) (k0 : ev_V G l M J (pc + 1) L (.int (paF σ j w) :: st) a k n) : ev_V G l M J pc L (.int x :: .ref (A (70 + j)) :: st) a k n := by
  obtain ⟨f, x1, x2⟩ := hC.2.2.1.2 j hj
  refine e_iald (N := 2) x1 (by omega) (by omega) hd ?_
  rw [ar_nat hx, x2 w hw2]
  exact k0
theorem lc_a (hC : LC G a A σ nI mI) (hx : x.toInt = (w : Int)) (hw6 : w < 6) (hd : decode M.2.1 pc = .ok (.laload, 1)) (k0 : ev_V G l M J (pc + 1) L (.long (acJ σ w) :: st) a k n) : ev_V G l M J pc L (.int x :: .ref (A 5) :: st) a k n := by
  obtain ⟨f, x1, x2⟩ := hC.1.2.2.2.2.2
  refine e_lald (N := 6) x1 (by omega) (by omega) hd ?_
  rw [ar_nat hx, x2 w hw6]
  exact k0
theorem lc_wm0 (hC : LC G a A σ nI mI) (hj : j < sNm σ) (hw : Cond.fieldLink M.1.cls idx "SpringChainLaw$Mass" "weight" "I" ∈ ev_ws) (hd : decode M.2.1 pc = .ok (.putfield idx, 3)) (k0 : ∀ a2 : ev_H, LC G a2 A (cs_A σ 0 (ev_u (σ.2.2 0) j y)) nI mI → fr a a2 A (sNm σ) (sPn σ) → a2.2 = a.2 → ev_V G l M J (pc + 3) L st a2 k n) : ev_V G l M J pc L (.int y :: .ref (A (10 + j)) :: st) a k n := by
  refine e_putf (Cn := RX8) (T := TX8) (N := 3) (ci := 8) 0 tyX8 tyX8_ok nmX8 inX8 rfl (hC.2.1.1 j hj) (by decide) hw (Or.inl rfl) (tyX8_ok 0 (by decide)) rfl rfl (Nat.le_of_ble_eq_true rfl) hd ?_
  have e : lmE (cs_A σ 0 (ev_u (σ.2.2 0) j y)) j = .inr (8, [.int (σ.2.2 0 j), .long (σ.2.2 1 j).toInt64, .long (σ.2.2 2 j).toInt64].set 0 (.int y)) := by
    unfold lmE
    rw [cs_A_2, ev_u_self]
    rfl
  have q := hC.wm (σ' := cs_A σ 0 (ev_u (σ.2.2 0) j y)) hj (fun _ _ => rfl) (fun _ _ => rfl) (fun w k hw hk => by
      by_cases c : w = 0
      · subst c; rw [cs_A_2, ev_u_ne _ _ hk]
      · rw [cs_A_n _ _ c]) (fun w k hw => by rw [cs_A_n _ _ (by omega)])
  rw [e] at q
  exact k0 _ q (fr.put (Or.inr (Or.inr (Or.inl ⟨j, hj, rfl⟩)))) rfl
theorem lc_wm1 (hC : LC G a A σ nI mI) (hj : j < sNm σ) (hy : z = y.toInt64) (hw : Cond.fieldLink M.1.cls idx "SpringChainLaw$Mass" "place" "J" ∈ ev_ws) (hd : decode M.2.1 pc = .ok (.putfield idx, 3)) (k0 : ∀ a2 : ev_H, LC G a2 A (cs_A σ 1 (ev_u (σ.2.2 1) j y)) nI mI → fr a a2 A (sNm σ) (sPn σ) → a2.2 = a.2 → ev_V G l M J (pc + 3) L st a2 k n) : ev_V G l M J pc L (.long z :: .ref (A (10 + j)) :: st) a k n := by
  subst hy
  refine e_putf (Cn := RX8) (T := TX8) (N := 3) (ci := 8) 1 tyX8 tyX8_ok nmX8 inX8 rfl (hC.2.1.1 j hj) (by decide) hw (Or.inl rfl) (tyX8_ok 1 (by decide)) rfl rfl (Nat.le_of_ble_eq_true rfl) hd ?_
  have e : lmE (cs_A σ 1 (ev_u (σ.2.2 1) j y)) j = .inr (8, [.int (σ.2.2 0 j), .long (σ.2.2 1 j).toInt64, .long (σ.2.2 2 j).toInt64].set 1 (.long y.toInt64)) := by
    unfold lmE
    rw [cs_A_2, ev_u_self]
    rfl
  have q := hC.wm (σ' := cs_A σ 1 (ev_u (σ.2.2 1) j y)) hj (fun _ _ => rfl) (fun _ _ => rfl) (fun w k hw hk => by
      by_cases c : w = 1
      · subst c; rw [cs_A_2, ev_u_ne _ _ hk]
      · rw [cs_A_n _ _ c]) (fun w k hw => by rw [cs_A_n _ _ (by omega)])
  rw [e] at q
  exact k0 _ q (fr.put (Or.inr (Or.inr (Or.inl ⟨j, hj, rfl⟩)))) rfl
theorem lc_wm2 (hC : LC G a A σ nI mI) (hj : j < sNm σ) (hy : z = y.toInt64) (hw : Cond.fieldLink M.1.cls idx "SpringChainLaw$Mass" "momentum" "J" ∈ ev_ws) (hd : decode M.2.1 pc = .ok (.putfield idx, 3)) (k0 : ∀ a2 : ev_H, LC G a2 A (cs_A σ 2 (ev_u (σ.2.2 2) j y)) nI mI → fr a a2 A (sNm σ) (sPn σ) → a2.2 = a.2 → ev_V G l M J (pc + 3) L st a2 k n) : ev_V G l M J pc L (.long z :: .ref (A (10 + j)) :: st) a k n := by
  subst hy
  refine e_putf (Cn := RX8) (T := TX8) (N := 3) (ci := 8) 2 tyX8 tyX8_ok nmX8 inX8 rfl (hC.2.1.1 j hj) (by decide) hw (Or.inl rfl) (tyX8_ok 2 (by decide)) rfl rfl (Nat.le_of_ble_eq_true rfl) hd ?_
  have e : lmE (cs_A σ 2 (ev_u (σ.2.2 2) j y)) j = .inr (8, [.int (σ.2.2 0 j), .long (σ.2.2 1 j).toInt64, .long (σ.2.2 2 j).toInt64].set 2 (.long y.toInt64)) := by
    unfold lmE
    rw [cs_A_2, ev_u_self]
    rfl
  have q := hC.wm (σ' := cs_A σ 2 (ev_u (σ.2.2 2) j y)) hj (fun _ _ => rfl) (fun _ _ => rfl) (fun w k hw hk => by
      by_cases c : w = 2
      · subst c; rw [cs_A_2, ev_u_ne _ _ hk]
      · rw [cs_A_n _ _ c]) (fun w k hw => by rw [cs_A_n _ _ (by omega)])
  rw [e] at q
  exact k0 _ q (fr.put (Or.inr (Or.inr (Or.inl ⟨j, hj, rfl⟩)))) rfl
theorem lc_ws0 (hC : LC G a A σ nI mI) (hj : j < sNm σ + 1) (hw : Cond.fieldLink M.1.cls idx "SpringChainLaw$Spring" "stiffness" "I" ∈ ev_ws) (hd : decode M.2.1 pc = .ok (.putfield idx, 3)) (k0 : ∀ a2 : ev_H, LC G a2 A (cs_A σ 3 (ev_u (σ.2.2 3) j y)) nI mI → fr a a2 A (sNm σ) (sPn σ) → a2.2 = a.2 → ev_V G l M J (pc + 3) L st a2 k n) : ev_V G l M J pc L (.int y :: .ref (A (30 + j)) :: st) a k n := by
  refine e_putf (Cn := RX10) (T := TX10) (N := 3) (ci := 10) 0 tyX10 tyX10_ok nmX10 inX10 rfl (hC.2.1.2 j hj) (by decide) hw (Or.inl rfl) (tyX10_ok 0 (by decide)) rfl rfl (Nat.le_of_ble_eq_true rfl) hd ?_
  have e : lsE (cs_A σ 3 (ev_u (σ.2.2 3) j y)) j = .inr (10, [.int (σ.2.2 3 j), .int (σ.2.2 4 j), .int (σ.2.2 5 j)].set 0 (.int y)) := by
    unfold lsE
    rw [cs_A_2, ev_u_self]
    rfl
  have q := hC.ws (σ' := cs_A σ 3 (ev_u (σ.2.2 3) j y)) hj (fun _ _ => rfl) (fun _ _ => rfl) (fun w k hw hw2 hk => by
      by_cases c : w = 3
      · subst c; rw [cs_A_2, ev_u_ne _ _ hk]
      · rw [cs_A_n _ _ c]) (fun w k hw => by rw [cs_A_n _ _ (by omega)])
  rw [e] at q
  exact k0 _ q (fr.put (Or.inr (Or.inr (Or.inr (Or.inl ⟨j, hj, rfl⟩))))) rfl
theorem lc_ws1 (hC : LC G a A σ nI mI) (hj : j < sNm σ + 1) (hw : Cond.fieldLink M.1.cls idx "SpringChainLaw$Spring" "limit" "I" ∈ ev_ws) (hd : decode M.2.1 pc = .ok (.putfield idx, 3)) (k0 : ∀ a2 : ev_H, LC G a2 A (cs_A σ 4 (ev_u (σ.2.2 4) j y)) nI mI → fr a a2 A (sNm σ) (sPn σ) → a2.2 = a.2 → ev_V G l M J (pc + 3) L st a2 k n) : ev_V G l M J pc L (.int y :: .ref (A (30 + j)) :: st) a k n := by
  refine e_putf (Cn := RX10) (T := TX10) (N := 3) (ci := 10) 1 tyX10 tyX10_ok nmX10 inX10 rfl (hC.2.1.2 j hj) (by decide) hw (Or.inl rfl) (tyX10_ok 1 (by decide)) rfl rfl (Nat.le_of_ble_eq_true rfl) hd ?_
  have e : lsE (cs_A σ 4 (ev_u (σ.2.2 4) j y)) j = .inr (10, [.int (σ.2.2 3 j), .int (σ.2.2 4 j), .int (σ.2.2 5 j)].set 1 (.int y)) := by
    unfold lsE
    rw [cs_A_2, ev_u_self]
    rfl
  have q := hC.ws (σ' := cs_A σ 4 (ev_u (σ.2.2 4) j y)) hj (fun _ _ => rfl) (fun _ _ => rfl) (fun w k hw hw2 hk => by
      by_cases c : w = 4
      · subst c; rw [cs_A_2, ev_u_ne _ _ hk]
      · rw [cs_A_n _ _ c]) (fun w k hw => by rw [cs_A_n _ _ (by omega)])
  rw [e] at q
  exact k0 _ q (fr.put (Or.inr (Or.inr (Or.inr (Or.inl ⟨j, hj, rfl⟩))))) rfl
theorem lc_ws2 (hC : LC G a A σ nI mI) (hj : j < sNm σ + 1) (hy : narrow .boolean (.int y) = .int y) (hy2 : fits .boolean (.int y) = true) (hw : Cond.fieldLink M.1.cls idx "SpringChainLaw$Spring" "isBroken" "Z" ∈ ev_ws) (hd : decode M.2.1 pc = .ok (.putfield idx, 3)) (k0 : ∀ a2 : ev_H, LC G a2 A (cs_A σ 5 (ev_u (σ.2.2 5) j y)) nI mI → fr a a2 A (sNm σ) (sPn σ) → a2.2 = a.2 → ev_V G l M J (pc + 3) L st a2 k n) : ev_V G l M J pc L (.int y :: .ref (A (30 + j)) :: st) a k n := by
  refine e_putf (Cn := RX10) (T := TX10) (N := 3) (ci := 10) 2 tyX10 tyX10_ok nmX10 inX10 rfl (hC.2.1.2 j hj) (by decide) hw (Or.inl rfl) (tyX10_ok 2 (by decide)) hy hy2 (Nat.le_of_ble_eq_true rfl) hd ?_
  have e : lsE (cs_A σ 5 (ev_u (σ.2.2 5) j y)) j = .inr (10, [.int (σ.2.2 3 j), .int (σ.2.2 4 j), .int (σ.2.2 5 j)].set 2 (.int y)) := by
    unfold lsE
    rw [cs_A_2, ev_u_self]
    rfl
  have q := hC.ws (σ' := cs_A σ 5 (ev_u (σ.2.2 5) j y)) hj (fun _ _ => rfl) (fun _ _ => rfl) (fun w k hw hw2 hk => by
      by_cases c : w = 5
      · subst c; rw [cs_A_2, ev_u_ne _ _ hk]
      · rw [cs_A_n _ _ c]) (fun w k hw => by rw [cs_A_n _ _ (by omega)])
  rw [e] at q
  exact k0 _ q (fr.put (Or.inr (Or.inr (Or.inr (Or.inl ⟨j, hj, rfl⟩))))) rfl
theorem lc_wa (hC : LC G a A σ nI mI) (hx : x.toInt = (w : Int)) (hw1 : 1 ≤ w) (hw6 : w < 6) (hd : decode M.2.1 pc = .ok (.lastore, 1)) (k0 : ∀ a2 : ev_H, LC G a2 A (cs_J σ (w - 1) z) nI mI → fr a a2 A (sNm σ) (sPn σ) → a2.2 = a.2 → ev_V G l M J (pc + 1) L st a2 k n) : ev_V G l M J pc L (.long z :: .int x :: .ref (A 5) :: st) a k n := by
  obtain ⟨f, x1, x2⟩ := id hC.1.2.2.2.2.2
  refine e_last (N := 6) x1 (by omega) (by omega) hd ?_
  rw [ar_nat hx]
  refine k0 _ (hC.wa (fun k hk => ?_) (fun _ _ => rfl) (fun _ _ => rfl)) (fr.put (Or.inr (Or.inl rfl))) rfl
  unfold ev_u acJ
  by_cases c : k = w
  · subst c
    rw [if_pos rfl, if_neg (by omega)]
    exact (ev_u_self _ _ _).symm
  · rw [if_neg c, x2 k hk]
    unfold acJ
    by_cases c0 : k = 0
    · rw [if_pos c0, if_pos c0]
    · rw [if_neg c0, if_neg c0]
      exact (ev_u_ne _ _ (by omega)).symm
theorem lc_wp (hC : LC G a A σ nI mI) (hj : j < sPn σ) (hx : x.toInt = ((1 : Nat) : Int)) (hd : decode M.2.1 pc = .ok (.iastore, 1)) (k0 : ∀ a2 : ev_H, LC G a2 A (cs_A σ 11 (ev_u (σ.2.2 11) j y)) nI mI → fr a a2 A (sNm σ) (sPn σ) → a2.2 = a.2 → ev_V G l M J (pc + 1) L st a2 k n) : ev_V G l M J pc L (.int y :: .int x :: .ref (A (70 + j)) :: st) a k n := by
  obtain ⟨f, x1, x2⟩ := id (hC.2.2.1.2 j hj)
  refine e_iast (N := 2) x1 (by omega) (by omega) hd ?_
  rw [ar_nat hx]
  refine k0 _ (hC.wp (σ' := cs_A σ 11 (ev_u (σ.2.2 11) j y)) hj (fun i hi => ?_) (fun _ _ => rfl) (fun _ _ => rfl) (fun w k hw => by rw [cs_A_n _ _ (by omega)]) (fun w k hw hk => by
      by_cases c : w = 11
      · subst c; rw [cs_A_2, ev_u_ne _ _ hk]
      · rw [cs_A_n _ _ c])) (fr.put (Or.inr (Or.inr (Or.inr (Or.inr ⟨j, hj, rfl⟩))))) rfl
  rcases (show i = 0 ∨ i = 1 by omega) with rfl | rfl
  · rw [ev_u_ne _ _ (by decide), x2 0 (by decide)]
    show σ.2.2 10 j = (cs_A σ 11 (ev_u (σ.2.2 11) j y)).2.2 10 j
    rw [cs_A_n _ _ (by decide)]
  · rw [ev_u_self]
    show y = (cs_A σ 11 (ev_u (σ.2.2 11) j y)).2.2 11 j
    rw [cs_A_2, ev_u_self]
theorem lc_wt (hC : LC G a A σ nI mI) (hw : Cond.fieldLink M.1.cls idx "SpringChainLaw$Chain" "time" "I" ∈ ev_ws) (hd : decode M.2.1 pc = .ok (.putfield idx, 3)) (k0 : ∀ a2 : ev_H, LC G a2 A (cs_I σ 1 y) nI mI → fr a a2 A (sNm σ) (sPn σ) → a2.2 = a.2 → ev_V G l M J (pc + 3) L st a2 k n) : ev_V G l M J pc L (.int y :: .ref (A 0) :: st) a k n := by
  refine e_putf (Cn := RX7) (T := TX7) (N := 9) (ci := 7) 0 tyX7 tyX7_ok nmX7 inX7 rfl hC.1.1 (by decide) hw (Or.inl rfl) (tyX7_ok 0 (by decide)) rfl rfl (Nat.le_of_ble_eq_true rfl) hd ?_
  exact k0 _ (hC.wc (σ' := cs_I σ 1 y) ⟨rfl, rfl, rfl, rfl⟩ rfl rfl (fun _ _ _ => rfl) (fun k => ⟨fun _ => rfl, fun _ => rfl⟩) hC.1.2.2.2.1 hC.2.2.1.1 hC.1.2.2.2.2.1 hC.2.2.1.2 hC.2.2.2.2.2) (fr.put (Or.inl rfl)) rfl
theorem lc_wl (hC : LC G a A σ nI mI) (hw : Cond.fieldLink M.1.cls idx "SpringChainLaw$Chain" "left" "I" ∈ ev_ws) (hd : decode M.2.1 pc = .ok (.putfield idx, 3)) (k0 : ∀ a2 : ev_H, LC G a2 A (cs_I σ 3 y) nI mI → fr a a2 A (sNm σ) (sPn σ) → a2.2 = a.2 → ev_V G l M J (pc + 3) L st a2 k n) : ev_V G l M J pc L (.int y :: .ref (A 0) :: st) a k n := by
  refine e_putf (Cn := RX7) (T := TX7) (N := 9) (ci := 7) 1 tyX7 tyX7_ok nmX7 inX7 rfl hC.1.1 (by decide) hw (Or.inl rfl) (tyX7_ok 1 (by decide)) rfl rfl (Nat.le_of_ble_eq_true rfl) hd ?_
  exact k0 _ (hC.wc (σ' := cs_I σ 3 y) ⟨rfl, rfl, rfl, rfl⟩ rfl rfl (fun _ _ _ => rfl) (fun k => ⟨fun _ => rfl, fun _ => rfl⟩) hC.1.2.2.2.1 hC.2.2.1.1 hC.1.2.2.2.2.1 hC.2.2.1.2 hC.2.2.2.2.2) (fr.put (Or.inl rfl)) rfl
theorem lc_wr (hC : LC G a A σ nI mI) (hw : Cond.fieldLink M.1.cls idx "SpringChainLaw$Chain" "right" "I" ∈ ev_ws) (hd : decode M.2.1 pc = .ok (.putfield idx, 3)) (k0 : ∀ a2 : ev_H, LC G a2 A (cs_I σ 4 y) nI mI → fr a a2 A (sNm σ) (sPn σ) → a2.2 = a.2 → ev_V G l M J (pc + 3) L st a2 k n) : ev_V G l M J pc L (.int y :: .ref (A 0) :: st) a k n := by
  refine e_putf (Cn := RX7) (T := TX7) (N := 9) (ci := 7) 2 tyX7 tyX7_ok nmX7 inX7 rfl hC.1.1 (by decide) hw (Or.inl rfl) (tyX7_ok 2 (by decide)) rfl rfl (Nat.le_of_ble_eq_true rfl) hd ?_
  exact k0 _ (hC.wc (σ' := cs_I σ 4 y) ⟨rfl, rfl, rfl, rfl⟩ rfl rfl (fun _ _ _ => rfl) (fun k => ⟨fun _ => rfl, fun _ => rfl⟩) hC.1.2.2.2.1 hC.2.2.1.1 hC.1.2.2.2.2.1 hC.2.2.1.2 hC.2.2.2.2.2) (fr.put (Or.inl rfl)) rfl
theorem lc_wd (hC : LC G a A σ nI mI) (hw : Cond.fieldLink M.1.cls idx "SpringChainLaw$Chain" "damping" "I" ∈ ev_ws) (hd : decode M.2.1 pc = .ok (.putfield idx, 3)) (k0 : ∀ a2 : ev_H, LC G a2 A (cs_I σ 2 y) nI mI → fr a a2 A (sNm σ) (sPn σ) → a2.2 = a.2 → ev_V G l M J (pc + 3) L st a2 k n) : ev_V G l M J pc L (.int y :: .ref (A 0) :: st) a k n := by
  refine e_putf (Cn := RX7) (T := TX7) (N := 9) (ci := 7) 3 tyX7 tyX7_ok nmX7 inX7 rfl hC.1.1 (by decide) hw (Or.inl rfl) (tyX7_ok 3 (by decide)) rfl rfl (Nat.le_of_ble_eq_true rfl) hd ?_
  exact k0 _ (hC.wc (σ' := cs_I σ 2 y) ⟨rfl, rfl, rfl, rfl⟩ rfl rfl (fun _ _ _ => rfl) (fun k => ⟨fun _ => rfl, fun _ => rfl⟩) hC.1.2.2.2.1 hC.2.2.1.1 hC.1.2.2.2.2.1 hC.2.2.1.2 hC.2.2.2.2.2) (fr.put (Or.inl rfl)) rfl
theorem lc_wi (hC : LC G a A σ nI mI) {q n2 : Nat} {g : Nat → Nat} {m2 : Nat → TI} (hv : sInv σ) (hn : n2 ≤ 20) (hq : aQ a (G.2.1 5) q n2 g) (hr : ∀ k, k < n2 → aI a (G.2.1 0) (g k) 3 (tiF (m2 k))) (hw : Cond.fieldLink M.1.cls idx "SpringChainLaw$Chain" "impulses" "[[I" ∈ ev_ws) (hd : decode M.2.1 pc = .ok (.putfield idx, 3)) (k0 : ∀ a2 : ev_H, LC G a2 (lcI A q g) (σ) n2 m2 → fr a a2 A (sNm σ) (sPn σ) → a2.2 = a.2 → ev_V G l M J (pc + 3) L st a2 k n) : ev_V G l M J pc L (.ref q :: .ref (A 0) :: st) a k n := by
  refine e_putf (Cn := RX7) (T := TX7) (N := 9) (ci := 7) 6 tyX7 tyX7_ok nmX7 inX7 rfl hC.1.1 (by decide) hw (Or.inl rfl) (tyX7_ok 6 (by decide)) rfl rfl (Nat.le_of_ble_eq_true rfl) hd ?_
  have o : ∀ i, i ≠ 3 → (i < 50 ∨ 70 ≤ i) → lcI A q g i = A i := fun i h1 h2 => lcI_o A q g h1 h2
  have hNm := hv.1.nat
  have p3 := hC.2.2.2.2.2
  have p2 := hC.2.2.1.2
  have p1 := hC.1.2.2.2.2.1
  refine k0 _ (hC.wc (σ' := σ) (A' := lcI A q g) ⟨o 0 (by decide) (by decide), o 1 (by decide) (by decide), o 2 (by decide) (by decide), o 5 (by decide) (by decide)⟩ rfl rfl (fun _ _ _ => rfl) (fun k => ⟨fun hk => ?_, fun hk => ?_⟩) (hq.nth fun k hk => lcI_i A q g (by omega)) (fun k hk => by rw [lcI_i A q g (by omega)]; exact hr k hk) ?_ (fun k hk => by rw [o _ (by omega) (by omega)]; exact p2 k hk) (fun i j hi hj e => ?_)) (fr.put (Or.inl rfl)) rfl
  · exact o _ (by omega) (by omega)
  · exact o _ (by omega) (by omega)
  · rw [o 4 (by decide) (by decide)]
    exact p1.nth fun k hk => o _ (by omega) (by omega)
  · rw [o _ (by omega) (by omega), o _ (by omega) (by omega)] at e
    exact p3 i j hi hj e
theorem lc_wi0 (hC : LC G a A σ nI mI) {q n2 : Nat} {g : Nat → Nat} {m2 : Nat → TI} (hNm : sNm σ ≤ 12) (hn : n2 ≤ 20) (hq : aQ a (G.2.1 5) q n2 g) (hr : ∀ k, k < n2 → aI a (G.2.1 0) (g k) 3 (tiF (m2 k))) (hw : Cond.fieldLink M.1.cls idx "SpringChainLaw$Chain" "impulses" "[[I" ∈ ev_ws) (hd : decode M.2.1 pc = .ok (.putfield idx, 3)) (k0 : ∀ a2 : ev_H, LC G a2 (lcI A q g) (σ) n2 m2 → fr a a2 A (sNm σ) (sPn σ) → a2.2 = a.2 → ev_V G l M J (pc + 3) L st a2 k n) : ev_V G l M J pc L (.ref q :: .ref (A 0) :: st) a k n := by
  refine e_putf (Cn := RX7) (T := TX7) (N := 9) (ci := 7) 6 tyX7 tyX7_ok nmX7 inX7 rfl hC.1.1 (by decide) hw (Or.inl rfl) (tyX7_ok 6 (by decide)) rfl rfl (Nat.le_of_ble_eq_true rfl) hd ?_
  have o : ∀ i, i ≠ 3 → (i < 50 ∨ 70 ≤ i) → lcI A q g i = A i := fun i h1 h2 => lcI_o A q g h1 h2
  have p3 := hC.2.2.2.2.2
  have p2 := hC.2.2.1.2
  have p1 := hC.1.2.2.2.2.1
  refine k0 _ (hC.wc (σ' := σ) (A' := lcI A q g) ⟨o 0 (by decide) (by decide), o 1 (by decide) (by decide), o 2 (by decide) (by decide), o 5 (by decide) (by decide)⟩ rfl rfl (fun _ _ _ => rfl) (fun k => ⟨fun hk => ?_, fun hk => ?_⟩) (hq.nth fun k hk => lcI_i A q g (by omega)) (fun k hk => by rw [lcI_i A q g (by omega)]; exact hr k hk) ?_ (fun k hk => by rw [o _ (by omega) (by omega)]; exact p2 k hk) (fun i j hi hj e => ?_)) (fr.put (Or.inl rfl)) rfl
  · exact o _ (by omega) (by omega)
  · exact o _ (by omega) (by omega)
  · rw [o 4 (by decide) (by decide)]
    exact p1.nth fun k hk => o _ (by omega) (by omega)
  · rw [o _ (by omega) (by omega), o _ (by omega) (by omega)] at e
    exact p3 i j hi hj e
theorem lc_wpt (hC : LC G a A σ nI mI) (hnI : nI ≤ 20) {q : Nat} {g : Nat → Nat} {σ2 : CS} (hv : sInv σ) (h1 : ∀ k, k ≠ 6 → σ2.1 k = σ.1 k) (h2 : σ2.2.1 = σ.2.1) (h3 : ∀ w k, w < 10 → σ2.2.2 w k = σ.2.2 w k) (hq : aQ a (G.2.1 5) q (sPn σ2) g) (hr : ∀ k, k < sPn σ2 → aI a (G.2.1 0) (g k) 2 (paF σ2 k)) (hi : ∀ i j, i < sPn σ2 → j < sPn σ2 → g i = g j → i = j) (hw : Cond.fieldLink M.1.cls idx "SpringChainLaw$Chain" "patterns" "[[I" ∈ ev_ws) (hd : decode M.2.1 pc = .ok (.putfield idx, 3)) (k0 : ∀ a2 : ev_H, LC G a2 (lcP A q g) (σ2) nI mI → fr a a2 A (sNm σ) (sPn σ) → a2.2 = a.2 → ev_V G l M J (pc + 3) L st a2 k n) : ev_V G l M J pc L (.ref q :: .ref (A 0) :: st) a k n := by
  refine e_putf (Cn := RX7) (T := TX7) (N := 9) (ci := 7) 7 tyX7 tyX7_ok nmX7 inX7 rfl hC.1.1 (by decide) hw (Or.inl rfl) (tyX7_ok 7 (by decide)) rfl rfl (Nat.le_of_ble_eq_true rfl) hd ?_
  have hNm := hv.1.nat
  have o : ∀ i, i ≠ 4 → i < 70 → lcP A q g i = A i := fun i h1 h2 => lcP_o A q g h1 h2
  have c := hC.wc (σ' := σ2) (A' := lcP A q g) (n' := nI) (m' := mI) ⟨o 0 (by decide) (by decide), o 1 (by decide) (by decide), o 2 (by decide) (by decide), o 5 (by decide) (by decide)⟩ (h1 0 (by decide)) h2 (fun w k hw => h3 w k (by omega)) (fun k => ⟨fun hk => o _ (by omega) (by omega), fun hk => o _ (by omega) (by omega)⟩) (by rw [o 3 (by decide) (by decide)]; exact hC.1.2.2.2.1.nth fun k hk => o _ (by omega) (by omega)) (fun k hk => by rw [o _ (by omega) (by omega)]; exact hC.2.2.1.1 k hk) (hq.nth fun k hk => lcP_i A q g k) (fun k hk => by rw [lcP_i]; exact hr k hk) (fun i j hi1 hj1 e => by rw [lcP_i, lcP_i] at e; exact hi i j hi1 hj1 e)
  have e : lcE (lcP A q g) σ2 = .inr (7, [.int (σ.1 1), .int (σ.1 3), .int (σ.1 4), .int (σ.1 2), .ref (A 1), .ref (A 2), .ref (A 3), .ref (A 4), .ref (A 5)].set 7 (.ref q)) := by
    unfold lcE
    rw [h1 1 (by decide), h1 2 (by decide), h1 3 (by decide), h1 4 (by decide)]
    rfl
  rw [e] at c
  exact k0 _ c (fr.put (Or.inl rfl)) rfl
theorem lc_a1 (hC : LC G a A σ nI mI) (hx : x.toInt = ((w + 1 : Nat) : Int)) (hw : w < 5) (hd : decode M.2.1 pc = .ok (.laload, 1)) (k0 : ev_V G l M J (pc + 1) L (.long (σ.2.1 w) :: st) a k n) : ev_V G l M J pc L (.int x :: .ref (A 5) :: st) a k n := lc_a hC hx (by omega) hd k0
theorem lc_wa1 (hC : LC G a A σ nI mI) (hx : x.toInt = ((w + 1 : Nat) : Int)) (hw : w < 5) (hd : decode M.2.1 pc = .ok (.lastore, 1)) (k0 : ∀ a2 : ev_H, LC G a2 A (cs_J σ w z) nI mI → fr a a2 A (sNm σ) (sPn σ) → a2.2 = a.2 → ev_V G l M J (pc + 1) L st a2 k n) : ev_V G l M J pc L (.long z :: .int x :: .ref (A 5) :: st) a k n := lc_wa hC hx (by omega) (by omega) hd k0
end LCR
