/-! the model foretells -/
/-- as it was, but for what doesn't count -/
def sameM (μ ν : MS) : Prop := ν.1 = (ms_I μ 0 0).1 ∧ ν.2.2 = μ.2.2 ∧ (∀ i, 3 ≤ i → i < 11 → ν.2.1 i = μ.2.1 i) ∧ (∀ q, q < 199 → ν.2.1 0 q = μ.2.1 0 q)
theorem RS.same {T : Int} {S : SS} {μ ν : MS} (h : RS T S μ) (hs : sameM μ ν) : RS T S ν := by
  obtain ⟨e1, e2, e3, e4⟩ := hs
  refine ⟨h.1.row e4, h.2.1.rows (by rw [e1]; exact ms_I_ne _ _ (by decide)) e3, ⟨?_, h.2.2.1.2.1, by rw [e2]; exact h.2.2.1.2.2⟩, ?_⟩
  · rw [e1]; exact (ms_I_ne _ _ (by decide)).trans h.2.2.1.1
  · rw [e1]; exact (ms_I_ne _ _ (by decide)).trans h.2.2.2
/-- the data put aside -/
def asM (μ : MS) : MS := ms_L (ms_I μ 0 0) 2 (fillL 199 ((ms_I μ 0 0).2.1 0) ((ms_I μ 0 0).2.1 2))
def keM (μ ν : MS) : Prop := ν.1 = (asM μ).1 ∧ ν.2.2 = (asM μ).2.2 ∧ ∀ i, 1 ≤ i → i < 11 → ν.2.1 i = (asM μ).2.1 i
theorem keM.tick {μ ν : MS} {F δ : Nat → Int64} (h : keM μ ν) : keM μ (ms_L (ms_L ν 11 F) 0 δ) := ⟨h.1, h.2.1, fun i a b => by rw [ms_L_ne _ _ (by omega), ms_L_ne _ _ (by omega)]; exact h.2.2 i a b⟩
theorem keM.back {μ ν : MS} (h : keM μ ν) : sameM μ (ms_L ν 0 (fillL 199 (ν.2.1 2) (ν.2.1 0))) := by
  refine ⟨h.1, h.2.1, fun i a b => ?_, fun q hq => ?_⟩
  · rw [ms_L_ne _ _ (by omega), h.2.2 i (by omega) b]
    exact ms_L_ne _ _ (by omega)
  · rw [ms_L_get, fillL_lt _ _ hq, h.2.2 2 (by decide) (by decide)]
    show ev_u (ms_I μ 0 0).2.1 2 (fillL 199 ((ms_I μ 0 0).2.1 0) ((ms_I μ 0 0).2.1 2)) 2 q = _
    rw [ev_u_self, fillL_lt _ _ hq]
    rfl
theorem asM_0 (μ : MS) : (asM μ).2.1 0 = μ.2.1 0 := rfl
theorem sGr_64 (σ : CS) (m i : Nat) (hb : -2147483648 < ((tickN (i + 1) σ).2.2 1 m).toInt) : (if (if (0 : Int64) < ((tickN (i + 1) σ).2.2 1 m).toInt64 then ((tickN (i + 1) σ).2.2 1 m).toInt64 else -((tickN (i + 1) σ).2.2 1 m).toInt64) < (sGr σ m i).toInt64 then (sGr σ m i).toInt64 else (if (0 : Int64) < ((tickN (i + 1) σ).2.2 1 m).toInt64 then ((tickN (i + 1) σ).2.2 1 m).toInt64 else -((tickN (i + 1) σ).2.2 1 m).toInt64)) = (sGr σ m (i + 1)).toInt64 := by
  have ha := ar_labs hb
  show _ = (if sGr σ m i < sAbs ((tickN (i + 1) σ).2.2 1 m) then sAbs ((tickN (i + 1) σ).2.2 1 m) else sGr σ m i).toInt64
  generalize sAbs ((tickN (i + 1) σ).2.2 1 m) = A at *
  generalize sGr σ m i = B at *
  generalize (if (0 : Int64) < ((tickN (i + 1) σ).2.2 1 m).toInt64 then ((tickN (i + 1) σ).2.2 1 m).toInt64 else -((tickN (i + 1) σ).2.2 1 m).toInt64) = C at *
  apply ar_eqL
  by_cases c : B < A
  · have c2 := Int32.lt_iff_toInt_lt.mp c
    rw [if_pos c, if_neg (fun q => by have := ar_lt64.mp q; rw [ar_64] at this; omega), ar_64, ha]
  · have c2 : ¬ B.toInt < A.toInt := fun q => c (Int32.lt_iff_toInt_lt.mpr q)
    rw [if_neg c, ar_64]
    by_cases d : C < B.toInt64
    · rw [if_pos d, ar_64]
    · have d2 : ¬ C.toInt < B.toInt := fun q => d (ar_lt64.mpr (by rw [ar_64]; exact q))
      rw [if_neg d]
      omega
section M10
variable {G : ev_G} {l : Launch} {c j w : Nat} {μ : MS} {σ : CS} {h : ev_H} {x y z : Int32} {T : Int}
set_option maxRecDepth 20000 in
theorem lp_mbk {J : ev_K} {k n : Nat} (hJ : 6 ≤ J.2.2.1) (hK : KR T σ (μ.2.1 0)) (hT : T < 2147000000) {d : Nat} {yd : Int32} (hyd : yd.toInt = (d : Int)) (hd : d ≤ 300) {R : Int} (hk : ∀ (y : Int32) (ν : MS), keM μ ν → y.toInt = R → ev_V G l mX7_breaksIn J 71 [some (.ref c), some (.int yd), some (.int y)] [] (mo G c ν h) k n) : ∀ (r i : Nat) (x : Int32) (y : Int32) (ν : MS), r + i = d + 1 → x.toInt = (i : Int) + 1 → keM μ ν → ((y = -1 ∧ sBrkF σ (d - i) i = R ∧ KR (T + (i : Int)) (tickN i σ) (ν.2.1 0)) ∨ (y ≠ -1 ∧ y.toInt = R)) → ev_V G l mX7_breaksIn J 46 [some (.ref c), some (.int yd), some (.int y), some (.int x)] [] (mo G c ν h) k n := by
  intro r
  induction r using Nat.strongRecOn with
  | ind r ih =>
    intro i x y ν
    intro hr hx hke hor
    have z1 := ar_1
    have z0 := ar_0
    have zm1 := ar_m1
    refine e_iload_n dX7_breaksIn_46 rfl rfl ?_
    refine e_iload_n dX7_breaksIn_47 rfl rfl ?_
    refine e_icmp_gt (tgt := 71) dX7_breaksIn_48 (by decide) (fun c48 => ?_) (fun c48 => ?_)
    · refine ev_lc (hk y ν hke ?_) ⟨rfl, rfl, rfl, trivial⟩
      rcases hor with ⟨q1, q2, -⟩ | ⟨q1, q2⟩
      · rw [← q2, q1, zm1, show d - i = 0 by omega]; rfl
      · exact q2
    · refine e_iload_n dX7_breaksIn_51 rfl rfl ?_
      refine e_iconst (v := (-1)) dX7_breaksIn_52 (by decide) ?_
      refine e_icmp_ne (tgt := 71) dX7_breaksIn_53 (by decide) (fun c53 => ?_) (fun c53 => ?_)
      · refine ev_lc (hk y ν hke ?_) ⟨rfl, rfl, rfl, trivial⟩
        rcases hor with ⟨q1, q2, -⟩ | ⟨q1, q2⟩
        · exact absurd q1 c53
        · exact q2
      · obtain ⟨hy1, hrun, hk1⟩ : y = -1 ∧ sBrkF σ (d - i) i = R ∧ KR (T + (i : Int)) (tickN i σ) (ν.2.1 0) := hor.resolve_right (fun q => q.1 c53)
        have hst : sBrkF σ (d - i) i = (if 0 < (sBrN (tickN i σ)).toInt then (i : Int) + 1 else sBrkF σ (d - (i + 1)) (i + 1)) := by rw [show d - i = (d - (i + 1)) + 1 by omega]; rfl
        refine e_aload_n dX7_breaksIn_56 rfl rfl ?_
        refine e_invV (mcY := 0) (msY := 0) (ct_X7_tick (σ := tickN i σ) (T := T + (i : Int)) hk1.1 hk1.2.1 hk1.2.2 (by omega)) vX7_tick wM_X7_288 (mo_at G c _ h 0 (by decide)) rfl dX7_breaksIn_57 rfl rfl (Nat.le_of_ble_eq_true rfl) (Nat.le_trans (Nat.le_of_ble_eq_true rfl) hJ) ?_
        rintro _ _ ⟨rfl, F, δ, hRt, rfl⟩
        have hk2 : KR (T + ((i + 1 : Nat) : Int)) (tickN (i + 1) σ) ((ms_L (ms_L ν 11 F) 0 δ).2.1 0) := by
          rw [ms_L_get, show T + ((i + 1 : Nat) : Int) = T + (i : Int) + 1 by omega]
          exact hk1.tick (by omega) hRt
        refine e_if_le (tgt := 65) dX7_breaksIn_60 (by decide) (fun c60 => ?_) (fun c60 => ?_)
        · refine e_iinc dX7_breaksIn_65 rfl rfl (Nat.le_of_ble_eq_true rfl) ?_
          refine e_goto (tgt := 46) dX7_breaksIn_68 (by decide) ?_
          first
            | (refine ih (r - 1) (by omega) (i + 1) _ _ _ (by omega) (by rw [ar_i1, ar_add (by omega) (by omega), z1]; omega) hke.tick (Or.inl ⟨hy1, ?_, hk2⟩)
               rw [← hrun, hst, if_neg (by omega)])
            | (refine ev_loc (L' := [some (.ref c), some (.int yd), some (.int x), some (.int _)]) ⟨rfl, rfl, rfl, rfl, trivial⟩ (ih (r - 1) (by omega) (i + 1) _ _ _ (by omega) (by rw [ar_i1, ar_add (by omega) (by omega), z1]; omega) hke.tick (Or.inr ⟨fun q => by rw [q] at hx; omega, ?_⟩))
               rw [← hrun, hst, if_pos c60, hx])
        · refine e_iload_n dX7_breaksIn_63 rfl rfl ?_
          refine e_istore_n dX7_breaksIn_64 rfl (Nat.le_of_ble_eq_true rfl) ?_
          refine e_iinc dX7_breaksIn_65 rfl rfl (Nat.le_of_ble_eq_true rfl) ?_
          refine e_goto (tgt := 46) dX7_breaksIn_68 (by decide) ?_
          first
            | (refine ih (r - 1) (by omega) (i + 1) _ _ _ (by omega) (by rw [ar_i1, ar_add (by omega) (by omega), z1]; omega) hke.tick (Or.inl ⟨hy1, ?_, hk2⟩)
               rw [← hrun, hst, if_neg (by omega)])
            | (refine ev_loc (L' := [some (.ref c), some (.int yd), some (.int x), some (.int _)]) ⟨rfl, rfl, rfl, rfl, trivial⟩ (ih (r - 1) (by omega) (i + 1) _ _ _ (by omega) (by rw [ar_i1, ar_add (by omega) (by omega), z1]; omega) hke.tick (Or.inr ⟨fun q => by rw [q] at hx; omega, ?_⟩))
               rw [← hrun, hst, if_pos c60, hx])
set_option maxRecDepth 20000 in
theorem ct_X7_breaksIn (hK : KR T σ (μ.2.1 0)) (hT : T < 2147000000) : ev_Ct G l mX7_breaksIn 7 0 0 [.ref c, .int x] (mo G c μ h) (fun v a => ((1 ≤ x.toInt ∧ x.toInt ≤ 200) ∧ (∃ r : Int32, v = some (.int r) ∧ r.toInt = sBrkF σ x.toInt.toNat 0) ∧ ∃ μ₁ : MS, sameM μ μ₁ ∧ a = mo G c μ₁ h) ∨ (¬ (1 ≤ x.toInt ∧ x.toInt ≤ 200) ∧ v = some (.int 0) ∧ a = mo G c (ms_I μ 0 1) h)) (fun _ _ => False) := by
  refine ev_Ct.of (by decide +kernel) (Nat.le_of_ble_eq_true rfl) ?_
  have hR := hK.1
  have hv := hK.2.1
  have hmn := hv.1.nat
  have hmu : (σ.1 0).toInt = sM σ := rfl
  have z0 := ar_0
  have z1 := ar_1
  have zm1 := ar_m1
  have w200 : (200 : Int32).toInt = 200 := by decide +kernel
  refine e_aload_n dX7_breaksIn_0 rfl rfl ?_
  refine e_iconst (v := 0) dX7_breaksIn_1 (by decide) ?_
  refine mo_p0 wF_X7_39 dX7_breaksIn_2 ?_
  refine e_aload_n dX7_breaksIn_5 rfl rfl ?_
  refine e_iload_n dX7_breaksIn_6 rfl rfl ?_
  refine e_iconst (v := 1) dX7_breaksIn_7 (by decide) ?_
  refine e_sipush (v := 200) dX7_breaksIn_8 (by decide) ?_
  refine e_invS (mcY := 0) (msY := 0) (ct_X7_in) vX7_in wM_X7_65 dX7_breaksIn_11 rfl rfl (Nat.le_of_ble_eq_true rfl) (Nat.le_of_ble_eq_true rfl) ?_
  rintro _ _ hc
  rcases hc with ⟨hin, rfl, rfl⟩ | ⟨hin, rfl, rfl⟩
  · refine e_if_ne (tgt := 21) dX7_breaksIn_14 (by decide) (fun c14 => ?_) (fun c14 => ?_)
    · refine e_iconst (v := 0) dX7_breaksIn_21 (by decide) ?_
      refine e_iconst (v := 1) dX7_breaksIn_22 (by decide) ?_
      refine e_invV (mcY := 0) (msY := 0) (ct_X7_fails0 (ms_I_get μ 0 0)) vX7_fails wM_X7_183 (mo_at G c _ h 0 (by decide)) rfl dX7_breaksIn_23 rfl rfl (Nat.le_of_ble_eq_true rfl) (Nat.le_of_ble_eq_true rfl) ?_
      rintro _ _ ⟨rfl, rfl⟩
      refine e_if_eq (tgt := 31) dX7_breaksIn_26 (by decide) (fun c26 => ?_) (fun c26 => ?_)
      · refine e_aload_n dX7_breaksIn_31 rfl rfl ?_
        refine mo_g8 wF_X7_17 dX7_breaksIn_32 ?_
        refine e_aload_n dX7_breaksIn_35 rfl rfl ?_
        refine mo_g10 wF_X7_24 dX7_breaksIn_36 ?_
        refine e_invS (mcY := 0) (msY := 0) (ct_X7_copy (q := 0) (t := 2) (by decide) (by decide) (by decide)) vX7_copy wM_X7_195 dX7_breaksIn_39 rfl rfl (Nat.le_of_ble_eq_true rfl) (Nat.le_of_ble_eq_true rfl) ?_
        rintro _ _ ⟨rfl, rfl⟩
        refine e_iconst (v := (-1)) dX7_breaksIn_42 (by decide) ?_
        refine e_istore_n dX7_breaksIn_43 rfl (Nat.le_of_ble_eq_true rfl) ?_
        refine e_iconst (v := 1) dX7_breaksIn_44 (by decide) ?_
        refine e_istore_n dX7_breaksIn_45 rfl (Nat.le_of_ble_eq_true rfl) ?_
        refine ev_loc (L' := [some (.ref c), some (.int x), some (.int (-1)), some (.int 1)]) ⟨rfl, rfl, rfl, rfl, trivial⟩ ?_
        refine lp_mbk (μ := μ) (σ := σ) (T := T) (R := sBrkF σ x.toInt.toNat 0) (Nat.le_of_ble_eq_true rfl) hK hT (d := x.toInt.toNat) (by omega) (by omega) (fun y ν hke hy => ?_) (x.toInt.toNat + 1) 0 _ _ (asM μ) (by omega) ar_1 ⟨rfl, rfl, fun _ _ _ => rfl⟩ (Or.inl ⟨rfl, rfl, by rw [asM_0]; show KR (T + 0) _ _; rw [Int.add_zero]; exact hK⟩)
        refine e_aload_n dX7_breaksIn_71 rfl rfl ?_
        refine mo_g10 wF_X7_24 dX7_breaksIn_72 ?_
        refine e_aload_n dX7_breaksIn_75 rfl rfl ?_
        refine mo_g8 wF_X7_17 dX7_breaksIn_76 ?_
        refine e_invS (mcY := 0) (msY := 0) (ct_X7_copy (q := 2) (t := 0) (by decide) (by decide) (by decide)) vX7_copy wM_X7_195 dX7_breaksIn_79 rfl rfl (Nat.le_of_ble_eq_true rfl) (Nat.le_of_ble_eq_true rfl) ?_
        rintro _ _ ⟨rfl, rfl⟩
        refine e_iload_n dX7_breaksIn_82 rfl rfl ?_
        exact e_iret rfl dX7_breaksIn_83 (Or.inl ⟨by omega, ⟨_, rfl, hy⟩, _, hke.back, rfl⟩)
      · first | exact absurd c26 (by decide) | exact absurd rfl c26
    · first | exact absurd c14 (by decide) | exact absurd rfl c14
  · refine e_if_ne (tgt := 21) dX7_breaksIn_14 (by decide) (fun c14 => ?_) (fun c14 => ?_)
    · first | exact absurd c14 (by decide) | exact absurd rfl c14
    · refine e_iconst (v := 1) dX7_breaksIn_17 (by decide) ?_
      refine e_goto (tgt := 22) dX7_breaksIn_18 (by decide) ?_
      refine e_iconst (v := 1) dX7_breaksIn_22 (by decide) ?_
      refine e_invV (mcY := 0) (msY := 0) (ct_X7_fails1 (ms_I_get μ 0 0) (by decide : (1 : Int32) ≠ 0)) vX7_fails wM_X7_183 (mo_at G c _ h 0 (by decide)) rfl dX7_breaksIn_23 rfl rfl (Nat.le_of_ble_eq_true rfl) (Nat.le_of_ble_eq_true rfl) ?_
      rintro _ _ ⟨rfl, rfl⟩
      rw [ms_I_I]
      refine e_if_eq (tgt := 31) dX7_breaksIn_26 (by decide) (fun c26 => ?_) (fun c26 => ?_)
      · first | exact absurd c26 (by decide) | exact absurd rfl c26
      · refine e_iconst (v := 0) dX7_breaksIn_29 (by decide) ?_
        exact e_iret rfl dX7_breaksIn_30 (Or.inr ⟨fun q => by omega, rfl, rfl⟩)
set_option maxRecDepth 20000 in
theorem lp_mpr {J : ev_K} {k n : Nat} (hJ : 6 ≤ J.2.2.1) (hK : KR T σ (μ.2.1 0)) (hT : T < 2147000000) {d mj : Nat} {xm yd : Int32} (hyd : yd.toInt = (d : Int)) (hd : d ≤ 300) (hxm : xm.toInt = (mj : Int)) (hmj : (mj : Int) < sM σ) {R : Int} (hk : ∀ (pv : Int32) (ν : MS), keM μ ν → pv.toInt = R → ev_V G l mX7_period J 125 [some (.ref c), some (.int xm), some (.int yd), none, some (.int pv)] [] (mo G c ν h) k n) : ∀ (r i : Nat) (x : Int32) (fv pv : Int32) (fc : Nat) (ν : MS), r + i = d + 1 → x.toInt = (i : Int) + 1 → keM μ ν → ((pv = -1 ∧ ((fv = -1 ∧ fc = 0) ∨ (fv ≠ -1 ∧ fv.toInt = (fc : Int) ∧ 0 < fc ∧ fc ≤ i)) ∧ sPerF σ mj (d - i) i fc = R ∧ KR (T + (i : Int)) (tickN i σ) (ν.2.1 0)) ∨ (pv ≠ -1 ∧ pv.toInt = R)) → ev_V G l mX7_period J 58 [some (.ref c), some (.int xm), some (.int yd), some (.int fv), some (.int pv), some (.int x)] [] (mo G c ν h) k n := by
  intro r
  induction r using Nat.strongRecOn with
  | ind r ih =>
    intro i x fv pv fc ν
    intro hr hx hke hor
    have z1 := ar_1
    have z0 := ar_0
    have zm1 := ar_m1
    refine e_iload dX7_period_58 rfl ?_
    refine e_iload_n dX7_period_60 rfl rfl ?_
    refine e_icmp_gt (tgt := 125) dX7_period_61 (by decide) (fun c61 => ?_) (fun c61 => ?_)
    · refine ev_lc (hk pv ν hke ?_) ⟨rfl, rfl, rfl, rfl, trivial⟩
      rcases hor with ⟨q1, -, q2, -⟩ | ⟨q1, q2⟩
      · rw [← q2, q1, zm1, show d - i = 0 by omega]; rfl
      · exact q2
    · refine e_iload dX7_period_64 rfl ?_
      refine e_iconst (v := (-1)) dX7_period_66 (by decide) ?_
      refine e_icmp_ne (tgt := 125) dX7_period_67 (by decide) (fun c67 => ?_) (fun c67 => ?_)
      · refine ev_lc (hk pv ν hke ?_) ⟨rfl, rfl, rfl, rfl, trivial⟩
        rcases hor with ⟨q1, -, q2, -⟩ | ⟨q1, q2⟩
        · exact absurd q1 c67
        · exact q2
      · obtain ⟨hp1, hf, hrun, hk1⟩ : pv = -1 ∧ ((fv = -1 ∧ fc = 0) ∨ (fv ≠ -1 ∧ fv.toInt = (fc : Int) ∧ 0 < fc ∧ fc ≤ i)) ∧ sPerF σ mj (d - i) i fc = R ∧ KR (T + (i : Int)) (tickN i σ) (ν.2.1 0) := hor.resolve_right (fun q => q.1 c67)
        have hst : sPerF σ mj (d - i) i fc = (if ((tickN i σ).2.2 1 mj).toInt ≤ 0 ∧ 0 < ((tickN (i + 1) σ).2.2 1 mj).toInt then (if 0 < fc then (i + 1 : Int) - fc else sPerF σ mj (d - (i + 1)) (i + 1) (i + 1)) else sPerF σ mj (d - (i + 1)) (i + 1) fc) := by rw [show d - i = (d - (i + 1)) + 1 by omega]; rfl
        have hj0 : mj < sNm (tickN i σ) := by have := (sInv_tickN hK.2.1 i).1.nat; have := sM_tickN σ i; omega
        have hj1 : mj < sNm (tickN (i + 1) σ) := by have := (sInv_tickN hK.2.1 (i + 1)).1.nat; have := sM_tickN σ (i + 1); omega
        refine e_aload_n dX7_period_70 rfl rfl ?_
        refine e_iload_n dX7_period_71 rfl rfl ?_
        refine e_iconst (v := 1) dX7_period_72 (by decide) ?_
        refine e_invV (mcY := 0) (msY := 0) (ct_of (σ := tickN i σ) (j := mj) (w := 1) hk1.1 hk1.2.1 hxm ar_1 hj0 (by decide)) vX7_of wM_X7_201 (mo_at G c _ h 0 (by decide)) rfl dX7_period_73 rfl rfl (Nat.le_of_ble_eq_true rfl) (Nat.le_trans (Nat.le_of_ble_eq_true rfl) hJ) ?_
        rintro _ _ ⟨rfl, rfl⟩
        refine e_lstore dX7_period_76 (Nat.le_of_ble_eq_true rfl) ?_
        refine e_aload_n dX7_period_78 rfl rfl ?_
        refine e_invV (mcY := 0) (msY := 0) (ct_X7_tick (σ := tickN i σ) (T := T + (i : Int)) hk1.1 hk1.2.1 hk1.2.2 (by omega)) vX7_tick wM_X7_288 (mo_at G c _ h 0 (by decide)) rfl dX7_period_79 rfl rfl (Nat.le_of_ble_eq_true rfl) (Nat.le_trans (Nat.le_of_ble_eq_true rfl) hJ) ?_
        rintro _ _ ⟨rfl, F, δ, hRt, rfl⟩
        have hk2 : KR (T + ((i + 1 : Nat) : Int)) (tickN (i + 1) σ) ((ms_L (ms_L ν 11 F) 0 δ).2.1 0) := by
          rw [ms_L_get, show T + ((i + 1 : Nat) : Int) = T + (i : Int) + 1 by omega]
          exact hk1.tick (by omega) hRt
        refine e_istore dX7_period_82 (Nat.le_of_ble_eq_true rfl) ?_
        refine e_lload dX7_period_84 rfl ?_
        refine e_lconst (v := 0) dX7_period_86 (by decide) ?_
        refine e_lcmp dX7_period_87 ?_
        refine e_if_gt (tgt := 119) dX7_period_88 (by decide) (fun c88 => ?_) (fun c88 => ?_)
        · have e88 : 0 < ((tickN i σ).2.2 1 mj).toInt := ar_dgt c88
          have hno : ¬ (((tickN i σ).2.2 1 mj).toInt ≤ 0 ∧ 0 < ((tickN (i + 1) σ).2.2 1 mj).toInt) := fun q => by omega
          refine e_iinc dX7_period_119 rfl rfl (Nat.le_of_ble_eq_true rfl) ?_
          refine e_goto (tgt := 58) dX7_period_122 (by decide) ?_
          first
            | (refine ev_loc (L' := [some (.ref c), some (.int xm), some (.int yd), some (.int fv), some (.int pv), some (.int _)]) ⟨rfl, rfl, rfl, rfl, rfl, rfl, trivial⟩ (ih (r - 1) (by omega) (i + 1) _ _ _ fc _ (by omega) (by rw [ar_i1, ar_add (by omega) (by omega), z1]; omega) hke.tick (Or.inl ⟨hp1, ?_, ?_, hk2⟩))
               · exact hf.imp id (fun q => ⟨q.1, q.2.1, q.2.2.1, by omega⟩)
               · rw [← hrun, hst, if_neg hno])
            | (refine ev_loc (L' := [some (.ref c), some (.int xm), some (.int yd), some (.int x), some (.int pv), some (.int _)]) ⟨rfl, rfl, rfl, rfl, rfl, rfl, trivial⟩ (ih (r - 1) (by omega) (i + 1) _ _ _ (i + 1) _ (by omega) (by rw [ar_i1, ar_add (by omega) (by omega), z1]; omega) hke.tick (Or.inl ⟨hp1, Or.inr ⟨fun q => by rw [q] at hx; omega, by omega, by omega, Nat.le_refl _⟩, ?_, hk2⟩))
               rw [← hrun, hst, if_pos ⟨e88, e99⟩, hfc]; rfl)
            | (have e110 : (x - fv).toInt = (i : Int) + 1 - (fc : Int) := by rw [ar_sub (by omega) (by omega), hx, hfc.1]
               refine ev_loc (L' := [some (.ref c), some (.int xm), some (.int yd), some (.int x), some (.int (x - fv)), some (.int _)]) ⟨rfl, rfl, rfl, rfl, rfl, rfl, trivial⟩ (ih (r - 1) (by omega) (i + 1) _ _ _ (i + 1) _ (by omega) (by rw [ar_i1, ar_add (by omega) (by omega), z1]; omega) hke.tick (Or.inr ⟨fun q => by rw [q] at e110; omega, ?_⟩))
               rw [e110, ← hrun, hst, if_pos ⟨e88, e99⟩, if_pos hfc.2.1])
        · have e88 : ((tickN i σ).2.2 1 mj).toInt ≤ 0 := ar_dle c88
          refine e_aload_n dX7_period_91 rfl rfl ?_
          refine e_iload_n dX7_period_92 rfl rfl ?_
          refine e_iconst (v := 1) dX7_period_93 (by decide) ?_
          refine e_invV (mcY := 0) (msY := 0) (ct_of (σ := tickN (i + 1) σ) (j := mj) (w := 1) hk2.1 hk2.2.1 hxm ar_1 hj1 (by decide)) vX7_of wM_X7_201 (mo_at G c _ h 0 (by decide)) rfl dX7_period_94 rfl rfl (Nat.le_of_ble_eq_true rfl) (Nat.le_trans (Nat.le_of_ble_eq_true rfl) hJ) ?_
          rintro _ _ ⟨rfl, rfl⟩
          refine e_lconst (v := 0) dX7_period_97 (by decide) ?_
          refine e_lcmp dX7_period_98 ?_
          refine e_if_gt (tgt := 105) dX7_period_99 (by decide) (fun c99 => ?_) (fun c99 => ?_)
          · have e99 : 0 < ((tickN (i + 1) σ).2.2 1 mj).toInt := ar_dgt c99
            refine e_iload_n dX7_period_105 rfl rfl ?_
            refine e_iconst (v := (-1)) dX7_period_106 (by decide) ?_
            refine e_icmp_eq (tgt := 116) dX7_period_107 (by decide) (fun c107 => ?_) (fun c107 => ?_)
            · have hfc : fc = 0 := by
                rcases hf with q | q
                · exact q.2
                · exact absurd c107 q.1
              refine e_iload dX7_period_116 rfl ?_
              refine e_istore_n dX7_period_118 rfl (Nat.le_of_ble_eq_true rfl) ?_
              refine e_iinc dX7_period_119 rfl rfl (Nat.le_of_ble_eq_true rfl) ?_
              refine e_goto (tgt := 58) dX7_period_122 (by decide) ?_
              first
                | (refine ev_loc (L' := [some (.ref c), some (.int xm), some (.int yd), some (.int fv), some (.int pv), some (.int _)]) ⟨rfl, rfl, rfl, rfl, rfl, rfl, trivial⟩ (ih (r - 1) (by omega) (i + 1) _ _ _ fc _ (by omega) (by rw [ar_i1, ar_add (by omega) (by omega), z1]; omega) hke.tick (Or.inl ⟨hp1, ?_, ?_, hk2⟩))
                   · exact hf.imp id (fun q => ⟨q.1, q.2.1, q.2.2.1, by omega⟩)
                   · rw [← hrun, hst, if_neg hno])
                | (refine ev_loc (L' := [some (.ref c), some (.int xm), some (.int yd), some (.int x), some (.int pv), some (.int _)]) ⟨rfl, rfl, rfl, rfl, rfl, rfl, trivial⟩ (ih (r - 1) (by omega) (i + 1) _ _ _ (i + 1) _ (by omega) (by rw [ar_i1, ar_add (by omega) (by omega), z1]; omega) hke.tick (Or.inl ⟨hp1, Or.inr ⟨fun q => by rw [q] at hx; omega, by omega, by omega, Nat.le_refl _⟩, ?_, hk2⟩))
                   rw [← hrun, hst, if_pos ⟨e88, e99⟩, hfc]; rfl)
                | (have e110 : (x - fv).toInt = (i : Int) + 1 - (fc : Int) := by rw [ar_sub (by omega) (by omega), hx, hfc.1]
                   refine ev_loc (L' := [some (.ref c), some (.int xm), some (.int yd), some (.int x), some (.int (x - fv)), some (.int _)]) ⟨rfl, rfl, rfl, rfl, rfl, rfl, trivial⟩ (ih (r - 1) (by omega) (i + 1) _ _ _ (i + 1) _ (by omega) (by rw [ar_i1, ar_add (by omega) (by omega), z1]; omega) hke.tick (Or.inr ⟨fun q => by rw [q] at e110; omega, ?_⟩))
                   rw [e110, ← hrun, hst, if_pos ⟨e88, e99⟩, if_pos hfc.2.1])
            · have hfc : fv.toInt = (fc : Int) ∧ 0 < fc ∧ fc ≤ i := by
                rcases hf with q | q
                · exact absurd q.1 c107
                · exact q.2
              refine e_iload dX7_period_110 rfl ?_
              refine e_iload_n dX7_period_112 rfl rfl ?_
              refine e_isub dX7_period_113 ?_
              refine e_istore dX7_period_114 (Nat.le_of_ble_eq_true rfl) ?_
              refine e_iload dX7_period_116 rfl ?_
              refine e_istore_n dX7_period_118 rfl (Nat.le_of_ble_eq_true rfl) ?_
              refine e_iinc dX7_period_119 rfl rfl (Nat.le_of_ble_eq_true rfl) ?_
              refine e_goto (tgt := 58) dX7_period_122 (by decide) ?_
              first
                | (refine ev_loc (L' := [some (.ref c), some (.int xm), some (.int yd), some (.int fv), some (.int pv), some (.int _)]) ⟨rfl, rfl, rfl, rfl, rfl, rfl, trivial⟩ (ih (r - 1) (by omega) (i + 1) _ _ _ fc _ (by omega) (by rw [ar_i1, ar_add (by omega) (by omega), z1]; omega) hke.tick (Or.inl ⟨hp1, ?_, ?_, hk2⟩))
                   · exact hf.imp id (fun q => ⟨q.1, q.2.1, q.2.2.1, by omega⟩)
                   · rw [← hrun, hst, if_neg hno])
                | (refine ev_loc (L' := [some (.ref c), some (.int xm), some (.int yd), some (.int x), some (.int pv), some (.int _)]) ⟨rfl, rfl, rfl, rfl, rfl, rfl, trivial⟩ (ih (r - 1) (by omega) (i + 1) _ _ _ (i + 1) _ (by omega) (by rw [ar_i1, ar_add (by omega) (by omega), z1]; omega) hke.tick (Or.inl ⟨hp1, Or.inr ⟨fun q => by rw [q] at hx; omega, by omega, by omega, Nat.le_refl _⟩, ?_, hk2⟩))
                   rw [← hrun, hst, if_pos ⟨e88, e99⟩, hfc]; rfl)
                | (have e110 : (x - fv).toInt = (i : Int) + 1 - (fc : Int) := by rw [ar_sub (by omega) (by omega), hx, hfc.1]
                   refine ev_loc (L' := [some (.ref c), some (.int xm), some (.int yd), some (.int x), some (.int (x - fv)), some (.int _)]) ⟨rfl, rfl, rfl, rfl, rfl, rfl, trivial⟩ (ih (r - 1) (by omega) (i + 1) _ _ _ (i + 1) _ (by omega) (by rw [ar_i1, ar_add (by omega) (by omega), z1]; omega) hke.tick (Or.inr ⟨fun q => by rw [q] at e110; omega, ?_⟩))
                   rw [e110, ← hrun, hst, if_pos ⟨e88, e99⟩, if_pos hfc.2.1])
          · have e99 : ((tickN (i + 1) σ).2.2 1 mj).toInt ≤ 0 := ar_dle c99
            have hno : ¬ (((tickN i σ).2.2 1 mj).toInt ≤ 0 ∧ 0 < ((tickN (i + 1) σ).2.2 1 mj).toInt) := fun q => by omega
            refine e_goto (tgt := 119) dX7_period_102 (by decide) ?_
            refine e_iinc dX7_period_119 rfl rfl (Nat.le_of_ble_eq_true rfl) ?_
            refine e_goto (tgt := 58) dX7_period_122 (by decide) ?_
            first
              | (refine ev_loc (L' := [some (.ref c), some (.int xm), some (.int yd), some (.int fv), some (.int pv), some (.int _)]) ⟨rfl, rfl, rfl, rfl, rfl, rfl, trivial⟩ (ih (r - 1) (by omega) (i + 1) _ _ _ fc _ (by omega) (by rw [ar_i1, ar_add (by omega) (by omega), z1]; omega) hke.tick (Or.inl ⟨hp1, ?_, ?_, hk2⟩))
                 · exact hf.imp id (fun q => ⟨q.1, q.2.1, q.2.2.1, by omega⟩)
                 · rw [← hrun, hst, if_neg hno])
              | (refine ev_loc (L' := [some (.ref c), some (.int xm), some (.int yd), some (.int x), some (.int pv), some (.int _)]) ⟨rfl, rfl, rfl, rfl, rfl, rfl, trivial⟩ (ih (r - 1) (by omega) (i + 1) _ _ _ (i + 1) _ (by omega) (by rw [ar_i1, ar_add (by omega) (by omega), z1]; omega) hke.tick (Or.inl ⟨hp1, Or.inr ⟨fun q => by rw [q] at hx; omega, by omega, by omega, Nat.le_refl _⟩, ?_, hk2⟩))
                 rw [← hrun, hst, if_pos ⟨e88, e99⟩, hfc]; rfl)
              | (have e110 : (x - fv).toInt = (i : Int) + 1 - (fc : Int) := by rw [ar_sub (by omega) (by omega), hx, hfc.1]
                 refine ev_loc (L' := [some (.ref c), some (.int xm), some (.int yd), some (.int x), some (.int (x - fv)), some (.int _)]) ⟨rfl, rfl, rfl, rfl, rfl, rfl, trivial⟩ (ih (r - 1) (by omega) (i + 1) _ _ _ (i + 1) _ (by omega) (by rw [ar_i1, ar_add (by omega) (by omega), z1]; omega) hke.tick (Or.inr ⟨fun q => by rw [q] at e110; omega, ?_⟩))
                 rw [e110, ← hrun, hst, if_pos ⟨e88, e99⟩, if_pos hfc.2.1])
set_option maxRecDepth 20000 in
theorem ct_X7_period (hK : KR T σ (μ.2.1 0)) (hT : T < 2147000000) : ev_Ct G l mX7_period 7 0 0 [.ref c, .int x, .int y] (mo G c μ h) (fun v a => ((0 ≤ x.toInt ∧ x.toInt < sM σ) ∧ (1 ≤ y.toInt ∧ y.toInt ≤ 300) ∧ (∃ r : Int32, v = some (.int r) ∧ r.toInt = sPerF σ x.toInt.toNat y.toInt.toNat 0 0) ∧ ∃ μ₁ : MS, sameM μ μ₁ ∧ a = mo G c μ₁ h) ∨ (¬ (0 ≤ x.toInt ∧ x.toInt < sM σ) ∧ v = some (.int 0) ∧ a = mo G c (ms_I μ 0 1) h) ∨ ((0 ≤ x.toInt ∧ x.toInt < sM σ) ∧ ¬ (1 ≤ y.toInt ∧ y.toInt ≤ 300) ∧ v = some (.int 0) ∧ a = mo G c (ms_I μ 0 2) h)) (fun _ _ => False) := by
  refine ev_Ct.of (by decide +kernel) (Nat.le_of_ble_eq_true rfl) ?_
  have hR := hK.1
  have hv := hK.2.1
  have hmn := hv.1.nat
  have hmu : (σ.1 0).toInt = sM σ := rfl
  have z0 := ar_0
  have z1 := ar_1
  have zm1 := ar_m1
  have w300 : (300 : Int32).toInt = 300 := by decide +kernel
  refine e_aload_n dX7_period_0 rfl rfl ?_
  refine e_iconst (v := 0) dX7_period_1 (by decide) ?_
  refine mo_p0 wF_X7_39 dX7_period_2 ?_
  refine e_aload_n dX7_period_5 rfl rfl ?_
  refine e_iload_n dX7_period_6 rfl rfl ?_
  refine e_invV (mcY := 0) (msY := 0) (ct_X7_noMass (μ := ms_I μ 0 0) (ms_I_get μ 0 0) hR hv) vX7_noMass wM_X7_272 (mo_at G c _ h 0 (by decide)) rfl dX7_period_7 rfl rfl (Nat.le_of_ble_eq_true rfl) (Nat.le_of_ble_eq_true rfl) ?_
  rintro _ _ hc
  rcases hc.symm with ⟨hnm, rfl, rfl⟩ | ⟨hnm, rfl, rfl⟩
  · rw [ms_I_I]
    refine e_if_ne (tgt := 37) dX7_period_10 (by decide) (fun c10 => ?_) (fun c10 => ?_)
    · refine e_iconst (v := 0) dX7_period_37 (by decide) ?_
      exact e_iret rfl dX7_period_38 (by
          first
            | exact Or.inr (Or.inl ⟨fun q => by omega, rfl, rfl⟩)
            | exact Or.inr (Or.inr ⟨by omega, fun q => by omega, rfl, rfl⟩))
    · first | exact absurd c10 (by decide) | exact absurd rfl c10
  · refine e_if_ne (tgt := 37) dX7_period_10 (by decide) (fun c10 => ?_) (fun c10 => ?_)
    · first | exact absurd c10 (by decide) | exact absurd rfl c10
    · refine e_aload_n dX7_period_13 rfl rfl ?_
      refine e_iload_n dX7_period_14 rfl rfl ?_
      refine e_iconst (v := 1) dX7_period_15 (by decide) ?_
      refine e_sipush (v := 300) dX7_period_16 (by decide) ?_
      refine e_invS (mcY := 0) (msY := 0) (ct_X7_in) vX7_in wM_X7_65 dX7_period_19 rfl rfl (Nat.le_of_ble_eq_true rfl) (Nat.le_of_ble_eq_true rfl) ?_
      rintro _ _ hc
      rcases hc with ⟨hin, rfl, rfl⟩ | ⟨hin, rfl, rfl⟩
      · refine e_if_ne (tgt := 29) dX7_period_22 (by decide) (fun c22 => ?_) (fun c22 => ?_)
        · refine e_iconst (v := 0) dX7_period_29 (by decide) ?_
          refine e_iconst (v := 2) dX7_period_30 (by decide) ?_
          refine e_invV (mcY := 0) (msY := 0) (ct_X7_fails0 (ms_I_get μ 0 0)) vX7_fails wM_X7_183 (mo_at G c _ h 0 (by decide)) rfl dX7_period_31 rfl rfl (Nat.le_of_ble_eq_true rfl) (Nat.le_of_ble_eq_true rfl) ?_
          rintro _ _ ⟨rfl, rfl⟩
          refine e_if_eq (tgt := 39) dX7_period_34 (by decide) (fun c34 => ?_) (fun c34 => ?_)
          · refine e_aload_n dX7_period_39 rfl rfl ?_
            refine mo_g8 wF_X7_17 dX7_period_40 ?_
            refine e_aload_n dX7_period_43 rfl rfl ?_
            refine mo_g10 wF_X7_24 dX7_period_44 ?_
            refine e_invS (mcY := 0) (msY := 0) (ct_X7_copy (q := 0) (t := 2) (by decide) (by decide) (by decide)) vX7_copy wM_X7_195 dX7_period_47 rfl rfl (Nat.le_of_ble_eq_true rfl) (Nat.le_of_ble_eq_true rfl) ?_
            rintro _ _ ⟨rfl, rfl⟩
            refine e_iconst (v := (-1)) dX7_period_50 (by decide) ?_
            refine e_istore_n dX7_period_51 rfl (Nat.le_of_ble_eq_true rfl) ?_
            refine e_iconst (v := (-1)) dX7_period_52 (by decide) ?_
            refine e_istore dX7_period_53 (Nat.le_of_ble_eq_true rfl) ?_
            refine e_iconst (v := 1) dX7_period_55 (by decide) ?_
            refine e_istore dX7_period_56 (Nat.le_of_ble_eq_true rfl) ?_
            refine ev_loc (L' := [some (.ref c), some (.int x), some (.int y), some (.int (-1)), some (.int (-1)), some (.int 1)]) ⟨rfl, rfl, rfl, rfl, rfl, rfl, trivial⟩ ?_
            refine lp_mpr (μ := μ) (σ := σ) (T := T) (R := sPerF σ x.toInt.toNat y.toInt.toNat 0 0) (Nat.le_of_ble_eq_true rfl) hK hT (d := y.toInt.toNat) (mj := x.toInt.toNat) (by omega) (by omega) (by omega) (by omega) (fun pv ν hke hy => ?_) (y.toInt.toNat + 1) 0 _ _ _ 0 (asM μ) (by omega) ar_1 ⟨rfl, rfl, fun _ _ _ => rfl⟩ (Or.inl ⟨rfl, Or.inl ⟨rfl, rfl⟩, rfl, by rw [asM_0]; show KR (T + 0) _ _; rw [Int.add_zero]; exact hK⟩)
            refine e_aload_n dX7_period_125 rfl rfl ?_
            refine mo_g10 wF_X7_24 dX7_period_126 ?_
            refine e_aload_n dX7_period_129 rfl rfl ?_
            refine mo_g8 wF_X7_17 dX7_period_130 ?_
            refine e_invS (mcY := 0) (msY := 0) (ct_X7_copy (q := 2) (t := 0) (by decide) (by decide) (by decide)) vX7_copy wM_X7_195 dX7_period_133 rfl rfl (Nat.le_of_ble_eq_true rfl) (Nat.le_of_ble_eq_true rfl) ?_
            rintro _ _ ⟨rfl, rfl⟩
            refine e_iload dX7_period_136 rfl ?_
            exact e_iret rfl dX7_period_138 (Or.inl ⟨by omega, by omega, ⟨_, rfl, hy⟩, _, hke.back, rfl⟩)
          · first | exact absurd c34 (by decide) | exact absurd rfl c34
        · first | exact absurd c22 (by decide) | exact absurd rfl c22
      · refine e_if_ne (tgt := 29) dX7_period_22 (by decide) (fun c22 => ?_) (fun c22 => ?_)
        · first | exact absurd c22 (by decide) | exact absurd rfl c22
        · refine e_iconst (v := 1) dX7_period_25 (by decide) ?_
          refine e_goto (tgt := 30) dX7_period_26 (by decide) ?_
          refine e_iconst (v := 2) dX7_period_30 (by decide) ?_
          refine e_invV (mcY := 0) (msY := 0) (ct_X7_fails1 (ms_I_get μ 0 0) (by decide : (2 : Int32) ≠ 0)) vX7_fails wM_X7_183 (mo_at G c _ h 0 (by decide)) rfl dX7_period_31 rfl rfl (Nat.le_of_ble_eq_true rfl) (Nat.le_of_ble_eq_true rfl) ?_
          rintro _ _ ⟨rfl, rfl⟩
          rw [ms_I_I]
          refine e_if_eq (tgt := 39) dX7_period_34 (by decide) (fun c34 => ?_) (fun c34 => ?_)
          · first | exact absurd c34 (by decide) | exact absurd rfl c34
          · refine e_iconst (v := 0) dX7_period_37 (by decide) ?_
            exact e_iret rfl dX7_period_38 (by
                first
                  | exact Or.inr (Or.inl ⟨fun q => by omega, rfl, rfl⟩)
                  | exact Or.inr (Or.inr ⟨by omega, fun q => by omega, rfl, rfl⟩))
set_option maxRecDepth 20000 in
theorem lp_mft {J : ev_K} {k n : Nat} (hJ : 6 ≤ J.2.2.1) (hK : KR T σ (μ.2.1 0)) (hT : T < 2147000000) {d mj : Nat} {xd ym zw : Int32} (hyd : xd.toInt = (d : Int)) (hd : d ≤ 300) (hxm : ym.toInt = (mj : Int)) (hmj : (mj : Int) < sM σ) (hk : ∀ (u : Int64) (ν : MS), keM μ ν → u = (sGr σ mj d).toInt64 → KR (T + (d : Int)) (tickN d σ) (ν.2.1 0) → ev_V G l mX7_foretold J 99 [some (.ref c), some (.int xd), some (.int ym), some (.int zw), some (.long u)] [] (mo G c ν h) k n) : ∀ (r i : Nat) (x : Int32) (u : Int64) (ν : MS), r + i = d → x.toInt = (i : Int) → keM μ ν → u = (sGr σ mj i).toInt64 → KR (T + (i : Int)) (tickN i σ) (ν.2.1 0) → ev_V G l mX7_foretold J 65 [some (.ref c), some (.int xd), some (.int ym), some (.int zw), some (.long u), none, some (.int x)] [] (mo G c ν h) k n := by
  intro r
  induction r using Nat.strongRecOn with
  | ind r ih =>
    intro i x u ν
    intro hr hx hke hu hk1
    have hn : x.toInt.toNat = i := ar_nat hx
    have z1 := ar_1
    have z0 := ar_0
    have hj1 : mj < sNm (tickN (i + 1) σ) := by have := (sInv_tickN hK.2.1 (i + 1)).1.nat; have := sM_tickN σ (i + 1); omega
    refine e_iload dX7_foretold_65 rfl ?_
    refine e_iload_n dX7_foretold_67 rfl rfl ?_
    refine e_icmp_ge (tgt := 99) dX7_foretold_68 (by decide) (fun c68 => ?_) (fun c68 => ?_)
    · obtain rfl : i = d := by omega
      exact ev_lc (hk u ν hke hu hk1) ⟨rfl, rfl, rfl, rfl, rfl, trivial⟩
    · refine e_aload_n dX7_foretold_71 rfl rfl ?_
      refine e_invV (mcY := 0) (msY := 0) (ct_X7_tick (σ := tickN i σ) (T := T + (i : Int)) hk1.1 hk1.2.1 hk1.2.2 (by omega)) vX7_tick wM_X7_288 (mo_at G c _ h 0 (by decide)) rfl dX7_foretold_72 rfl rfl (Nat.le_of_ble_eq_true rfl) (Nat.le_trans (Nat.le_of_ble_eq_true rfl) hJ) ?_
      rintro _ _ ⟨rfl, F, δ, hRt, rfl⟩
      have hk2 : KR (T + ((i + 1 : Nat) : Int)) (tickN (i + 1) σ) ((ms_L (ms_L ν 11 F) 0 δ).2.1 0) := by
        rw [ms_L_get, show T + ((i + 1 : Nat) : Int) = T + (i : Int) + 1 by omega]
        exact hk1.tick (by omega) hRt
      refine e_istore dX7_foretold_75 (Nat.le_of_ble_eq_true rfl) ?_
      refine e_lload dX7_foretold_77 rfl ?_
      refine e_aload_n dX7_foretold_79 rfl rfl ?_
      refine e_iload_n dX7_foretold_80 rfl rfl ?_
      refine e_iconst (v := 1) dX7_foretold_81 (by decide) ?_
      refine e_invV (mcY := 0) (msY := 0) (ct_of (σ := tickN (i + 1) σ) (j := mj) (w := 1) hk2.1 hk2.2.1 hxm ar_1 hj1 (by decide)) vX7_of wM_X7_201 (mo_at G c _ h 0 (by decide)) rfl dX7_foretold_82 rfl rfl (Nat.le_of_ble_eq_true rfl) (Nat.le_trans (Nat.le_of_ble_eq_true rfl) hJ) ?_
      rintro _ _ ⟨rfl, rfl⟩
      refine e_mabsL wM_X7_241 (Nat.le_of_ble_eq_true rfl) (Nat.le_trans (Nat.le_of_ble_eq_true rfl) hJ) dX7_foretold_85 ?_
      refine e_mmaxL wM_X7_291 (Nat.le_of_ble_eq_true rfl) (Nat.le_trans (Nat.le_of_ble_eq_true rfl) hJ) dX7_foretold_88 ?_
      refine e_lstore dX7_foretold_91 (Nat.le_of_ble_eq_true rfl) ?_
      refine e_iinc dX7_foretold_93 rfl rfl (Nat.le_of_ble_eq_true rfl) ?_
      refine e_goto (tgt := 65) dX7_foretold_96 (by decide) ?_
      refine ev_loc (L' := [some (.ref c), some (.int xd), some (.int ym), some (.int zw), some (.long _), none, some (.int _)]) ⟨rfl, rfl, rfl, rfl, rfl, rfl, trivial⟩ (ih (r - 1) (by omega) (i + 1) _ _ _ (by omega) (ar_inc hx (by omega)) hke.tick ?_ hk2)
      rw [hu]
      exact sGr_64 σ mj i (by have := hk2.2.2.1.2.2.1 mj hj1; omega)
set_option maxRecDepth 20000 in
theorem ct_X7_foretold (hK : KR T σ (μ.2.1 0)) (hT : T < 2147000000) : ev_Ct G l mX7_foretold 7 0 0 [.ref c, .int x, .int y, .int z] (mo G c μ h) (fun v a => ((0 ≤ y.toInt ∧ y.toInt < sM σ) ∧ ((1 ≤ x.toInt ∧ x.toInt ≤ 200) ∧ (0 ≤ z.toInt ∧ z.toInt ≤ 4)) ∧ v = some (.int (match z.toInt.toNat with | 0 => (tickN x.toInt.toNat σ).2.2 1 y.toInt.toNat | 1 => (tickN x.toInt.toNat σ).2.2 2 y.toInt.toNat | 2 => sGr σ y.toInt.toNat x.toInt.toNat | 3 => acc32 0 (sBrk (tickN x.toInt.toNat σ)) (sNm (tickN x.toInt.toNat σ) + 1) | _ => sNod (tickN x.toInt.toNat σ))) ∧ ∃ μ₁ : MS, sameM μ μ₁ ∧ a = mo G c μ₁ h) ∨ (¬ (0 ≤ y.toInt ∧ y.toInt < sM σ) ∧ v = some (.int 0) ∧ a = mo G c (ms_I μ 0 1) h) ∨ ((0 ≤ y.toInt ∧ y.toInt < sM σ) ∧ ¬ ((1 ≤ x.toInt ∧ x.toInt ≤ 200) ∧ (0 ≤ z.toInt ∧ z.toInt ≤ 4)) ∧ v = some (.int 0) ∧ a = mo G c (ms_I μ 0 2) h)) (fun _ _ => False) := by
  refine ev_Ct.of (by decide +kernel) (Nat.le_of_ble_eq_true rfl) ?_
  have hR := hK.1
  have hv := hK.2.1
  have hmn := hv.1.nat
  have hmu : (σ.1 0).toInt = sM σ := rfl
  have z0 := ar_0
  have z1 := ar_1
  have zm1 := ar_m1
  have w2 : (2 : Int32).toInt = 2 := by decide +kernel
  have w3 : (3 : Int32).toInt = 3 := by decide +kernel
  have w4 : (4 : Int32).toInt = 4 := by decide +kernel
  have w200 : (200 : Int32).toInt = 200 := by decide +kernel
  refine e_aload_n dX7_foretold_0 rfl rfl ?_
  refine e_iconst (v := 0) dX7_foretold_1 (by decide) ?_
  refine mo_p0 wF_X7_39 dX7_foretold_2 ?_
  refine e_aload_n dX7_foretold_5 rfl rfl ?_
  refine e_iload_n dX7_foretold_6 rfl rfl ?_
  refine e_invV (mcY := 0) (msY := 0) (ct_X7_noMass (μ := ms_I μ 0 0) (ms_I_get μ 0 0) hR hv) vX7_noMass wM_X7_272 (mo_at G c _ h 0 (by decide)) rfl dX7_foretold_7 rfl rfl (Nat.le_of_ble_eq_true rfl) (Nat.le_of_ble_eq_true rfl) ?_
  rintro _ _ hc
  rcases hc.symm with ⟨hnm, rfl, rfl⟩ | ⟨hnm, rfl, rfl⟩
  · rw [ms_I_I]
    refine e_if_ne (tgt := 46) dX7_foretold_10 (by decide) (fun c10 => ?_) (fun c10 => ?_)
    · refine e_iconst (v := 0) dX7_foretold_46 (by decide) ?_
      exact e_iret rfl dX7_foretold_47 (by
          first
            | exact Or.inr (Or.inl ⟨fun q => by omega, rfl, rfl⟩)
            | exact Or.inr (Or.inr ⟨by omega, fun q => by omega, rfl, rfl⟩))
    · first | exact absurd c10 (by decide) | exact absurd rfl c10
  · refine e_if_ne (tgt := 46) dX7_foretold_10 (by decide) (fun c10 => ?_) (fun c10 => ?_)
    · first | exact absurd c10 (by decide) | exact absurd rfl c10
    · refine e_aload_n dX7_foretold_13 rfl rfl ?_
      refine e_iload_n dX7_foretold_14 rfl rfl ?_
      refine e_iconst (v := 1) dX7_foretold_15 (by decide) ?_
      refine e_sipush (v := 200) dX7_foretold_16 (by decide) ?_
      refine e_invS (mcY := 0) (msY := 0) (ct_X7_in) vX7_in wM_X7_65 dX7_foretold_19 rfl rfl (Nat.le_of_ble_eq_true rfl) (Nat.le_of_ble_eq_true rfl) ?_
      rintro _ _ hc
      rcases hc with ⟨hi1, rfl, rfl⟩ | ⟨hi1, rfl, rfl⟩
      · refine e_if_eq (tgt := 34) dX7_foretold_22 (by decide) (fun c22 => ?_) (fun c22 => ?_)
        · first | exact absurd c22 (by decide) | exact absurd rfl c22
        · refine e_iload_n dX7_foretold_25 rfl rfl ?_
          refine e_iconst (v := 0) dX7_foretold_26 (by decide) ?_
          refine e_iconst (v := 4) dX7_foretold_27 (by decide) ?_
          refine e_invS (mcY := 0) (msY := 0) (ct_X7_in) vX7_in wM_X7_65 dX7_foretold_28 rfl rfl (Nat.le_of_ble_eq_true rfl) (Nat.le_of_ble_eq_true rfl) ?_
          rintro _ _ hc
          rcases hc with ⟨hi2, rfl, rfl⟩ | ⟨hi2, rfl, rfl⟩
          · refine e_if_ne (tgt := 38) dX7_foretold_31 (by decide) (fun c31 => ?_) (fun c31 => ?_)
            · refine e_iconst (v := 0) dX7_foretold_38 (by decide) ?_
              refine e_iconst (v := 2) dX7_foretold_39 (by decide) ?_
              refine e_invV (mcY := 0) (msY := 0) (ct_X7_fails0 (ms_I_get μ 0 0)) vX7_fails wM_X7_183 (mo_at G c _ h 0 (by decide)) rfl dX7_foretold_40 rfl rfl (Nat.le_of_ble_eq_true rfl) (Nat.le_of_ble_eq_true rfl) ?_
              rintro _ _ ⟨rfl, rfl⟩
              refine e_if_eq (tgt := 48) dX7_foretold_43 (by decide) (fun c43 => ?_) (fun c43 => ?_)
              · refine e_aload_n dX7_foretold_48 rfl rfl ?_
                refine mo_g8 wF_X7_17 dX7_foretold_49 ?_
                refine e_aload_n dX7_foretold_52 rfl rfl ?_
                refine mo_g10 wF_X7_24 dX7_foretold_53 ?_
                refine e_invS (mcY := 0) (msY := 0) (ct_X7_copy (q := 0) (t := 2) (by decide) (by decide) (by decide)) vX7_copy wM_X7_195 dX7_foretold_56 rfl rfl (Nat.le_of_ble_eq_true rfl) (Nat.le_of_ble_eq_true rfl) ?_
                rintro _ _ ⟨rfl, rfl⟩
                refine e_lconst (v := 0) dX7_foretold_59 (by decide) ?_
                refine e_lstore dX7_foretold_60 (Nat.le_of_ble_eq_true rfl) ?_
                refine e_iconst (v := 0) dX7_foretold_62 (by decide) ?_
                refine e_istore dX7_foretold_63 (Nat.le_of_ble_eq_true rfl) ?_
                refine ev_loc (L' := [some (.ref c), some (.int x), some (.int y), some (.int z), some (.long 0), none, some (.int 0)]) ⟨rfl, rfl, rfl, rfl, rfl, rfl, trivial⟩ ?_
                refine lp_mft (μ := μ) (σ := σ) (T := T) (Nat.le_of_ble_eq_true rfl) hK hT (d := x.toInt.toNat) (mj := y.toInt.toNat) (by omega) (by omega) (by omega) (by omega) (fun u ν hke hu hk1 => ?_) x.toInt.toNat 0 _ _ (asM μ) (by omega) ar_0 ⟨rfl, rfl, fun _ _ _ => rfl⟩ (show (0 : Int64) = (0 : Int32).toInt64 by decide +kernel) (by rw [asM_0]; show KR (T + 0) _ _; rw [Int.add_zero]; exact hK)
                have hjd : y.toInt.toNat < sNm (tickN x.toInt.toNat σ) := by have := (sInv_tickN hK.2.1 x.toInt.toNat).1.nat; have := sM_tickN σ x.toInt.toNat; omega
                refine e_iload_n dX7_foretold_99 rfl rfl ?_
                refine e_if_ne (tgt := 112) dX7_foretold_100 (by decide) (fun c100 => ?_) (fun c100 => ?_)
                · have hz0 : z.toInt ≠ 0 := fun q => c100 (ar_eq (q.trans z0.symm))
                  refine e_iload_n dX7_foretold_112 rfl rfl ?_
                  refine e_iconst (v := 1) dX7_foretold_113 (by decide) ?_
                  refine e_icmp_ne (tgt := 126) dX7_foretold_114 (by decide) (fun c114 => ?_) (fun c114 => ?_)
                  · have hz1 : z.toInt ≠ 1 := fun q => c114 (ar_eq (q.trans z1.symm))
                    refine e_iload_n dX7_foretold_126 rfl rfl ?_
                    refine e_iconst (v := 2) dX7_foretold_127 (by decide) ?_
                    refine e_icmp_ne (tgt := 136) dX7_foretold_128 (by decide) (fun c128 => ?_) (fun c128 => ?_)
                    · have hz2 : z.toInt ≠ 2 := fun q => c128 (ar_eq (q.trans w2.symm))
                      refine e_iload_n dX7_foretold_136 rfl rfl ?_
                      refine e_iconst (v := 3) dX7_foretold_137 (by decide) ?_
                      refine e_icmp_ne (tgt := 149) dX7_foretold_138 (by decide) (fun c138 => ?_) (fun c138 => ?_)
                      · have hz3 : z.toInt ≠ 3 := fun q => c138 (ar_eq (q.trans w3.symm))
                        have hz : z.toInt = 4 := by omega
                        refine e_aload_n dX7_foretold_149 rfl rfl ?_
                        refine e_invV (mcY := 0) (msY := 0) (ct_X7_nodes (σ := tickN x.toInt.toNat σ) hk1.1 hk1.2.1) vX7_nodes wM_X7_253 (mo_at G c _ h 0 (by decide)) rfl dX7_foretold_150 rfl rfl (Nat.le_of_ble_eq_true rfl) (Nat.le_of_ble_eq_true rfl) ?_
                        rintro _ _ ⟨rfl, rfl⟩
                        refine e_i2l dX7_foretold_153 ?_
                        refine e_lstore dX7_foretold_154 (Nat.le_of_ble_eq_true rfl) ?_
                        refine e_aload_n dX7_foretold_156 rfl rfl ?_
                        refine mo_g10 wF_X7_24 dX7_foretold_157 ?_
                        refine e_aload_n dX7_foretold_160 rfl rfl ?_
                        refine mo_g8 wF_X7_17 dX7_foretold_161 ?_
                        refine e_invS (mcY := 0) (msY := 0) (ct_X7_copy (q := 2) (t := 0) (by decide) (by decide) (by decide)) vX7_copy wM_X7_195 dX7_foretold_164 rfl rfl (Nat.le_of_ble_eq_true rfl) (Nat.le_of_ble_eq_true rfl) ?_
                        rintro _ _ ⟨rfl, rfl⟩
                        refine e_lload dX7_foretold_167 rfl ?_
                        refine e_l2i dX7_foretold_169 ?_
                        exact e_iret rfl dX7_foretold_170 (Or.inl ⟨by omega, by omega, by rw [hz]; first | (rw [ar_6432]; rfl) | (rw [hu, ar_6432]; rfl), _, hke.back, rfl⟩)
                      · have hz : z.toInt = 3 := by have := congrArg Int32.toInt c138; rw [w3] at this; exact this
                        refine e_aload_n dX7_foretold_141 rfl rfl ?_
                        refine e_invV (mcY := 0) (msY := 0) (ct_X7_brokenSprings (σ := tickN x.toInt.toNat σ) hk1.1 hk1.2.1) vX7_brokenSprings wM_X7_250 (mo_at G c _ h 0 (by decide)) rfl dX7_foretold_142 rfl rfl (Nat.le_of_ble_eq_true rfl) (Nat.le_of_ble_eq_true rfl) ?_
                        rintro _ _ ⟨rfl, rfl⟩
                        refine e_i2l dX7_foretold_145 ?_
                        refine e_goto (tgt := 154) dX7_foretold_146 (by decide) ?_
                        refine e_lstore dX7_foretold_154 (Nat.le_of_ble_eq_true rfl) ?_
                        refine e_aload_n dX7_foretold_156 rfl rfl ?_
                        refine mo_g10 wF_X7_24 dX7_foretold_157 ?_
                        refine e_aload_n dX7_foretold_160 rfl rfl ?_
                        refine mo_g8 wF_X7_17 dX7_foretold_161 ?_
                        refine e_invS (mcY := 0) (msY := 0) (ct_X7_copy (q := 2) (t := 0) (by decide) (by decide) (by decide)) vX7_copy wM_X7_195 dX7_foretold_164 rfl rfl (Nat.le_of_ble_eq_true rfl) (Nat.le_of_ble_eq_true rfl) ?_
                        rintro _ _ ⟨rfl, rfl⟩
                        refine e_lload dX7_foretold_167 rfl ?_
                        refine e_l2i dX7_foretold_169 ?_
                        exact e_iret rfl dX7_foretold_170 (Or.inl ⟨by omega, by omega, by rw [hz]; first | (rw [ar_6432]; rfl) | (rw [hu, ar_6432]; rfl), _, hke.back, rfl⟩)
                    · have hz : z.toInt = 2 := by have := congrArg Int32.toInt c128; rw [w2] at this; exact this
                      refine e_lload dX7_foretold_131 rfl ?_
                      refine e_goto (tgt := 154) dX7_foretold_133 (by decide) ?_
                      refine e_lstore dX7_foretold_154 (Nat.le_of_ble_eq_true rfl) ?_
                      refine e_aload_n dX7_foretold_156 rfl rfl ?_
                      refine mo_g10 wF_X7_24 dX7_foretold_157 ?_
                      refine e_aload_n dX7_foretold_160 rfl rfl ?_
                      refine mo_g8 wF_X7_17 dX7_foretold_161 ?_
                      refine e_invS (mcY := 0) (msY := 0) (ct_X7_copy (q := 2) (t := 0) (by decide) (by decide) (by decide)) vX7_copy wM_X7_195 dX7_foretold_164 rfl rfl (Nat.le_of_ble_eq_true rfl) (Nat.le_of_ble_eq_true rfl) ?_
                      rintro _ _ ⟨rfl, rfl⟩
                      refine e_lload dX7_foretold_167 rfl ?_
                      refine e_l2i dX7_foretold_169 ?_
                      exact e_iret rfl dX7_foretold_170 (Or.inl ⟨by omega, by omega, by rw [hz]; first | (rw [ar_6432]; rfl) | (rw [hu, ar_6432]; rfl), _, hke.back, rfl⟩)
                  · have hz : z.toInt = 1 := by have := congrArg Int32.toInt c114; rw [z1] at this; exact this
                    refine e_aload_n dX7_foretold_117 rfl rfl ?_
                    refine e_iload_n dX7_foretold_118 rfl rfl ?_
                    refine e_iconst (v := 2) dX7_foretold_119 (by decide) ?_
                    refine e_invV (mcY := 0) (msY := 0) (ct_of (σ := tickN x.toInt.toNat σ) (j := y.toInt.toNat) (w := 2) hk1.1 hk1.2.1 (by omega) w2 hjd (by decide)) vX7_of wM_X7_201 (mo_at G c _ h 0 (by decide)) rfl dX7_foretold_120 rfl rfl (Nat.le_of_ble_eq_true rfl) (Nat.le_of_ble_eq_true rfl) ?_
                    rintro _ _ ⟨rfl, rfl⟩
                    refine e_goto (tgt := 154) dX7_foretold_123 (by decide) ?_
                    refine e_lstore dX7_foretold_154 (Nat.le_of_ble_eq_true rfl) ?_
                    refine e_aload_n dX7_foretold_156 rfl rfl ?_
                    refine mo_g10 wF_X7_24 dX7_foretold_157 ?_
                    refine e_aload_n dX7_foretold_160 rfl rfl ?_
                    refine mo_g8 wF_X7_17 dX7_foretold_161 ?_
                    refine e_invS (mcY := 0) (msY := 0) (ct_X7_copy (q := 2) (t := 0) (by decide) (by decide) (by decide)) vX7_copy wM_X7_195 dX7_foretold_164 rfl rfl (Nat.le_of_ble_eq_true rfl) (Nat.le_of_ble_eq_true rfl) ?_
                    rintro _ _ ⟨rfl, rfl⟩
                    refine e_lload dX7_foretold_167 rfl ?_
                    refine e_l2i dX7_foretold_169 ?_
                    exact e_iret rfl dX7_foretold_170 (Or.inl ⟨by omega, by omega, by rw [hz]; first | (rw [ar_6432]; rfl) | (rw [hu, ar_6432]; rfl), _, hke.back, rfl⟩)
                · have hz : z.toInt = 0 := by have := congrArg Int32.toInt c100; rw [z0] at this; exact this
                  refine e_aload_n dX7_foretold_103 rfl rfl ?_
                  refine e_iload_n dX7_foretold_104 rfl rfl ?_
                  refine e_iconst (v := 1) dX7_foretold_105 (by decide) ?_
                  refine e_invV (mcY := 0) (msY := 0) (ct_of (σ := tickN x.toInt.toNat σ) (j := y.toInt.toNat) (w := 1) hk1.1 hk1.2.1 (by omega) ar_1 hjd (by decide)) vX7_of wM_X7_201 (mo_at G c _ h 0 (by decide)) rfl dX7_foretold_106 rfl rfl (Nat.le_of_ble_eq_true rfl) (Nat.le_of_ble_eq_true rfl) ?_
                  rintro _ _ ⟨rfl, rfl⟩
                  refine e_goto (tgt := 154) dX7_foretold_109 (by decide) ?_
                  refine e_lstore dX7_foretold_154 (Nat.le_of_ble_eq_true rfl) ?_
                  refine e_aload_n dX7_foretold_156 rfl rfl ?_
                  refine mo_g10 wF_X7_24 dX7_foretold_157 ?_
                  refine e_aload_n dX7_foretold_160 rfl rfl ?_
                  refine mo_g8 wF_X7_17 dX7_foretold_161 ?_
                  refine e_invS (mcY := 0) (msY := 0) (ct_X7_copy (q := 2) (t := 0) (by decide) (by decide) (by decide)) vX7_copy wM_X7_195 dX7_foretold_164 rfl rfl (Nat.le_of_ble_eq_true rfl) (Nat.le_of_ble_eq_true rfl) ?_
                  rintro _ _ ⟨rfl, rfl⟩
                  refine e_lload dX7_foretold_167 rfl ?_
                  refine e_l2i dX7_foretold_169 ?_
                  exact e_iret rfl dX7_foretold_170 (Or.inl ⟨by omega, by omega, by rw [hz]; first | (rw [ar_6432]; rfl) | (rw [hu, ar_6432]; rfl), _, hke.back, rfl⟩)
              · first | exact absurd c43 (by decide) | exact absurd rfl c43
            · first | exact absurd c31 (by decide) | exact absurd rfl c31
          · refine e_if_ne (tgt := 38) dX7_foretold_31 (by decide) (fun c31 => ?_) (fun c31 => ?_)
            · first | exact absurd c31 (by decide) | exact absurd rfl c31
            · refine e_iconst (v := 1) dX7_foretold_34 (by decide) ?_
              refine e_goto (tgt := 39) dX7_foretold_35 (by decide) ?_
              refine e_iconst (v := 2) dX7_foretold_39 (by decide) ?_
              refine e_invV (mcY := 0) (msY := 0) (ct_X7_fails1 (ms_I_get μ 0 0) (by decide : (2 : Int32) ≠ 0)) vX7_fails wM_X7_183 (mo_at G c _ h 0 (by decide)) rfl dX7_foretold_40 rfl rfl (Nat.le_of_ble_eq_true rfl) (Nat.le_of_ble_eq_true rfl) ?_
              rintro _ _ ⟨rfl, rfl⟩
              rw [ms_I_I]
              refine e_if_eq (tgt := 48) dX7_foretold_43 (by decide) (fun c43 => ?_) (fun c43 => ?_)
              · first | exact absurd c43 (by decide) | exact absurd rfl c43
              · refine e_iconst (v := 0) dX7_foretold_46 (by decide) ?_
                exact e_iret rfl dX7_foretold_47 (by
                    first
                      | exact Or.inr (Or.inl ⟨fun q => by omega, rfl, rfl⟩)
                      | exact Or.inr (Or.inr ⟨by omega, fun q => by omega, rfl, rfl⟩))
      · refine e_if_eq (tgt := 34) dX7_foretold_22 (by decide) (fun c22 => ?_) (fun c22 => ?_)
        · refine e_iconst (v := 1) dX7_foretold_34 (by decide) ?_
          refine e_goto (tgt := 39) dX7_foretold_35 (by decide) ?_
          refine e_iconst (v := 2) dX7_foretold_39 (by decide) ?_
          refine e_invV (mcY := 0) (msY := 0) (ct_X7_fails1 (ms_I_get μ 0 0) (by decide : (2 : Int32) ≠ 0)) vX7_fails wM_X7_183 (mo_at G c _ h 0 (by decide)) rfl dX7_foretold_40 rfl rfl (Nat.le_of_ble_eq_true rfl) (Nat.le_of_ble_eq_true rfl) ?_
          rintro _ _ ⟨rfl, rfl⟩
          rw [ms_I_I]
          refine e_if_eq (tgt := 48) dX7_foretold_43 (by decide) (fun c43 => ?_) (fun c43 => ?_)
          · first | exact absurd c43 (by decide) | exact absurd rfl c43
          · refine e_iconst (v := 0) dX7_foretold_46 (by decide) ?_
            exact e_iret rfl dX7_foretold_47 (by
                first
                  | exact Or.inr (Or.inl ⟨fun q => by omega, rfl, rfl⟩)
                  | exact Or.inr (Or.inr ⟨by omega, fun q => by omega, rfl, rfl⟩))
        · first | exact absurd c22 (by decide) | exact absurd rfl c22
end M10
