/-! what always holds of a chain, beside its impulses as told -/
theorem nar_b {x : Int32} (h : x = 0 ∨ x = 1) : vp_nar .boolean x = x := by rcases h with rfl | rfl <;> decide +kernel
theorem sBec_1 (σ τ : CS) {k : Nat} (hk : k < 7) : (sBec σ τ).1 k = τ.1 k := by
  rcases (show k = 0 ∨ k = 1 ∨ k = 2 ∨ k = 3 ∨ k = 4 ∨ k = 5 ∨ k = 6 by omega) with rfl | rfl | rfl | rfl | rfl | rfl | rfl <;> rfl
theorem sBec_J (σ τ : CS) {k : Nat} (hk : k < 5) : (sBec σ τ).2.1 k = τ.2.1 k := by
  rcases (show k = 0 ∨ k = 1 ∨ k = 2 ∨ k = 3 ∨ k = 4 by omega) with rfl | rfl | rfl | rfl | rfl <;> rfl
theorem sBec_m (σ τ : CS) {w j : Nat} (hw : w < 3) (hj : j < 12) : (sBec σ τ).2.2 w j = τ.2.2 w j := by
  rcases (show w = 0 ∨ w = 1 ∨ w = 2 by omega) with rfl | rfl | rfl <;> exact if_pos hj
theorem sBec_34 (σ τ : CS) {w j : Nat} (hw : w = 3 ∨ w = 4) (hj : j < 13) : (sBec σ τ).2.2 w j = τ.2.2 w j := by
  rcases hw with rfl | rfl <;> exact if_pos hj
theorem sBec_5 (σ τ : CS) {j : Nat} (hj : j < 13) : (sBec σ τ).2.2 5 j = vp_nar .boolean (τ.2.2 5 j) := if_pos hj
theorem sBec_i (σ τ : CS) {w j : Nat} (hw : w = 7 ∨ w = 8 ∨ w = 9) (hj : j < 16) : (sBec σ τ).2.2 w j = τ.2.2 w j := by
  rcases hw with rfl | rfl | rfl <;> exact if_pos hj
theorem sBec_p (σ τ : CS) {w j : Nat} (hw : w = 10 ∨ w = 11) (hj : j < 32) : (sBec σ τ).2.2 w j = τ.2.2 w j := by
  rcases hw with rfl | rfl <;> exact if_pos hj
theorem sPlaceF_pl (σ : CS) (t m s : Int32) : ∀ n, sPlaceF σ t m n = plF (sTI σ) (t, m, s) n
  | 0 => rfl
  | n + 1 => by
    show (if t.toInt < (σ.2.2 7 n).toInt ∨ (σ.2.2 7 n = t ∧ m.toInt < (σ.2.2 8 n).toInt) then sPlaceF σ t m n else n + 1) = (bif tLatB (t, m, s) (sTI σ n) then plF (sTI σ) (t, m, s) n else n + 1)
    rw [sPlaceF_pl σ t m s n]
    cases c : tLatB (t, m, s) (sTI σ n) with
    | true => exact if_pos (tLatB_iff.mp c)
    | false => exact if_neg (tLatB_no.mp c)
theorem sIns_TI (σ : CS) (t m s : Int32) {k : Nat} (hk : k < sIn σ + 1) : sTI (sIns σ t m s) k = inF (sTI σ) (t, m, s) (plF (sTI σ) (t, m, s) (sIn σ)) k := by
  have hp : sInsP σ t m = plF (sTI σ) (t, m, s) (sIn σ) := sPlaceF_pl σ t m s (sIn σ)
  have hl := plF_le (sTI σ) (t, m, s) (sIn σ)
  have e7 : (sIns σ t m s).2.2 7 = ev_u (sShiftF (σ.2.2 7) (sInsP σ t m) (sIn σ)) (sInsP σ t m) t := rfl
  have e8 : (sIns σ t m s).2.2 8 = ev_u (sShiftF (σ.2.2 8) (sInsP σ t m) (sIn σ)) (sInsP σ t m) m := rfl
  have e9 : (sIns σ t m s).2.2 9 = ev_u (sShiftF (σ.2.2 9) (sInsP σ t m) (sIn σ)) (sInsP σ t m) s := rfl
  show ((sIns σ t m s).2.2 7 k, (sIns σ t m s).2.2 8 k, (sIns σ t m s).2.2 9 k) = _
  rw [e7, e8, e9, hp]
  unfold inF
  by_cases a : k < plF (sTI σ) (t, m, s) (sIn σ)
  · rw [if_pos a, ev_u_ne _ _ (by omega), ev_u_ne _ _ (by omega), ev_u_ne _ _ (by omega)]
    unfold sShiftF
    rw [if_neg (by omega), if_neg (by omega), if_neg (by omega)]
    rfl
  · rw [if_neg a]
    by_cases b : k = plF (sTI σ) (t, m, s) (sIn σ)
    · rw [if_pos b, b, ev_u_self, ev_u_self, ev_u_self]
    · rw [if_neg b, ev_u_ne _ _ b, ev_u_ne _ _ b, ev_u_ne _ _ b]
      unfold sShiftF
      rw [if_pos (by omega), if_pos (by omega), if_pos (by omega)]
      rfl
theorem sIns_1 (σ : CS) (t m s : Int32) {k : Nat} (hk : k ≠ 5) : (sIns σ t m s).1 k = σ.1 k := ev_u_ne _ _ hk
theorem sIns_2 (σ : CS) (t m s : Int32) {k : Nat} (h7 : k ≠ 7) (h8 : k ≠ 8) (h9 : k ≠ 9) : (sIns σ t m s).2.2 k = σ.2.2 k := by
  show ev_u (ev_u (ev_u (ev_u (ev_u (ev_u σ.2.2 7 _) 8 _) 9 _) 7 _) 8 _) 9 _ k = _
  rw [ev_u_ne _ _ h9, ev_u_ne _ _ h8, ev_u_ne _ _ h7, ev_u_ne _ _ h9, ev_u_ne _ _ h8, ev_u_ne _ _ h7]
def IV (T : Int) (σ : CS) (nI : Nat) (mI : Nat → TI) : Prop := sInv σ ∧ RB T σ ∧ MOM σ ∧ nI = sIn σ ∧ cRev (sTI σ) (sIn σ) = rSrt (tol mI (sIn σ))
theorem IV.nI {T : Int} {σ : CS} {nI : Nat} {mI : Nat → TI} (h : IV T σ nI mI) : Int32.ofNat nI = σ.1 5 := by
  have hin := h.1.2.2.1.nat
  exact (ar_ofE (by rw [h.2.2.2.1]; omega) (by rw [h.2.2.2.1]; omega)).symm
theorem IV.up {T T' : Int} {σ : CS} {nI : Nat} {mI : Nat → TI} (h : IV T σ nI mI) (hT : T ≤ T') : IV T' σ nI mI := ⟨h.1, h.2.1.up hT, h.2.2⟩
section IVS
variable {T : Int} {σ : CS} {nI : Nat} {mI : Nat → TI} {j : Nat} {y : Int32}
theorem IV.pluck (h : IV T σ nI mI) (hj : j < sNm σ) (h1 : -1000000 ≤ y.toInt) (h2 : y.toInt ≤ 1000000) : IV T (cs_A σ 1 (ev_u (σ.2.2 1) j y)) nI mI := by
  obtain ⟨hv, ⟨hs, hm, ht⟩, hM, h5, h6⟩ := h
  refine ⟨hv, ⟨⟨hs.1, hs.2.1, fun k hk => ?_, hs.2.2.2⟩, hm, ht⟩, MOM_congr (σ := σ) rfl (fun _ _ => rfl) (fun _ _ => rfl) hM, h5, h6⟩
  have hk2 : k < sNm σ := hk
  show -1000000 ≤ (ev_u (σ.2.2 1) j y k).toInt ∧ (ev_u (σ.2.2 1) j y k).toInt ≤ 1000000
  by_cases e : k = j
  · rw [e, ev_u_self]; exact ⟨h1, h2⟩
  · rw [ev_u_ne _ _ e]; exact hs.2.2.1 k hk2
theorem IV.stiff (h : IV T σ nI mI) (h1 : 0 ≤ y.toInt) (h2 : y.toInt ≤ 999) : IV T (cs_A σ 3 (ev_u (σ.2.2 3) j y)) nI mI := by
  obtain ⟨hv, ⟨hs, hm, ht⟩, hM, h5, h6⟩ := h
  refine ⟨hv, ⟨⟨hs.1, hs.2.1, hs.2.2.1, fun k hk => ⟨?_, (hs.2.2.2 k hk).2⟩⟩, hm, ht⟩, MOM_congr (σ := σ) rfl (fun _ _ => rfl) (fun _ _ => rfl) hM, h5, h6⟩
  have hk2 : k ≤ sNm σ := hk
  show 0 ≤ (ev_u (σ.2.2 3) j y k).toInt ∧ (ev_u (σ.2.2 3) j y k).toInt ≤ 999
  by_cases e : k = j
  · rw [e, ev_u_self]; exact ⟨h1, h2⟩
  · rw [ev_u_ne _ _ e]; exact (hs.2.2.2 k hk2).1
theorem IV.limit (h : IV T σ nI mI) (h1 : 0 ≤ y.toInt) (h2 : y.toInt ≤ 99999) : IV T (cs_A σ 4 (ev_u (σ.2.2 4) j y)) nI mI := by
  obtain ⟨hv, ⟨hs, hm, ht⟩, hM, h5, h6⟩ := h
  refine ⟨hv, ⟨⟨hs.1, hs.2.1, hs.2.2.1, fun k hk => ⟨(hs.2.2.2 k hk).1, ?_, (hs.2.2.2 k hk).2.2⟩⟩, hm, ht⟩, MOM_congr (σ := σ) rfl (fun _ _ => rfl) (fun _ _ => rfl) hM, h5, h6⟩
  have hk2 : k ≤ sNm σ := hk
  show 0 ≤ (ev_u (σ.2.2 4) j y k).toInt ∧ (ev_u (σ.2.2 4) j y k).toInt ≤ 99999
  by_cases e : k = j
  · rw [e, ev_u_self]; exact ⟨h1, h2⟩
  · rw [ev_u_ne _ _ e]; exact (hs.2.2.2 k hk2).2.1
theorem IV.mend (h : IV T σ nI mI) (hy : y = 0) : IV T (cs_A σ 5 (ev_u (σ.2.2 5) j y)) nI mI := by
  obtain ⟨hv, ⟨hs, hm, ht⟩, hM, h5, h6⟩ := h
  refine ⟨hv, ⟨⟨hs.1, hs.2.1, hs.2.2.1, fun k hk => ⟨(hs.2.2.2 k hk).1, (hs.2.2.2 k hk).2.1, ?_⟩⟩, hm, ht⟩, MOM_congr (σ := σ) rfl (fun _ _ => rfl) (fun _ _ => rfl) hM, h5, h6⟩
  have hk2 : k ≤ sNm σ := hk
  show ev_u (σ.2.2 5) j y k = 0 ∨ ev_u (σ.2.2 5) j y k = 1
  by_cases e : k = j
  · rw [e, ev_u_self]; exact Or.inl hy
  · rw [ev_u_ne _ _ e]; exact (hs.2.2.2 k hk2).2.2
theorem IV.wt (h : IV T σ nI mI) (h1 : 1 ≤ y.toInt) (h2 : y.toInt ≤ 99) : IV T (cs_A σ 0 (ev_u (σ.2.2 0) j y)) nI mI := by
  obtain ⟨hv, ⟨hs, hm, ht⟩, hM, h5, h6⟩ := h
  refine ⟨⟨hv.1, fun k hk => ?_, hv.2.2⟩, ⟨hs, hm, ht⟩, MOM_congr (σ := σ) rfl (fun _ _ => rfl) (fun _ _ => rfl) hM, h5, h6⟩
  have hk2 : k < sNm σ := hk
  show 1 ≤ (ev_u (σ.2.2 0) j y k).toInt ∧ (ev_u (σ.2.2 0) j y k).toInt ≤ 99
  by_cases e : k = j
  · rw [e, ev_u_self]; exact ⟨h1, h2⟩
  · rw [ev_u_ne _ _ e]; exact hv.2.1 k hk2
theorem IV.fillW (h : IV T σ nI mI) {F : Nat → Int32} (h1 : 1 ≤ y.toInt) (h2 : y.toInt ≤ 99) : IV T (cs_A σ 0 (fillTo 12 (fun _ => y) F)) nI mI := by
  obtain ⟨hv, ⟨hs, hm, ht⟩, hM, h5, h6⟩ := h
  refine ⟨⟨hv.1, fun k hk => ?_, hv.2.2⟩, ⟨hs, hm, ht⟩, MOM_congr (σ := σ) rfl (fun _ _ => rfl) (fun _ _ => rfl) hM, h5, h6⟩
  have hk2 : k < sNm σ := hk
  have hn := hv.1.nat
  show 1 ≤ (fillTo 12 (fun _ => y) F k).toInt ∧ (fillTo 12 (fun _ => y) F k).toInt ≤ 99
  rw [fillTo_lt _ _ (by omega)]
  exact ⟨h1, h2⟩
theorem IV.fillS (h : IV T σ nI mI) {F : Nat → Int32} (h1 : 0 ≤ y.toInt) (h2 : y.toInt ≤ 999) : IV T (cs_A σ 3 (fillTo 13 (fun _ => y) F)) nI mI := by
  obtain ⟨hv, ⟨hs, hm, ht⟩, hM, h5, h6⟩ := h
  refine ⟨hv, ⟨⟨hs.1, hs.2.1, hs.2.2.1, fun k hk => ⟨?_, (hs.2.2.2 k hk).2⟩⟩, hm, ht⟩, MOM_congr (σ := σ) rfl (fun _ _ => rfl) (fun _ _ => rfl) hM, h5, h6⟩
  have hk2 : k ≤ sNm σ := hk
  have hn := hv.1.nat
  show 0 ≤ (fillTo 13 (fun _ => y) F k).toInt ∧ (fillTo 13 (fun _ => y) F k).toInt ≤ 999
  rw [fillTo_lt _ _ (by omega)]
  exact ⟨h1, h2⟩
theorem IV.left (h : IV T σ nI mI) (h1 : -100000 ≤ y.toInt) (h2 : y.toInt ≤ 100000) : IV T (cs_I σ 3 y) nI mI := by
  obtain ⟨hv, ⟨hs, hm, ht⟩, hM, h5, h6⟩ := h
  exact ⟨hv, ⟨⟨hs.1, ⟨⟨h1, h2⟩, hs.2.1.2⟩, hs.2.2⟩, hm, ht⟩, MOM_congr (σ := σ) rfl (fun _ _ => rfl) (fun _ _ => rfl) hM, h5, h6⟩
theorem IV.right (h : IV T σ nI mI) (h1 : -100000 ≤ y.toInt) (h2 : y.toInt ≤ 100000) : IV T (cs_I σ 4 y) nI mI := by
  obtain ⟨hv, ⟨hs, hm, ht⟩, hM, h5, h6⟩ := h
  exact ⟨hv, ⟨⟨hs.1, ⟨hs.2.1.1, ⟨h1, h2⟩⟩, hs.2.2⟩, hm, ht⟩, MOM_congr (σ := σ) rfl (fun _ _ => rfl) (fun _ _ => rfl) hM, h5, h6⟩
theorem IV.damp (h : IV T σ nI mI) (h1 : 0 ≤ y.toInt) (h2 : y.toInt ≤ 999) : IV T (cs_I σ 2 y) nI mI := by
  obtain ⟨hv, ⟨hs, hm, ht⟩, hM, h5, h6⟩ := h
  exact ⟨hv, ⟨⟨⟨h1, h2⟩, hs.2⟩, hm, ht⟩, MOM_congr (σ := σ) rfl (fun _ _ => rfl) (fun _ _ => rfl) hM, h5, h6⟩
theorem IV.hit (h : IV T σ nI mI) (hj : j < sNm σ) : IV T (sHit σ j y) nI mI := by
  obtain ⟨hv, ⟨hs, hm, ht⟩, hM, h5, h6⟩ := h
  have w : (100000000 : Int32).toInt = 100000000 := by decide +kernel
  have hl := sLim_b (x := (σ.2.2 2 j).toInt64 + y.toInt64) (b := 100000000) (by rw [w]; decide)
  rw [w] at hl
  refine ⟨hv, ⟨hs, fun k hk => ?_, ht⟩, MOM_hit hm hj y hM, h5, h6⟩
  have hk2 : k < sNm σ := hk
  show -100000000 ≤ (ev_u (σ.2.2 2) j (sLim ((σ.2.2 2 j).toInt64 + y.toInt64) 100000000) k).toInt ∧ (ev_u (σ.2.2 2) j (sLim ((σ.2.2 2 j).toInt64 + y.toInt64) 100000000) k).toInt ≤ 100000000
  by_cases e : k = j
  · rw [e, ev_u_self]; exact hl
  · rw [ev_u_ne _ _ e]; exact hm k hk2
theorem IV.ins {t m s : Int32} (h : IV T σ nI mI) (h16 : sIn σ < 16) (m0 : 0 ≤ m.toInt) (m1 : m.toInt < sM σ) (t0 : (σ.1 1).toInt ≤ t.toInt) (t1 : t.toInt ≤ 9999) (s0 : -9999 ≤ s.toInt) (s1 : s.toInt ≤ 9999) : IV T (sIns σ t m s) (nI + 1) (ev_u mI nI (t, m, s)) := by
  obtain ⟨hv, ⟨hs, hm, ht⟩, hM, h5, h6⟩ := h
  have hin := hv.2.2.1.nat
  have z1 := ar_1
  have n1 : sNm (sIns σ t m s) = sNm σ := by unfold sNm; rw [sIns_1 σ t m s (by decide)]
  have n3 : sPn (sIns σ t m s) = sPn σ := by unfold sPn; rw [sIns_1 σ t m s (by decide)]
  have e5 : (sIns σ t m s).1 5 = σ.1 5 + 1 := rfl
  have n2 : sIn (sIns σ t m s) = sIn σ + 1 := by unfold sIn; rw [e5, ar_add (by omega) (by omega), z1]; omega
  refine ⟨sInv_ins hv h16 m0 m1, ⟨?_, ?_, ?_⟩, MOM_congr (sIns_1 σ t m s (by decide)) (fun _ _ => rfl) (fun j _ => by rw [sIns_2 σ t m s (by decide) (by decide) (by decide)]) hM, by rw [n2, h5], ?_⟩
  · unfold RBs
    rw [n1, sIns_1 σ t m s (k := 2) (by decide), sIns_1 σ t m s (k := 3) (by decide), sIns_1 σ t m s (k := 4) (by decide), sIns_2 σ t m s (k := 1) (by decide) (by decide) (by decide), sIns_2 σ t m s (k := 3) (by decide) (by decide) (by decide), sIns_2 σ t m s (k := 4) (by decide) (by decide) (by decide), sIns_2 σ t m s (k := 5) (by decide) (by decide) (by decide)]
    exact hs
  · unfold RBm
    rw [n1, sIns_2 σ t m s (k := 2) (by decide) (by decide) (by decide)]
    exact hm
  · unfold RBt
    rw [n2, n3, sIns_1 σ t m s (k := 1) (by decide), sIns_2 σ t m s (k := 11) (by decide) (by decide) (by decide)]
    refine ⟨ht.1, fun k hk => ?_, ht.2.2⟩
    have e := sIns_TI σ t m s hk
    have e7 : (sIns σ t m s).2.2 7 k = (inF (sTI σ) (t, m, s) (plF (sTI σ) (t, m, s) (sIn σ)) k).1 := congrArg (fun q : TI => q.1) e
    have e9 : (sIns σ t m s).2.2 9 k = (inF (sTI σ) (t, m, s) (plF (sTI σ) (t, m, s) (sIn σ)) k).2.2 := congrArg (fun q : TI => q.2.2) e
    have hl := plF_le (sTI σ) (t, m, s) (sIn σ)
    rw [e7, e9]
    unfold inF
    by_cases a : k < plF (sTI σ) (t, m, s) (sIn σ)
    · rw [if_pos a]; exact ht.2.1 k (by omega)
    · rw [if_neg a]
      by_cases b : k = plF (sTI σ) (t, m, s) (sIn σ)
      · rw [if_pos b]; exact ⟨t0, t1, s0, s1⟩
      · rw [if_neg b]; exact ht.2.1 (k - 1) (by omega)
  · rw [n2, cRev_congr (fun k hk => sIns_TI σ t m s hk), ← rIns_rev, h6, tol_succ, rSrt_snoc, h5, ev_u_self]
    congr 2
    unfold tol
    exact List.map_congr_left (fun k hk => (ev_u_ne _ _ (by have := List.mem_range.mp hk; omega)).symm)
theorem IV.tick (h : IV T σ nI mI) (hT : T < 2147483646) {n' : Nat} {m' : Nat → TI} (h5' : n' = sIn (sTick σ)) (h6' : cRev (sTI (sTick σ)) (sIn (sTick σ)) = rSrt (tol m' (sIn (sTick σ)))) : IV (T + 1) (sTick σ) n' m' := by
  obtain ⟨hv, hb, hM, h5, h6⟩ := h
  exact ⟨sInv_tick hv, RB_tick hv hb hT (by rw [h6]; exact rSrt_ord _), MOM_tick hv hb hM, h5', h6'⟩
theorem vis_bec (ρ : CS) (hv : sInv σ) (hs : RBs σ) : vis σ (sBec ρ σ) := by
  have hn := hv.1.nat
  have hpn : sPn σ ≤ 32 := by have := hv.2.2.2.2; unfold sPn; omega
  refine ⟨fun k hk _ => sBec_1 ρ σ hk, fun k hk => sBec_J ρ σ hk, fun w k hw hk => sBec_m ρ σ hw (by omega), fun w k h3 hw hk => ?_, fun w k h10 hw hk => sBec_p ρ σ (by omega) (by omega)⟩
  by_cases e : w = 5
  · rw [e, sBec_5 ρ σ (by omega), nar_b (hs.2.2.2 k (by omega)).2.2]
  · exact sBec_34 ρ σ (by omega) (by omega)
theorem IV.bec (h : IV T σ nI mI) (ρ : CS) : IV T (sBec ρ σ) nI mI := by
  obtain ⟨hv, ⟨hs, hm, ht⟩, hM, h5, h6⟩ := h
  have hn := hv.1.nat
  have hin := hv.2.2.1.nat
  have hpn : sPn σ ≤ 32 := by have := hv.2.2.2.2; unfold sPn; omega
  have n1 : sNm (sBec ρ σ) = sNm σ := by unfold sNm; rw [sBec_1 ρ σ (by decide)]
  have n2 : sIn (sBec ρ σ) = sIn σ := by unfold sIn; rw [sBec_1 ρ σ (by decide)]
  have n3 : sPn (sBec ρ σ) = sPn σ := by unfold sPn; rw [sBec_1 ρ σ (by decide)]
  have b5 : ∀ s, s ≤ sNm σ → (sBec ρ σ).2.2 5 s = σ.2.2 5 s := fun s hs2 => by rw [sBec_5 ρ σ (by omega), nar_b (hs.2.2.2 s hs2).2.2]
  refine ⟨sInv_bec ρ hv, ⟨?_, ?_, ?_⟩, MOM_congr (sBec_1 ρ σ (by decide)) (fun k hk => sBec_J ρ σ hk) (fun j hj => sBec_m ρ σ (by decide) (by omega)) hM, by rw [n2, h5], ?_⟩
  · unfold RBs
    rw [n1, sBec_1 ρ σ (show 2 < 7 by decide), sBec_1 ρ σ (show 3 < 7 by decide), sBec_1 ρ σ (show 4 < 7 by decide)]
    refine ⟨hs.1, hs.2.1, fun j hj => ?_, fun s hs2 => ?_⟩
    · rw [sBec_m ρ σ (by decide) (by omega)]; exact hs.2.2.1 j hj
    · rw [b5 s hs2, sBec_34 ρ σ (by decide) (by omega), sBec_34 ρ σ (by decide) (by omega)]; exact hs.2.2.2 s hs2
  · intro j hj
    rw [n1] at hj
    rw [sBec_m ρ σ (by decide) (by omega)]; exact hm j hj
  · unfold RBt
    rw [n2, n3, sBec_1 ρ σ (show 1 < 7 by decide)]
    refine ⟨ht.1, fun k hk => ?_, fun k hk => ?_⟩
    · rw [sBec_i ρ σ (by decide) (by omega), sBec_i ρ σ (by decide) (by omega)]; exact ht.2.1 k hk
    · rw [sBec_p ρ σ (by decide) (by omega)]; exact ht.2.2 k hk
  · rw [n2, ← h6]
    refine cRev_congr (fun k hk => ?_)
    unfold sTI
    rw [sBec_i ρ σ (by decide) (by omega), sBec_i ρ σ (by decide) (by omega), sBec_i ρ σ (by decide) (by omega)]
theorem sBeg_at (σ : CS) (y : Int32) : (∀ j, j < 12 → (sBeg σ y).2.2 0 j = 10 ∧ (sBeg σ y).2.2 1 j = 0 ∧ (sBeg σ y).2.2 2 j = 0) ∧ (∀ j, j < 13 → (sBeg σ y).2.2 3 j = 100 ∧ (sBeg σ y).2.2 4 j = 0 ∧ (sBeg σ y).2.2 5 j = 0) ∧ (∀ k, k < 5 → (sBeg σ y).2.1 k = 0) :=
  ⟨fun j hj => ⟨if_pos hj, if_pos hj, if_pos hj⟩, fun j hj => ⟨if_pos hj, if_pos hj, if_pos hj⟩, fun k hk => by rcases (show k = 0 ∨ k = 1 ∨ k = 2 ∨ k = 3 ∨ k = 4 by omega) with rfl | rfl | rfl | rfl | rfl <;> rfl⟩
theorem IV.beg (ρ : CS) (mI : Nat → TI) (h1 : 1 ≤ y.toInt) (h12 : y.toInt ≤ 12) : IV 0 (sBeg ρ y) 0 mI := by
  have z0 := ar_0
  have e0 : (sBeg ρ y).1 0 = y := rfl
  have eI : sIn (sBeg ρ y) = 0 := by show (0 : Int32).toInt.toNat = 0; rw [z0]; rfl
  have eP : sPn (sBeg ρ y) = 0 := by show (0 : Int32).toInt.toNat = 0; rw [z0]; rfl
  have hN : sNm (sBeg ρ y) ≤ 12 := by unfold sNm; rw [e0]; omega
  obtain ⟨b1, b2, b3⟩ := sBeg_at ρ y
  refine ⟨sInv_beg ρ h1 h12, ⟨?_, fun j hj => ?_, ?_, fun k hk => ?_, fun k hk => ?_⟩, MOM_0 b3 (fun j hj => (b1 j (by omega)).2.2), eI.symm, ?_⟩
  · have d0 : (sBeg ρ y).1 2 = 0 := rfl
    have d3 : (sBeg ρ y).1 3 = 0 := rfl
    have d4 : (sBeg ρ y).1 4 = 0 := rfl
    have w100 : (100 : Int32).toInt = 100 := by decide +kernel
    unfold RBs
    rw [d0, d3, d4, z0]
    refine ⟨by decide, by decide, fun j hj => ?_, fun s hs => ?_⟩
    · rw [(b1 j (by omega)).2.1, z0]; decide
    · rw [(b2 s (by omega)).1, (b2 s (by omega)).2.1, (b2 s (by omega)).2.2, z0, w100]
      exact ⟨by decide, by decide, Or.inl rfl⟩
  · rw [(b1 j (by omega)).2.2, z0]; decide
  · show 0 ≤ (0 : Int32).toInt ∧ (0 : Int32).toInt ≤ 0
    rw [z0]; omega
  · rw [eI] at hk; exact absurd hk (Nat.not_lt_zero _)
  · rw [eP] at hk; exact absurd hk (Nat.not_lt_zero _)
  · rw [eI]; rfl
theorem vis_beg (ρ : CS) (h1 : 1 ≤ y.toInt) (h12 : y.toInt ≤ 12) : vis (cs_of y) (sBeg ρ y) := by
  obtain ⟨b1, b2, b3⟩ := sBeg_at ρ y
  have hN : sNm (cs_of y) ≤ 12 := by show y.toInt.toNat ≤ 12; omega
  have hP : sPn (cs_of y) = 0 := by show (0 : Int32).toInt.toNat = 0; rw [ar_0]; rfl
  refine ⟨fun k hk h5 => ?_, fun k hk => b3 k hk, fun w k hw hk => ?_, fun w k h3 hw hk => ?_, fun w k _ _ hk => absurd hk (by omega)⟩
  · rcases (show k = 0 ∨ k = 1 ∨ k = 2 ∨ k = 3 ∨ k = 4 ∨ k = 6 by omega) with rfl | rfl | rfl | rfl | rfl | rfl <;> rfl
  · have := b1 k (by omega)
    rcases (show w = 0 ∨ w = 1 ∨ w = 2 by omega) with rfl | rfl | rfl
    · exact this.1
    · exact this.2.1
    · exact this.2.2
  · have := b2 k (by omega)
    rcases (show w = 3 ∨ w = 4 ∨ w = 5 by omega) with rfl | rfl | rfl
    · exact this.1
    · exact this.2.1
    · exact this.2.2
theorem vis_fillW {g F : Nat → Int32} (h12 : sNm σ ≤ 12) : vis (cs_A σ 0 (fillTo (sNm σ) g F)) (cs_A σ 0 (fillTo 12 g F)) := by
  refine ⟨fun _ _ _ => rfl, fun _ _ => rfl, fun w k hw hk => ?_, fun w k h3 hw hk => ?_, fun w k h10 hw hk => ?_⟩
  · have hk2 : k < sNm σ := hk
    by_cases e : w = 0
    · subst e
      show fillTo 12 g F k = fillTo (sNm σ) g F k
      rw [fillTo_lt _ _ hk2, fillTo_lt _ _ (by omega)]
    · rw [cs_A_n _ _ e, cs_A_n _ _ e]
  · rw [cs_A_n _ _ (by omega), cs_A_n _ _ (by omega)]
  · rw [cs_A_n _ _ (by omega), cs_A_n _ _ (by omega)]
theorem vis_fillS {g F : Nat → Int32} (h12 : sNm σ ≤ 12) : vis (cs_A σ 3 (fillTo (sNm σ + 1) g F)) (cs_A σ 3 (fillTo 13 g F)) := by
  refine ⟨fun _ _ _ => rfl, fun _ _ => rfl, fun w k hw hk => ?_, fun w k h3 hw hk => ?_, fun w k h10 hw hk => ?_⟩
  · rw [cs_A_n _ _ (by omega), cs_A_n _ _ (by omega)]
  · have hk2 : k < sNm σ + 1 := hk
    by_cases e : w = 3
    · subst e
      show fillTo 13 g F k = fillTo (sNm σ + 1) g F k
      rw [fillTo_lt _ _ hk2, fillTo_lt _ _ (by omega)]
    · rw [cs_A_n _ _ e, cs_A_n _ _ e]
  · rw [cs_A_n _ _ (by omega), cs_A_n _ _ (by omega)]
end IVS
