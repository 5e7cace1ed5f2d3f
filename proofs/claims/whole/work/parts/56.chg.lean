/-! changes, on both sides -/
section MD9
variable {T : Int} {σ : CS} {δ : Nat → Int64} {j : Nat} {y : Int32}
theorem KR.pluck (h : KR T σ δ) (hj : j < sNm σ) (h1 : -1000000 ≤ y.toInt) (h2 : y.toInt ≤ 1000000) : KR T (cs_A σ 1 (ev_u (σ.2.2 1) j y)) (ev_u δ (12 + 3 * j + 1) y.toInt64) := by
  obtain ⟨hR, hv, hs, hm, ht⟩ := h
  refine ⟨RD.ms hR hv (w := 1) (by decide) hj y, hv, ⟨hs.1, hs.2.1, fun k hk => ?_, hs.2.2.2⟩, hm, ht⟩
  have hk2 : k < sNm σ := hk
  show -1000000 ≤ (ev_u (σ.2.2 1) j y k).toInt ∧ (ev_u (σ.2.2 1) j y k).toInt ≤ 1000000
  by_cases e : k = j
  · rw [e, ev_u_self]; exact ⟨h1, h2⟩
  · rw [ev_u_ne _ _ e]; exact hs.2.2.1 k hk2
theorem KR.stiff (h : KR T σ δ) (hj : j ≤ sNm σ) (h1 : 0 ≤ y.toInt) (h2 : y.toInt ≤ 999) : KR T (cs_A σ 3 (ev_u (σ.2.2 3) j y)) (ev_u δ (48 + 3 * j + 0) y.toInt64) := by
  obtain ⟨hR, hv, hs, hm, ht⟩ := h
  refine ⟨RD.sp hR hv (w := 0) (by decide) hj y, hv, ⟨hs.1, hs.2.1, hs.2.2.1, fun k hk => ⟨?_, (hs.2.2.2 k hk).2⟩⟩, hm, ht⟩
  have hk2 : k ≤ sNm σ := hk
  show 0 ≤ (ev_u (σ.2.2 3) j y k).toInt ∧ (ev_u (σ.2.2 3) j y k).toInt ≤ 999
  by_cases e : k = j
  · rw [e, ev_u_self]; exact ⟨h1, h2⟩
  · rw [ev_u_ne _ _ e]; exact (hs.2.2.2 k hk2).1
theorem KR.limit (h : KR T σ δ) (hj : j ≤ sNm σ) (h1 : 0 ≤ y.toInt) (h2 : y.toInt ≤ 99999) : KR T (cs_A σ 4 (ev_u (σ.2.2 4) j y)) (ev_u δ (48 + 3 * j + 1) y.toInt64) := by
  obtain ⟨hR, hv, hs, hm, ht⟩ := h
  refine ⟨RD.sp hR hv (w := 1) (by decide) hj y, hv, ⟨hs.1, hs.2.1, hs.2.2.1, fun k hk => ⟨(hs.2.2.2 k hk).1, ?_, (hs.2.2.2 k hk).2.2⟩⟩, hm, ht⟩
  have hk2 : k ≤ sNm σ := hk
  show 0 ≤ (ev_u (σ.2.2 4) j y k).toInt ∧ (ev_u (σ.2.2 4) j y k).toInt ≤ 99999
  by_cases e : k = j
  · rw [e, ev_u_self]; exact ⟨h1, h2⟩
  · rw [ev_u_ne _ _ e]; exact (hs.2.2.2 k hk2).2.1
theorem KR.mend (h : KR T σ δ) (hj : j ≤ sNm σ) : KR T (cs_A σ 5 (ev_u (σ.2.2 5) j 0)) (ev_u δ (48 + 3 * j + 2) (0 : Int32).toInt64) := by
  obtain ⟨hR, hv, hs, hm, ht⟩ := h
  refine ⟨RD.sp hR hv (w := 2) (by decide) hj 0, hv, ⟨hs.1, hs.2.1, hs.2.2.1, fun k hk => ⟨(hs.2.2.2 k hk).1, (hs.2.2.2 k hk).2.1, ?_⟩⟩, hm, ht⟩
  have hk2 : k ≤ sNm σ := hk
  show ev_u (σ.2.2 5) j 0 k = 0 ∨ ev_u (σ.2.2 5) j 0 k = 1
  by_cases e : k = j
  · rw [e, ev_u_self]; exact Or.inl rfl
  · rw [ev_u_ne _ _ e]; exact (hs.2.2.2 k hk2).2.2
theorem KR.wt (h : KR T σ δ) (hj : j < sNm σ) (h1 : 1 ≤ y.toInt) (h2 : y.toInt ≤ 99) : KR T (cs_A σ 0 (ev_u (σ.2.2 0) j y)) (ev_u δ (12 + 3 * j + 0) y.toInt64) := by
  obtain ⟨hR, hv, hs, hm, ht⟩ := h
  refine ⟨RD.ms hR hv (w := 0) (by decide) hj y, ⟨hv.1, fun k hk => ?_, hv.2.2⟩, hs, hm, ht⟩
  have hk2 : k < sNm σ := hk
  show 1 ≤ (ev_u (σ.2.2 0) j y k).toInt ∧ (ev_u (σ.2.2 0) j y k).toInt ≤ 99
  by_cases e : k = j
  · rw [e, ev_u_self]; exact ⟨h1, h2⟩
  · rw [ev_u_ne _ _ e]; exact hv.2.1 k hk2
theorem KR.left (h : KR T σ δ) (h1 : -100000 ≤ y.toInt) (h2 : y.toInt ≤ 100000) : KR T (cs_I σ 3 y) (ev_u δ 2 y.toInt64) := by
  obtain ⟨hR, hv, hs, hm, ht⟩ := h
  exact ⟨RD.lf hR hv y, hv, ⟨hs.1, ⟨⟨h1, h2⟩, hs.2.1.2⟩, hs.2.2⟩, hm, ht⟩
theorem KR.right (h : KR T σ δ) (h1 : -100000 ≤ y.toInt) (h2 : y.toInt ≤ 100000) : KR T (cs_I σ 4 y) (ev_u δ 3 y.toInt64) := by
  obtain ⟨hR, hv, hs, hm, ht⟩ := h
  exact ⟨RD.rt hR hv y, hv, ⟨hs.1, ⟨hs.2.1.1, ⟨h1, h2⟩⟩, hs.2.2⟩, hm, ht⟩
theorem KR.damp (h : KR T σ δ) (h1 : 0 ≤ y.toInt) (h2 : y.toInt ≤ 999) : KR T (cs_I σ 2 y) (ev_u δ 4 y.toInt64) := by
  obtain ⟨hR, hv, hs, hm, ht⟩ := h
  exact ⟨RD.dm hR hv y, hv, ⟨⟨h1, h2⟩, hs.2⟩, hm, ht⟩
/-- a strike: what it leaves, and what it gives -/
theorem KR.hit (h : KR T σ δ) (hj : j < sNm σ) : KR T (sHit σ j y) (ev_u (ev_u δ (12 + 3 * j + 2) (sLim ((σ.2.2 2 j).toInt64 + y.toInt64) 100000000).toInt64) (7 + 2) (σ.2.1 2 + (sLim ((σ.2.2 2 j).toInt64 + y.toInt64) 100000000 - σ.2.2 2 j).toInt64)) := by
  obtain ⟨hR, hv, hs, hm, ht⟩ := h
  have w : (100000000 : Int32).toInt = 100000000 := by decide +kernel
  have hl := sLim_b (x := (σ.2.2 2 j).toInt64 + y.toInt64) (b := 100000000) (by rw [w]; decide)
  rw [w] at hl
  unfold sHit
  generalize sLim ((σ.2.2 2 j).toInt64 + y.toInt64) 100000000 = L at hl ⊢
  refine ⟨RD.acc (RD.ms hR hv (w := 2) (by decide) hj L) (σ := cs_A σ 2 (ev_u (σ.2.2 2) j L)) hv (k := 2) (by decide) _, hv, hs, fun k hk => ?_, ht⟩
  have hk2 : k < sNm σ := hk
  show -100000000 ≤ (ev_u (σ.2.2 2) j L k).toInt ∧ (ev_u (σ.2.2 2) j L k).toInt ≤ 100000000
  by_cases e : k = j
  · rw [e, ev_u_self]; exact hl
  · rw [ev_u_ne _ _ e]; exact hm k hk2
end MD9
theorem sPlaceF_pl (σ : CS) (t m s : Int32) : ∀ n, sPlaceF σ t m n = plF (sTI σ) (t, m, s) n
  | 0 => rfl
  | n + 1 => by
    show (if t.toInt < (σ.2.2 7 n).toInt ∨ (σ.2.2 7 n = t ∧ m.toInt < (σ.2.2 8 n).toInt) then sPlaceF σ t m n else n + 1) = (bif tLatB (t, m, s) (sTI σ n) then plF (sTI σ) (t, m, s) n else n + 1)
    rw [sPlaceF_pl σ t m s n]
    cases c : tLatB (t, m, s) (sTI σ n) with
    | true => exact if_pos (tLatB_iff.mp c)
    | false => exact if_neg (tLatB_no.mp c)
theorem sIns_TI (σ : CS) (t m s : Int32) {k : Nat} (hk : k < sIn σ + 1) : sTI (sIns σ t m s) k = inF (sTI σ) (t, m, s) (plF (sTI σ) (t, m, s) (sIn σ)) k := by
  have hp : sInsP σ t m = plF (sTI σ) (t, m, s) (sIn σ) := sPlaceF_pl σ t m s (sIn σ)
  have hl := plF_le (sTI σ) (t, m, s) (sIn σ)
  have e7 : (sIns σ t m s).2.2 7 = ev_u (sShiftF (σ.2.2 7) (sInsP σ t m) (sIn σ)) (sInsP σ t m) t := rfl
  have e8 : (sIns σ t m s).2.2 8 = ev_u (sShiftF (σ.2.2 8) (sInsP σ t m) (sIn σ)) (sInsP σ t m) m := rfl
  have e9 : (sIns σ t m s).2.2 9 = ev_u (sShiftF (σ.2.2 9) (sInsP σ t m) (sIn σ)) (sInsP σ t m) s := rfl
  show ((sIns σ t m s).2.2 7 k, (sIns σ t m s).2.2 8 k, (sIns σ t m s).2.2 9 k) = _
  rw [e7, e8, e9, hp]
  unfold inF
  by_cases a : k < plF (sTI σ) (t, m, s) (sIn σ)
  · rw [if_pos a, ev_u_ne _ _ (by omega), ev_u_ne _ _ (by omega), ev_u_ne _ _ (by omega)]
    unfold sShiftF
    rw [if_neg (by omega), if_neg (by omega), if_neg (by omega)]
    rfl
  · rw [if_neg a]
    by_cases b : k = plF (sTI σ) (t, m, s) (sIn σ)
    · rw [if_pos b, b, ev_u_self, ev_u_self, ev_u_self]
    · rw [if_neg b, ev_u_ne _ _ b, ev_u_ne _ _ b, ev_u_ne _ _ b]
      unfold sShiftF
      rw [if_pos (by omega), if_pos (by omega), if_pos (by omega)]
      rfl
theorem sIns_1 (σ : CS) (t m s : Int32) {k : Nat} (hk : k ≠ 5) : (sIns σ t m s).1 k = σ.1 k := ev_u_ne _ _ hk
theorem sIns_2 (σ : CS) (t m s : Int32) {k : Nat} (h7 : k ≠ 7) (h8 : k ≠ 8) (h9 : k ≠ 9) : (sIns σ t m s).2.2 k = σ.2.2 k := by
  show ev_u (ev_u (ev_u (ev_u (ev_u (ev_u σ.2.2 7 _) 8 _) 9 _) 7 _) 8 _) 9 _ k = _
  rw [ev_u_ne _ _ h9, ev_u_ne _ _ h8, ev_u_ne _ _ h7, ev_u_ne _ _ h9, ev_u_ne _ _ h8, ev_u_ne _ _ h7]
/-- an impulse more -/
theorem KR.ins {T : Int} {σ : CS} {δ δ' : Nat → Int64} {t m s : Int32} (h : KR T σ δ) (h16 : sIn σ < 16) (m0 : 0 ≤ m.toInt) (m1 : m.toInt < sM σ) (t0 : (σ.1 1).toInt ≤ t.toInt) (t1 : t.toInt ≤ 9999) (s0 : -9999 ≤ s.toInt) (s1 : s.toInt ≤ 9999)
    (ha : δ' (87 + 3 * sIn σ) = t.toInt64) (hb : δ' (87 + 3 * sIn σ + 1) = m.toInt64) (hc : δ' (87 + 3 * sIn σ + 2) = s.toInt64) (h5 : δ' 5 = (σ.1 5 + 1).toInt64) (ho : ∀ q, q ≠ 5 → q < 87 + 3 * sIn σ ∨ 87 + 3 * sIn σ + 2 < q → δ' q = δ q) : KR T (sIns σ t m s) δ' := by
  obtain ⟨⟨⟨a0, a1, a2, a3, a4, a5, a6⟩, ⟨ea, eb, ec⟩, ed, mm, ee, ef⟩, hv, hs, hm, ht⟩ := h
  have hn := hv.1.nat
  have hin := hv.2.2.1.nat
  have hpn : sPn σ ≤ 32 := by have := hv.2.2.2.2; unfold sPn; omega
  have z1 := ar_1
  have n1 : sNm (sIns σ t m s) = sNm σ := by unfold sNm; rw [sIns_1 σ t m s (by decide)]
  have n3 : sPn (sIns σ t m s) = sPn σ := by unfold sPn; rw [sIns_1 σ t m s (by decide)]
  have e5 : (sIns σ t m s).1 5 = σ.1 5 + 1 := rfl
  have n2 : sIn (sIns σ t m s) = sIn σ + 1 := by unfold sIn; rw [e5, ar_add (by omega) (by omega), z1]; omega
  have oo : ∀ q, q ≠ 5 → q < 87 ∨ 135 ≤ q → δ' q = δ q := fun q h1 h2 => ho q h1 (by omega)
  refine ⟨⟨⟨?_, ?_, ?_, ?_, ?_, ?_, ?_⟩, ⟨fun k hk => ?_, fun w j hw hj => ?_, fun w j hw hj => ?_⟩, fun w k hw hk => ?_, ?_⟩, sInv_ins hv h16 m0 m1, ?_, ?_, ?_⟩
  · rw [oo _ (by omega) (by omega), a0, sIns_1 σ t m s (by decide)]
  · rw [oo _ (by omega) (by omega), a1, sIns_1 σ t m s (by decide)]
  · rw [oo _ (by omega) (by omega), a2, sIns_1 σ t m s (by decide)]
  · rw [oo _ (by omega) (by omega), a3, sIns_1 σ t m s (by decide)]
  · rw [oo _ (by omega) (by omega), a4, sIns_1 σ t m s (by decide)]
  · rw [h5, e5]
  · rw [oo _ (by omega) (by omega), a6, sIns_1 σ t m s (by decide)]
  · rw [oo _ (by omega) (by omega)]; exact ea k hk
  · rw [n1] at hj; rw [oo _ (by omega) (by omega), sIns_2 σ t m s (by omega) (by omega) (by omega)]; exact eb w j hw hj
  · rw [n1] at hj; rw [oo _ (by omega) (by omega), sIns_2 σ t m s (by omega) (by omega) (by omega)]; exact ec w j hw hj
  · rw [n3] at hk; rw [oo _ (by omega) (by omega), sIns_2 σ t m s (by omega) (by omega) (by omega)]; exact ed w k hw hk
  · refine ⟨ev_u mm (sIn σ) (t, m, s), ?_, ?_⟩
    · rw [n2]
      intro k hk
      by_cases e : k = sIn σ
      · rw [e, ev_u_self]; exact ⟨ha, hb, hc⟩
      · rw [ev_u_ne _ _ e, ho _ (by omega) (by omega), ho _ (by omega) (by omega), ho _ (by omega) (by omega)]
        exact ee k (by omega)
    · rw [n2, cRev_congr (fun k hk => sIns_TI σ t m s hk), ← rIns_rev, ef, List.range_succ, List.map_append, List.map_cons, List.map_nil, rSrt_snoc, ev_u_self]
      congr 2
      exact List.map_congr_left (fun k hk => (ev_u_ne _ _ (by have := List.mem_range.mp hk; omega)).symm)
  · unfold RBs
    rw [n1, sIns_1 σ t m s (k := 2) (by decide), sIns_1 σ t m s (k := 3) (by decide), sIns_1 σ t m s (k := 4) (by decide), sIns_2 σ t m s (k := 1) (by decide) (by decide) (by decide), sIns_2 σ t m s (k := 3) (by decide) (by decide) (by decide), sIns_2 σ t m s (k := 4) (by decide) (by decide) (by decide), sIns_2 σ t m s (k := 5) (by decide) (by decide) (by decide)]
    exact hs
  · unfold RBm
    rw [n1, sIns_2 σ t m s (k := 2) (by decide) (by decide) (by decide)]
    exact hm
  · unfold RBt
    rw [n2, n3, sIns_1 σ t m s (k := 1) (by decide), sIns_2 σ t m s (k := 11) (by decide) (by decide) (by decide)]
    refine ⟨ht.1, fun k hk => ?_, ht.2.2⟩
    have e := sIns_TI σ t m s hk
    have e7 : (sIns σ t m s).2.2 7 k = (inF (sTI σ) (t, m, s) (plF (sTI σ) (t, m, s) (sIn σ)) k).1 := congrArg (fun q : TI => q.1) e
    have e9 : (sIns σ t m s).2.2 9 k = (inF (sTI σ) (t, m, s) (plF (sTI σ) (t, m, s) (sIn σ)) k).2.2 := congrArg (fun q : TI => q.2.2) e
    have hl := plF_le (sTI σ) (t, m, s) (sIn σ)
    rw [e7, e9]
    unfold inF
    by_cases a : k < plF (sTI σ) (t, m, s) (sIn σ)
    · rw [if_pos a]; exact ht.2.1 k (by omega)
    · rw [if_neg a]
      by_cases b : k = plF (sTI σ) (t, m, s) (sIn σ)
      · rw [if_pos b]; exact ⟨t0, t1, s0, s1⟩
      · rw [if_neg b]; exact ht.2.1 (k - 1) (by omega)
theorem KR.tick {T : Int} {σ : CS} {δ δ' : Nat → Int64} (h : KR T σ δ) (hT : T < 2147483646) (hR : RD (sTick σ) δ') : KR (T + 1) (sTick σ) δ' := by
  obtain ⟨⟨-, -, -, m, h1, h2⟩, hv, hb⟩ := h
  exact ⟨hR, sInv_tick hv, RB_tick hv hb hT (by rw [h2]; exact rSrt_ord _)⟩

