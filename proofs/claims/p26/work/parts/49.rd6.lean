/-! a tick, on the data's side: patterns, limits, bounds -/
theorem RD.incp {σ : CS} {δ : Nat → Int64} (h : RD σ δ) (hv : sInv σ) {k : Nat} (hk : k < sPn σ) (v : Int32) : RD (cs_A σ 11 (ev_u (σ.2.2 11) k v)) (ev_u δ (135 + 2 * k + 1) v.toInt64) := by
  obtain ⟨⟨h0, h1, h2, h3, h4, h5, h6⟩, ⟨ha, hb, hc⟩, hd, he⟩ := h
  have hn := hv.1.nat
  have hin := hv.2.2.1.nat
  have hpn : sPn σ ≤ 32 := by have := hv.2.2.2.2; unfold sPn; omega
  have o : ∀ q, q ≠ 135 + 2 * k + 1 → ev_u δ (135 + 2 * k + 1) v.toInt64 q = δ q := fun q hq => ev_u_ne _ _ hq
  refine ⟨⟨?_, ?_, ?_, ?_, ?_, ?_, ?_⟩, ⟨?_, ?_, ?_⟩, ?_, ?_⟩
  · exact (o _ (by omega)).trans h0
  · exact (o _ (by omega)).trans h1
  · exact (o _ (by omega)).trans h2
  · exact (o _ (by omega)).trans h3
  · exact (o _ (by omega)).trans h4
  · exact (o _ (by omega)).trans h5
  · exact (o _ (by omega)).trans h6
  · exact fun k hk => (o _ (by omega)).trans (ha k hk)
  · intro w2 j2 hw2 hj2
    have hj3 : j2 < sNm σ := hj2
    show _ = (ev_u σ.2.2 11 _ w2 j2).toInt64
    rw [o _ (by omega), ev_u_ne _ _ (by omega)]; exact hb w2 j2 hw2 hj3
  · intro w2 s2 hw2 hs2
    have hs3 : s2 ≤ sNm σ := hs2
    show _ = (ev_u σ.2.2 11 _ (3 + w2) s2).toInt64
    rw [o _ (by omega), ev_u_ne _ _ (by omega)]; exact hc w2 s2 hw2 hs3
  · intro w2 k2 hw2 hk2
    have hk3 : k2 < sPn σ := hk2
    by_cases e : w2 = 1
    · subst e
      show _ = (ev_u σ.2.2 11 (ev_u (σ.2.2 11) k v) (10 + 1) k2).toInt64
      rw [show ev_u σ.2.2 11 (ev_u (σ.2.2 11) k v) (10 + 1) = ev_u (σ.2.2 11) k v from ev_u_self _ _ _]
      by_cases ej : k2 = k
      · subst ej; rw [ev_u_self, ev_u_self]
      · rw [o _ (by omega), ev_u_ne _ _ ej]; exact hd 1 k2 hw2 hk3
    · show _ = (ev_u σ.2.2 11 _ (10 + w2) k2).toInt64
      rw [o _ (by omega), ev_u_ne _ _ (by omega)]; exact hd w2 k2 hw2 hk3
  · refine ivS.congr (fun k _ => ?_) (fun q h1 h2 => o q (by have h3 : q < 87 + 3 * sIn σ := h2; omega)) he
    rfl
theorem RD.newp {σ : CS} {δ δ' : Nat → Int64} (h : RD σ δ) (hv : sInv σ) {p : Int32} (hk : sPn σ < 32) (h6 : δ' 6 = (σ.1 6 + 1).toInt64) (ha : δ' (135 + 2 * sPn σ) = p.toInt64) (hb : δ' (135 + 2 * sPn σ + 1) = 1) (ho : ∀ q, q ≠ 6 → q ≠ 135 + 2 * sPn σ → q ≠ 135 + 2 * sPn σ + 1 → δ' q = δ q) : RD (cs_I (cs_A (cs_A σ 10 (ev_u (σ.2.2 10) (sPn σ) p)) 11 (ev_u (σ.2.2 11) (sPn σ) 1)) 6 (σ.1 6 + 1)) δ' := by
  obtain ⟨⟨a0, a1, a2, a3, a4, a5, a6⟩, ⟨ea, eb, ec⟩, ed, ee⟩ := h
  have hn := hv.1.nat
  have hin := hv.2.2.1.nat
  have h1 := ar_1
  have hp6 : (sPn σ : Int) = (σ.1 6).toInt := by have := hv.2.2.2.2; unfold sPn; omega
  refine ⟨⟨(ho _ (by omega) (by omega) (by omega)).trans a0, (ho _ (by omega) (by omega) (by omega)).trans a1, (ho _ (by omega) (by omega) (by omega)).trans a2, (ho _ (by omega) (by omega) (by omega)).trans a3, (ho _ (by omega) (by omega) (by omega)).trans a4, (ho _ (by omega) (by omega) (by omega)).trans a5, h6⟩, ⟨fun k hk => (ho _ (by omega) (by omega) (by omega)).trans (ea k hk), fun w j hw hj => ?_, fun w s hw hs => ?_⟩, fun w k hw hk2 => ?_, ?_⟩
  · have hj3 : j < sNm σ := hj
    show _ = (ev_u (ev_u σ.2.2 10 _) 11 _ w j).toInt64
    rw [ev_u_ne _ _ (by omega), ev_u_ne _ _ (by omega), ho _ (by omega) (by omega) (by omega)]
    exact eb w j hw hj3
  · have hs3 : s ≤ sNm σ := hs
    show _ = (ev_u (ev_u σ.2.2 10 _) 11 _ (3 + w) s).toInt64
    rw [ev_u_ne _ _ (by omega), ev_u_ne _ _ (by omega), ho _ (by omega) (by omega) (by omega)]
    exact ec w s hw hs3
  · have hk3 : k < sPn σ + 1 := by
      have e : sPn (cs_I (cs_A (cs_A σ 10 (ev_u (σ.2.2 10) (sPn σ) p)) 11 (ev_u (σ.2.2 11) (sPn σ) 1)) 6 (σ.1 6 + 1)) = (σ.1 6 + 1).toInt.toNat := rfl
      rw [e, ar_add (by omega) (by omega), h1] at hk2
      omega
    rcases (show w = 0 ∨ w = 1 by omega) with rfl | rfl
    · show _ = (ev_u (σ.2.2 10) (sPn σ) p k).toInt64
      by_cases e : k = sPn σ
      · rw [e, ev_u_self]; exact ha
      · rw [ev_u_ne _ _ e, ho _ (by omega) (by omega) (by omega)]; exact ed 0 k (by decide) (by omega)
    · show _ = (ev_u (σ.2.2 11) (sPn σ) 1 k).toInt64
      by_cases e : k = sPn σ
      · rw [e, ev_u_self, hb]; decide +kernel
      · rw [ev_u_ne _ _ e, ho _ (by omega) (by omega) (by omega)]; exact ed 1 k (by decide) (by omega)
  · exact ivS.congr (fun k _ => rfl) (fun q h1 h2 => (by have h3 : q < 87 + 3 * sIn σ := h2; exact ho q (by omega) (by omega) (by omega))) ee
theorem sNote_at {σ : CS} {p : Int32} (h6 : 0 ≤ (σ.1 6).toInt) : ∀ k, k ≤ sPn σ → k ≤ 32 → (∀ j, j < k → σ.2.2 10 j ≠ p) → sNote σ p = sNoteF σ p (32 - k) k
  | 0, _, _, _ => rfl
  | k + 1, h1, h2, h3 => by
    rw [sNote_at h6 k (by omega) (by omega) (fun j hj => h3 j (by omega)), show 32 - k = (32 - (k + 1)) + 1 by omega]
    show (if (σ.1 6).toInt ≤ (k : Int) then _ else if σ.2.2 10 k = p then _ else sNoteF σ p (32 - (k + 1)) (k + 1)) = _
    rw [if_neg (by unfold sPn at h1; omega), if_neg (h3 k (by omega))]
theorem sNote_new {σ : CS} {p : Int32} (h6 : 0 ≤ (σ.1 6).toInt) (hk : sPn σ < 32) (h3 : ∀ j, j < sPn σ → σ.2.2 10 j ≠ p) : sNote σ p = cs_I (cs_A (cs_A σ 10 (ev_u (σ.2.2 10) (sPn σ) p)) 11 (ev_u (σ.2.2 11) (sPn σ) 1)) 6 (σ.1 6 + 1) := by
  rw [sNote_at h6 (sPn σ) (Nat.le_refl _) (by omega) h3, show 32 - sPn σ = (32 - sPn σ - 1) + 1 by omega]
  show (if (σ.1 6).toInt ≤ (sPn σ : Int) then _ else _) = _
  rw [if_pos (by unfold sPn; omega)]
theorem sNote_full {σ : CS} {p : Int32} (h6 : 0 ≤ (σ.1 6).toInt) (hk : sPn σ = 32) (h3 : ∀ j, j < sPn σ → σ.2.2 10 j ≠ p) : sNote σ p = σ := by
  rw [sNote_at h6 (sPn σ) (Nat.le_refl _) (by omega) h3, hk]
  rfl
theorem sNote_inc {σ : CS} {p : Int32} (h6 : 0 ≤ (σ.1 6).toInt) {k : Nat} (hk : k < sPn σ) (hk2 : sPn σ ≤ 32) (h3 : ∀ j, j < k → σ.2.2 10 j ≠ p) (h4 : σ.2.2 10 k = p) : sNote σ p = cs_A σ 11 (ev_u (σ.2.2 11) k (σ.2.2 11 k + 1)) := by
  rw [sNote_at h6 k (by omega) (by omega) h3, show 32 - k = (32 - k - 1) + 1 by omega]
  show (if (σ.1 6).toInt ≤ (k : Int) then _ else if σ.2.2 10 k = p then _ else _) = _
  rw [if_neg (by unfold sPn at hk; omega), if_pos h4]
/-! limits -/
theorem sLim_to {x : Int64} {b : Int32} (hb : 0 ≤ b.toInt) : (sLim x b).toInt = if b.toInt < x.toInt then b.toInt else if x.toInt < -b.toInt then -b.toInt else x.toInt := by
  have hr := ar_r b
  have hn : (-b).toInt = -b.toInt := ar_neg (by omega)
  have hn64 : ((-b).toInt64).toInt = -b.toInt := by rw [ar_64, hn]
  unfold sLim
  by_cases c : b.toInt < x.toInt
  · have e1 : ¬ x < b.toInt64 := fun q => by have := ar_lt64.mp q; rw [ar_64] at this; omega
    rw [if_neg e1, if_neg (fun q => by have := ar_lt64.mp q; rw [ar_64, hn64] at this; omega), if_pos c, ar_6432]
  · rw [if_neg c]
    have e0 : (if x < b.toInt64 then x else b.toInt64) = x := by
      by_cases d : x < b.toInt64
      · rw [if_pos d]
      · rw [if_neg d]
        have d2 : ¬ x.toInt < b.toInt := fun q => d (ar_lt64.mpr (by rw [ar_64]; exact q))
        exact ar_eqL (by rw [ar_64]; omega)
    rw [e0]
    by_cases d : x.toInt < -b.toInt
    · rw [if_pos (ar_lt64.mpr (by rw [hn64]; exact d)), if_pos d, ar_6432, hn]
    · rw [if_neg (fun q => d (by have := ar_lt64.mp q; rwa [hn64] at this)), if_neg d, ar_32 (by omega) (by omega)]
theorem sLim_b {x : Int64} {b : Int32} (hb : 0 ≤ b.toInt) : -b.toInt ≤ (sLim x b).toInt ∧ (sLim x b).toInt ≤ b.toInt := by
  rw [sLim_to hb]
  split
  · omega
  · split <;> omega
theorem mWi_to {x m : Int64} (hm : -9223372036854775808 < m.toInt) (hm2 : m.toInt < 9223372036854775808) : (mWi x m).toInt = if m.toInt < x.toInt then m.toInt else if x.toInt < -m.toInt then -m.toInt else x.toInt := by
  have hn : (-m).toInt = -m.toInt := by rw [Int64.toInt_neg, ar_bmL (by omega) (by omega)]
  unfold mWi
  rw [hn]
  split
  · rfl
  · split
    · exact hn
    · rfl
theorem mWi_lim {x m : Int64} {b : Int32} (hb : 0 ≤ b.toInt) (hm : m.toInt = b.toInt) : mWi x m = (sLim x b).toInt64 := by
  have hr := ar_r b
  exact ar_eqL (by rw [ar_64, sLim_to hb, mWi_to (by omega) (by omega), hm])
/-! what the damping takes -/
theorem sTake_64 {σ : CS} {K : Int} (hb : RBs σ) (hm : RBm K σ) (hK : 0 ≤ K) (hK2 : K ≤ 1000000000) {j : Nat} (hj : j < sNm σ) : (sTake σ j).toInt64 = (σ.2.2 2 j).toInt64 * (σ.1 2).toInt64 / 1000 ∧ -K ≤ (sTake σ j).toInt ∧ (sTake σ j).toInt ≤ K := by
  have h1 := hm j hj
  have h2 := hb.1
  have w : (1000 : Int64).toInt = 1000 := by decide +kernel
  have a1 : (σ.2.2 2 j).toInt * (σ.1 2).toInt ≤ 999 * K := by
    have q1 := Int.mul_le_mul_of_nonneg_right h1.2 h2.1
    have q2 := Int.mul_le_mul_of_nonneg_left h2.2 hK
    omega
  have a2 : -(999 * K) ≤ (σ.2.2 2 j).toInt * (σ.1 2).toInt := by
    have q1 := Int.mul_le_mul_of_nonneg_right h1.1 h2.1
    have q2 := Int.mul_le_mul_of_nonneg_left h2.2 hK
    have q3 : -K * (σ.1 2).toInt = -(K * (σ.1 2).toInt) := Int.neg_mul _ _
    omega
  have e1 : ((σ.2.2 2 j).toInt64 * (σ.1 2).toInt64).toInt = (σ.2.2 2 j).toInt * (σ.1 2).toInt := by rw [ar_mulL (by rw [ar_64, ar_64]; omega) (by rw [ar_64, ar_64]; omega), ar_64, ar_64]
  have e2 : ((σ.2.2 2 j).toInt64 * (σ.1 2).toInt64 / 1000).toInt = ((σ.2.2 2 j).toInt * (σ.1 2).toInt).tdiv 1000 := by rw [ar_divL (by rw [w]; decide), e1, w]
  have b2 := Int.mul_tdiv_add_tmod ((σ.2.2 2 j).toInt * (σ.1 2).toInt) 1000
  have b3 := Int.tmod_lt_of_pos ((σ.2.2 2 j).toInt * (σ.1 2).toInt) (show (0 : Int) < 1000 by decide)
  have b4 := Int.lt_tmod_of_pos ((σ.2.2 2 j).toInt * (σ.1 2).toInt) (show (0 : Int) < 1000 by decide)
  have b5 : -K ≤ ((σ.2.2 2 j).toInt * (σ.1 2).toInt).tdiv 1000 ∧ ((σ.2.2 2 j).toInt * (σ.1 2).toInt).tdiv 1000 ≤ K := by omega
  have e3 : ((σ.2.2 2 j).toInt64 * (σ.1 2).toInt64 / 1000).toInt32.toInt = ((σ.2.2 2 j).toInt * (σ.1 2).toInt).tdiv 1000 := by rw [ar_32 (by rw [e2]; omega) (by rw [e2]; omega), e2]
  unfold sTake
  refine ⟨ar_eqL (by rw [ar_64, e3, e2]), ?_⟩
  rw [e3]
  exact b5

