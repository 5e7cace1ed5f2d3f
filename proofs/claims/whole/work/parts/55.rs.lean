/-! the system beside the model -/
def KR (T : Int) (σ : CS) (δ : Nat → Int64) : Prop := RD σ δ ∧ sInv σ ∧ RB T σ
theorem KR.up {T T' : Int} {σ : CS} {δ : Nat → Int64} (h : KR T σ δ) (hT : T ≤ T') : KR T' σ δ := ⟨h.1, h.2.1, h.2.2.up hT⟩
theorem KR.row {T : Int} {σ : CS} {δ δ' : Nat → Int64} (h : KR T σ δ) (hq : ∀ q, q < 199 → δ' q = δ q) : KR T σ δ' := ⟨h.1.congr h.2.1.1.nat.2.1 h.2.1.2.2.1.nat.2 (by have := h.2.1.2.2.2.2; unfold sPn; omega) (fun _ _ => rfl) (fun _ _ => rfl) (fun _ _ _ _ => rfl) (fun _ _ _ _ => rfl) (fun _ _ _ _ => rfl) (fun _ _ _ _ => rfl) hq, h.2⟩
theorem nar_b {x : Int32} (h : x = 0 ∨ x = 1) : vp_nar .boolean x = x := by rcases h with rfl | rfl <;> decide +kernel
theorem sBec_1 (σ τ : CS) {k : Nat} (hk : k < 7) : (sBec σ τ).1 k = τ.1 k := by
  rcases (show k = 0 ∨ k = 1 ∨ k = 2 ∨ k = 3 ∨ k = 4 ∨ k = 5 ∨ k = 6 by omega) with rfl | rfl | rfl | rfl | rfl | rfl | rfl <;> rfl
theorem sBec_J (σ τ : CS) {k : Nat} (hk : k < 5) : (sBec σ τ).2.1 k = τ.2.1 k := by
  rcases (show k = 0 ∨ k = 1 ∨ k = 2 ∨ k = 3 ∨ k = 4 by omega) with rfl | rfl | rfl | rfl | rfl <;> rfl
theorem sBec_m (σ τ : CS) {w j : Nat} (hw : w < 3) (hj : j < 12) : (sBec σ τ).2.2 w j = τ.2.2 w j := by
  rcases (show w = 0 ∨ w = 1 ∨ w = 2 by omega) with rfl | rfl | rfl <;> exact if_pos hj
theorem sBec_34 (σ τ : CS) {w j : Nat} (hw : w = 3 ∨ w = 4) (hj : j < 13) : (sBec σ τ).2.2 w j = τ.2.2 w j := by
  rcases hw with rfl | rfl <;> exact if_pos hj
theorem sBec_5 (σ τ : CS) {j : Nat} (hj : j < 13) : (sBec σ τ).2.2 5 j = vp_nar .boolean (τ.2.2 5 j) := if_pos hj
theorem sBec_i (σ τ : CS) {w j : Nat} (hw : w = 7 ∨ w = 8 ∨ w = 9) (hj : j < 16) : (sBec σ τ).2.2 w j = τ.2.2 w j := by
  rcases hw with rfl | rfl | rfl <;> exact if_pos hj
theorem sBec_p (σ τ : CS) {w j : Nat} (hw : w = 10 ∨ w = 11) (hj : j < 32) : (sBec σ τ).2.2 w j = τ.2.2 w j := by
  rcases hw with rfl | rfl <;> exact if_pos hj
theorem KR.bec {T : Int} {τ : CS} {δ : Nat → Int64} (h : KR T τ δ) (σ : CS) : KR T (sBec σ τ) δ := by
  obtain ⟨hR, hv, hs, hm, ht⟩ := h
  have hn := hv.1.nat
  have hin := hv.2.2.1.nat
  have hpn : sPn τ ≤ 32 := by have := hv.2.2.2.2; unfold sPn; omega
  have n1 : sNm (sBec σ τ) = sNm τ := by unfold sNm; rw [sBec_1 σ τ (by decide)]
  have n2 : sIn (sBec σ τ) = sIn τ := by unfold sIn; rw [sBec_1 σ τ (by decide)]
  have n3 : sPn (sBec σ τ) = sPn τ := by unfold sPn; rw [sBec_1 σ τ (by decide)]
  have b5 : ∀ s, s ≤ sNm τ → (sBec σ τ).2.2 5 s = τ.2.2 5 s := fun s hs2 => by rw [sBec_5 σ τ (by omega), nar_b (hs.2.2.2 s hs2).2.2]
  refine ⟨hR.congr hn.2.1 hin.2 hpn (fun k hk => sBec_1 σ τ hk) (fun k hk => sBec_J σ τ hk) (fun w j hw hj => sBec_m σ τ hw (by omega)) (fun w s hw hs2 => ?_) (fun w k hw hk => sBec_i σ τ (by omega) (by omega)) (fun w k hw hk => sBec_p σ τ (by omega) (by omega)) (fun _ _ => rfl), sInv_bec σ hv, ?_, ?_, ?_⟩
  · by_cases e : w = 2
    · subst e; exact b5 s hs2
    · exact sBec_34 σ τ (by omega) (by omega)
  · unfold RBs
    rw [n1, sBec_1 σ τ (show 2 < 7 by decide), sBec_1 σ τ (show 3 < 7 by decide), sBec_1 σ τ (show 4 < 7 by decide)]
    refine ⟨hs.1, hs.2.1, fun j hj => ?_, fun s hs2 => ?_⟩
    · rw [sBec_m σ τ (by decide) (by omega)]; exact hs.2.2.1 j hj
    · rw [b5 s hs2, sBec_34 σ τ (by decide) (by omega), sBec_34 σ τ (by decide) (by omega)]; exact hs.2.2.2 s hs2
  · intro j hj
    rw [n1] at hj
    rw [sBec_m σ τ (by decide) (by omega)]; exact hm j hj
  · unfold RBt
    rw [n2, n3, sBec_1 σ τ (show 1 < 7 by decide)]
    refine ⟨ht.1, fun k hk => ?_, fun k hk => ?_⟩
    · rw [sBec_i σ τ (by decide) (by omega), sBec_i σ τ (by decide) (by omega)]; exact ht.2.1 k hk
    · rw [sBec_p σ τ (by decide) (by omega)]; exact ht.2.2 k hk
/-! the history -/
def RHf (T : Int) (C : Nat → CS) (nx cnt : Nat) (rows : Nat → Nat → Int64) : Prop := ∀ t, t < cnt → KR T (C (2 + (nx + 7 - t) % 8)) (rows (2 + cnt - t))
def RH (T : Int) (S : SS) (μ : MS) : Prop := hOk S ∧ μ.1 7 = S.1 2 ∧ RHf T S.2.2.2 (S.1 3).toInt.toNat (S.1 2).toInt.toNat μ.2.1
def RBuf (S : SS) (μ : MS) : Prop := μ.1 1 = S.1 0 ∧ (0 ≤ (S.1 0).toInt ∧ (S.1 0).toInt ≤ 500) ∧ ∀ k, k < (S.1 0).toInt.toNat → μ.2.2 k = S.2.1 0 k &&& 255
/-- all of it: T bounds the time -/
def RS (T : Int) (S : SS) (μ : MS) : Prop := KR T (S.2.2.2 0) (μ.2.1 0) ∧ RH T S μ ∧ RBuf S μ ∧ μ.1 6 = S.1 1
theorem RS.up {T T' : Int} {S : SS} {μ : MS} (h : RS T S μ) (hT : T ≤ T') : RS T' S μ := ⟨h.1.up hT, ⟨h.2.1.1, h.2.1.2.1, fun t ht => (h.2.1.2.2 t ht).up hT⟩, h.2.2⟩
/-- the draft, and what is thrown, don't count -/
theorem RS.draft {T : Int} {S : SS} {μ : MS} (h : RS T S μ) (τ : CS) : RS T (ss_C S 1 τ) μ := by
  have e : ∀ i, i ≠ 1 → (ss_C S 1 τ).2.2.2 i = S.2.2.2 i := fun i hi => ev_u_ne _ _ hi
  refine ⟨by rw [e 0 (by decide)]; exact h.1, ⟨h.2.1.1, h.2.1.2.1, fun t ht => ?_⟩, h.2.2⟩
  rw [e _ (by omega)]
  exact h.2.1.2.2 t ht
theorem RS.int {T : Int} {S : SS} {μ : MS} (h : RS T S μ) {k : Nat} (hk : k ≠ 1 ∧ k ≠ 6 ∧ k ≠ 7) (v : Int32) : RS T S (ms_I μ k v) := by
  refine ⟨h.1, ⟨h.2.1.1, ?_, h.2.1.2.2⟩, ⟨?_, h.2.2.1.2⟩, ?_⟩
  · rw [ms_I_ne _ _ (by omega)]; exact h.2.1.2.1
  · rw [ms_I_ne _ _ (by omega)]; exact h.2.2.1.1
  · rw [ms_I_ne _ _ (by omega)]; exact h.2.2.2
theorem RH.up {T T' : Int} {S : SS} {μ : MS} (h : RH T S μ) (hT : T ≤ T') : RH T' S μ := ⟨h.1, h.2.1, fun t ht => (h.2.2 t ht).up hT⟩
/-- rows that don't count for the history -/
theorem RH.rows {T : Int} {S : SS} {μ μ' : MS} (h : RH T S μ) (h7 : μ'.1 7 = μ.1 7) (hr : ∀ i, 3 ≤ i → i < 11 → μ'.2.1 i = μ.2.1 i) : RH T S μ' := by
  obtain ⟨h1, h2, h3⟩ := h
  refine ⟨h1, h7.trans h2, fun t ht => ?_⟩
  have hc := h1.1
  rw [hr _ (by omega) (by omega)]
  exact h3 t ht
theorem RH.chain {T : Int} {S : SS} {μ : MS} (h : RH T S μ) {i : Nat} (hi : i < 2) (τ : CS) : RH T (ss_C S i τ) μ := by
  obtain ⟨h1, h2, h3⟩ := h
  refine ⟨h1, h2, fun t ht => ?_⟩
  show KR T (ev_u S.2.2.2 i τ _) _
  rw [ev_u_ne _ _ (by omega)]
  exact h3 t ht
theorem sKeep_c (S : SS) : (sKeep S).1 2 = (if (S.1 2).toInt < 8 then S.1 2 + 1 else 8) := rfl
theorem sKeep_n (S : SS) : (sKeep S).1 3 = (if (S.1 3).toInt + 1 < 8 then S.1 3 + 1 else 0) := rfl
theorem sKeep_C (S : SS) (i : Nat) : (sKeep S).2.2.2 i = ev_u S.2.2.2 (2 + (S.1 3).toInt.toNat) (sBec (S.2.2.2 (2 + (S.1 3).toInt.toNat)) (S.2.2.2 0)) i := rfl
theorem sKeep_o (S : SS) {k : Nat} (h2 : k ≠ 2) (h3 : k ≠ 3) : (sKeep S).1 k = S.1 k := by
  show ev_u (ev_u S.1 3 _) 2 _ k = _
  rw [ev_u_ne _ _ h2, ev_u_ne _ _ h3]
theorem sKeep_R (S : SS) : (sKeep S).2.1 = S.2.1 := rfl
theorem sKeep_cv {S : SS} (hh : hOk S) : ((sKeep S).1 2).toInt = (if (S.1 2).toInt < 8 then (S.1 2).toInt + 1 else 8) := by
  have := hh.1
  have z1 := ar_1
  have z8 : (8 : Int32).toInt = 8 := by decide +kernel
  rw [sKeep_c]
  split
  · rw [ar_add (by omega) (by omega), z1]
  · exact z8
theorem sKeep_nv {S : SS} (hh : hOk S) : ((sKeep S).1 3).toInt = (if (S.1 3).toInt + 1 < 8 then (S.1 3).toInt + 1 else 0) := by
  have := hh.2
  have z1 := ar_1
  rw [sKeep_n]
  split
  · rw [ar_add (by omega) (by omega), z1]
  · exact ar_0
/-- kept: a row more, or the rows moved down -/
theorem RH.keep {T : Int} {S : SS} {μ μ' : MS} (h : RH T S μ) (hk : KR T (S.2.2.2 0) (μ.2.1 0)) (h7 : (μ'.1 7).toInt = (if (S.1 2).toInt < 8 then (S.1 2).toInt + 1 else 8))
    (hnew : ∀ q, q < 199 → μ'.2.1 (if (S.1 2).toInt < 8 then 3 + (S.1 2).toInt.toNat else 10) q = μ.2.1 0 q)
    (hold : (S.1 2).toInt < 8 → ∀ i, 3 ≤ i → i < 3 + (S.1 2).toInt.toNat → μ'.2.1 i = μ.2.1 i)
    (hmov : ¬ (S.1 2).toInt < 8 → ∀ i, 3 ≤ i → i < 10 → ∀ q, q < 199 → μ'.2.1 i q = μ.2.1 (i + 1) q) : RH T (sKeep S) μ' := by
  obtain ⟨h1, h2, h3⟩ := h
  have c1 := sKeep_cv h1
  have c2 := sKeep_nv h1
  obtain ⟨⟨b1, b2⟩, b3, b4⟩ := h1
  refine ⟨⟨⟨by rw [c1]; split <;> omega, by rw [c1]; split <;> omega⟩, by rw [c2]; split <;> omega, by rw [c2]; split <;> omega⟩, ar_eq (by rw [h7, c1]), fun t ht => ?_⟩
  rw [c1] at ht ⊢
  rw [c2]
  have hnx : ∀ m : Nat, ((if (S.1 3).toInt + 1 < 8 then (S.1 3).toInt + 1 else 0).toNat + 7 - m) % 8 = ((S.1 3).toInt.toNat + 8 - m) % 8 ∨ 8 ≤ m := fun m => by
    by_cases e : 8 ≤ m
    · exact Or.inr e
    · refine Or.inl ?_
      split <;> omega
  by_cases et : t = 0
  · subst et
    have e1 := (hnx 0).resolve_right (by decide)
    rw [e1, show 2 + ((S.1 3).toInt.toNat + 8 - 0) % 8 = 2 + (S.1 3).toInt.toNat by omega, sKeep_C, ev_u_self]
    refine KR.row (KR.bec hk _) (fun q hq => ?_)
    rw [← hnew q hq]
    have e2 : 2 + (if (S.1 2).toInt < 8 then (S.1 2).toInt + 1 else 8).toNat - 0 = (if (S.1 2).toInt < 8 then 3 + (S.1 2).toInt.toNat else 10) := by
      by_cases c8 : (S.1 2).toInt < 8
      · rw [if_pos c8, if_pos c8]; omega
      · rw [if_neg c8, if_neg c8]; rfl
    rw [e2]
  · by_cases c8 : (S.1 2).toInt < 8
    · rw [if_pos c8] at ht ⊢
      have e1 := (hnx t).resolve_right (by omega)
      have h4 := h3 (t - 1) (by omega)
      rw [show ((S.1 3).toInt.toNat + 7 - (t - 1)) % 8 = ((S.1 3).toInt.toNat + 8 - t) % 8 by omega] at h4
      rw [e1, sKeep_C, ev_u_ne _ _ (by omega), hold c8 _ (by omega) (by omega), show 2 + ((S.1 2).toInt + 1).toNat - t = 2 + (S.1 2).toInt.toNat - (t - 1) by omega]
      exact h4
    · rw [if_neg c8] at ht ⊢
      have e1 := (hnx t).resolve_right (by omega)
      have h4 := h3 (t - 1) (by omega)
      rw [show ((S.1 3).toInt.toNat + 7 - (t - 1)) % 8 = ((S.1 3).toInt.toNat + 8 - t) % 8 by omega] at h4
      rw [e1, sKeep_C, ev_u_ne _ _ (by omega)]
      refine KR.row h4 (fun q hq => ?_)
      rw [hmov c8 _ (by omega) (by omega) q hq, show (8 : Int).toNat = 8 from rfl, show 2 + 8 - t + 1 = 2 + (S.1 2).toInt.toNat - (t - 1) by omega]
theorem sBack_cv {S : SS} (hh : hOk S) (hp : 0 < (S.1 2).toInt) : ((sBack S).1 2).toInt = (S.1 2).toInt - 1 := by
  have := hh.1
  have z1 := ar_1
  show (S.1 2 - 1).toInt = _
  rw [ar_sub (by omega) (by omega), z1]
theorem sBack_nv {S : SS} (hh : hOk S) : ((sBack S).1 3).toInt = (if 0 < (S.1 3).toInt then (S.1 3).toInt - 1 else 7) := by
  have := hh.2
  have z1 := ar_1
  have z7 : (7 : Int32).toInt = 7 := by decide +kernel
  show (if 0 < (S.1 3).toInt then S.1 3 - 1 else 7 : Int32).toInt = _
  split
  · rw [ar_sub (by omega) (by omega), z1]
  · exact z7
/-- taken back -/
theorem RS.back {T : Int} {S : SS} {μ μ' : MS} (h : RS T S μ) (hp : 0 < (S.1 2).toInt) (h7 : (μ'.1 7).toInt = (S.1 2).toInt - 1) (h0 : ∀ q, q < 199 → μ'.2.1 0 q = μ.2.1 (2 + (S.1 2).toInt.toNat) q) (hr : ∀ i, 3 ≤ i → i < 11 → μ'.2.1 i = μ.2.1 i) (hB : μ'.2.2 = μ.2.2) (h1 : μ'.1 1 = μ.1 1) (h6 : μ'.1 6 = μ.1 6) : RS T (sBack S) μ' := by
  obtain ⟨hk, ⟨hh, h2, h3⟩, ⟨g1, g2, g3⟩, g4⟩ := h
  have c1 := sBack_cv hh hp
  have c2 := sBack_nv hh
  have hk0 := h3 0 (by omega)
  obtain ⟨⟨b1, b2⟩, b3, b4⟩ := hh
  refine ⟨?_, ⟨⟨⟨by rw [c1]; omega, by rw [c1]; omega⟩, by rw [c2]; split <;> omega, by rw [c2]; split <;> omega⟩, ar_eq (by rw [h7, c1]), fun t ht => ?_⟩, ⟨h1.trans g1, g2, by rw [hB]; exact g3⟩, h6.trans g4⟩
  · show KR T (sBec (S.2.2.2 0) (S.2.2.2 (2 + hLast S))) _
    have e : 2 + hLast S = 2 + ((S.1 3).toInt.toNat + 7 - 0) % 8 := by unfold hLast; split <;> omega
    rw [e]
    exact KR.row (KR.bec hk0 _) h0
  · rw [c1] at ht ⊢
    rw [c2]
    have h4 := h3 (t + 1) (by omega)
    have e : ∀ i, i ≠ 0 → (sBack S).2.2.2 i = S.2.2.2 i := fun i hi => ev_u_ne _ _ hi
    rw [e _ (by omega), hr _ (by omega) (by omega), show 2 + ((S.1 2).toInt - 1).toNat - t = 2 + (S.1 2).toInt.toNat - (t + 1) by omega, show ((if 0 < (S.1 3).toInt then (S.1 3).toInt - 1 else 7).toNat + 7 - t) % 8 = ((S.1 3).toInt.toNat + 7 - (t + 1)) % 8 by split <;> omega]
    exact h4
/-- a change behind a keeping -/
theorem RS.chg {T : Int} {S : SS} {μ' : MS} {τ : CS} (hk : KR T τ (μ'.2.1 0)) (hh : RH T (sKeep S) μ') (hB : RBuf S μ') (h6 : μ'.1 6 = S.1 1) : RS T (ss_C (sKeep S) 0 τ) μ' := by
  refine ⟨?_, hh.chain (by decide) τ, ?_, ?_⟩
  · show KR T (ev_u (sKeep S).2.2.2 0 τ 0) _
    rw [ev_u_self]; exact hk
  · exact hB
  · exact h6

