/-! the model's data beside a chain -/
def sTI (σ : CS) (k : Nat) : TI := (σ.2.2 7 k, σ.2.2 8 k, σ.2.2 9 k)
/-- the impulses, as they were told -/
def ivL (ml : Nat → TI) (n : Nat) (δ : Nat → Int64) : Prop := ∀ k, k < n → δ (87 + 3 * k) = (ml k).1.toInt64 ∧ δ (87 + 3 * k + 1) = (ml k).2.1.toInt64 ∧ δ (87 + 3 * k + 2) = (ml k).2.2.toInt64
def ivS (F : Nat → TI) (n : Nat) (δ : Nat → Int64) : Prop := ∃ m : Nat → TI, ivL m n δ ∧ cRev F n = rSrt ((List.range n).map m)
def RD (σ : CS) (δ : Nat → Int64) : Prop :=
  (δ 0 = (σ.1 1).toInt64 ∧ δ 1 = (σ.1 0).toInt64 ∧ δ 2 = (σ.1 3).toInt64 ∧ δ 3 = (σ.1 4).toInt64 ∧ δ 4 = (σ.1 2).toInt64 ∧ δ 5 = (σ.1 5).toInt64 ∧ δ 6 = (σ.1 6).toInt64) ∧
  ((∀ k, k < 5 → δ (7 + k) = σ.2.1 k) ∧ (∀ w j, w < 3 → j < sNm σ → δ (12 + 3 * j + w) = (σ.2.2 w j).toInt64) ∧ (∀ w s, w < 3 → s ≤ sNm σ → δ (48 + 3 * s + w) = (σ.2.2 (3 + w) s).toInt64)) ∧
  (∀ w k, w < 2 → k < sPn σ → δ (135 + 2 * k + w) = (σ.2.2 (10 + w) k).toInt64) ∧ ivS (sTI σ) (sIn σ) δ
theorem ivL.congr {ml : Nat → TI} {n : Nat} {δ δ' : Nat → Int64} (h : ∀ q, 87 ≤ q → q < 87 + 3 * n → δ' q = δ q) (hl : ivL ml n δ) : ivL ml n δ' := fun k hk => by
  obtain ⟨h1, h2, h3⟩ := hl k hk
  exact ⟨(h _ (by omega) (by omega)).trans h1, (h _ (by omega) (by omega)).trans h2, (h _ (by omega) (by omega)).trans h3⟩
theorem ivS.congr {F F' : Nat → TI} {n : Nat} {δ δ' : Nat → Int64} (hF : ∀ k, k < n → F' k = F k) (h : ∀ q, 87 ≤ q → q < 87 + 3 * n → δ' q = δ q) (hl : ivS F n δ) : ivS F' n δ' := by
  obtain ⟨m, h1, h2⟩ := hl
  exact ⟨m, h1.congr h, (cRev_congr hF).trans h2⟩
theorem sIok.le {σ : CS} (h : sIok σ) : sIn σ ≤ 16 := h.nat.2
/-- like numbers, like data -/
theorem RD.congr {σ σ' : CS} {δ δ' : Nat → Int64} (h : RD σ δ) (hN : sNm σ ≤ 12) (hI : sIn σ ≤ 16) (hP : sPn σ ≤ 32) (e0 : ∀ k, k < 7 → σ'.1 k = σ.1 k) (e1 : ∀ k, k < 5 → σ'.2.1 k = σ.2.1 k) (e2 : ∀ w j, w < 3 → j < sNm σ → σ'.2.2 w j = σ.2.2 w j) (e3 : ∀ w s, w < 3 → s ≤ sNm σ → σ'.2.2 (3 + w) s = σ.2.2 (3 + w) s) (e4 : ∀ w k, w < 3 → k < sIn σ → σ'.2.2 (7 + w) k = σ.2.2 (7 + w) k) (e5 : ∀ w k, w < 2 → k < sPn σ → σ'.2.2 (10 + w) k = σ.2.2 (10 + w) k) (hq : ∀ q, q < 199 → δ' q = δ q) : RD σ' δ' := by
  obtain ⟨⟨h0, h1, h2, h3, h4, h5, h6⟩, ⟨ha, hb, hc⟩, hd, he⟩ := h
  have n1 : sNm σ' = sNm σ := by unfold sNm; rw [e0 0 (by decide)]
  have n2 : sIn σ' = sIn σ := by unfold sIn; rw [e0 5 (by decide)]
  have n3 : sPn σ' = sPn σ := by unfold sPn; rw [e0 6 (by decide)]
  refine ⟨⟨?_, ?_, ?_, ?_, ?_, ?_, ?_⟩, ⟨fun k hk => ?_, fun w j hw hj => ?_, fun w s hw hs => ?_⟩, fun w k hw hk => ?_, ?_⟩
  · rw [hq 0 (by decide), h0, e0 1 (by decide)]
  · rw [hq 1 (by decide), h1, e0 0 (by decide)]
  · rw [hq 2 (by decide), h2, e0 3 (by decide)]
  · rw [hq 3 (by decide), h3, e0 4 (by decide)]
  · rw [hq 4 (by decide), h4, e0 2 (by decide)]
  · rw [hq 5 (by decide), h5, e0 5 (by decide)]
  · rw [hq 6 (by decide), h6, e0 6 (by decide)]
  · rw [hq _ (by omega), ha k hk, e1 k hk]
  · rw [n1] at hj; rw [hq _ (by omega), hb w j hw hj, e2 w j hw hj]
  · rw [n1] at hs; rw [hq _ (by omega), hc w s hw hs, e3 w s hw hs]
  · rw [n3] at hk; rw [hq _ (by omega), hd w k hw hk, e5 w k hw hk]
  · rw [n2]
    refine ivS.congr (fun k hk => ?_) (fun q h1 h2 => hq q (by omega)) he
    show (σ'.2.2 (7 + 0) k, σ'.2.2 (7 + 1) k, σ'.2.2 (7 + 2) k) = _
    rw [e4 0 k (by decide) hk, e4 1 k (by decide) hk, e4 2 k (by decide) hk]
    rfl

theorem RD.ms {σ : CS} {δ : Nat → Int64} (h : RD σ δ) (hv : sInv σ) {w j : Nat} (hw : w < 3) (hj : j < sNm σ) (v : Int32) : RD (cs_A σ w (ev_u (σ.2.2 w) j v)) (ev_u δ (12 + 3 * j + w) v.toInt64) := by
  obtain ⟨⟨h0, h1, h2, h3, h4, h5, h6⟩, ⟨ha, hb, hc⟩, hd, he⟩ := h
  have hn := hv.1.nat
  have hin := hv.2.2.1.nat
  have hpn : sPn σ ≤ 32 := by have := hv.2.2.2.2; unfold sPn; omega
  have o : ∀ q, q ≠ 12 + 3 * j + w → ev_u δ (12 + 3 * j + w) v.toInt64 q = δ q := fun q hq => ev_u_ne _ _ hq
  refine ⟨⟨?_, ?_, ?_, ?_, ?_, ?_, ?_⟩, ⟨?_, ?_, ?_⟩, ?_, ?_⟩
  · exact (o _ (by omega)).trans h0
  · exact (o _ (by omega)).trans h1
  · exact (o _ (by omega)).trans h2
  · exact (o _ (by omega)).trans h3
  · exact (o _ (by omega)).trans h4
  · exact (o _ (by omega)).trans h5
  · exact (o _ (by omega)).trans h6
  · exact fun k hk => (o _ (by omega)).trans (ha k hk)
  · intro w2 j2 hw2 hj2
    by_cases e : w2 = w
    · subst e
      show _ = (ev_u σ.2.2 w2 (ev_u (σ.2.2 w2) j v) w2 j2).toInt64
      rw [ev_u_self]
      by_cases ej : j2 = j
      · subst ej; rw [ev_u_self, ev_u_self]
      · rw [o _ (by omega), ev_u_ne _ _ ej]; exact hb w2 j2 hw2 hj2
    · show _ = (ev_u σ.2.2 w _ w2 j2).toInt64
      rw [o _ (by omega), ev_u_ne _ _ e]; exact hb w2 j2 hw2 hj2
  · intro w2 s2 hw2 hs2
    show _ = (ev_u σ.2.2 w _ (3 + w2) s2).toInt64
    have hs3 : s2 ≤ sNm σ := hs2
    rw [o _ (by omega), ev_u_ne _ _ (by omega)]; exact hc w2 s2 hw2 hs2
  · intro w2 s2 hw2 hs2
    show _ = (ev_u σ.2.2 w _ (10 + w2) s2).toInt64
    have hs3 : s2 < sPn σ := hs2
    rw [o _ (by omega), ev_u_ne _ _ (by omega)]; exact hd w2 s2 hw2 hs2
  · refine ivS.congr (fun k _ => ?_) (fun q h1 h2 => o q (by omega)) he
    show (ev_u σ.2.2 w _ 7 k, ev_u σ.2.2 w _ 8 k, ev_u σ.2.2 w _ 9 k) = _
    rw [ev_u_ne _ _ (by omega), ev_u_ne _ _ (by omega), ev_u_ne _ _ (by omega)]
    rfl
theorem RD.sp {σ : CS} {δ : Nat → Int64} (h : RD σ δ) (hv : sInv σ) {w j : Nat} (hw : w < 3) (hj : j ≤ sNm σ) (v : Int32) : RD (cs_A σ (3 + w) (ev_u (σ.2.2 (3 + w)) j v)) (ev_u δ (48 + 3 * j + w) v.toInt64) := by
  obtain ⟨⟨h0, h1, h2, h3, h4, h5, h6⟩, ⟨ha, hb, hc⟩, hd, he⟩ := h
  have hn := hv.1.nat
  have hin := hv.2.2.1.nat
  have hpn : sPn σ ≤ 32 := by have := hv.2.2.2.2; unfold sPn; omega
  have o : ∀ q, q ≠ 48 + 3 * j + w → ev_u δ (48 + 3 * j + w) v.toInt64 q = δ q := fun q hq => ev_u_ne _ _ hq
  refine ⟨⟨?_, ?_, ?_, ?_, ?_, ?_, ?_⟩, ⟨?_, ?_, ?_⟩, ?_, ?_⟩
  · exact (o _ (by omega)).trans h0
  · exact (o _ (by omega)).trans h1
  · exact (o _ (by omega)).trans h2
  · exact (o _ (by omega)).trans h3
  · exact (o _ (by omega)).trans h4
  · exact (o _ (by omega)).trans h5
  · exact (o _ (by omega)).trans h6
  · exact fun k hk => (o _ (by omega)).trans (ha k hk)
  · intro w2 s2 hw2 hs2
    show _ = (ev_u σ.2.2 (3 + w) _ w2 s2).toInt64
    have hs3 : s2 < sNm σ := hs2
    rw [o _ (by omega), ev_u_ne _ _ (by omega)]; exact hb w2 s2 hw2 hs2
  · intro w2 j2 hw2 hj2
    have hj3 : j2 ≤ sNm σ := hj2
    by_cases e : w2 = w
    · subst e
      show _ = (ev_u σ.2.2 (3 + w2) (ev_u (σ.2.2 (3 + w2)) j v) (3 + w2) j2).toInt64
      rw [ev_u_self]
      by_cases ej : j2 = j
      · subst ej; rw [ev_u_self, ev_u_self]
      · rw [o _ (by omega), ev_u_ne _ _ ej]; exact hc w2 j2 hw2 hj2
    · show _ = (ev_u σ.2.2 (3 + w) _ (3 + w2) j2).toInt64
      rw [o _ (by omega), ev_u_ne _ _ (by omega)]; exact hc w2 j2 hw2 hj2
  · intro w2 s2 hw2 hs2
    show _ = (ev_u σ.2.2 (3 + w) _ (10 + w2) s2).toInt64
    have hs3 : s2 < sPn σ := hs2
    rw [o _ (by omega), ev_u_ne _ _ (by omega)]; exact hd w2 s2 hw2 hs2
  · refine ivS.congr (fun k _ => ?_) (fun q h1 h2 => o q (by omega)) he
    show (ev_u σ.2.2 (3 + w) _ 7 k, ev_u σ.2.2 (3 + w) _ 8 k, ev_u σ.2.2 (3 + w) _ 9 k) = _
    rw [ev_u_ne _ _ (by omega), ev_u_ne _ _ (by omega), ev_u_ne _ _ (by omega)]
    rfl
theorem RD.acc {σ : CS} {δ : Nat → Int64} (h : RD σ δ) (hv : sInv σ) {k : Nat} (hk : k < 5) (v : Int64) : RD (cs_J σ k v) (ev_u δ (7 + k) v) := by
  obtain ⟨⟨h0, h1, h2, h3, h4, h5, h6⟩, ⟨ha, hb, hc⟩, hd, he⟩ := h
  have hn := hv.1.nat
  have hin := hv.2.2.1.nat
  have hpn : sPn σ ≤ 32 := by have := hv.2.2.2.2; unfold sPn; omega
  have o : ∀ q, q ≠ 7 + k → ev_u δ (7 + k) v q = δ q := fun q hq => ev_u_ne _ _ hq
  refine ⟨⟨?_, ?_, ?_, ?_, ?_, ?_, ?_⟩, ⟨?_, ?_, ?_⟩, ?_, ?_⟩
  · exact (o _ (by omega)).trans h0
  · exact (o _ (by omega)).trans h1
  · exact (o _ (by omega)).trans h2
  · exact (o _ (by omega)).trans h3
  · exact (o _ (by omega)).trans h4
  · exact (o _ (by omega)).trans h5
  · exact (o _ (by omega)).trans h6
  · intro k2 hk2
    show _ = ev_u σ.2.1 k v k2
    by_cases e : k2 = k
    · subst e; rw [ev_u_self, ev_u_self]
    · rw [o _ (by omega), ev_u_ne _ _ e]; exact ha k2 hk2
  · exact fun w2 j2 hw2 hj2 => (o _ (by have : j2 < sNm σ := hj2; omega)).trans (hb w2 j2 hw2 hj2)
  · exact fun w2 s2 hw2 hs2 => (o _ (by have : s2 ≤ sNm σ := hs2; omega)).trans (hc w2 s2 hw2 hs2)
  · exact fun w2 k2 hw2 hk2 => (o _ (by have : k2 < sPn σ := hk2; omega)).trans (hd w2 k2 hw2 hk2)
  · exact ivS.congr (fun _ _ => rfl) (fun q h1 h2 => o q (by omega)) he
theorem RD.tm {σ : CS} {δ : Nat → Int64} (h : RD σ δ) (hv : sInv σ) (v : Int32) : RD (cs_I σ 1 v) (ev_u δ (0) v.toInt64) := by
  obtain ⟨⟨h0, h1, h2, h3, h4, h5, h6⟩, ⟨ha, hb, hc⟩, hd, he⟩ := h
  have hn := hv.1.nat
  have hin := hv.2.2.1.nat
  have hpn : sPn σ ≤ 32 := by have := hv.2.2.2.2; unfold sPn; omega
  have o : ∀ q, q ≠ 0 → ev_u δ (0) v.toInt64 q = δ q := fun q hq => ev_u_ne _ _ hq
  refine ⟨⟨?_, ?_, ?_, ?_, ?_, ?_, ?_⟩, ⟨?_, ?_, ?_⟩, ?_, ?_⟩
  · exact ev_u_self _ _ _
  · exact (o _ (by omega)).trans h1
  · exact (o _ (by omega)).trans h2
  · exact (o _ (by omega)).trans h3
  · exact (o _ (by omega)).trans h4
  · exact (o _ (by omega)).trans h5
  · exact (o _ (by omega)).trans h6
  · exact fun k hk => (o _ (by omega)).trans (ha k hk)
  · exact fun w2 j2 hw2 hj2 => (o _ (by have : j2 < sNm σ := hj2; omega)).trans (hb w2 j2 hw2 hj2)
  · exact fun w2 s2 hw2 hs2 => (o _ (by have : s2 ≤ sNm σ := hs2; omega)).trans (hc w2 s2 hw2 hs2)
  · exact fun w2 k2 hw2 hk2 => (o _ (by have : k2 < sPn σ := hk2; omega)).trans (hd w2 k2 hw2 hk2)
  · exact ivS.congr (fun _ _ => rfl) (fun q h1 h2 => o q (by omega)) he
theorem RD.lf {σ : CS} {δ : Nat → Int64} (h : RD σ δ) (hv : sInv σ) (v : Int32) : RD (cs_I σ 3 v) (ev_u δ (2) v.toInt64) := by
  obtain ⟨⟨h0, h1, h2, h3, h4, h5, h6⟩, ⟨ha, hb, hc⟩, hd, he⟩ := h
  have hn := hv.1.nat
  have hin := hv.2.2.1.nat
  have hpn : sPn σ ≤ 32 := by have := hv.2.2.2.2; unfold sPn; omega
  have o : ∀ q, q ≠ 2 → ev_u δ (2) v.toInt64 q = δ q := fun q hq => ev_u_ne _ _ hq
  refine ⟨⟨?_, ?_, ?_, ?_, ?_, ?_, ?_⟩, ⟨?_, ?_, ?_⟩, ?_, ?_⟩
  · exact (o _ (by omega)).trans h0
  · exact (o _ (by omega)).trans h1
  · exact ev_u_self _ _ _
  · exact (o _ (by omega)).trans h3
  · exact (o _ (by omega)).trans h4
  · exact (o _ (by omega)).trans h5
  · exact (o _ (by omega)).trans h6
  · exact fun k hk => (o _ (by omega)).trans (ha k hk)
  · exact fun w2 j2 hw2 hj2 => (o _ (by have : j2 < sNm σ := hj2; omega)).trans (hb w2 j2 hw2 hj2)
  · exact fun w2 s2 hw2 hs2 => (o _ (by have : s2 ≤ sNm σ := hs2; omega)).trans (hc w2 s2 hw2 hs2)
  · exact fun w2 k2 hw2 hk2 => (o _ (by have : k2 < sPn σ := hk2; omega)).trans (hd w2 k2 hw2 hk2)
  · exact ivS.congr (fun _ _ => rfl) (fun q h1 h2 => o q (by omega)) he
theorem RD.rt {σ : CS} {δ : Nat → Int64} (h : RD σ δ) (hv : sInv σ) (v : Int32) : RD (cs_I σ 4 v) (ev_u δ (3) v.toInt64) := by
  obtain ⟨⟨h0, h1, h2, h3, h4, h5, h6⟩, ⟨ha, hb, hc⟩, hd, he⟩ := h
  have hn := hv.1.nat
  have hin := hv.2.2.1.nat
  have hpn : sPn σ ≤ 32 := by have := hv.2.2.2.2; unfold sPn; omega
  have o : ∀ q, q ≠ 3 → ev_u δ (3) v.toInt64 q = δ q := fun q hq => ev_u_ne _ _ hq
  refine ⟨⟨?_, ?_, ?_, ?_, ?_, ?_, ?_⟩, ⟨?_, ?_, ?_⟩, ?_, ?_⟩
  · exact (o _ (by omega)).trans h0
  · exact (o _ (by omega)).trans h1
  · exact (o _ (by omega)).trans h2
  · exact ev_u_self _ _ _
  · exact (o _ (by omega)).trans h4
  · exact (o _ (by omega)).trans h5
  · exact (o _ (by omega)).trans h6
  · exact fun k hk => (o _ (by omega)).trans (ha k hk)
  · exact fun w2 j2 hw2 hj2 => (o _ (by have : j2 < sNm σ := hj2; omega)).trans (hb w2 j2 hw2 hj2)
  · exact fun w2 s2 hw2 hs2 => (o _ (by have : s2 ≤ sNm σ := hs2; omega)).trans (hc w2 s2 hw2 hs2)
  · exact fun w2 k2 hw2 hk2 => (o _ (by have : k2 < sPn σ := hk2; omega)).trans (hd w2 k2 hw2 hk2)
  · exact ivS.congr (fun _ _ => rfl) (fun q h1 h2 => o q (by omega)) he
theorem RD.dm {σ : CS} {δ : Nat → Int64} (h : RD σ δ) (hv : sInv σ) (v : Int32) : RD (cs_I σ 2 v) (ev_u δ (4) v.toInt64) := by
  obtain ⟨⟨h0, h1, h2, h3, h4, h5, h6⟩, ⟨ha, hb, hc⟩, hd, he⟩ := h
  have hn := hv.1.nat
  have hin := hv.2.2.1.nat
  have hpn : sPn σ ≤ 32 := by have := hv.2.2.2.2; unfold sPn; omega
  have o : ∀ q, q ≠ 4 → ev_u δ (4) v.toInt64 q = δ q := fun q hq => ev_u_ne _ _ hq
  refine ⟨⟨?_, ?_, ?_, ?_, ?_, ?_, ?_⟩, ⟨?_, ?_, ?_⟩, ?_, ?_⟩
  · exact (o _ (by omega)).trans h0
  · exact (o _ (by omega)).trans h1
  · exact (o _ (by omega)).trans h2
  · exact (o _ (by omega)).trans h3
  · exact ev_u_self _ _ _
  · exact (o _ (by omega)).trans h5
  · exact (o _ (by omega)).trans h6
  · exact fun k hk => (o _ (by omega)).trans (ha k hk)
  · exact fun w2 j2 hw2 hj2 => (o _ (by have : j2 < sNm σ := hj2; omega)).trans (hb w2 j2 hw2 hj2)
  · exact fun w2 s2 hw2 hs2 => (o _ (by have : s2 ≤ sNm σ := hs2; omega)).trans (hc w2 s2 hw2 hs2)
  · exact fun w2 k2 hw2 hk2 => (o _ (by have : k2 < sPn σ := hk2; omega)).trans (hd w2 k2 hw2 hk2)
  · exact ivS.congr (fun _ _ => rfl) (fun q h1 h2 => o q (by omega)) he
/-! what always holds of a chain's numbers -/
/-- ends, damping, displacements, springs -/
def RBs (σ : CS) : Prop := (0 ≤ (σ.1 2).toInt ∧ (σ.1 2).toInt ≤ 999) ∧ ((-100000 ≤ (σ.1 3).toInt ∧ (σ.1 3).toInt ≤ 100000) ∧ (-100000 ≤ (σ.1 4).toInt ∧ (σ.1 4).toInt ≤ 100000)) ∧ (∀ j, j < sNm σ → -1000000 ≤ (σ.2.2 1 j).toInt ∧ (σ.2.2 1 j).toInt ≤ 1000000) ∧ (∀ s, s ≤ sNm σ → (0 ≤ (σ.2.2 3 s).toInt ∧ (σ.2.2 3 s).toInt ≤ 999) ∧ (0 ≤ (σ.2.2 4 s).toInt ∧ (σ.2.2 4 s).toInt ≤ 99999) ∧ (σ.2.2 5 s = 0 ∨ σ.2.2 5 s = 1))
def RBm (K : Int) (σ : CS) : Prop := ∀ j, j < sNm σ → -K ≤ (σ.2.2 2 j).toInt ∧ (σ.2.2 2 j).toInt ≤ K
/-- time, impulses, patterns -/
def RBt (T : Int) (σ : CS) : Prop := (0 ≤ (σ.1 1).toInt ∧ (σ.1 1).toInt ≤ T) ∧ (∀ k, k < sIn σ → (σ.1 1).toInt ≤ (σ.2.2 7 k).toInt ∧ (σ.2.2 7 k).toInt ≤ 9999 ∧ -9999 ≤ (σ.2.2 9 k).toInt ∧ (σ.2.2 9 k).toInt ≤ 9999) ∧ (∀ k, k < sPn σ → 0 ≤ (σ.2.2 11 k).toInt ∧ (σ.2.2 11 k).toInt ≤ (σ.1 1).toInt)
def RB (T : Int) (σ : CS) : Prop := RBs σ ∧ RBm 100000000 σ ∧ RBt T σ
theorem RBt.up {T T' : Int} {σ : CS} (h : RBt T σ) (hT : T ≤ T') : RBt T' σ := ⟨⟨h.1.1, Int.le_trans h.1.2 hT⟩, h.2⟩
theorem RB.up {T T' : Int} {σ : CS} (h : RB T σ) (hT : T ≤ T') : RB T' σ := ⟨h.1, h.2.1, h.2.2.up hT⟩
/-- the place of what is on a side -/
def sPlc (σ : CS) (k : Int) : Int32 := if k < 0 then σ.1 3 else if k = sM σ then σ.1 4 else σ.2.2 1 k.toNat
theorem sPlc_b {σ : CS} (hm : sOk σ) (hb : RBs σ) {k : Int} (h1 : k ≤ sM σ) : -1000000 ≤ (sPlc σ k).toInt ∧ (sPlc σ k).toInt ≤ 1000000 := by
  have hn := hm.nat
  unfold sPlc
  by_cases a : k < 0
  · rw [if_pos a]; have := hb.2.1.1; omega
  · rw [if_neg a]
    by_cases b : k = sM σ
    · rw [if_pos b]; have := hb.2.1.2; omega
    · rw [if_neg b]; exact hb.2.2.1 _ (by omega)
theorem sStr_eq {σ : CS} (hm : sOk σ) {s : Nat} (hs : s ≤ sNm σ) : sStr σ s = sPlc σ s - sPlc σ ((s : Int) - 1) := by
  have hn := hm.nat
  unfold sStr sPlc
  rw [if_neg (show ¬ (s : Int) < 0 by omega)]
  by_cases a : s = 0
  · subst a
    rw [if_pos rfl, if_pos (show ((0 : Nat) : Int) - 1 < 0 by omega), if_pos (by omega), if_neg (by omega)]
    rfl
  · rw [if_neg a, if_neg (show ¬ (s : Int) - 1 < 0 by omega), if_neg (show ¬ (s : Int) - 1 = sM σ by omega), show ((s : Int) - 1).toNat = s - 1 by omega]
    by_cases b : (s : Int) = sM σ
    · rw [if_pos b, if_neg (by omega)]
    · rw [if_neg b, if_pos (by omega)]
      rfl
theorem sStr_64 {σ : CS} (hm : sOk σ) (hb : RBs σ) {s : Nat} (hs : s ≤ sNm σ) : (sStr σ s).toInt64 = (sPlc σ s).toInt64 - (sPlc σ ((s : Int) - 1)).toInt64 ∧ -2000000 ≤ (sStr σ s).toInt ∧ (sStr σ s).toInt ≤ 2000000 := by
  have hn := hm.nat
  have h1 := sPlc_b hm hb (k := (s : Int)) (by omega)
  have h2 := sPlc_b hm hb (k := (s : Int) - 1) (by omega)
  rw [sStr_eq hm hs]
  refine ⟨ar_64sub (by omega) (by omega), ?_⟩
  rw [ar_sub (by omega) (by omega)]
  omega
theorem ar_tdiv {a : Int} {b : Nat} (hb : 1 ≤ b) {k : Int} (h1 : -k ≤ a) (h2 : a ≤ k) : -k ≤ a.tdiv b ∧ a.tdiv b ≤ k := by
  have h := Int.natAbs_tdiv_le_natAbs a b
  omega
theorem ar_divL {x y : Int64} (h : y.toInt ≠ -1) : (x / y).toInt = x.toInt.tdiv y.toInt := Int64.toInt_div_of_ne_right x y (fun c => h (by rw [c]; decide +kernel))
theorem ar_div {x y : Int32} (h : y.toInt ≠ -1) : (x / y).toInt = x.toInt.tdiv y.toInt := Int32.toInt_div_of_ne_right x y (fun c => h (by rw [c]; decide +kernel))
/-- a quotient by an int is an int -/
theorem ar_64div {x y : Int32} (h : 0 < y.toInt) : (x / y).toInt64 = x.toInt64 / y.toInt64 := ar_eqL (by rw [ar_64, ar_div (by omega), ar_divL (by rw [ar_64]; omega), ar_64, ar_64])
theorem sPull_64 {σ : CS} (hm : sOk σ) (hb : RBs σ) {s : Nat} (hs : s ≤ sNm σ) : (sPull σ s).toInt64 = (if σ.2.2 5 s = 0 then (σ.2.2 3 s).toInt64 * (sStr σ s).toInt64 / 100 else 0) ∧ -2000000000 ≤ 100 * (sPull σ s).toInt ∧ 100 * (sPull σ s).toInt ≤ 2000000000 := by
  unfold sPull
  have h1 := (hb.2.2.2 s hs).1
  have h2 := (sStr_64 hm hb hs).2
  by_cases c : σ.2.2 5 s = 0
  · rw [if_pos c, if_pos c]
    have w : (100 : Int64).toInt = 100 := by decide +kernel
    have a1 : (σ.2.2 3 s).toInt * (sStr σ s).toInt ≤ 1998000000 := by
      have := Int.mul_le_mul_of_nonneg_left h2.2 h1.1
      have := Int.mul_le_mul_of_nonneg_right h1.2 (show (0 : Int) ≤ 2000000 by decide)
      omega
    have a2 : -1998000000 ≤ (σ.2.2 3 s).toInt * (sStr σ s).toInt := by
      have := Int.mul_le_mul_of_nonneg_left h2.1 h1.1
      have := Int.mul_le_mul_of_nonneg_right h1.2 (show (0 : Int) ≤ 2000000 by decide)
      omega
    have e1 : ((σ.2.2 3 s).toInt64 * (sStr σ s).toInt64).toInt = (σ.2.2 3 s).toInt * (sStr σ s).toInt := by rw [ar_mulL (by rw [ar_64, ar_64]; omega) (by rw [ar_64, ar_64]; omega), ar_64, ar_64]
    have e2 : ((σ.2.2 3 s).toInt64 * (sStr σ s).toInt64 / 100).toInt = ((σ.2.2 3 s).toInt * (sStr σ s).toInt).tdiv 100 := by rw [ar_divL (by rw [w]; decide), e1, w]
    have b := ar_tdiv (b := 100) (by decide) a2 a1
    have b2 : 100 * (((σ.2.2 3 s).toInt * (sStr σ s).toInt).tdiv 100) = (σ.2.2 3 s).toInt * (sStr σ s).toInt - ((σ.2.2 3 s).toInt * (sStr σ s).toInt).tmod 100 := by
      have := Int.mul_tdiv_add_tmod ((σ.2.2 3 s).toInt * (sStr σ s).toInt) 100
      omega
    have b3 := Int.tmod_lt_of_pos ((σ.2.2 3 s).toInt * (sStr σ s).toInt) (show (0 : Int) < 100 by decide)
    have b4 := Int.lt_tmod_of_pos ((σ.2.2 3 s).toInt * (sStr σ s).toInt) (show (0 : Int) < 100 by decide)
    have e3 : ((σ.2.2 3 s).toInt64 * (sStr σ s).toInt64 / 100).toInt32.toInt = ((σ.2.2 3 s).toInt * (sStr σ s).toInt).tdiv 100 := by rw [ar_32 (by rw [e2]; exact Int.le_trans (by decide) b.1) (by rw [e2]; exact Int.lt_of_le_of_lt b.2 (by decide)), e2]
    refine ⟨ar_eqL (by rw [ar_64, e3, e2]), ?_⟩
    rw [e3, b2]
    omega
  · rw [if_neg c, if_neg c, ar_0]
    refine ⟨by decide +kernel, by decide, by decide⟩

