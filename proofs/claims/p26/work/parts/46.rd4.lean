/-! a tick's parts, on the data's side -/
def RD0 (σ : CS) (δ : Nat → Int64) : Prop :=
  (δ 0 = (σ.1 1).toInt64 ∧ δ 1 = (σ.1 0).toInt64 ∧ δ 2 = (σ.1 3).toInt64 ∧ δ 3 = (σ.1 4).toInt64 ∧ δ 4 = (σ.1 2).toInt64 ∧ δ 5 = (σ.1 5).toInt64 ∧ δ 6 = (σ.1 6).toInt64) ∧
  ((∀ k, k < 5 → δ (7 + k) = σ.2.1 k) ∧ (∀ w j, w < 3 → j < sNm σ → δ (12 + 3 * j + w) = (σ.2.2 w j).toInt64) ∧ (∀ w s, w < 3 → s ≤ sNm σ → δ (48 + 3 * s + w) = (σ.2.2 (3 + w) s).toInt64)) ∧
  (∀ w k, w < 2 → k < sPn σ → δ (135 + 2 * k + w) = (σ.2.2 (10 + w) k).toInt64)
theorem RD.to0 {σ : CS} {δ : Nat → Int64} (h : RD σ δ) : RD0 σ δ := ⟨h.1, h.2.1, h.2.2.1⟩
theorem RD0.and {σ : CS} {δ : Nat → Int64} (h : RD0 σ δ) (hi : ivS (sTI σ) (sIn σ) δ) : RD σ δ := ⟨h.1, h.2.1, h.2.2, hi⟩
/-- the impulses' places don't count there -/
theorem RD0.imp {σ : CS} {δ δ' : Nat → Int64} (h : RD0 σ δ) (hm : sOk σ) (hq : ∀ q, q < 87 ∨ 135 ≤ q → δ' q = δ q) : RD0 σ δ' := by
  obtain ⟨⟨h0, h1, h2, h3, h4, h5, h6⟩, ⟨ha, hb, hc⟩, hd⟩ := h
  have hn := hm.nat
  exact ⟨⟨(hq _ (by omega)).trans h0, (hq _ (by omega)).trans h1, (hq _ (by omega)).trans h2, (hq _ (by omega)).trans h3, (hq _ (by omega)).trans h4, (hq _ (by omega)).trans h5, (hq _ (by omega)).trans h6⟩, ⟨fun k hk => (hq _ (by omega)).trans (ha k hk), fun w j hw hj => (hq _ (by omega)).trans (hb w j hw hj), fun w s hw hs => (hq _ (by omega)).trans (hc w s hw hs)⟩, fun w k hw hk => (hq _ (by omega)).trans (hd w k hw hk)⟩
theorem RD0.ms {σ : CS} {δ : Nat → Int64} (h : RD0 σ δ) (hv : sInv σ) {w j : Nat} (hw : w < 3) (hj : j < sNm σ) (v : Int32) : RD0 (cs_A σ w (ev_u (σ.2.2 w) j v)) (ev_u δ (12 + 3 * j + w) v.toInt64) := by
  obtain ⟨⟨h0, h1, h2, h3, h4, h5, h6⟩, ⟨ha, hb, hc⟩, hd⟩ := h
  have hn := hv.1.nat
  have hin := hv.2.2.1.nat
  have hpn : sPn σ ≤ 32 := by have := hv.2.2.2.2; unfold sPn; omega
  have o : ∀ q, q ≠ 12 + 3 * j + w → ev_u δ (12 + 3 * j + w) v.toInt64 q = δ q := fun q hq => ev_u_ne _ _ hq
  refine ⟨⟨?_, ?_, ?_, ?_, ?_, ?_, ?_⟩, ⟨?_, ?_, ?_⟩, ?_⟩
  · exact (o _ (by omega)).trans h0
  · exact (o _ (by omega)).trans h1
  · exact (o _ (by omega)).trans h2
  · exact (o _ (by omega)).trans h3
  · exact (o _ (by omega)).trans h4
  · exact (o _ (by omega)).trans h5
  · exact (o _ (by omega)).trans h6
  · exact fun k hk => (o _ (by omega)).trans (ha k hk)
  · intro w2 j2 hw2 hj2
    by_cases e : w2 = w
    · subst e
      show _ = (ev_u σ.2.2 w2 (ev_u (σ.2.2 w2) j v) w2 j2).toInt64
      rw [ev_u_self]
      by_cases ej : j2 = j
      · subst ej; rw [ev_u_self, ev_u_self]
      · rw [o _ (by omega), ev_u_ne _ _ ej]; exact hb w2 j2 hw2 hj2
    · show _ = (ev_u σ.2.2 w _ w2 j2).toInt64
      rw [o _ (by omega), ev_u_ne _ _ e]; exact hb w2 j2 hw2 hj2
  · intro w2 s2 hw2 hs2
    show _ = (ev_u σ.2.2 w _ (3 + w2) s2).toInt64
    have hs3 : s2 ≤ sNm σ := hs2
    rw [o _ (by omega), ev_u_ne _ _ (by omega)]; exact hc w2 s2 hw2 hs2
  · intro w2 s2 hw2 hs2
    show _ = (ev_u σ.2.2 w _ (10 + w2) s2).toInt64
    have hs3 : s2 < sPn σ := hs2
    rw [o _ (by omega), ev_u_ne _ _ (by omega)]; exact hd w2 s2 hw2 hs2
theorem RD0.acc {σ : CS} {δ : Nat → Int64} (h : RD0 σ δ) (hv : sInv σ) {k : Nat} (hk : k < 5) (v : Int64) : RD0 (cs_J σ k v) (ev_u δ (7 + k) v) := by
  obtain ⟨⟨h0, h1, h2, h3, h4, h5, h6⟩, ⟨ha, hb, hc⟩, hd⟩ := h
  have hn := hv.1.nat
  have hin := hv.2.2.1.nat
  have hpn : sPn σ ≤ 32 := by have := hv.2.2.2.2; unfold sPn; omega
  have o : ∀ q, q ≠ 7 + k → ev_u δ (7 + k) v q = δ q := fun q hq => ev_u_ne _ _ hq
  refine ⟨⟨?_, ?_, ?_, ?_, ?_, ?_, ?_⟩, ⟨?_, ?_, ?_⟩, ?_⟩
  · exact (o _ (by omega)).trans h0
  · exact (o _ (by omega)).trans h1
  · exact (o _ (by omega)).trans h2
  · exact (o _ (by omega)).trans h3
  · exact (o _ (by omega)).trans h4
  · exact (o _ (by omega)).trans h5
  · exact (o _ (by omega)).trans h6
  · intro k2 hk2
    show _ = ev_u σ.2.1 k v k2
    by_cases e : k2 = k
    · subst e; rw [ev_u_self, ev_u_self]
    · rw [o _ (by omega), ev_u_ne _ _ e]; exact ha k2 hk2
  · exact fun w2 j2 hw2 hj2 => (o _ (by have : j2 < sNm σ := hj2; omega)).trans (hb w2 j2 hw2 hj2)
  · exact fun w2 s2 hw2 hs2 => (o _ (by have : s2 ≤ sNm σ := hs2; omega)).trans (hc w2 s2 hw2 hs2)
  · exact fun w2 k2 hw2 hk2 => (o _ (by have : k2 < sPn σ := hk2; omega)).trans (hd w2 k2 hw2 hk2)
/-- an impulse is given -/
def giv (σ : CS) (x : TI) : CS := cs_J (cs_A σ 2 (ev_u (σ.2.2 2) x.2.1.toInt.toNat (σ.2.2 2 x.2.1.toInt.toNat + x.2.2))) 2 (σ.2.1 2 + x.2.2.toInt64)
theorem giv_1 (σ : CS) (x : TI) : (giv σ x).1 = σ.1 := rfl
theorem giv_2 (σ : CS) (x : TI) {k : Nat} (hk : k ≠ 2) : (giv σ x).2.2 k = σ.2.2 k := ev_u_ne _ _ hk
theorem giv_3 (σ : CS) (x : TI) {k : Nat} (hk : k ≠ 2) : (giv σ x).2.1 k = σ.2.1 k := ev_u_ne _ _ hk
theorem giv_m (σ : CS) (x : TI) : (giv σ x).2.2 2 = ev_u (σ.2.2 2) x.2.1.toInt.toNat (σ.2.2 2 x.2.1.toInt.toNat + x.2.2) := rfl
theorem giv_g (σ : CS) (x : TI) : (giv σ x).2.1 2 = σ.2.1 2 + x.2.2.toInt64 := rfl
theorem giv_cA (a b d : Int64) : a + b + d = a + d + b := by rw [Int64.add_assoc, Int64.add_assoc, Int64.add_comm b]
theorem giv_cB (a b d : Int32) : a + b + d = a + d + b := by rw [Int32.add_assoc, Int32.add_assoc, Int32.add_comm b]
theorem giv_cC (F : Nat → Int32) (p q : Nat) (u v : Int32) : ev_u (ev_u F p (F p + u)) q (ev_u F p (F p + u) q + v) = ev_u (ev_u F q (F q + v)) p (ev_u F q (F q + v) p + u) := by
  by_cases e : q = p
  · subst e
    rw [ev_u_self, ev_u_self, giv_cB]
    funext j
    by_cases a : j = q
    · subst a; rw [ev_u_self, ev_u_self]
    · rw [ev_u_ne _ _ a, ev_u_ne _ _ a, ev_u_ne _ _ a, ev_u_ne _ _ a]
  · rw [ev_u_ne F _ e, ev_u_ne F _ (fun c => e c.symm)]
    funext j
    by_cases a : j = q
    · subst a
      rw [ev_u_self, ev_u_ne _ _ e, ev_u_self]
    · rw [ev_u_ne _ _ a]
      by_cases b : j = p
      · subst b; rw [ev_u_self, ev_u_self]
      · rw [ev_u_ne _ _ b, ev_u_ne _ _ b, ev_u_ne _ _ a]
theorem giv_comm (σ : CS) (x y : TI) : giv (giv σ x) y = giv (giv σ y) x := by
  have h1 : (giv (giv σ x) y).2.1 = (giv (giv σ y) x).2.1 := funext fun k => by
    by_cases e : k = 2
    · subst e
      rw [giv_g, giv_g, giv_g, giv_g]
      exact giv_cA _ _ _
    · rw [giv_3 _ _ e, giv_3 _ _ e, giv_3 _ _ e, giv_3 _ _ e]
  have h2 : (giv (giv σ x) y).2.2 = (giv (giv σ y) x).2.2 := funext fun k => by
    by_cases e : k = 2
    · subst e
      rw [giv_m, giv_m, giv_m, giv_m]
      exact giv_cC _ _ _ _ _
    · rw [giv_2 _ _ e, giv_2 _ _ e, giv_2 _ _ e, giv_2 _ _ e]
  have h0 : (giv (giv σ x) y).1 = (giv (giv σ y) x).1 := by rw [giv_1, giv_1, giv_1, giv_1]
  exact Prod.ext h0 (Prod.ext h1 h2)
theorem sGiv_fold (σ : CS) : ∀ d, sGiv σ d = (cRev (sTI σ) d).foldr (fun x s => giv s x) σ
  | 0 => rfl
  | d + 1 => by
    show cs_J (cs_A (sGiv σ d) 2 _) 2 _ = giv ((cRev (sTI σ) d).foldr (fun x s => giv s x) σ) (sTI σ d)
    rw [← sGiv_fold σ d]
    rfl
/-- of that tick -/
def isDue (t : Int32) (x : TI) : Bool := decide (x.1 = t)
theorem ivS_mem {F : Nat → TI} {n : Nat} {m : Nat → TI} (h : cRev F n = rSrt ((List.range n).map m)) {k : Nat} (hk : k < n) : ∃ j, j < n ∧ F j = m k := by
  have : m k ∈ cRev F n := by
    rw [h, (rSrt_perm _).mem_iff]
    exact List.mem_map.mpr ⟨k, List.mem_range.mpr hk, rfl⟩
  exact cRev_mem.mp this
theorem sDueF_all (σ : CS) (t : Int32) : ∀ f i, (∀ j, i ≤ j → j < sDueF σ t f i → σ.2.2 7 j = t) ∧ (sDueF σ t f i < i + f → σ.2.2 7 (sDueF σ t f i) ≠ t) ∧ i ≤ sDueF σ t f i
  | 0, i => ⟨fun j h1 h2 => absurd h2 (by unfold sDueF; omega), fun h => absurd h (by unfold sDueF; omega), by unfold sDueF; omega⟩
  | f + 1, i => by
    unfold sDueF
    by_cases c : σ.2.2 7 i = t
    · rw [if_pos c]
      obtain ⟨h1, h2, h3⟩ := sDueF_all σ t f (i + 1)
      refine ⟨fun j a b => ?_, fun q => h2 (by omega), by omega⟩
      by_cases e : j = i
      · subst e; exact c
      · exact h1 j (by omega) b
    · rw [if_neg c]
      exact ⟨fun j a b => absurd b (by omega), fun _ => c, Nat.le_refl _⟩
/-- the due ones lie ahead -/
theorem sDue_spec {σ : CS} {T : Int} (ht : RBt T σ) (ho : rOrd (cRev (sTI σ) (sIn σ))) : (∀ j, j < sDue σ (σ.1 1) → (sTI σ j).1 = σ.1 1) ∧ (∀ j, sDue σ (σ.1 1) ≤ j → j < sIn σ → (sTI σ j).1 ≠ σ.1 1) := by
  obtain ⟨h1, h2, -⟩ := sDueF_all σ (σ.1 1) (sIn σ) 0
  refine ⟨fun j hj => h1 j (Nat.zero_le _) hj, fun j a b => ?_⟩
  by_cases e : j = sDue σ (σ.1 1)
  · subst e; exact h2 (by unfold sDue at b; omega)
  · have hd : sDue σ (σ.1 1) < sIn σ := by omega
    have c1 := h2 (by unfold sDue at hd; omega)
    change σ.2.2 7 (sDue σ (σ.1 1)) ≠ σ.1 1 at c1
    have c2 := (ht.2.1 (sDue σ (σ.1 1)) hd).1
    have c3 := cRev_ord ho (sDue σ (σ.1 1)) j (by omega) b
    unfold tLat at c3
    rw [not_or] at c3
    have c4 : ¬ (σ.2.2 7 j).toInt < (σ.2.2 7 (sDue σ (σ.1 1))).toInt := c3.1
    have c5 : (σ.2.2 7 (sDue σ (σ.1 1))).toInt ≠ (σ.1 1).toInt := fun q => c1 (ar_eq q)
    intro q
    have c6 : (σ.2.2 7 j).toInt = (σ.1 1).toInt := by rw [show σ.2.2 7 j = σ.1 1 from q]
    omega
theorem cRev_due {F : Nat → TI} {t : Int32} {d n : Nat} (hd : d ≤ n) (h1 : ∀ j, j < d → (F j).1 = t) (h2 : ∀ j, d ≤ j → j < n → (F j).1 ≠ t) : (cRev F n).filter (isDue t) = cRev F d ∧ (cRev F n).filter (fun x => !isDue t x) = cRev (fun j => F (j + d)) (n - d) := by
  have e : cRev F n = cRev (fun j => F (j + d)) (n - d) ++ cRev F d := by rw [← cRev_add, show n - d + d = n by omega]
  have a1 : ∀ x ∈ cRev F d, isDue t x = true := fun x hx => by
    obtain ⟨k, hk, rfl⟩ := cRev_mem.mp hx
    exact decide_eq_true (h1 k hk)
  have a2 : ∀ x ∈ cRev (fun j => F (j + d)) (n - d), isDue t x = false := fun x hx => by
    obtain ⟨k, hk, rfl⟩ := cRev_mem.mp hx
    exact decide_eq_false (h2 (k + d) (by omega) (by omega))
  rw [e, List.filter_append, List.filter_append, List.filter_eq_self.mpr a1, List.filter_eq_nil_iff.mpr (fun x hx => by rw [a2 x hx]; decide), List.filter_eq_self.mpr (fun x hx => by rw [a2 x hx]; rfl), List.filter_eq_nil_iff.mpr (fun x hx => by rw [a1 x hx]; decide), List.nil_append, List.append_nil]
  exact ⟨rfl, rfl⟩
/-- the first k told -/
def tol (m : Nat → TI) (k : Nat) : List TI := (List.range k).map m
theorem tol_succ (m : Nat → TI) (k : Nat) : tol m (k + 1) = tol m k ++ [m k] := by unfold tol; rw [List.range_succ, List.map_append]; rfl
/-- those of the first k that are given -/
def givT (σ : CS) (m : Nat → TI) (k : Nat) : CS := ((tol m k).filter (isDue (σ.1 1))).foldl giv σ
def kepT (t : Int32) (m : Nat → TI) (k : Nat) : List TI := (tol m k).filter (fun x => !isDue t x)
theorem givT_due {σ : CS} {m : Nat → TI} {k : Nat} (h : (m k).1 = σ.1 1) : givT σ m (k + 1) = giv (givT σ m k) (m k) ∧ kepT (σ.1 1) m (k + 1) = kepT (σ.1 1) m k := by
  have e : isDue (σ.1 1) (m k) = true := decide_eq_true h
  unfold givT kepT
  rw [tol_succ, List.filter_append, List.filter_append]
  simp [e]
theorem givT_no {σ : CS} {m : Nat → TI} {k : Nat} (h : (m k).1 ≠ σ.1 1) : givT σ m (k + 1) = givT σ m k ∧ kepT (σ.1 1) m (k + 1) = kepT (σ.1 1) m k ++ [m k] := by
  have e : isDue (σ.1 1) (m k) = false := decide_eq_false h
  unfold givT kepT
  rw [tol_succ, List.filter_append, List.filter_append]
  simp [e]
theorem kepT_le (t : Int32) (m : Nat → TI) (k : Nat) : (kepT t m k).length ≤ k := by
  have := List.length_filter_le (fun x => !isDue t x) (tol m k)
  unfold kepT
  have e : (tol m k).length = k := by unfold tol; rw [List.length_map, List.length_range]
  omega
theorem givL_1 (l : List TI) : ∀ σ : CS, (l.foldl giv σ).1 = σ.1 ∧ (∀ k, k ≠ 2 → (l.foldl giv σ).2.2 k = σ.2.2 k) ∧ ∀ k, k ≠ 2 → (l.foldl giv σ).2.1 k = σ.2.1 k := by
  induction l with
  | nil => intro σ; exact ⟨rfl, fun _ _ => rfl, fun _ _ => rfl⟩
  | cons x l ih =>
    intro σ
    obtain ⟨h1, h2, h3⟩ := ih (giv σ x)
    exact ⟨h1, fun k hk => (h2 k hk).trans (giv_2 _ _ hk), fun k hk => (h3 k hk).trans (giv_3 _ _ hk)⟩
theorem givL_b (l : List TI) : ∀ (σ : CS) (K : Int), 0 ≤ K → K + 9999 * (l.length : Int) ≤ 2000000000 → RBm K σ → (∀ x ∈ l, -9999 ≤ x.2.2.toInt ∧ x.2.2.toInt ≤ 9999) → RBm (K + 9999 * (l.length : Int)) (l.foldl giv σ) := by
  induction l with
  | nil =>
    intro σ K _ _ h _ j hj
    have := h j hj
    show -(K + 9999 * ((0 : Nat) : Int)) ≤ (σ.2.2 2 j).toInt ∧ (σ.2.2 2 j).toInt ≤ K + 9999 * ((0 : Nat) : Int)
    omega
  | cons x l ih =>
    intro σ K k1 k2 h hx
    rw [List.length_cons] at k2 ⊢
    have hxx := hx x List.mem_cons_self
    have step : RBm (K + 9999) (giv σ x) := by
      intro j hj
      have h1 := h j hj
      rw [giv_m]
      by_cases e : j = x.2.1.toInt.toNat
      · subst e
        rw [ev_u_self, ar_add (by omega) (by omega)]
        omega
      · rw [ev_u_ne _ _ e]; omega
    have h3 := ih (giv σ x) (K + 9999) (by omega) (by omega) step (fun y hy => hx y (List.mem_cons_of_mem _ hy))
    rw [show K + 9999 * ((l.length + 1 : Nat) : Int) = K + 9999 + 9999 * (l.length : Int) by omega]
    exact h3

