/-! impulses given: both sides -/
theorem sGI_of {σ : CS} {T : Int} (ht : RBt T σ) {m : Nat → TI} (hm : cRev (sTI σ) (sIn σ) = rSrt (tol m (sIn σ))) : sGiv σ (sDue σ (σ.1 1)) = givT σ m (sIn σ) ∧ sIn σ - sDue σ (σ.1 1) = (kepT (σ.1 1) m (sIn σ)).length ∧ cRev (fun j => sTI σ (j + sDue σ (σ.1 1))) (sIn σ - sDue σ (σ.1 1)) = rSrt (kepT (σ.1 1) m (sIn σ)) := by
  have ho : rOrd (cRev (sTI σ) (sIn σ)) := by rw [hm]; exact rSrt_ord _
  have hs := sDue_spec ht ho
  have hf := cRev_due (sDue_le σ (σ.1 1)) hs.1 hs.2
  rw [hm, rSrt_filter, rSrt_filter] at hf
  have e3 : cRev (fun j => sTI σ (j + sDue σ (σ.1 1))) (sIn σ - sDue σ (σ.1 1)) = rSrt (kepT (σ.1 1) m (sIn σ)) := hf.2.symm
  refine ⟨?_, ?_, e3⟩
  · rw [sGiv_fold, ← hf.1]
    have hp : (rSrt ((tol m (sIn σ)).filter (isDue (σ.1 1)))).Perm ((tol m (sIn σ)).filter (isDue (σ.1 1))).reverse := (rSrt_perm _).trans (List.reverse_perm _).symm
    rw [hp.foldr_eq' (fun x _ y _ z => giv_comm z x y), List.foldr_reverse]
    rfl
  · have := congrArg List.length e3
    rw [cRev_len, rSrt_len] at this
    exact this
theorem sGI_1 (σ : CS) {k : Nat} (hk : k ≠ 5) : (sGI σ).1 k = σ.1 k := by
  show ev_u (sGiv σ (sDue σ (σ.1 1))).1 5 _ k = _
  rw [ev_u_ne _ _ hk, (sGiv_keep σ _).1]
theorem sGI_2 (σ : CS) {k : Nat} (h7 : k ≠ 7) (h8 : k ≠ 8) (h9 : k ≠ 9) : (sGI σ).2.2 k = (sGiv σ (sDue σ (σ.1 1))).2.2 k := by
  show ev_u (ev_u (ev_u (sGiv σ (sDue σ (σ.1 1))).2.2 7 _) 8 _) 9 _ k = _
  rw [ev_u_ne _ _ h9, ev_u_ne _ _ h8, ev_u_ne _ _ h7]
theorem sGI_J (σ : CS) : (sGI σ).2.1 = (sGiv σ (sDue σ (σ.1 1))).2.1 := rfl
theorem sGI_5 {σ : CS} (hI : sIok σ) : ((sGI σ).1 5).toInt = (sIn σ : Int) - (sDue σ (σ.1 1) : Int) ∧ sIn (sGI σ) = sIn σ - sDue σ (σ.1 1) := by
  have hin := hI.nat
  have hd := sDue_le σ (σ.1 1)
  have e : (sGI σ).1 5 = σ.1 5 - Int32.ofNat (sDue σ (σ.1 1)) := by
    show ev_u (sGiv σ (sDue σ (σ.1 1))).1 5 ((sGiv σ (sDue σ (σ.1 1))).1 5 - Int32.ofNat (sDue σ (σ.1 1))) 5 = _
    rw [ev_u_self, (sGiv_keep σ _).1]
  have hof : (Int32.ofNat (sDue σ (σ.1 1))).toInt = (sDue σ (σ.1 1) : Int) := Int32.toInt_ofNat_of_lt (by omega)
  have e2 : ((sGI σ).1 5).toInt = (sIn σ : Int) - (sDue σ (σ.1 1) : Int) := by rw [e, ar_sub (by omega) (by omega), hof]; omega
  refine ⟨e2, ?_⟩
  unfold sIn at e2 ⊢
  omega
theorem sGI_TI (σ : CS) {j : Nat} (hj : j < sIn σ - sDue σ (σ.1 1)) : sTI (sGI σ) j = sTI σ (j + sDue σ (σ.1 1)) := by
  have hk := sGiv_keep σ (sDue σ (σ.1 1))
  have hI : sIn (sGiv σ (sDue σ (σ.1 1))) = sIn σ := by unfold sIn; rw [hk.1]
  show (sDropF ((sGiv σ (sDue σ (σ.1 1))).2.2 7) _ (sIn (sGiv σ (sDue σ (σ.1 1)))) j, sDropF ((sGiv σ (sDue σ (σ.1 1))).2.2 8) _ (sIn (sGiv σ (sDue σ (σ.1 1)))) j, sDropF ((sGiv σ (sDue σ (σ.1 1))).2.2 9) _ (sIn (sGiv σ (sDue σ (σ.1 1)))) j) = _
  rw [hI, hk.2 7 (by decide), hk.2 8 (by decide), hk.2 9 (by decide)]
  unfold sDropF
  rw [if_pos (by omega), if_pos (by omega), if_pos (by omega)]
  rfl
/-- behind the impulses -/
theorem RD_GI {σ : CS} {T : Int} {m : Nat → TI} {δ : Nat → Int64} {x : Int32} (hv : sInv σ) (ht : RBt T σ) (hm : cRev (sTI σ) (sIn σ) = rSrt (tol m (sIn σ))) (h0 : RD0 (givT σ m (sIn σ)) δ) (hl : ivL (mAt (kepT (σ.1 1) m (sIn σ))) (kepT (σ.1 1) m (sIn σ)).length δ) (hx : x.toInt = ((kepT (σ.1 1) m (sIn σ)).length : Int)) : RD (sGI σ) (ev_u δ 5 x.toInt64) := by
  obtain ⟨e1, e2, e3⟩ := sGI_of ht hm
  rw [← e1] at h0
  have hk := sGiv_keep σ (sDue σ (σ.1 1))
  have e5 := sGI_5 hv.2.2.1
  have hn := hv.1.nat
  have hin := hv.2.2.1.nat
  have hd := sDue_le σ (σ.1 1)
  have o : ∀ q, q ≠ 5 → ev_u δ 5 x.toInt64 q = δ q := fun q hq => ev_u_ne _ _ hq
  have n1 : sNm (sGI σ) = sNm σ := by unfold sNm; rw [sGI_1 σ (by decide)]
  have n2 : sNm (sGiv σ (sDue σ (σ.1 1))) = sNm σ := by unfold sNm; rw [hk.1]
  have n3 : sPn (sGI σ) = sPn (sGiv σ (sDue σ (σ.1 1))) := by unfold sPn; rw [sGI_1 σ (by decide), hk.1]
  obtain ⟨⟨a0, a1, a2, a3, a4, a5, a6⟩, ⟨ha, hb, hc⟩, hdd⟩ := h0
  refine ⟨⟨?_, ?_, ?_, ?_, ?_, ?_, ?_⟩, ⟨fun k hk2 => ?_, fun w j hw hj => ?_, fun w s hw hs => ?_⟩, fun w k hw hk2 => ?_, ?_⟩
  · rw [o _ (by decide), a0, hk.1, sGI_1 σ (by decide)]
  · rw [o _ (by decide), a1, hk.1, sGI_1 σ (by decide)]
  · rw [o _ (by decide), a2, hk.1, sGI_1 σ (by decide)]
  · rw [o _ (by decide), a3, hk.1, sGI_1 σ (by decide)]
  · rw [o _ (by decide), a4, hk.1, sGI_1 σ (by decide)]
  · rw [ev_u_self, ar_eq (x := x) (y := (sGI σ).1 5) (by rw [hx, e5.1, ← e2]; omega)]
  · rw [o _ (by decide), a6, hk.1, sGI_1 σ (by decide)]
  · rw [o _ (by omega), sGI_J]; exact ha k hk2
  · rw [n1] at hj; rw [o _ (by omega), sGI_2 σ (by omega) (by omega) (by omega)]; exact hb w j hw (by rw [n2]; exact hj)
  · rw [n1] at hs; rw [o _ (by omega), sGI_2 σ (by omega) (by omega) (by omega)]; exact hc w s hw (by rw [n2]; exact hs)
  · rw [n3] at hk2; rw [o _ (by omega), sGI_2 σ (by omega) (by omega) (by omega)]; exact hdd w k hw hk2
  · refine ⟨mAt (kepT (σ.1 1) m (sIn σ)), ?_, ?_⟩
    · rw [e5.2, e2]
      exact hl.congr (fun q h1 h2 => o q (by omega))
    · rw [e5.2, cRev_congr (fun k hk3 => sGI_TI σ hk3), e3, e2, mAt_range]
theorem mAt_lt {l : List TI} {q : Nat} (x : TI) (h : q < l.length) : mAt (l ++ [x]) q = mAt l q := by
  unfold mAt
  rw [List.getD_eq_getElem?_getD, List.getD_eq_getElem?_getD, List.getElem?_append_left h]
theorem mAt_len (l : List TI) (x : TI) : mAt (l ++ [x]) l.length = x := by
  unfold mAt
  rw [List.getD_eq_getElem?_getD, List.getElem?_append_right (Nat.le_refl _), Nat.sub_self]
  rfl
/-- those from a to b still lie where they lay -/
def ivR (m : Nat → TI) (a b : Nat) (δ : Nat → Int64) : Prop := ∀ k, a ≤ k → k < b → δ (87 + 3 * k) = (m k).1.toInt64 ∧ δ (87 + 3 * k + 1) = (m k).2.1.toInt64 ∧ δ (87 + 3 * k + 2) = (m k).2.2.toInt64
theorem ivR.congr {m : Nat → TI} {a b : Nat} {δ δ' : Nat → Int64} (h : ∀ q, 87 + 3 * a ≤ q → q < 87 + 3 * b → δ' q = δ q) (hl : ivR m a b δ) : ivR m a b δ' := fun k h1 hk => by
  obtain ⟨a1, a2, a3⟩ := hl k h1 hk
  exact ⟨(h _ (by omega) (by omega)).trans a1, (h _ (by omega) (by omega)).trans a2, (h _ (by omega) (by omega)).trans a3⟩
/-- three numbers moved down, i of them -/
def mv3 (δ : Nat → Int64) (p a i : Nat) : Nat → Int64 := fun q => if p ≤ q ∧ q < p + i then δ (q - p + a) else δ q
theorem mv3_0 (δ : Nat → Int64) (p a : Nat) : mv3 δ p a 0 = δ := by funext q; unfold mv3; rw [if_neg (by omega)]
theorem mv3_up (δ : Nat → Int64) (p a i : Nat) (h : p ≤ a) : ev_u (mv3 δ p a i) (p + i) (mv3 δ p a i (a + i)) = mv3 δ p a (i + 1) := by
  have e : mv3 δ p a i (a + i) = δ (a + i) := by unfold mv3; rw [if_neg (by omega)]
  rw [e]
  funext q
  by_cases c : q = p + i
  · subst c
    rw [ev_u_self]
    unfold mv3
    rw [if_pos (by omega), show p + i - p + a = a + i by omega]
  · rw [ev_u_ne _ _ c]
    unfold mv3
    by_cases d : p ≤ q ∧ q < p + i
    · rw [if_pos d, if_pos (by omega)]
    · rw [if_neg d, if_neg (by omega)]
theorem ivL_mv {l : List TI} {x : TI} {δ : Nat → Int64} {k : Nat} (hL : l.length ≤ k) (hl : ivL (mAt l) l.length δ) (hx : δ (87 + 3 * k) = x.1.toInt64 ∧ δ (87 + 3 * k + 1) = x.2.1.toInt64 ∧ δ (87 + 3 * k + 2) = x.2.2.toInt64) : ivL (mAt (l ++ [x])) (l ++ [x]).length (mv3 δ (87 + 3 * l.length) (87 + 3 * k) 3) := by
  intro q hq
  rw [List.length_append] at hq
  change q < l.length + 1 at hq
  by_cases e : q = l.length
  · subst e
    rw [mAt_len]
    unfold mv3
    rw [if_pos (by omega), if_pos (by omega), if_pos (by omega)]
    refine ⟨?_, ?_, ?_⟩
    · rw [← hx.1]; congr 1; omega
    · rw [← hx.2.1]; congr 1; omega
    · rw [← hx.2.2]; congr 1; omega
  · rw [mAt_lt x (by omega)]
    unfold mv3
    rw [if_neg (by omega), if_neg (by omega), if_neg (by omega)]
    exact hl q (by omega)
theorem ivR_mv {m : Nat → TI} {a b p s k : Nat} {δ : Nat → Int64} (h : p + 3 ≤ 87 + 3 * (k + 1)) (hl : ivR m a b δ) (ha : a ≤ k + 1) : ivR m (k + 1) b (mv3 δ p s 3) := fun q h1 h2 => by
  unfold mv3
  rw [if_neg (by omega), if_neg (by omega), if_neg (by omega)]
  exact hl q (by omega) h2

