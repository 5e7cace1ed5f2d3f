/-! bounds along a tick -/
theorem sMom1_64 {σ : CS} (hm : sOk σ) (hb : RBs σ) (hk : RBm 100000000 σ) {j : Nat} (hj : j < sNm σ) : (sMom1 σ j).toInt64 = (σ.2.2 2 j).toInt64 + (sPull σ (j + 1)).toInt64 - (sPull σ j).toInt64 ∧ -140000000 ≤ (sMom1 σ j).toInt ∧ (sMom1 σ j).toInt ≤ 140000000 := by
  have h1 := (sPull_64 hm hb (s := j + 1) (by omega)).2
  have h0 := (sPull_64 hm hb (s := j) (by omega)).2
  have h2 := hk j hj
  unfold sMom1
  have e : (sPull σ (j + 1) - sPull σ j).toInt = (sPull σ (j + 1)).toInt - (sPull σ j).toInt := ar_sub (by omega) (by omega)
  refine ⟨ar_eqL ?_, ?_⟩
  · rw [ar_64, ar_add (by omega) (by omega), e, ar_subL (by rw [ar_addL (by rw [ar_64, ar_64]; omega) (by rw [ar_64, ar_64]; omega), ar_64, ar_64, ar_64]; omega) (by rw [ar_addL (by rw [ar_64, ar_64]; omega) (by rw [ar_64, ar_64]; omega), ar_64, ar_64, ar_64]; omega), ar_addL (by rw [ar_64, ar_64]; omega) (by rw [ar_64, ar_64]; omega), ar_64, ar_64, ar_64]
    omega
  · rw [ar_add (by omega) (by omega), e]
    omega
theorem fillTo_lt {i j : Nat} (g F : Nat → Int32) (h : j < i) : fillTo i g F j = g j := if_pos h
theorem fillTo_ge {i j : Nat} (g F : Nat → Int32) (h : i ≤ j) : fillTo i g F j = F j := if_neg (by omega)
theorem fillTo_same (i : Nat) (g F : Nat → Int32) (h : g i = F i) : fillTo (i + 1) g F = fillTo i g F := by
  funext j
  unfold fillTo
  by_cases e : j < i
  · rw [if_pos e, if_pos (by omega)]
  · rw [if_neg e]
    by_cases d : j = i
    · subst d; rw [if_pos (by omega), h]
    · rw [if_neg (by omega)]
theorem RBs_TP {σ : CS} (h : RBs σ) : RBs (sTP σ) := h
theorem RBm_TP {σ : CS} (hm : sOk σ) (hb : RBs σ) (hk : RBm 100000000 σ) : RBm 140000000 (sTP σ) := fun j hj => by
  have hj2 : j < sNm σ := hj
  show -140000000 ≤ (fillTo (sNm σ) (sMom1 σ) (σ.2.2 2) j).toInt ∧ (fillTo (sNm σ) (sMom1 σ) (σ.2.2 2) j).toInt ≤ 140000000
  rw [fillTo_lt _ _ hj2]
  exact (sMom1_64 hm hb hk hj2).2
theorem RBt_TP {T : Int} {σ : CS} (h : RBt T σ) : RBt T (sTP σ) := h
theorem RBs_GI {σ : CS} (h : RBs σ) : RBs (sGI σ) := by
  have hk := sGiv_keep σ (sDue σ (σ.1 1))
  have n1 : sNm (sGI σ) = sNm σ := by unfold sNm; rw [sGI_1 σ (by decide)]
  unfold RBs
  rw [n1, sGI_1 σ (k := 2) (by decide), sGI_1 σ (k := 3) (by decide), sGI_1 σ (k := 4) (by decide), sGI_2 σ (k := 1) (by decide) (by decide) (by decide), sGI_2 σ (k := 3) (by decide) (by decide) (by decide), sGI_2 σ (k := 4) (by decide) (by decide) (by decide), sGI_2 σ (k := 5) (by decide) (by decide) (by decide), hk.2 1 (by decide), hk.2 3 (by decide), hk.2 4 (by decide), hk.2 5 (by decide)]
  exact h
theorem sGiv_b {σ : CS} {T K : Int} (ht : RBt T σ) (hK : 0 ≤ K) (hK2 : K ≤ 1000000000) (h : RBm K σ) (hI : sIn σ ≤ 16) : ∀ d, d ≤ sIn σ → RBm (K + 9999 * (d : Int)) (sGiv σ d)
  | 0, _ => fun j hj => by have := h j hj; exact ⟨by show -(K + 9999 * ((0 : Nat) : Int)) ≤ (σ.2.2 2 j).toInt; omega, by show (σ.2.2 2 j).toInt ≤ K + 9999 * ((0 : Nat) : Int); omega⟩
  | d + 1, hd => fun j hj => by
    have ih := sGiv_b ht hK hK2 h hI d (by omega)
    have hx := ht.2.1 d (by omega)
    have hk := sGiv_keep σ (d + 1)
    have hk0 := sGiv_keep σ d
    have hj2 : j < sNm (sGiv σ d) := by unfold sNm at hj ⊢; rw [hk.1] at hj; rw [hk0.1]; exact hj
    have h1 := ih j hj2
    have e : (sGiv σ (d + 1)).2.2 2 = ev_u ((sGiv σ d).2.2 2) (σ.2.2 8 d).toInt.toNat ((sGiv σ d).2.2 2 (σ.2.2 8 d).toInt.toNat + σ.2.2 9 d) := rfl
    rw [e]
    by_cases c : j = (σ.2.2 8 d).toInt.toNat
    · rw [← c, ev_u_self, ar_add (by omega) (by omega)]
      omega
    · rw [ev_u_ne _ _ c]; omega
theorem RBm_GI {σ : CS} {T : Int} (hI : sIok σ) (ht : RBt T σ) (h : RBm 140000000 σ) : RBm 141000000 (sGI σ) := fun j hj => by
  have hd := sDue_le σ (σ.1 1)
  have hin := hI.nat
  have hk := sGiv_keep σ (sDue σ (σ.1 1))
  have hj2 : j < sNm (sGiv σ (sDue σ (σ.1 1))) := by unfold sNm at hj ⊢; rw [sGI_1 σ (by decide)] at hj; rw [hk.1]; exact hj
  have h1 := sGiv_b ht (by decide) (by decide) h hin.2 _ hd j hj2
  rw [sGI_2 σ (by decide) (by decide) (by decide)]
  omega
/-- as RBt, with the impulses behind the time -/
def RBu (T : Int) (σ : CS) : Prop := (0 ≤ (σ.1 1).toInt ∧ (σ.1 1).toInt ≤ T) ∧ (∀ k, k < sIn σ → (σ.1 1).toInt + 1 ≤ (σ.2.2 7 k).toInt ∧ (σ.2.2 7 k).toInt ≤ 9999 ∧ -9999 ≤ (σ.2.2 9 k).toInt ∧ (σ.2.2 9 k).toInt ≤ 9999) ∧ (∀ k, k < sPn σ → 0 ≤ (σ.2.2 11 k).toInt ∧ (σ.2.2 11 k).toInt ≤ (σ.1 1).toInt)
theorem RBu_GI {σ : CS} {T : Int} (hI : sIok σ) (ht : RBt T σ) (ho : rOrd (cRev (sTI σ) (sIn σ))) : RBu T (sGI σ) := by
  have hs := sDue_spec ht ho
  have e5 := sGI_5 hI
  have hd := sDue_le σ (σ.1 1)
  have hk := sGiv_keep σ (sDue σ (σ.1 1))
  refine ⟨by rw [sGI_1 σ (by decide)]; exact ht.1, fun k hk2 => ?_, fun k hk2 => ?_⟩
  · rw [e5.2] at hk2
    have e := sGI_TI σ hk2
    have e7 : (sGI σ).2.2 7 k = σ.2.2 7 (k + sDue σ (σ.1 1)) := congrArg (fun q : TI => q.1) e
    have e9 : (sGI σ).2.2 9 k = σ.2.2 9 (k + sDue σ (σ.1 1)) := congrArg (fun q : TI => q.2.2) e
    have h1 := ht.2.1 (k + sDue σ (σ.1 1)) (by omega)
    have h2 : σ.2.2 7 (k + sDue σ (σ.1 1)) ≠ σ.1 1 := hs.2 _ (by omega) (by omega)
    have h3 : (σ.2.2 7 (k + sDue σ (σ.1 1))).toInt ≠ (σ.1 1).toInt := fun q => h2 (ar_eq q)
    rw [sGI_1 σ (by decide), e7, e9]
    exact ⟨by omega, h1.2⟩
  · have hk3 : k < sPn σ := by unfold sPn at hk2 ⊢; rw [sGI_1 σ (by decide)] at hk2; exact hk2
    rw [sGI_1 σ (by decide), sGI_2 σ (by decide) (by decide) (by decide), hk.2 11 (by decide)]
    exact ht.2.2 k hk3
theorem RBs_DL {σ : CS} (h : RBs σ) : RBs (sLM (sDM σ)) := h
theorem RBu_DL {T : Int} {σ : CS} (h : RBu T σ) : RBu T (sLM (sDM σ)) := h
theorem sLM_2 (σ : CS) : (sLM σ).2.2 2 = fillTo (sNm σ) (sMl σ) (σ.2.2 2) := rfl
theorem sLM_N (σ : CS) : sNm (sLM σ) = sNm σ := rfl
theorem sMl_b (σ : CS) (j : Nat) : -100000000 ≤ (sMl σ j).toInt ∧ (sMl σ j).toInt ≤ 100000000 := by
  have w : (100000000 : Int32).toInt = 100000000 := by decide +kernel
  have h := sLim_b (x := (σ.2.2 2 j).toInt64) (b := 100000000) (by rw [w]; decide)
  rw [w] at h
  unfold sMl
  exact h
theorem RBm_LM (σ : CS) : RBm 100000000 (sLM σ) := by
  intro j hj
  rw [sLM_N] at hj
  rw [sLM_2, fillTo_lt _ _ hj]
  exact sMl_b σ j
theorem RBm_SM {K : Int} {σ : CS} (h : RBm K σ) : RBm K (sSM σ) := h
theorem RBm_BS {K : Int} {σ : CS} (h : RBm K σ) : RBm K (sBS σ) := h
theorem RBu_SM {T : Int} {σ : CS} (h : RBu T σ) : RBu T (sSM σ) := h
theorem RBu_BS {T : Int} {σ : CS} (h : RBu T σ) : RBu T (sBS σ) := h
theorem sDl_b (σ : CS) (j : Nat) : -1000000 ≤ (sDl σ j).toInt ∧ (sDl σ j).toInt ≤ 1000000 := by
  have w : (1000000 : Int32).toInt = 1000000 := by decide +kernel
  have := sLim_b (x := (σ.2.2 1 j).toInt64 + (sVel σ j).toInt64) (b := 1000000) (by rw [w]; decide)
  rw [w] at this
  exact this
theorem RBs_SMi {σ : CS} (h : RBs σ) (i : Nat) : RBs (sSMi σ i) := by
  refine ⟨h.1, h.2.1, fun j hj => ?_, h.2.2.2⟩
  have hj2 : j < sNm σ := hj
  show -1000000 ≤ (fillTo i (sDl σ) (σ.2.2 1) j).toInt ∧ (fillTo i (sDl σ) (σ.2.2 1) j).toInt ≤ 1000000
  by_cases c : j < i
  · rw [fillTo_lt _ _ c]; exact sDl_b σ j
  · rw [fillTo_ge _ _ (by omega)]; exact h.2.2.1 j hj2
theorem RBs_BSi {σ : CS} (h : RBs σ) (i : Nat) : RBs (sBSi σ i) := by
  refine ⟨h.1, h.2.1, h.2.2.1, fun s hs => ⟨(h.2.2.2 s hs).1, (h.2.2.2 s hs).2.1, ?_⟩⟩
  show fillTo i (sBr2 σ) (σ.2.2 5) s = 0 ∨ fillTo i (sBr2 σ) (σ.2.2 5) s = 1
  by_cases c : s < i
  · rw [fillTo_lt _ _ c]
    unfold sBr2
    split
    · exact Or.inr rfl
    · exact (h.2.2.2 s hs).2.2
  · rw [fillTo_ge _ _ (by omega)]; exact (h.2.2.2 s hs).2.2
theorem sNoteF_keep (σ : CS) (p : Int32) : ∀ f k, (∀ q, q ≠ 6 → (sNoteF σ p f k).1 q = σ.1 q) ∧ (∀ w, w ≠ 10 → w ≠ 11 → (sNoteF σ p f k).2.2 w = σ.2.2 w) ∧ (sNoteF σ p f k).2.1 = σ.2.1
  | 0, k => ⟨fun _ _ => rfl, fun _ _ _ => rfl, rfl⟩
  | f + 1, k => by
    unfold sNoteF
    split
    · refine ⟨fun q hq => ev_u_ne _ _ hq, fun w h1 h2 => ?_, rfl⟩
      show ev_u (ev_u σ.2.2 10 _) 11 _ w = _
      rw [ev_u_ne _ _ h2, ev_u_ne _ _ h1]
    · split
      · exact ⟨fun _ _ => rfl, fun w _ h2 => ev_u_ne _ _ h2, rfl⟩
      · exact sNoteF_keep σ p f (k + 1)
theorem sNoteF_t {σ : CS} {p : Int32} {B : Int} (h6 : 0 ≤ (σ.1 6).toInt) (h32 : (σ.1 6).toInt ≤ 32) (hB : 0 ≤ B) (hB2 : B < 2147483647) (h : ∀ k, k < sPn σ → 0 ≤ (σ.2.2 11 k).toInt ∧ (σ.2.2 11 k).toInt ≤ B) : ∀ f k, k ≤ sPn σ → ∀ q, q < sPn (sNoteF σ p f k) → 0 ≤ ((sNoteF σ p f k).2.2 11 q).toInt ∧ ((sNoteF σ p f k).2.2 11 q).toInt ≤ B + 1
  | 0, k, _, q, hq => by have := h q hq; exact ⟨this.1, by show (σ.2.2 11 q).toInt ≤ B + 1; omega⟩
  | f + 1, k, hk, q, hq => by
    have z1 := ar_1
    unfold sNoteF at hq ⊢
    by_cases c : (σ.1 6).toInt ≤ (k : Int)
    · rw [if_pos c] at hq ⊢
      have hq2 : q < (σ.1 6 + 1).toInt.toNat := hq
      rw [ar_add (by omega) (by omega), z1] at hq2
      show 0 ≤ (ev_u (σ.2.2 11) k 1 q).toInt ∧ (ev_u (σ.2.2 11) k 1 q).toInt ≤ B + 1
      by_cases e : q = k
      · rw [e, ev_u_self, z1]; omega
      · rw [ev_u_ne _ _ e]
        have := h q (by unfold sPn at hk ⊢; omega)
        omega
    · rw [if_neg c] at hq ⊢
      by_cases d : σ.2.2 10 k = p
      · rw [if_pos d] at hq ⊢
        have hq2 : q < sPn σ := hq
        have h1 := h q hq2
        show 0 ≤ (ev_u (σ.2.2 11) k (σ.2.2 11 k + 1) q).toInt ∧ (ev_u (σ.2.2 11) k (σ.2.2 11 k + 1) q).toInt ≤ B + 1
        by_cases e : q = k
        · rw [e] at h1 ⊢
          rw [ev_u_self, ar_add (by omega) (by omega), z1]; omega
        · rw [ev_u_ne _ _ e]; omega
      · rw [if_neg d] at hq ⊢
        exact sNoteF_t h6 h32 hB hB2 h f (k + 1) (by unfold sPn; omega) q hq
/-- bounds hold behind a tick -/
theorem sTick_f {σ τ : CS} (e : sT3 σ = τ) : sTick σ = cs_I (sNote τ (sPat τ)) 1 ((sNote τ (sPat τ)).1 1 + 1) := by subst e; rfl
theorem RB_note {τ : CS} {T : Int} (v3 : sInv τ) (s1 : RBs τ) (m1 : RBm 100000000 τ) (u1 : RBu T τ) (hT : T < 2147483646) : RB (T + 1) (cs_I (sNote τ (sPat τ)) 1 ((sNote τ (sPat τ)).1 1 + 1)) := by
  generalize hp : sPat τ = p
  have hk := sNoteF_keep τ p 32 0
  have hpt := sNoteF_t (σ := τ) (p := p) v3.2.2.2.2.1 v3.2.2.2.2.2 u1.1.1 (by have := u1.1; omega) u1.2.2 32 0 (Nat.zero_le _)
  change (∀ q, q ≠ 6 → (sNote τ p).1 q = τ.1 q) ∧ (∀ w, w ≠ 10 → w ≠ 11 → (sNote τ p).2.2 w = τ.2.2 w) ∧ (sNote τ p).2.1 = τ.2.1 at hk
  change ∀ q, q < sPn (sNote τ p) → 0 ≤ ((sNote τ p).2.2 11 q).toInt ∧ ((sNote τ p).2.2 11 q).toInt ≤ (τ.1 1).toInt + 1 at hpt
  generalize sNote τ p = υ at *
  have f1 : ∀ q, q ≠ 1 → q ≠ 6 → (cs_I υ 1 (υ.1 1 + 1)).1 q = τ.1 q := fun q h1 h6 => by
    show ev_u υ.1 1 _ q = _
    rw [ev_u_ne _ _ h1, hk.1 q h6]
  have ft : ((cs_I υ 1 (υ.1 1 + 1)).1 1).toInt = (τ.1 1).toInt + 1 := by
    show (ev_u υ.1 1 (υ.1 1 + 1) 1).toInt = _
    have z1 := ar_1
    have := u1.1
    rw [ev_u_self, hk.1 1 (by decide), ar_add (by omega) (by omega), z1]
  have n1 : sNm (cs_I υ 1 (υ.1 1 + 1)) = sNm τ := by unfold sNm; rw [f1 0 (by decide) (by decide)]
  have n2 : sIn (cs_I υ 1 (υ.1 1 + 1)) = sIn τ := by unfold sIn; rw [f1 5 (by decide) (by decide)]
  have g : ∀ w, w ≠ 10 → w ≠ 11 → (cs_I υ 1 (υ.1 1 + 1)).2.2 w = τ.2.2 w := hk.2.1
  refine ⟨?_, ?_, ?_⟩
  · unfold RBs
    rw [n1, f1 2 (by decide) (by decide), f1 3 (by decide) (by decide), f1 4 (by decide) (by decide), g 1 (by decide) (by decide), g 3 (by decide) (by decide), g 4 (by decide) (by decide), g 5 (by decide) (by decide)]
    exact s1
  · unfold RBm
    rw [n1, g 2 (by decide) (by decide)]
    exact m1
  · refine ⟨by rw [ft]; have := u1.1; omega, fun k hk2 => ?_, fun k hk2 => ?_⟩
    · rw [n2] at hk2
      rw [ft, g 7 (by decide) (by decide), g 9 (by decide) (by decide)]
      exact u1.2.1 k hk2
    · rw [ft]
      have e : sPn (cs_I υ 1 (υ.1 1 + 1)) = sPn υ := rfl
      rw [e] at hk2
      exact hpt k hk2
theorem RB_tick {σ : CS} {T : Int} (hv : sInv σ) (hb : RB T σ) (hT : T < 2147483646) (ho : rOrd (cRev (sTI σ) (sIn σ))) : RB (T + 1) (sTick σ) := by
  obtain ⟨hs, hm, ht⟩ := hb
  have s0 : RBs (sT2 σ) := RBs_SMi (σ := sLM (sDM (sT1 σ))) (RBs_DL (σ := sT1 σ) (RBs_GI (σ := sTP σ) (RBs_TP hs))) _
  have s1 : RBs (sT3 σ) := RBs_BSi (σ := sT2 σ) s0 _
  have m1 : RBm 100000000 (sT3 σ) := RBm_BS (σ := sT2 σ) (RBm_SM (σ := sLM (sDM (sT1 σ))) (RBm_LM _))
  have u0 : RBu T (sT1 σ) := RBu_GI (σ := sTP σ) hv.2.2.1 (RBt_TP ht) ho
  have u1 : RBu T (sT3 σ) := RBu_BS (σ := sT2 σ) (RBu_SM (σ := sLM (sDM (sT1 σ))) (RBu_DL (σ := sT1 σ) u0))
  have v3 := sInv_T3 hv
  rw [sTick_f (σ := σ) rfl]
  exact RB_note v3 s1 m1 u1 hT

