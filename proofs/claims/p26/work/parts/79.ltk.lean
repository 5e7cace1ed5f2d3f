/-! ticks of the law's chain -/
def cD (σ : CS) (f : Nat → Int32) (A B : Nat → Int64) (i : Nat) : CS := cs_J (cs_J (cs_A σ 2 (fillTo i f (σ.2.2 2))) 3 (accL (σ.2.1 3) A i)) 4 (accL (σ.2.1 4) B i)
theorem cD_A (σ : CS) (f : Nat → Int32) (A B : Nat → Int64) (i k : Nat) : (cD σ f A B i).2.2 k = ev_u σ.2.2 2 (fillTo i f (σ.2.2 2)) k := rfl
theorem cD_J3 (σ : CS) (f : Nat → Int32) (A B : Nat → Int64) (i : Nat) : (cD σ f A B i).2.1 3 = accL (σ.2.1 3) A i := rfl
theorem cD_J4 (σ : CS) (f : Nat → Int32) (A B : Nat → Int64) (i : Nat) : (cD σ f A B i).2.1 4 = accL (σ.2.1 4) B i := rfl
theorem cD_up (σ : CS) (f : Nat → Int32) (A B : Nat → Int64) (i : Nat) : cs_A (cs_J (cs_J (cD σ f A B i) 3 ((cD σ f A B i).2.1 3 + A i)) 4 ((cD σ f A B i).2.1 4 + B i)) 2 (ev_u ((cs_J (cs_J (cD σ f A B i) 3 ((cD σ f A B i).2.1 3 + A i)) 4 ((cD σ f A B i).2.1 4 + B i)).2.2 2) i (f i)) = cD σ f A B (i + 1) := by
  refine Prod.ext rfl (Prod.ext (funext fun k => ?_) (funext fun k => ?_))
  · rw [cD_J3, cD_J4]
    show ev_u (ev_u (ev_u (ev_u σ.2.1 3 _) 4 _) 3 _) 4 _ k = ev_u (ev_u σ.2.1 3 _) 4 _ k
    unfold ev_u
    by_cases a : k = 4
    · simp only [if_pos a]; rfl
    · by_cases b : k = 3
      · simp only [if_neg a, if_pos b]; rfl
      · simp only [if_neg a, if_neg b]
  · show ev_u (cD σ f A B i).2.2 2 (ev_u ((cD σ f A B i).2.2 2) i _) k = (cD σ f A B (i + 1)).2.2 k
    rw [cD_A σ f A B (i + 1)]
    by_cases a : k = 2
    · subst a
      rw [ev_u_self, ev_u_self, cD_A, ev_u_self, fillTo_up _ _ _ _ rfl]
    · rw [ev_u_ne _ _ a, ev_u_ne _ _ a, cD_A, ev_u_ne _ _ a]
def sCi (σ : CS) (i : Nat) : CS := cD σ (sMl (sDM σ)) (fun j => (sTake σ j).toInt64) (fun j => ((sDM σ).2.2 2 j - sMl (sDM σ) j).toInt64) i
theorem sCi_A (σ : CS) (i k : Nat) : (sCi σ i).2.2 k = ev_u σ.2.2 2 (fillTo i (sMl (sDM σ)) (σ.2.2 2)) k := cD_A _ _ _ _ _ _
theorem sCi_at (σ : CS) (i : Nat) : (sCi σ i).2.2 2 i = σ.2.2 2 i := by rw [sCi_A, ev_u_self, fillTo_at]
theorem sCi_up (σ : CS) (i : Nat) : cs_A (cs_J (cs_J (sCi σ i) 3 ((sCi σ i).2.1 3 + (sTake σ i).toInt64)) 4 ((sCi σ i).2.1 4 + ((sDM σ).2.2 2 i - sMl (sDM σ) i).toInt64)) 2 (ev_u ((cs_J (cs_J (sCi σ i) 3 ((sCi σ i).2.1 3 + (sTake σ i).toInt64)) 4 ((sCi σ i).2.1 4 + ((sDM σ).2.2 2 i - sMl (sDM σ) i).toInt64)).2.2 2) i (sMl (sDM σ) i)) = sCi σ (i + 1) := by
  unfold sCi
  exact cD_up σ (sMl (sDM σ)) (fun j => (sTake σ j).toInt64) (fun j => ((sDM σ).2.2 2 j - sMl (sDM σ) j).toInt64) i
theorem sDM_at {σ : CS} {j : Nat} (h : j < sNm σ) : (sDM σ).2.2 2 j = σ.2.2 2 j - sTake σ j := by
  show fillTo (sNm σ) (fun j => σ.2.2 2 j - sTake σ j) (σ.2.2 2) j = _
  rw [fillTo_lt _ _ h]
theorem sDL_1 (σ : CS) : (sLM (sDM σ)).1 = σ.1 := rfl
theorem sDL_A (σ : CS) {k : Nat} (h : k ≠ 2) : (sLM (sDM σ)).2.2 k = σ.2.2 k := by
  show ev_u (ev_u σ.2.2 2 _) 2 _ k = _
  rw [ev_u_ne _ _ h, ev_u_ne _ _ h]
theorem sDL_2 {σ : CS} {j : Nat} (h : j < sNm σ) : (sLM (sDM σ)).2.2 2 j = sMl (sDM σ) j := by
  rw [sLM_2]
  exact fillTo_lt _ _ h
theorem sDL_J (σ : CS) : (sLM (sDM σ)).2.1 = (sCi σ (sNm σ)).2.1 := rfl
/-- behind i masses: damped, limited, shifted -/
def kaG (σ : CS) (f g : Nat → Int32) (A B : Nat → Int64) (i : Nat) : CS := cs_A (cD σ f A B i) 1 (fillTo i g (σ.2.2 1))
section KAG
variable {σ : CS} {f g tk dm : Nat → Int32} {A B : Nat → Int64} {i : Nat}
theorem kaG_J : (kaG σ f g A B i).2.1 = (cD σ f A B i).2.1 := rfl
theorem kaG_r1 : (kaG σ f g A B i).2.2 1 = fillTo i g (σ.2.2 1) := cs_A_2 _ _ _
theorem kaG_r2 : (kaG σ f g A B i).2.2 2 = fillTo i f (σ.2.2 2) := by
  refine (cs_A_n (cD σ f A B i) _ (by decide)).trans ?_
  rw [cD_A, ev_u_self]
theorem kaG_ro {w : Nat} (h1 : w ≠ 1) (h2 : w ≠ 2) : (kaG σ f g A B i).2.2 w = σ.2.2 w := by
  refine (cs_A_n (cD σ f A B i) _ h1).trans ?_
  rw [cD_A, ev_u_ne _ _ h2]
/-- one mass further -/
theorem kaG_up {X X1 X2 X3 X4 : CS} {tA : Int64} {dB : Int32} (hA : tA = A i) (h1 : X1 = cs_J (kaG σ f g A B i) 3 ((kaG σ f g A B i).2.1 3 + tA)) (h2 : X2 = cs_A X1 2 (ev_u (X1.2.2 2) i dB)) (h3 : X3 = cs_J X2 4 ((kaG σ f g A B i).2.1 4 + B i)) (h4 : X4 = cs_A X3 2 (ev_u (X3.2.2 2) i (f i))) (hX : X = cs_A X4 1 (ev_u (X4.2.2 1) i (g i))) : vis X (kaG σ f g A B (i + 1)) := by
  have y1 : X1.2.2 = (kaG σ f g A B i).2.2 := by rw [h1]; rfl
  have y2 : X2.2.2 2 = ev_u ((kaG σ f g A B i).2.2 2) i dB := by rw [h2, cs_A_2, y1]
  have y2o : ∀ w, w ≠ 2 → X2.2.2 w = (kaG σ f g A B i).2.2 w := fun w h => by rw [h2, cs_A_n _ _ h, y1]
  have y3 : X3.2.2 = X2.2.2 := by rw [h3]; rfl
  have y4 : X4.2.2 2 = ev_u (ev_u ((kaG σ f g A B i).2.2 2) i dB) i (f i) := by rw [h4, cs_A_2, y3, y2]
  have y4o : ∀ w, w ≠ 2 → X4.2.2 w = (kaG σ f g A B i).2.2 w := fun w h => by rw [h4, cs_A_n _ _ h, y3, y2o w h]
  have x1 : X.2.2 1 = ev_u ((kaG σ f g A B i).2.2 1) i (g i) := by rw [hX, cs_A_2, y4o 1 (by decide)]
  have x2 : X.2.2 2 = ev_u (ev_u ((kaG σ f g A B i).2.2 2) i dB) i (f i) := by rw [hX, cs_A_n _ _ (by decide), y4]
  have xo : ∀ w, w ≠ 1 → w ≠ 2 → X.2.2 w = (kaG σ f g A B i).2.2 w := fun w h1 h2 => by rw [hX, cs_A_n _ _ h1, y4o w h2]
  have xJ : X.2.1 = ev_u (ev_u (kaG σ f g A B i).2.1 3 ((kaG σ f g A B i).2.1 3 + tA)) 4 ((kaG σ f g A B i).2.1 4 + B i) := by
    have e1 : X.2.1 = X4.2.1 := by rw [hX]; rfl
    have e2 : X4.2.1 = X3.2.1 := by rw [h4]; rfl
    have e3 : X3.2.1 = ev_u X2.2.1 4 ((kaG σ f g A B i).2.1 4 + B i) := by rw [h3]; rfl
    have e4 : X2.2.1 = X1.2.1 := by rw [h2]; rfl
    have e5 : X1.2.1 = ev_u (kaG σ f g A B i).2.1 3 ((kaG σ f g A B i).2.1 3 + tA) := by rw [h1]; rfl
    rw [e1, e2, e3, e4, e5]
  have xI : X.1 = (kaG σ f g A B i).1 := by
    have e1 : X.1 = X4.1 := by rw [hX]; rfl
    have e2 : X4.1 = X3.1 := by rw [h4]; rfl
    have e3 : X3.1 = X2.1 := by rw [h3]; rfl
    have e4 : X2.1 = X1.1 := by rw [h2]; rfl
    have e5 : X1.1 = (kaG σ f g A B i).1 := by rw [h1]; rfl
    rw [e1, e2, e3, e4, e5]
  refine ⟨fun k _ _ => by rw [xI]; rfl, fun k hk => ?_, fun w k hw hk => ?_, fun w k hw hw2 hk => ?_, fun w k hw hw2 hk => ?_⟩
  · rw [xJ]
    by_cases c : k = 4
    · subst c; rw [ev_u_self]; rfl
    · rw [ev_u_ne _ _ c]
      by_cases c2 : k = 3
      · subst c2; rw [ev_u_self, hA]; rfl
      · rw [ev_u_ne _ _ c2]
        show ev_u (ev_u σ.2.1 3 _) 4 _ k = ev_u (ev_u σ.2.1 3 _) 4 _ k
        rw [ev_u_ne _ _ c, ev_u_ne _ _ c2, ev_u_ne _ _ c, ev_u_ne _ _ c2]
  · by_cases c : w = 1
    · subst c
      rw [kaG_r1, x1, kaG_r1, fillTo_up _ _ _ _ rfl]
    · by_cases c2 : w = 2
      · subst c2
        rw [kaG_r2, x2, kaG_r2]
        by_cases c3 : k = i
        · subst c3; rw [ev_u_self, fillTo_lt _ _ (by omega)]
        · rw [ev_u_ne _ _ c3, ev_u_ne _ _ c3]
          show (if k < i + 1 then _ else _) = (if k < i then _ else _)
          by_cases c4 : k < i
          · rw [if_pos c4, if_pos (by omega)]
          · rw [if_neg c4, if_neg (by omega)]
      · rw [kaG_ro c c2, xo w c c2, kaG_ro c c2]
  · rw [kaG_ro (by omega) (by omega), xo w (by omega) (by omega), kaG_ro (by omega) (by omega)]
  · rw [kaG_ro (by omega) (by omega), xo w (by omega) (by omega), kaG_ro (by omega) (by omega)]
end KAG
def kaS (σ : CS) (i : Nat) : CS := kaG σ (sMl (sDM σ)) (sDl (sLM (sDM σ))) (fun j => (sTake σ j).toInt64) (fun j => ((sDM σ).2.2 2 j - sMl (sDM σ) j).toInt64) i
theorem kaS_J (σ : CS) (i : Nat) : (kaS σ i).2.1 = (sCi σ i).2.1 := kaG_J
theorem kaS_r1 (σ : CS) (i : Nat) : (kaS σ i).2.2 1 = fillTo i (sDl (sLM (sDM σ))) (σ.2.2 1) := kaG_r1
theorem kaS_r2 (σ : CS) (i : Nat) : (kaS σ i).2.2 2 = fillTo i (sMl (sDM σ)) (σ.2.2 2) := kaG_r2
theorem kaS_ro (σ : CS) (i : Nat) {w : Nat} (h1 : w ≠ 1) (h2 : w ≠ 2) : (kaS σ i).2.2 w = σ.2.2 w := kaG_ro h1 h2
theorem kaS_0 (σ : CS) : vis σ (kaS σ 0) := by
  refine ⟨fun _ _ _ => rfl, fun k hk => ?_, fun w k hw hk => ?_, fun w k hw hw2 hk => ?_, fun w k hw hw2 hk => ?_⟩
  · rw [kaS_J]
    show ev_u (ev_u σ.2.1 3 (σ.2.1 3)) 4 (σ.2.1 4) k = _
    by_cases c : k = 4
    · rw [c, ev_u_self]
    · rw [ev_u_ne _ _ c]
      by_cases c2 : k = 3
      · rw [c2, ev_u_self]
      · rw [ev_u_ne _ _ c2]
  · by_cases c : w = 1
    · rw [c, kaS_r1, fillTo_0]
    · by_cases c2 : w = 2
      · rw [c2, kaS_r2, fillTo_0]
      · rw [kaS_ro σ 0 c c2]
  · rw [kaS_ro σ 0 (by omega) (by omega)]
  · rw [kaS_ro σ 0 (by omega) (by omega)]
theorem kaS_N (σ : CS) : vis (kaS σ (sNm σ)) (sSM (sLM (sDM σ))) := by
  refine ⟨fun _ _ _ => rfl, fun k hk => ?_, fun w k hw hk => ?_, fun w k hw hw2 hk => ?_, fun w k hw hw2 hk => ?_⟩
  · rw [kaS_J, ← sDL_J]; rfl
  · have hk : k < sNm σ := hk
    by_cases c : w = 1
    · rw [c, kaS_r1, fillTo_lt _ _ hk]
      have e : (sSM (sLM (sDM σ))).2.2 1 = fillTo (sNm σ) (sDl (sLM (sDM σ))) ((sLM (sDM σ)).2.2 1) := cs_A_2 _ _ _
      rw [e, fillTo_lt _ _ hk]
    · have e : (sSM (sLM (sDM σ))).2.2 w = (sLM (sDM σ)).2.2 w := cs_A_n _ _ c
      rw [e]
      by_cases c2 : w = 2
      · rw [c2, kaS_r2, fillTo_lt _ _ hk, sDL_2 hk]
      · rw [kaS_ro σ _ c c2, sDL_A σ c2]
  · have e : (sSM (sLM (sDM σ))).2.2 w = (sLM (sDM σ)).2.2 w := cs_A_n _ _ (by omega)
    rw [e, kaS_ro σ _ (by omega) (by omega), sDL_A σ (by omega)]
  · have e : (sSM (sLM (sDM σ))).2.2 w = (sLM (sDM σ)).2.2 w := cs_A_n _ _ (by omega)
    rw [e, kaS_ro σ _ (by omega) (by omega), sDL_A σ (by omega)]
theorem lcI_mt {A : Nat → Nat} {q0 : Nat} {g : Nat → Nat} {m p q : Nat} (hm : m ≤ 12) : mtA (lcI A q0 g) m p q ↔ mtA A m p q := by
  have e : ∀ i, i ≠ 3 → (i < 50 ∨ 70 ≤ i) → lcI A q0 g i = A i := fun i h1 h2 => lcI_o A q0 g h1 h2
  constructor
  · rintro (rfl | rfl | ⟨k, hk, rfl⟩ | ⟨k, hk, rfl⟩ | ⟨k, hk, rfl⟩)
    · exact Or.inl (e 0 (by omega) (by omega))
    · exact Or.inr (Or.inl (e 5 (by omega) (by omega)))
    · exact Or.inr (Or.inr (Or.inl ⟨k, hk, e _ (by omega) (by omega)⟩))
    · exact Or.inr (Or.inr (Or.inr (Or.inl ⟨k, hk, e _ (by omega) (by omega)⟩)))
    · exact Or.inr (Or.inr (Or.inr (Or.inr ⟨k, hk, e _ (by omega) (by omega)⟩)))
  · rintro (rfl | rfl | ⟨k, hk, rfl⟩ | ⟨k, hk, rfl⟩ | ⟨k, hk, rfl⟩)
    · exact Or.inl (e 0 (by omega) (by omega)).symm
    · exact Or.inr (Or.inl (e 5 (by omega) (by omega)).symm)
    · exact Or.inr (Or.inr (Or.inl ⟨k, hk, (e _ (by omega) (by omega)).symm⟩))
    · exact Or.inr (Or.inr (Or.inr (Or.inl ⟨k, hk, (e _ (by omega) (by omega)).symm⟩)))
    · exact Or.inr (Or.inr (Or.inr (Or.inr ⟨k, hk, (e _ (by omega) (by omega)).symm⟩)))
section LTK
variable {G : ev_G} {l : Launch} {a a0 b : ev_H} {A : Nat → Nat} {σ τ : CS} {nI z : Nat} {mI : Nat → TI} {T : Int}
set_option maxRecDepth 20000 in
theorem lp_tA {J : ev_K} {k n : Nat} (hJ : 2 ≤ J.2.2.1) (hC : LC G a A σ nI mI) (hv : sInv σ) (hb : RBs σ) (ht : ∀ (q : Nat) (e : va_E), a.1 q = some e → q < z) (hk : ∀ F : Nat → Int64, (∀ s, s < sNm σ + 1 → F s = (sPull σ s).toInt64) → ev_V G l mX7_ticks J 33 [some (.ref (A 0)), some (.int (σ.1 0)), some (.ref z)] [] (ev_new a z (.inl (G.2.1 1, sNm σ + 1, .inr (.inl F)))) k n) : ∀ (r i : Nat) (x : Int32) (F : Nat → Int64), r + i = sNm σ + 1 → x.toInt = (i : Int) → (∀ s, s < i → F s = (sPull σ s).toInt64) → ev_V G l mX7_ticks J 14 [some (.ref (A 0)), some (.int (σ.1 0)), some (.ref z), some (.int x)] [] (ev_new a z (.inl (G.2.1 1, sNm σ + 1, .inr (.inl F)))) k n := by
  intro r
  induction r using Nat.strongRecOn with
  | ind r ih =>
    intro i x F hr hx hF
    have hn : x.toInt.toNat = i := ar_nat hx
    have hmn := hv.1.nat
    have hmu : (σ.1 0).toInt = (sNm σ : Int) := hmn.1.symm
    have hmu2 : (σ.1 0).toInt = sM σ := rfl
    have z0 := ar_0
    have z1 := ar_1
    have hC1 : LC G (ev_new a z (.inl (G.2.1 1, sNm σ + 1, .inr (.inl F)))) A σ nI mI := hC.mono (sub.new _ ht)
    refine e_iload_n dX7_ticks_14 rfl rfl ?_
    refine e_iload_n dX7_ticks_15 rfl rfl ?_
    refine e_icmp_gt (tgt := 33) dX7_ticks_16 (by decide) (fun c16 => ?_) (fun c16 => ?_)
    · obtain rfl : i = sNm σ + 1 := by omega
      exact ev_lc (hk F hF) ⟨rfl, rfl, rfl, trivial⟩
    · have hi : i < sNm σ + 1 := by omega
      refine e_aload_n dX7_ticks_19 rfl rfl ?_
      refine e_iload_n dX7_ticks_20 rfl rfl ?_
      refine e_aload_n dX7_ticks_21 rfl rfl ?_
      refine e_iload_n dX7_ticks_22 rfl rfl ?_
      refine e_invV (mcY := 0) (msY := 0) (ct_X7_pull hC1 hv hb hx hi) vX7_pull wM_X7_84 hC1.1.1 rfl dX7_ticks_23 rfl rfl (Nat.le_of_ble_eq_true rfl) (Nat.le_trans (Nat.le_of_ble_eq_true rfl) hJ) ?_
      rintro _ _ ⟨rfl, rfl⟩
      refine e_last (new_eq _ _ _) (by omega) (by omega) dX7_ticks_26 ?_
      rw [new_put, hn]
      refine e_iinc dX7_ticks_27 rfl rfl (Nat.le_of_ble_eq_true rfl) ?_
      refine e_goto (tgt := 14) dX7_ticks_30 (by decide) ?_
      refine ih (r - 1) (by omega) (i + 1) _ _ (by omega) (ar_inc hx (by omega)) (fun s hs => ?_)
      by_cases e : s = i
      · rw [e, ev_u_self]
      · rw [ev_u_ne _ _ e]
        exact hF s (by omega)
set_option maxRecDepth 20000 in
theorem pull_at {G : ev_G} {l : Launch} {M : ev_M} {J : ev_K} {pc k n : Nat} {L : List (Option Value)} {st : List Value} {b : ev_H} {N j : Nat} {F : Nat → Int64} {x : Int32} {v : Int64} (hp : b.1 z = some (.inl (G.2.1 1, N, .inr (.inl F)))) (hx : x.toInt = (j : Int)) (hj : j < N) (hv : F j = v) (hd : decode M.2.1 pc = .ok (.laload, 1)) (h : ev_V G l M J (pc + 1) L (.long v :: st) b k n) : ev_V G l M J pc L (.int x :: .ref z :: st) b k n := by
  subst hv
  refine e_lald hp (by omega) (by omega) hd ?_
  rw [ar_nat hx]
  exact h
set_option maxRecDepth 20000 in
theorem lp_tB {J : ev_K} {k n : Nat} (hJ : 3 ≤ J.2.2.1) (hv : sInv σ) (hb : RBs σ) (hbm : RBm 100000000 σ) {F : Nat → Int64} (hF : ∀ s, s < sNm σ + 1 → F s = (sPull σ s).toInt64) (nz : ¬ mtA A (sNm σ) (sPn σ) z) (hk : ∀ b : ev_H, LC G b A (cs_A (cs_J (cs_J σ 0 (σ.2.1 0 - (sPull σ 0).toInt64)) 1 (σ.2.1 1 + (sPull σ (sNm σ)).toInt64)) 2 (fillTo (sNm σ) (sMom1 σ) (σ.2.2 2))) nI mI → fr a b A (sNm σ) (sPn σ) → b.2 = some (z + 1) → ev_V G l mX7_ticks J 93 [some (.ref (A 0)), some (.int (σ.1 0))] [] b k n) : ∀ (r i : Nat) (x : Int32) (b : ev_H), r + i = sNm σ → x.toInt = (i : Int) → LC G b A (cs_A (cs_J (cs_J σ 0 (σ.2.1 0 - (sPull σ 0).toInt64)) 1 (σ.2.1 1 + (sPull σ (sNm σ)).toInt64)) 2 (fillTo i (sMom1 σ) (σ.2.2 2))) nI mI → b.1 z = some (.inl (G.2.1 1, sNm σ + 1, .inr (.inl F))) → fr a b A (sNm σ) (sPn σ) → b.2 = some (z + 1) → ev_V G l mX7_ticks J 59 [some (.ref (A 0)), some (.int (σ.1 0)), some (.ref z), some (.int x)] [] (b) (k) (n) := by
  intro r
  induction r using Nat.strongRecOn with
  | ind r ih =>
    intro i x b hr hx hB hp hfr hsz
    have hn : x.toInt.toNat = i := ar_nat hx
    have hmn := hv.1.nat
    have hmu : (σ.1 0).toInt = (sNm σ : Int) := hmn.1.symm
    have hmu2 : (σ.1 0).toInt = sM σ := rfl
    have z0 := ar_0
    have z1 := ar_1
    have fB : (cs_A (cs_J (cs_J σ 0 (σ.2.1 0 - (sPull σ 0).toInt64)) 1 (σ.2.1 1 + (sPull σ (sNm σ)).toInt64)) 2 (fillTo i (sMom1 σ) (σ.2.2 2))).2.2 2 i = σ.2.2 2 i := fillTo_at i (sMom1 σ) (σ.2.2 2)
    refine e_iload_n dX7_ticks_59 rfl rfl ?_
    refine e_iload_n dX7_ticks_60 rfl rfl ?_
    refine e_icmp_ge (tgt := 93) dX7_ticks_61 (by decide) (fun c61 => ?_) (fun c61 => ?_)
    · obtain rfl : i = sNm σ := by omega
      exact ev_lc (hk b hB hfr hsz) ⟨rfl, rfl, trivial⟩
    · have hi : i < sNm σ := by omega
      have hx1 : (x + 1).toInt = ((i + 1 : Nat) : Int) := by have := ar_inc hx (by omega); rwa [ar_i1] at this
      have fM : (σ.2.2 2 i).toInt64 + ((sPull σ (i + 1)).toInt64 - (sPull σ i).toInt64) = (sMom1 σ i).toInt64 := by rw [(sMom1_64 hv.1 hb hbm hi).1, Int64.sub_eq_add_neg, Int64.sub_eq_add_neg, Int64.add_assoc]
      refine e_aload_n dX7_ticks_64 rfl rfl ?_
      refine lc_g4 hB wF_X7_10 dX7_ticks_65 ?_
      refine e_iload_n dX7_ticks_68 rfl rfl ?_
      refine lc_q1 hB hx hi dX7_ticks_69 ?_
      refine e_dup dX7_ticks_70 rfl ?_
      refine lc_m2 hB hi wF_X7_87 dX7_ticks_71 ?_
      refine e_aload_n dX7_ticks_74 rfl rfl ?_
      refine e_iload_n dX7_ticks_75 rfl rfl ?_
      refine e_iconst (v := 1) dX7_ticks_76 (by decide) ?_
      refine e_iadd dX7_ticks_77 ?_
      refine pull_at hp hx1 (by omega) (hF _ (by omega)) dX7_ticks_78 ?_
      refine e_aload_n dX7_ticks_79 rfl rfl ?_
      refine e_iload_n dX7_ticks_80 rfl rfl ?_
      refine pull_at hp hx (by omega) (hF _ (by omega)) dX7_ticks_81 ?_
      refine e_lsub dX7_ticks_82 ?_
      refine e_ladd dX7_ticks_83 ?_
      refine lc_wm2 hB hi (by rw [fB]; exact fM) wF_X7_87 dX7_ticks_84 ?_
      intro a1 C1 f1 z1
      have fr1 := hfr.tr f1
      have sz1 := z1.trans hsz
      have hp1 := f1 _ _ hp nz
      refine e_iinc dX7_ticks_87 rfl rfl (Nat.le_of_ble_eq_true rfl) ?_
      refine e_goto (tgt := 59) dX7_ticks_90 (by decide) ?_
      refine ih (r - 1) (by omega) (i + 1) _ _ (by omega) (ar_inc hx (by omega)) ?_ hp1 fr1 sz1
      have e : cs_A (cs_A (cs_J (cs_J σ 0 (σ.2.1 0 - (sPull σ 0).toInt64)) 1 (σ.2.1 1 + (sPull σ (sNm σ)).toInt64)) 2 (fillTo i (sMom1 σ) (σ.2.2 2))) 2 (ev_u ((cs_A (cs_J (cs_J σ 0 (σ.2.1 0 - (sPull σ 0).toInt64)) 1 (σ.2.1 1 + (sPull σ (sNm σ)).toInt64)) 2 (fillTo i (sMom1 σ) (σ.2.2 2))).2.2 2) i (sMom1 σ i)) = cs_A (cs_J (cs_J σ 0 (σ.2.1 0 - (sPull σ 0).toInt64)) 1 (σ.2.1 1 + (sPull σ (sNm σ)).toInt64)) 2 (fillTo (i + 1) (sMom1 σ) (σ.2.2 2)) := by
        show cs_A (cs_A (cs_J (cs_J σ 0 (σ.2.1 0 - (sPull σ 0).toInt64)) 1 (σ.2.1 1 + (sPull σ (sNm σ)).toInt64)) 2 (fillTo i (sMom1 σ) (σ.2.2 2))) 2 (ev_u (fillTo i (sMom1 σ) (σ.2.2 2)) i (sMom1 σ i)) = _
        rw [cs_A_A, fillTo_up _ _ _ _ rfl]
      rw [← e]
      exact C1
theorem LC.fQ {G : ev_G} {b b' : ev_H} {A : Nat → Nat} {σ : CS} {n : Nat} {m : Nat → TI} (h : LC G b A σ n m) (f : fr b b' A (sNm σ) (sPn σ)) {c : ClassId} {q N : Nat} {g : Nat → Nat} (hq : aQ b c q N g) : aQ b' c q N g := by
  obtain ⟨f0, x1, x2⟩ := hq
  exact ⟨f0, f _ _ x1 (h.nmut x1 (by show ¬ mutE 101; unfold mutE; omega)), x2⟩
theorem LC.fI {G : ev_G} {b b' : ev_H} {A : Nat → Nat} {σ : CS} {n : Nat} {m : Nat → TI} (h : LC G b A σ n m) (f : fr b b' A (sNm σ) (sPn σ)) {c : ClassId} {q : Nat} {g : Nat → Int32} (hq : aI b c q 3 g) : aI b' c q 3 g := by
  obtain ⟨f0, x1, x2⟩ := hq
  exact ⟨f0, f _ _ x1 (h.nmut x1 (by show ¬ mutE (200 + 3); unfold mutE; omega)), x2⟩
theorem giv_acJ (σ : CS) (f : Nat → Int32) : acJ (cs_A σ 2 f) 3 = σ.2.1 2 := rfl
set_option maxRecDepth 20000 in
theorem lp_tD {J : ev_K} {k n : Nat} (hJ : 3 ≤ J.2.2.1) (hv : sInv σ) (ht : RBt T σ) (hbm : RBm 140000000 σ) (hnI : nI = sIn σ) (hm : cRev (sTI σ) (sIn σ) = rSrt (tol mI (sIn σ))) (hk : ∀ (b : ev_H) (rq zt : Nat), LC G b A (givT σ mI (sIn σ)) nI mI → (∃ g : Nat → Nat, aQ b (G.2.1 5) rq (kepT (σ.1 1) mI (sIn σ)).length g ∧ ∀ q, q < (kepT (σ.1 1) mI (sIn σ)).length → aI b (G.2.1 0) (g q) 3 (tiF (mAt (kepT (σ.1 1) mI (sIn σ)) q))) → fr a0 b A (sNm σ) (sPn σ) → b.2 = some zt → z ≤ zt → ev_V G l mX7_ticks J 189 [some (.ref (A 0)), some (.int (σ.1 0)), none, some (.ref rq)] [] b k n) : ∀ (r i : Nat) (x : Int32) (b : ev_H) (rq zt : Nat), r + i = sIn σ → x.toInt = (i : Int) → LC G b A (givT σ mI i) nI mI → (∃ g : Nat → Nat, aQ b (G.2.1 5) rq (kepT (σ.1 1) mI i).length g ∧ ∀ q, q < (kepT (σ.1 1) mI i).length → aI b (G.2.1 0) (g q) 3 (tiF (mAt (kepT (σ.1 1) mI i) q))) → fr a0 b A (sNm σ) (sPn σ) → b.2 = some zt → z ≤ zt → ev_V G l mX7_ticks J 112 [some (.ref (A 0)), some (.int (σ.1 0)), none, some (.ref rq), some (.ref (A 3)), some (.int (Int32.ofNat nI)), some (.int x)] [] b (k + r) (n + 41 * r) := by
  intro r
  induction r with
  | zero =>
    intro i x b rq zt hr hx hB hR hfr hsz hzz
    have hmn := hv.1.nat
    have hmu : (σ.1 0).toInt = (sNm σ : Int) := hmn.1.symm
    have hmu2 : (σ.1 0).toInt = sM σ := rfl
    have z0 := ar_0
    have z1 := ar_1
    have hin := hv.2.2.1.nat
    have hnL : (Int32.ofNat nI).toInt = (nI : Int) := ar_of (by omega)
    have w2 : (2 : Int32).toInt = 2 := by decide +kernel
    obtain rfl : i = sIn σ := by omega
    refine e_iload dX7_ticks_112 rfl ?_
    refine e_iload dX7_ticks_114 rfl ?_
    refine e_icmp_ge (tgt := 189) dX7_ticks_116 (by decide) (fun c116 => ?_) (fun c116 => ?_)
    · exact ev_lc (hk b rq zt hB hR hfr hsz hzz) ⟨rfl, rfl, rfl, trivial⟩
    · exact absurd c116 (by omega)
  | succ r ih =>
    intro i x b rq zt hr hx hB hR hfr hsz hzz
    have hmn := hv.1.nat
    have hmu : (σ.1 0).toInt = (sNm σ : Int) := hmn.1.symm
    have hmu2 : (σ.1 0).toInt = sM σ := rfl
    have z0 := ar_0
    have z1 := ar_1
    have hin := hv.2.2.1.nat
    have hnL : (Int32.ofNat nI).toInt = (nI : Int) := ar_of (by omega)
    have w2 : (2 : Int32).toInt = 2 := by decide +kernel
    have hi : i < sIn σ := by omega
    have hi2 : i < nI := by omega
    obtain ⟨jj, hj1, hj2⟩ := ivS_mem hm hi
    have hmi := hv.2.2.2.1 jj hj1
    have hm7 : σ.2.2 7 jj = (mI i).1 := congrArg (fun q : TI => q.1) hj2
    have hm8 : σ.2.2 8 jj = (mI i).2.1 := congrArg (fun q : TI => q.2.1) hj2
    have hm9 : σ.2.2 9 jj = (mI i).2.2 := congrArg (fun q : TI => q.2.2) hj2
    have htj := ht.2.1 jj hj1
    rw [hm8] at hmi
    rw [hm7, hm9] at htj
    have g1 := givL_1 ((tol mI i).filter (isDue (σ.1 1))) σ
    have g1' : (givT σ mI i).1 = σ.1 := g1.1
    have hN : sNm (givT σ mI i) = sNm σ := by unfold sNm; rw [g1']
    have hPn : sPn (givT σ mI i) = sPn σ := by unfold sPn; rw [g1']
    have hj0 : (mI i).2.1.toInt = (((mI i).2.1.toInt.toNat : Nat) : Int) := by omega
    have hj9 : (mI i).2.1.toInt.toNat < sNm (givT σ mI i) := by rw [hN]; omega
    have hbl : (((tol mI i).filter (isDue (σ.1 1))).length : Int) ≤ 16 := by have q1 := List.length_filter_le (isDue (σ.1 1)) (tol mI i); have q2 : (tol mI i).length = i := (by unfold tol; rw [List.length_map, List.length_range]); omega
    have hbk := (givL_b ((tol mI i).filter (isDue (σ.1 1))) σ 140000000 (by decide) (by omega) hbm (fun y hy => by
      obtain ⟨k2, hk2, rfl⟩ := List.mem_map.mp (List.mem_filter.mp hy).1
      obtain ⟨j3, hj3, hj4⟩ := ivS_mem hm (show k2 < sIn σ by have := List.mem_range.mp hk2; omega)
      have := ht.2.1 j3 hj3
      rw [show σ.2.2 9 j3 = (mI k2).2.2 from congrArg (fun q : TI => q.2.2) hj4] at this
      exact ⟨this.2.2.1, this.2.2.2⟩))
    have hbj := hbk (mI i).2.1.toInt.toNat hj9
    change _ ≤ ((givT σ mI i).2.2 2 _).toInt ∧ ((givT σ mI i).2.2 2 _).toInt ≤ _ at hbj
    have hkl := kepT_le (σ.1 1) mI i
    obtain ⟨g, hg1, hg2⟩ := hR
    refine e_iload dX7_ticks_112 rfl ?_
    refine e_iload dX7_ticks_114 rfl ?_
    refine e_icmp_ge (tgt := 189) dX7_ticks_116 (by decide) (fun c116 => ?_) (fun c116 => ?_)
    · exact absurd c116 (by omega)
    · refine e_aload dX7_ticks_119 rfl ?_
      refine e_iload dX7_ticks_121 rfl ?_
      refine lc_q3 hB hx hi2 dX7_ticks_123 ?_
      refine e_astore dX7_ticks_124 (Nat.le_of_ble_eq_true rfl) ?_
      refine e_aload dX7_ticks_126 rfl ?_
      refine e_iconst (v := 0) dX7_ticks_128 (by decide) ?_
      refine lc_i hB hi2 ar_0 (by decide) dX7_ticks_129 ?_
      refine e_aload_n dX7_ticks_130 rfl rfl ?_
      refine lc_g0 hB wF_X7_41 dX7_ticks_131 ?_
      refine e_icmp_le (tgt := 147) dX7_ticks_134 (by decide) (fun c134 => ?_) (fun c134 => ?_)
      · have dd : (mI i).1 = σ.1 1 := ar_eq (by rw [g1'] at c134; change (mI i).1.toInt ≤ (σ.1 1).toInt at c134; omega)
        refine e_aload_n dX7_ticks_147 rfl rfl ?_
        refine lc_g4 hB wF_X7_10 dX7_ticks_148 ?_
        refine e_aload dX7_ticks_151 rfl ?_
        refine e_iconst (v := 1) dX7_ticks_153 (by decide) ?_
        refine lc_i hB hi2 ar_1 (by decide) dX7_ticks_154 ?_
        refine lc_q1 hB (show (tiF (mI i) 1).toInt = _ from hj0) hj9 dX7_ticks_155 ?_
        refine e_dup dX7_ticks_156 rfl ?_
        refine lc_m2 hB hj9 wF_X7_87 dX7_ticks_157 ?_
        refine e_aload dX7_ticks_160 rfl ?_
        refine e_iconst (v := 2) dX7_ticks_162 (by decide) ?_
        refine lc_i hB hi2 w2 (by decide) dX7_ticks_163 ?_
        refine e_i2l dX7_ticks_164 ?_
        refine e_ladd dX7_ticks_165 ?_
        refine lc_wm2 hB hj9 (show _ + (mI i).2.2.toInt64 = ((givT σ mI i).2.2 2 (mI i).2.1.toInt.toNat + (mI i).2.2).toInt64 from (ar_64add (by omega) (by omega)).symm) wF_X7_87 dX7_ticks_166 ?_
        intro a2 C2 f2 z2
        change fr _ _ A (sNm (givT σ mI i)) (sPn (givT σ mI i)) at f2
        rw [hN, hPn] at f2
        have fr2 := hfr.tr f2
        have sz2 := z2.trans hsz
        refine e_aload_n dX7_ticks_169 rfl rfl ?_
        refine lc_g8 C2 wF_X7_32 dX7_ticks_170 ?_
        refine e_iconst (v := 3) dX7_ticks_173 (by decide) ?_
        refine e_dup2 dX7_ticks_174 rfl rfl ?_
        refine lc_a C2 (show (3 : Int32).toInt = ((3 : Nat) : Int) by decide +kernel) (by decide) dX7_ticks_175 ?_
        refine e_aload dX7_ticks_176 rfl ?_
        refine e_iconst (v := 2) dX7_ticks_178 (by decide) ?_
        refine lc_i C2 hi2 w2 (by decide) dX7_ticks_179 ?_
        refine e_i2l dX7_ticks_180 ?_
        refine e_ladd dX7_ticks_181 ?_
        refine lc_wa C2 (show (3 : Int32).toInt = ((3 : Nat) : Int) by decide +kernel) (by decide) (by decide) dX7_ticks_182 ?_
        intro a3 C3 f3 z3
        change fr _ _ A (sNm (givT σ mI i)) (sPn (givT σ mI i)) at f3
        rw [hN, hPn] at f3
        have fr3 := fr2.tr f3
        have sz3 := z3.trans sz2
        refine e_iinc dX7_ticks_183 rfl rfl (Nat.le_of_ble_eq_true rfl) ?_
        refine e_goto (tgt := 112) dX7_ticks_186 (by decide) ?_
        obtain ⟨q1, q2⟩ := givT_due (σ := σ) (m := mI) (k := i) dd
        refine e_wide (k0 := k + r) (n0 := n + 41 * r) (by omega) (by omega) ?_
        refine ev_lc (ih (i + 1) _ _ rq zt (by omega) (ar_inc hx (by omega)) (by rw [q1]; exact C3) ?_ fr3 sz3 hzz) ⟨rfl, rfl, rfl, rfl, rfl, rfl, trivial⟩
        rw [q2]
        exact ⟨g, hB.fQ (by rw [hN, hPn]; exact (f2.tr f3)) hg1, fun q hq => hB.fI (by rw [hN, hPn]; exact (f2.tr f3)) (hg2 q hq)⟩
      · have dn : (mI i).1 ≠ σ.1 1 := fun q => by rw [g1'] at c134; change (σ.1 1).toInt < (mI i).1.toInt at c134; rw [q] at c134; omega
        refine e_aload_n dX7_ticks_137 rfl rfl ?_
        refine e_aload dX7_ticks_138 rfl ?_
        obtain ⟨fr9, x91, x92⟩ := hB.2.2.1.1 i hi2
        refine e_wide (k0 := (k + r) + 1) (n0 := (n + 41 * r) + 41) (by omega) (by omega) ?_
        refine e_invN (host := "SpringChainLaw") (mcY := 1) (msY := 41) (ct_L_with hg1 (fun q hq => by obtain ⟨f5, y1, y2⟩ := hg2 q hq; exact ⟨_, y1⟩) x91 (by omega) hsz) vL_with (ev_nw_ok 470 (by decide +kernel) rfl) dX7_ticks_140 rfl rfl (Nat.le_of_ble_eq_true rfl) (Nat.le_trans (Nat.le_of_ble_eq_true rfl) hJ) ?_
        rintro _ b4 ⟨rfl, hs4, hz4, hq4⟩
        have hB4 := hB.mono hs4
        refine e_astore_n dX7_ticks_143 rfl (Nat.le_of_ble_eq_true rfl) ?_
        refine e_goto (tgt := 183) dX7_ticks_144 (by decide) ?_
        refine e_iinc dX7_ticks_183 rfl rfl (Nat.le_of_ble_eq_true rfl) ?_
        refine e_goto (tgt := 112) dX7_ticks_186 (by decide) ?_
        obtain ⟨q1, q2⟩ := givT_no (σ := σ) (m := mI) (k := i) dn
        refine ev_lc (ih (i + 1) _ b4 zt (zt + 1) (by omega) (ar_inc hx (by omega)) (by rw [q1]; exact hB4) ?_ (hfr.tr (hs4.fr _ _ _)) hz4 (by omega)) ⟨rfl, rfl, rfl, rfl, rfl, rfl, trivial⟩
        refine ⟨_, by rw [q2, List.length_append]; exact hq4, fun q hq => ?_⟩
        rw [q2] at hq ⊢
        rw [List.length_append, List.length_singleton] at hq
        by_cases cq : q < (kepT (σ.1 1) mI i).length
        · rw [if_pos cq, mAt_lt _ cq]
          exact hs4.xI (hg2 q cq)
        · rw [if_neg cq, show q = (kepT (σ.1 1) mI i).length by omega, mAt_len]
          exact hB4.2.2.1.1 i hi2
theorem cs_A_Jq (σ : CS) (k : Nat) (f : Nat → Int32) : (cs_A σ k f).2.1 = σ.2.1 := rfl
theorem cs_J_n (σ : CS) {k j : Nat} (v : Int64) (h : j ≠ k) : (cs_J σ k v).2.1 j = σ.2.1 j := ev_u_ne _ _ h
theorem cs_J_r (σ : CS) (k : Nat) (v : Int64) : (cs_J σ k v).2.2 = σ.2.2 := rfl
theorem cs_A21 (σ : CS) (f : Nat → Int32) : (cs_A σ 2 f).2.2 1 = σ.2.2 1 := cs_A_n σ f (by decide)
theorem cs_A20 (σ : CS) (f : Nat → Int32) : (cs_A σ 2 f).2.2 0 = σ.2.2 0 := cs_A_n σ f (by decide)
set_option maxRecDepth 20000 in
theorem lp_tC0 {J : ev_K} {k n : Nat} (hJ : 3 ≤ J.2.2.1) (hv : sInv σ) {f g tk dm : Nat → Int32} (hT : ∀ i, i < sNm σ → (σ.2.2 2 i).toInt64 * (σ.1 2).toInt64 / 1000 = (tk i).toInt64) (hR : ∀ i, i < sNm σ → (σ.2.2 2 i).toInt64 - (tk i).toInt64 = (dm i).toInt64) (hK : ∀ i, i < sNm σ → mWi (dm i).toInt64 100000000 = (f i).toInt64) (hA : ∀ i, i < sNm σ → (dm i).toInt64 - (f i).toInt64 = (dm i - f i).toInt64) (hD : ∀ i, i < sNm σ → mWi ((σ.2.2 1 i).toInt64 + (f i).toInt64 / (σ.2.2 0 i).toInt64) 1000000 = (g i).toInt64) (hk : ∀ b : ev_H, LC G b A (kaG σ f g (fun j => (tk j).toInt64) (fun j => (dm j - f j).toInt64) (sNm σ)) nI mI → fr a0 b A (sNm σ) (sPn σ) → b.2 = some z → ev_V G l mX7_ticks J 331 [some (.ref (A 0)), some (.int (σ.1 0))] [] b k n) : ∀ (r i : Nat) (x : Int32) (b : ev_H), r + i = sNm σ → x.toInt = (i : Int) → LC G b A (kaG σ f g (fun j => (tk j).toInt64) (fun j => (dm j - f j).toInt64) i) nI mI → fr a0 b A (sNm σ) (sPn σ) → b.2 = some z → ev_V G l mX7_ticks J 208 [some (.ref (A 0)), some (.int (σ.1 0)), none, none, some (.ref (A 1)), some (.int (σ.1 0)), some (.int x)] [] (b) (k) (n) := by
  intro r
  induction r using Nat.strongRecOn with
  | ind r ih =>
    intro i x b hr hx hB hfr hsz
    have hn : x.toInt.toNat = i := ar_nat hx
    have hmn := hv.1.nat
    have hmu : (σ.1 0).toInt = (sNm σ : Int) := hmn.1.symm
    have hmu2 : (σ.1 0).toInt = sM σ := rfl
    have z0 := ar_0
    have z1 := ar_1
    refine e_iload dX7_ticks_208 rfl ?_
    refine e_iload dX7_ticks_210 rfl ?_
    refine e_icmp_ge (tgt := 331) dX7_ticks_212 (by decide) (fun c212 => ?_) (fun c212 => ?_)
    · obtain rfl : i = sNm σ := by omega
      exact ev_lc (hk b hB hfr hsz) ⟨rfl, rfl, trivial⟩
    · have hi : i < sNm σ := by omega
      have wL : (100000000 : Int64).toInt = 100000000 := by decide +kernel
      have wLb : (1000000 : Int64).toInt = 1000000 := by decide +kernel
      have k2 : (kaG σ f g (fun j => (tk j).toInt64) (fun j => (dm j - f j).toInt64) i).2.2 2 i = σ.2.2 2 i := by rw [kaG_r2]; exact fillTo_at i _ _
      have k1 : (kaG σ f g (fun j => (tk j).toInt64) (fun j => (dm j - f j).toInt64) i).2.2 1 i = σ.2.2 1 i := by rw [kaG_r1]; exact fillTo_at i _ _
      have k0 : (kaG σ f g (fun j => (tk j).toInt64) (fun j => (dm j - f j).toInt64) i).2.2 0 i = σ.2.2 0 i := by rw [kaG_ro (by decide) (by decide)]
      have fT : ((kaG σ f g (fun j => (tk j).toInt64) (fun j => (dm j - f j).toInt64) i).2.2 2 i).toInt64 * (σ.1 2).toInt64 / 1000 = (tk i).toInt64 := by rw [k2]; exact hT i hi
      have fRest : ((kaG σ f g (fun j => (tk j).toInt64) (fun j => (dm j - f j).toInt64) i).2.2 2 i).toInt64 - (tk i).toInt64 = (dm i).toInt64 := by rw [k2]; exact hR i hi
      have fK := hK i hi
      have fA := hA i hi
      have fD := hD i hi
      refine e_aload dX7_ticks_215 rfl ?_
      refine e_iload dX7_ticks_217 rfl ?_
      refine lc_q1 hB hx hi dX7_ticks_219 ?_
      refine e_astore dX7_ticks_220 (Nat.le_of_ble_eq_true rfl) ?_
      refine e_aload dX7_ticks_222 rfl ?_
      refine lc_m2 hB hi wF_X7_87 dX7_ticks_224 ?_
      refine e_aload_n dX7_ticks_227 rfl rfl ?_
      refine lc_g3 hB wF_X7_51 dX7_ticks_228 ?_
      refine e_i2l dX7_ticks_231 ?_
      refine e_lmul dX7_ticks_232 ?_
      refine e_ldc2 dX7_ticks_233 wK_X7_96 ?_
      refine e_ldiv dX7_ticks_236 (by decide) ?_
      change ev_V G l mX7_ticks J 237 _ (.long (((kaG σ f g (fun j => (tk j).toInt64) (fun j => (dm j - f j).toInt64) i).2.2 2 i).toInt64 * (σ.1 2).toInt64 / 1000) :: _) _ _ _
      rw [fT]
      refine e_lstore dX7_ticks_237 (Nat.le_of_ble_eq_true rfl) ?_
      refine e_aload_n dX7_ticks_239 rfl rfl ?_
      refine lc_g8 hB wF_X7_32 dX7_ticks_240 ?_
      refine e_iconst (v := 4) dX7_ticks_243 (by decide) ?_
      refine e_dup2 dX7_ticks_244 rfl rfl ?_
      refine lc_a1 hB (show (4 : Int32).toInt = ((3 + 1 : Nat) : Int) by decide +kernel) (by decide) dX7_ticks_245 ?_
      refine e_lload dX7_ticks_246 rfl ?_
      refine e_ladd dX7_ticks_248 ?_
      refine lc_wa1 hB (show (4 : Int32).toInt = ((3 + 1 : Nat) : Int) by decide +kernel) (by decide) dX7_ticks_249 ?_
      intro a4 C4 f4 z4
      have fr4 := hfr.tr f4
      have sz4 := z4.trans hsz
      refine e_aload dX7_ticks_250 rfl ?_
      refine e_dup dX7_ticks_252 rfl ?_
      refine lc_m2 C4 hi wF_X7_87 dX7_ticks_253 ?_
      rw [cs_J_r]
      refine e_lload dX7_ticks_256 rfl ?_
      refine e_lsub dX7_ticks_258 ?_
      refine lc_wm2 C4 hi fRest wF_X7_87 dX7_ticks_259 ?_
      intro a5 C5 f5 z5
      have fr5 := fr4.tr f5
      have sz5 := z5.trans sz4
      refine e_aload dX7_ticks_262 rfl ?_
      refine lc_m2 C5 hi wF_X7_87 dX7_ticks_264 ?_
      rw [cs_A_2, ev_u_self]
      refine e_ldc2 dX7_ticks_267 wK_X7_98 ?_
      refine e_invN (host := "SpringChainLaw") (mcY := 0) (msY := 0) (ct_L_limited (by rw [wL]; decide)) vL_limited (ev_nw_ok 476 (by decide +kernel) rfl) dX7_ticks_270 rfl rfl (Nat.le_of_ble_eq_true rfl) (Nat.le_trans (Nat.le_of_ble_eq_true rfl) hJ) ?_
      rintro _ _ ⟨rfl, rfl⟩
      rw [fK]
      refine e_lstore dX7_ticks_273 (Nat.le_of_ble_eq_true rfl) ?_
      refine e_aload_n dX7_ticks_275 rfl rfl ?_
      refine lc_g8 C5 wF_X7_32 dX7_ticks_276 ?_
      refine e_iconst (v := 5) dX7_ticks_279 (by decide) ?_
      refine e_dup2 dX7_ticks_280 rfl rfl ?_
      refine lc_a1 C5 (show (5 : Int32).toInt = ((4 + 1 : Nat) : Int) by decide +kernel) (by decide) dX7_ticks_281 ?_
      rw [cs_A_Jq, cs_J_n _ _ (show (4 : Nat) ≠ 3 by decide)]
      refine e_aload dX7_ticks_282 rfl ?_
      refine lc_m2 C5 hi wF_X7_87 dX7_ticks_284 ?_
      rw [cs_A_2, ev_u_self]
      refine e_lload dX7_ticks_287 rfl ?_
      refine e_lsub dX7_ticks_289 ?_
      rw [fA]
      refine e_ladd dX7_ticks_290 ?_
      refine lc_wa1 C5 (show (5 : Int32).toInt = ((4 + 1 : Nat) : Int) by decide +kernel) (by decide) dX7_ticks_291 ?_
      intro a6 C6 f6 z6
      have fr6 := fr5.tr f6
      have sz6 := z6.trans sz5
      refine e_aload dX7_ticks_292 rfl ?_
      refine e_lload dX7_ticks_294 rfl ?_
      refine lc_wm2 C6 hi rfl wF_X7_87 dX7_ticks_296 ?_
      intro a7 C7 f7 z7
      have fr7 := fr6.tr f7
      have sz7 := z7.trans sz6
      refine e_aload dX7_ticks_299 rfl ?_
      refine e_aload dX7_ticks_301 rfl ?_
      refine lc_m1 C7 hi wF_X7_67 dX7_ticks_303 ?_
      rw [cs_A21, cs_J_r, cs_A21, cs_J_r, k1]
      refine e_lload dX7_ticks_306 rfl ?_
      refine e_aload dX7_ticks_308 rfl ?_
      refine lc_m0 C7 hi wF_X7_104 dX7_ticks_310 ?_
      rw [cs_A20, cs_J_r, cs_A20, cs_J_r, k0]
      refine e_i2l dX7_ticks_313 ?_
      refine e_ldiv dX7_ticks_314 (hv.2.1.ne64 hi) ?_
      refine e_ladd dX7_ticks_315 ?_
      refine e_ldc2 dX7_ticks_316 wK_X7_107 ?_
      refine e_invN (host := "SpringChainLaw") (mcY := 0) (msY := 0) (ct_L_limited (by rw [wLb]; decide)) vL_limited (ev_nw_ok 476 (by decide +kernel) rfl) dX7_ticks_319 rfl rfl (Nat.le_of_ble_eq_true rfl) (Nat.le_trans (Nat.le_of_ble_eq_true rfl) hJ) ?_
      rintro _ _ ⟨rfl, rfl⟩
      rw [fD]
      refine lc_wm1 C7 hi rfl wF_X7_67 dX7_ticks_322 ?_
      intro a8 C8 f8 z8
      have fr8 := fr7.tr f8
      have sz8 := z8.trans sz7
      refine e_iinc dX7_ticks_325 rfl rfl (Nat.le_of_ble_eq_true rfl) ?_
      refine e_goto (tgt := 208) dX7_ticks_328 (by decide) ?_
      exact ev_lc (ih (r - 1) (by omega) (i + 1) _ _ (by omega) (ar_inc hx (by omega)) (C8.see (kaG_up (tA := (tk i).toInt64) (dB := dm i) rfl rfl rfl rfl rfl rfl)) fr8 sz8) ⟨rfl, rfl, rfl, rfl, rfl, trivial⟩
set_option maxRecDepth 20000 in
theorem lp_tC {J : ev_K} {k n : Nat} (hJ : 3 ≤ J.2.2.1) (hv : sInv σ) (hb : RBs σ) (hbm : RBm 141000000 σ) (hk : ∀ b : ev_H, LC G b A (sSM (sLM (sDM σ))) nI mI → fr a0 b A (sNm σ) (sPn σ) → b.2 = some z → ev_V G l mX7_ticks J 331 [some (.ref (A 0)), some (.int (σ.1 0))] [] b k n) (b : ev_H) (hB : LC G b A σ nI mI) (hfr : fr a0 b A (sNm σ) (sPn σ)) (hsz : b.2 = some z) : ev_V G l mX7_ticks J 208 [some (.ref (A 0)), some (.int (σ.1 0)), none, none, some (.ref (A 1)), some (.int (σ.1 0)), some (.int 0)] [] b k n := by
  have hmn := hv.1.nat
  have w8 : (100000000 : Int32).toInt = 100000000 := by decide +kernel
  have wL : (100000000 : Int64).toInt = 100000000 := by decide +kernel
  have w8b : (1000000 : Int32).toInt = 1000000 := by decide +kernel
  have wLb : (1000000 : Int64).toInt = 1000000 := by decide +kernel
  refine lp_tC0 (σ := σ) (f := sMl (sDM σ)) (g := sDl (sLM (sDM σ))) (tk := sTake σ) (dm := (sDM σ).2.2 2) hJ hv (fun i hi => (sTake_64 hb hbm (by decide) (by decide) hi).1.symm) (fun i hi => ?_) (fun i hi => mWi_lim (b := 100000000) (by rw [w8]; decide) (by rw [wL, w8])) (fun i hi => ?_) (fun i hi => ?_) (fun b hB hfr hsz => hk b (LC.see (σ := kaS σ (sNm σ)) hB (kaS_N σ)) hfr hsz) (sNm σ) 0 _ b (by omega) ar_0 (LC.see (τ := kaS σ 0) hB (kaS_0 σ)) hfr hsz
  · have hT := sTake_64 hb hbm (by decide) (by decide) hi
    have hM := hbm i hi
    rw [sDM_at hi, ar_64sub (by omega) (by omega)]
  · have hT := sTake_64 hb hbm (by decide) (by decide) hi
    have hM := hbm i hi
    have hMl := sMl_b (sDM σ) i
    have hD : -300000000 ≤ ((sDM σ).2.2 2 i).toInt ∧ ((sDM σ).2.2 2 i).toInt ≤ 300000000 := by rw [sDM_at hi, ar_sub (by omega) (by omega)]; omega
    exact (ar_64sub (by omega) (by omega)).symm
  · have hwt := hv.2.1 i hi
    have fV : (sMl (sDM σ) i).toInt64 / (σ.2.2 0 i).toInt64 = (sVel (sLM (sDM σ)) i).toInt64 := by
      unfold sVel
      rw [sDL_2 hi, sDL_A σ (by decide)]
      exact (ar_64div (by omega)).symm
    rw [fV]
    unfold sDl
    rw [sDL_A σ (by decide)]
    exact mWi_lim (b := 1000000) (by rw [w8b]; decide) (by rw [wLb, w8b])
set_option maxRecDepth 20000 in
theorem lp_tE {J : ev_K} {k n : Nat} (hJ : 3 ≤ J.2.2.1) (hv : sInv σ) (hb : RBs σ) (hk : ∀ (y : Int32) (b : ev_H), y = acc32 0 (sBr1 σ) (sNm σ + 1) → LC G b A (sBS σ) nI mI → fr a0 b A (sNm σ) (sPn σ) → b.2 = some z → ev_V G l mX7_ticks J 405 [some (.ref (A 0)), none, none, none, some (.int y)] [] b k n) : ∀ (r i : Nat) (x : Int32) (y : Int32) (b : ev_H), r + i = sNm σ + 1 → x.toInt = (i : Int) → y = acc32 0 (sBr1 σ) i → LC G b A (sBSi σ i) nI mI → fr a0 b A (sNm σ) (sPn σ) → b.2 = some z → ev_V G l mX7_ticks J 337 [some (.ref (A 0)), some (.int (σ.1 0)), none, none, some (.int y), some (.int x)] [] (b) (k) (n) := by
  intro r
  induction r using Nat.strongRecOn with
  | ind r ih =>
    intro i x y b hr hx hy hB hfr hsz
    have hn : x.toInt.toNat = i := ar_nat hx
    have hmn := hv.1.nat
    have hmu : (σ.1 0).toInt = (sNm σ : Int) := hmn.1.symm
    have hmu2 : (σ.1 0).toInt = sM σ := rfl
    have z0 := ar_0
    have z1 := ar_1
    refine e_iload dX7_ticks_337 rfl ?_
    refine e_iload_n dX7_ticks_339 rfl rfl ?_
    refine e_icmp_gt (tgt := 405) dX7_ticks_340 (by decide) (fun c340 => ?_) (fun c340 => ?_)
    · obtain rfl : i = sNm σ + 1 := by omega
      exact ev_lc (hk y b hy hB hfr hsz) ⟨rfl, rfl, trivial⟩
    · have hi : i < sNm σ + 1 := by omega
      have g5 : (sBSi σ i).2.2 5 i = σ.2.2 5 i := fillTo_at i (sBr2 σ) (σ.2.2 5)
      have g4 : (sBSi σ i).2.2 4 i = σ.2.2 4 i := by show (cs_A σ 5 _).2.2 4 i = _; rw [cs_A_n _ _ (by decide)]
      have hbi := RBs_BSi hb i
      have hst := sStr_64 (σ := σ) hv.1 hb (s := i) (by omega)
      have gS : sStr (sBSi σ i) i = sStr σ i := rfl
      refine e_aload_n dX7_ticks_343 rfl rfl ?_
      refine lc_g5 hB wF_X7_19 dX7_ticks_344 ?_
      refine e_iload dX7_ticks_347 rfl ?_
      refine lc_q2 hB hx hi dX7_ticks_349 ?_
      refine e_astore dX7_ticks_350 (Nat.le_of_ble_eq_true rfl) ?_
      refine e_aload dX7_ticks_352 rfl ?_
      refine lc_s2 hB hi wF_X7_71 dX7_ticks_354 ?_
      refine e_if_ne (tgt := 399) dX7_ticks_357 (by decide) (fun c357 => ?_) (fun c357 => ?_)
      · have hno : ¬ (σ.2.2 5 i = 0 ∧ (σ.2.2 4 i ≠ 0 ∧ (σ.2.2 4 i).toInt < (sAbs (sStr σ i)).toInt)) := fun q => c357 (by rw [g5]; exact q.1)
        refine e_iinc dX7_ticks_399 rfl rfl (Nat.le_of_ble_eq_true rfl) ?_
        refine e_goto (tgt := 337) dX7_ticks_402 (by decide) ?_
        refine ev_lc (ih (r - 1) (by omega) (i + 1) _ _ _ (by omega) (ar_inc hx (by omega)) ?_ ?_ hfr hsz) ⟨rfl, rfl, rfl, rfl, trivial⟩
        · rw [hy]
          show acc32 0 (sBr1 σ) i = acc32 0 (sBr1 σ) i + sBr1 σ i
          rw [show sBr1 σ i = 0 from if_neg hno, Int32.add_zero]
        · have e : sBSi σ (i + 1) = sBSi σ i := by
            show cs_A σ 5 (fillTo (i + 1) (sBr2 σ) (σ.2.2 5)) = cs_A σ 5 (fillTo i (sBr2 σ) (σ.2.2 5))
            rw [fillTo_same i (sBr2 σ) (σ.2.2 5) (if_neg hno)]
          rw [e]; exact hB
      · have hw : σ.2.2 5 i = 0 := by rw [← g5]; exact c357
        refine e_aload dX7_ticks_360 rfl ?_
        refine lc_s1 hB hi wF_X7_109 dX7_ticks_362 ?_
        refine e_if_eq (tgt := 399) dX7_ticks_365 (by decide) (fun c365 => ?_) (fun c365 => ?_)
        · have hno : ¬ (σ.2.2 5 i = 0 ∧ (σ.2.2 4 i ≠ 0 ∧ (σ.2.2 4 i).toInt < (sAbs (sStr σ i)).toInt)) := fun q => q.2.1 (by rw [← g4]; exact c365)
          refine e_iinc dX7_ticks_399 rfl rfl (Nat.le_of_ble_eq_true rfl) ?_
          refine e_goto (tgt := 337) dX7_ticks_402 (by decide) ?_
          refine ev_lc (ih (r - 1) (by omega) (i + 1) _ _ _ (by omega) (ar_inc hx (by omega)) ?_ ?_ hfr hsz) ⟨rfl, rfl, rfl, rfl, trivial⟩
          · rw [hy]
            show acc32 0 (sBr1 σ) i = acc32 0 (sBr1 σ) i + sBr1 σ i
            rw [show sBr1 σ i = 0 from if_neg hno, Int32.add_zero]
          · have e : sBSi σ (i + 1) = sBSi σ i := by
              show cs_A σ 5 (fillTo (i + 1) (sBr2 σ) (σ.2.2 5)) = cs_A σ 5 (fillTo i (sBr2 σ) (σ.2.2 5))
              rw [fillTo_same i (sBr2 σ) (σ.2.2 5) (if_neg hno)]
            rw [e]; exact hB
        · have d365 : ¬ σ.2.2 4 i = 0 := fun q => c365 (by rw [g4]; exact q)
          refine e_aload_n dX7_ticks_368 rfl rfl ?_
          refine e_iload dX7_ticks_369 rfl ?_
          refine e_invV (mcY := 0) (msY := 0) (ct_X7_stretch hB hv hbi hx hi) vX7_stretch wM_X7_78 hB.1.1 rfl dX7_ticks_371 rfl rfl (Nat.le_of_ble_eq_true rfl) (Nat.le_trans (Nat.le_of_ble_eq_true rfl) hJ) ?_
          rintro _ _ ⟨rfl, rfl⟩
          refine e_mabsL wM_X7_112 (Nat.le_of_ble_eq_true rfl) (Nat.le_trans (Nat.le_of_ble_eq_true rfl) hJ) dX7_ticks_374 ?_
          refine e_aload dX7_ticks_377 rfl ?_
          refine lc_s1 hB hi wF_X7_109 dX7_ticks_379 ?_
          refine e_i2l dX7_ticks_382 ?_
          refine e_lcmp dX7_ticks_383 ?_
          refine e_if_gt (tgt := 390) dX7_ticks_384 (by decide) (fun c384 => ?_) (fun c384 => ?_)
          · have hyes : (σ.2.2 5 i = 0 ∧ (σ.2.2 4 i ≠ 0 ∧ (σ.2.2 4 i).toInt < (sAbs (sStr σ i)).toInt)) := ⟨hw, d365, by have q := ar_lc_gt c384; rw [gS, g4, ar_64, ar_labs (by omega)] at q; exact q⟩
            refine e_aload dX7_ticks_390 rfl ?_
            refine e_iconst (v := 1) dX7_ticks_392 (by decide) ?_
            refine lc_ws2 hB hi rfl rfl wF_X7_71 dX7_ticks_393 ?_
            intro a9 C9 f9 z9
            have fr9 := hfr.tr f9
            have sz9 := z9.trans hsz
            refine e_iinc dX7_ticks_396 rfl rfl (Nat.le_of_ble_eq_true rfl) ?_
            refine e_iinc dX7_ticks_399 rfl rfl (Nat.le_of_ble_eq_true rfl) ?_
            refine e_goto (tgt := 337) dX7_ticks_402 (by decide) ?_
            refine ev_lc (ih (r - 1) (by omega) (i + 1) _ _ _ (by omega) (ar_inc hx (by omega)) ?_ ?_ fr9 sz9) ⟨rfl, rfl, rfl, rfl, trivial⟩
            · rw [hy]
              show acc32 0 (sBr1 σ) i + Int32.ofInt 1 = acc32 0 (sBr1 σ) i + sBr1 σ i
              rw [show sBr1 σ i = 1 from if_pos hyes, ar_i1]
            · have e : cs_A (sBSi σ i) 5 (ev_u ((sBSi σ i).2.2 5) i 1) = sBSi σ (i + 1) := by
                show cs_A (cs_A σ 5 (fillTo i (sBr2 σ) (σ.2.2 5))) 5 (ev_u (fillTo i (sBr2 σ) (σ.2.2 5)) i 1) = cs_A σ 5 (fillTo (i + 1) (sBr2 σ) (σ.2.2 5))
                rw [cs_A_A, fillTo_up _ _ _ _ (if_pos hyes).symm]
              rw [← e]; exact C9
          · have hno : ¬ (σ.2.2 5 i = 0 ∧ (σ.2.2 4 i ≠ 0 ∧ (σ.2.2 4 i).toInt < (sAbs (sStr σ i)).toInt)) := fun q => by have q1 := ar_lc_le c384; have q2 := q.2.2; rw [gS, g4, ar_64, ar_labs (by omega)] at q1; omega
            refine e_goto (tgt := 399) dX7_ticks_387 (by decide) ?_
            refine e_iinc dX7_ticks_399 rfl rfl (Nat.le_of_ble_eq_true rfl) ?_
            refine e_goto (tgt := 337) dX7_ticks_402 (by decide) ?_
            refine ev_lc (ih (r - 1) (by omega) (i + 1) _ _ _ (by omega) (ar_inc hx (by omega)) ?_ ?_ hfr hsz) ⟨rfl, rfl, rfl, rfl, trivial⟩
            · rw [hy]
              show acc32 0 (sBr1 σ) i = acc32 0 (sBr1 σ) i + sBr1 σ i
              rw [show sBr1 σ i = 0 from if_neg hno, Int32.add_zero]
            · have e : sBSi σ (i + 1) = sBSi σ i := by
                show cs_A σ 5 (fillTo (i + 1) (sBr2 σ) (σ.2.2 5)) = cs_A σ 5 (fillTo i (sBr2 σ) (σ.2.2 5))
                rw [fillTo_same i (sBr2 σ) (σ.2.2 5) (if_neg hno)]
              rw [e]; exact hB
set_option maxRecDepth 20000 in
theorem lp_tP {J : ev_K} {k n : Nat} (hJ : 3 ≤ J.2.2.1) (hB : LC G b A σ nI mI) (hv : sInv σ) {y p : Int32} (hk : ∀ (i : Nat) (x : Int32), x.toInt = (i : Int) → i ≤ sPn σ → (∀ j, j < i → σ.2.2 10 j ≠ p) → (i = sPn σ ∨ (i < sPn σ ∧ σ.2.2 10 i = p)) → ev_V G l mX7_ticks J 444 [some (.ref (A 0)), none, none, none, some (.int y), some (.int p), some (.int x)] [] b k n) : ∀ (r i : Nat) (x : Int32) , r + i = sPn σ → x.toInt = (i : Int) → (∀ j, j < i → σ.2.2 10 j ≠ p) → ev_V G l mX7_ticks J 414 [some (.ref (A 0)), none, none, none, some (.int y), some (.int p), some (.int x)] [] (b) (k) (n) := by
  intro r
  induction r using Nat.strongRecOn with
  | ind r ih =>
    intro i x hr hx hno
    have hn : x.toInt.toNat = i := ar_nat hx
    have hmn := hv.1.nat
    have hmu : (σ.1 0).toInt = (sNm σ : Int) := hmn.1.symm
    have hmu2 : (σ.1 0).toInt = sM σ := rfl
    have z0 := ar_0
    have z1 := ar_1
    have hpn := hv.2.2.2.2
    have hpe : (σ.1 6).toInt = (sPn σ : Int) := by unfold sPn; omega
    refine e_iload dX7_ticks_414 rfl ?_
    refine e_aload_n dX7_ticks_416 rfl rfl ?_
    refine lc_g7 hB wF_X7_29 dX7_ticks_417 ?_
    refine lc_n4 hB hv dX7_ticks_420 ?_
    refine e_icmp_ge (tgt := 444) dX7_ticks_421 (by decide) (fun c421 => ?_) (fun c421 => ?_)
    · exact ev_lc (hk i x hx (by omega) hno (Or.inl (by omega))) ⟨rfl, rfl, rfl, rfl, trivial⟩
    · have hi : i < sPn σ := by omega
      refine e_aload_n dX7_ticks_424 rfl rfl ?_
      refine lc_g7 hB wF_X7_29 dX7_ticks_425 ?_
      refine e_iload dX7_ticks_428 rfl ?_
      refine lc_q4 hB hx hi dX7_ticks_430 ?_
      refine e_iconst (v := 0) dX7_ticks_431 (by decide) ?_
      refine lc_p hB hi ar_0 (by decide) dX7_ticks_432 ?_
      refine e_iload dX7_ticks_433 rfl ?_
      refine e_icmp_eq (tgt := 444) dX7_ticks_435 (by decide) (fun c435 => ?_) (fun c435 => ?_)
      · exact ev_lc (hk i x hx (by omega) hno (Or.inr ⟨hi, c435⟩)) ⟨rfl, rfl, rfl, rfl, trivial⟩
      · have d435 : ¬ σ.2.2 10 i = p := c435
        refine e_iinc dX7_ticks_438 rfl rfl (Nat.le_of_ble_eq_true rfl) ?_
        refine e_goto (tgt := 414) dX7_ticks_441 (by decide) ?_
        refine ev_lc (ih (r - 1) (by omega) (i + 1) _ (by omega) (ar_inc hx (by omega)) (fun j hj => ?_)) ⟨rfl, rfl, rfl, rfl, trivial⟩
        by_cases e : j = i
        · rw [e]; exact d435
        · exact hno j (by omega)
end LTK
