/-! ticks of the law's chain -/
def cD (σ : CS) (f : Nat → Int32) (A B : Nat → Int64) (i : Nat) : CS := cs_J (cs_J (cs_A σ 2 (fillTo i f (σ.2.2 2))) 3 (accL (σ.2.1 3) A i)) 4 (accL (σ.2.1 4) B i)
theorem cD_A (σ : CS) (f : Nat → Int32) (A B : Nat → Int64) (i k : Nat) : (cD σ f A B i).2.2 k = ev_u σ.2.2 2 (fillTo i f (σ.2.2 2)) k := rfl
theorem cD_J3 (σ : CS) (f : Nat → Int32) (A B : Nat → Int64) (i : Nat) : (cD σ f A B i).2.1 3 = accL (σ.2.1 3) A i := rfl
theorem cD_J4 (σ : CS) (f : Nat → Int32) (A B : Nat → Int64) (i : Nat) : (cD σ f A B i).2.1 4 = accL (σ.2.1 4) B i := rfl
theorem cD_up (σ : CS) (f : Nat → Int32) (A B : Nat → Int64) (i : Nat) : cs_A (cs_J (cs_J (cD σ f A B i) 3 ((cD σ f A B i).2.1 3 + A i)) 4 ((cD σ f A B i).2.1 4 + B i)) 2 (ev_u ((cs_J (cs_J (cD σ f A B i) 3 ((cD σ f A B i).2.1 3 + A i)) 4 ((cD σ f A B i).2.1 4 + B i)).2.2 2) i (f i)) = cD σ f A B (i + 1) := by
  refine Prod.ext rfl (Prod.ext (funext fun k => ?_) (funext fun k => ?_))
  · rw [cD_J3, cD_J4]
    show ev_u (ev_u (ev_u (ev_u σ.2.1 3 _) 4 _) 3 _) 4 _ k = ev_u (ev_u σ.2.1 3 _) 4 _ k
    unfold ev_u
    by_cases a : k = 4
    · simp only [if_pos a]; rfl
    · by_cases b : k = 3
      · simp only [if_neg a, if_pos b]; rfl
      · simp only [if_neg a, if_neg b]
  · show ev_u (cD σ f A B i).2.2 2 (ev_u ((cD σ f A B i).2.2 2) i _) k = (cD σ f A B (i + 1)).2.2 k
    rw [cD_A σ f A B (i + 1)]
    by_cases a : k = 2
    · subst a
      rw [ev_u_self, ev_u_self, cD_A, ev_u_self, fillTo_up _ _ _ _ rfl]
    · rw [ev_u_ne _ _ a, ev_u_ne _ _ a, cD_A, ev_u_ne _ _ a]
def sCi (σ : CS) (i : Nat) : CS := cD σ (sMl (sDM σ)) (fun j => (sTake σ j).toInt64) (fun j => ((sDM σ).2.2 2 j - sMl (sDM σ) j).toInt64) i
theorem sCi_A (σ : CS) (i k : Nat) : (sCi σ i).2.2 k = ev_u σ.2.2 2 (fillTo i (sMl (sDM σ)) (σ.2.2 2)) k := cD_A _ _ _ _ _ _
theorem sCi_at (σ : CS) (i : Nat) : (sCi σ i).2.2 2 i = σ.2.2 2 i := by rw [sCi_A, ev_u_self, fillTo_at]
theorem sCi_up (σ : CS) (i : Nat) : cs_A (cs_J (cs_J (sCi σ i) 3 ((sCi σ i).2.1 3 + (sTake σ i).toInt64)) 4 ((sCi σ i).2.1 4 + ((sDM σ).2.2 2 i - sMl (sDM σ) i).toInt64)) 2 (ev_u ((cs_J (cs_J (sCi σ i) 3 ((sCi σ i).2.1 3 + (sTake σ i).toInt64)) 4 ((sCi σ i).2.1 4 + ((sDM σ).2.2 2 i - sMl (sDM σ) i).toInt64)).2.2 2) i (sMl (sDM σ) i)) = sCi σ (i + 1) := by
  unfold sCi
  exact cD_up σ (sMl (sDM σ)) (fun j => (sTake σ j).toInt64) (fun j => ((sDM σ).2.2 2 j - sMl (sDM σ) j).toInt64) i
theorem sDM_at {σ : CS} {j : Nat} (h : j < sNm σ) : (sDM σ).2.2 2 j = σ.2.2 2 j - sTake σ j := by
  show fillTo (sNm σ) (fun j => σ.2.2 2 j - sTake σ j) (σ.2.2 2) j = _
  rw [fillTo_lt _ _ h]
theorem sDL_1 (σ : CS) : (sLM (sDM σ)).1 = σ.1 := rfl
theorem sDL_A (σ : CS) {k : Nat} (h : k ≠ 2) : (sLM (sDM σ)).2.2 k = σ.2.2 k := by
  show ev_u (ev_u σ.2.2 2 _) 2 _ k = _
  rw [ev_u_ne _ _ h, ev_u_ne _ _ h]
theorem sDL_2 {σ : CS} {j : Nat} (h : j < sNm σ) : (sLM (sDM σ)).2.2 2 j = sMl (sDM σ) j := by
  rw [sLM_2]
  exact fillTo_lt _ _ h
theorem sDL_J (σ : CS) : (sLM (sDM σ)).2.1 = (sCi σ (sNm σ)).2.1 := rfl
/-- behind i masses: damped, limited, shifted -/
def kaS (σ : CS) (i : Nat) : CS := cs_A (sCi σ i) 1 (fillTo i (sDl (sLM (sDM σ))) (σ.2.2 1))
theorem kaS_1 (σ : CS) (i : Nat) : (kaS σ i).1 = σ.1 := rfl
theorem kaS_J (σ : CS) (i : Nat) : (kaS σ i).2.1 = (sCi σ i).2.1 := rfl
theorem kaS_r1 (σ : CS) (i : Nat) : (kaS σ i).2.2 1 = fillTo i (sDl (sLM (sDM σ))) (σ.2.2 1) := cs_A_2 _ _ _
theorem kaS_r2 (σ : CS) (i : Nat) : (kaS σ i).2.2 2 = fillTo i (sMl (sDM σ)) (σ.2.2 2) := by
  refine (cs_A_n (sCi σ i) _ (by decide)).trans ?_
  rw [sCi_A, ev_u_self]
theorem kaS_ro (σ : CS) (i : Nat) {w : Nat} (h1 : w ≠ 1) (h2 : w ≠ 2) : (kaS σ i).2.2 w = σ.2.2 w := by
  refine (cs_A_n (sCi σ i) _ h1).trans ?_
  rw [sCi_A, ev_u_ne _ _ h2]
theorem kaS_0 (σ : CS) : vis σ (kaS σ 0) := by
  refine ⟨fun _ _ _ => rfl, fun k hk => ?_, fun w k hw hk => ?_, fun w k hw hw2 hk => ?_, fun w k hw hw2 hk => ?_⟩
  · rw [kaS_J]
    show ev_u (ev_u σ.2.1 3 (σ.2.1 3)) 4 (σ.2.1 4) k = _
    by_cases c : k = 4
    · rw [c, ev_u_self]
    · rw [ev_u_ne _ _ c]
      by_cases c2 : k = 3
      · rw [c2, ev_u_self]
      · rw [ev_u_ne _ _ c2]
  · by_cases c : w = 1
    · rw [c, kaS_r1, fillTo_0]
    · by_cases c2 : w = 2
      · rw [c2, kaS_r2, fillTo_0]
      · rw [kaS_ro σ 0 c c2]
  · rw [kaS_ro σ 0 (by omega) (by omega)]
  · rw [kaS_ro σ 0 (by omega) (by omega)]
theorem kaS_N (σ : CS) : vis (kaS σ (sNm σ)) (sSM (sLM (sDM σ))) := by
  refine ⟨fun _ _ _ => rfl, fun k hk => ?_, fun w k hw hk => ?_, fun w k hw hw2 hk => ?_, fun w k hw hw2 hk => ?_⟩
  · rw [kaS_J, ← sDL_J]; rfl
  · have hk : k < sNm σ := hk
    by_cases c : w = 1
    · rw [c, kaS_r1, fillTo_lt _ _ hk]
      have e : (sSM (sLM (sDM σ))).2.2 1 = fillTo (sNm σ) (sDl (sLM (sDM σ))) ((sLM (sDM σ)).2.2 1) := cs_A_2 _ _ _
      rw [e, fillTo_lt _ _ hk]
    · have e : (sSM (sLM (sDM σ))).2.2 w = (sLM (sDM σ)).2.2 w := cs_A_n _ _ c
      rw [e]
      by_cases c2 : w = 2
      · rw [c2, kaS_r2, fillTo_lt _ _ hk, sDL_2 hk]
      · rw [kaS_ro σ _ c c2, sDL_A σ c2]
  · have e : (sSM (sLM (sDM σ))).2.2 w = (sLM (sDM σ)).2.2 w := cs_A_n _ _ (by omega)
    rw [e, kaS_ro σ _ (by omega) (by omega), sDL_A σ (by omega)]
  · have e : (sSM (sLM (sDM σ))).2.2 w = (sLM (sDM σ)).2.2 w := cs_A_n _ _ (by omega)
    rw [e, kaS_ro σ _ (by omega) (by omega), sDL_A σ (by omega)]
/-- one mass further -/
theorem kaS_up {σ X : CS} {i : Nat} {t f g : Int32} (ht : t = sTake σ i) (hf : f = (sDM σ).2.2 2 i) (hi : i < sNm σ) (hX : X = cs_A (cs_A (cs_J (cs_A (cs_J (kaS σ i) 3 ((kaS σ i).2.1 3 + t.toInt64)) 2 (ev_u ((kaS σ i).2.2 2) i f)) 4 ((kaS σ i).2.1 4 + (f - sMl (sDM σ) i).toInt64)) 2 (ev_u (ev_u ((kaS σ i).2.2 2) i f) i (sMl (sDM σ) i))) 1 (ev_u ((kaS σ i).2.2 1) i (sDl (sLM (sDM σ)) i))) : vis X (kaS σ (i + 1)) := by
  have x1 : X.2.2 1 = ev_u ((kaS σ i).2.2 1) i (sDl (sLM (sDM σ)) i) := by rw [hX]; exact cs_A_2 _ _ _
  have x2 : X.2.2 2 = ev_u (ev_u ((kaS σ i).2.2 2) i f) i (sMl (sDM σ) i) := by rw [hX]; exact (cs_A_n _ _ (by decide)).trans (cs_A_2 _ _ _)
  have xo : ∀ w, w ≠ 1 → w ≠ 2 → X.2.2 w = (kaS σ i).2.2 w := fun w h1 h2 => by rw [hX]; exact (cs_A_n _ _ h1).trans ((cs_A_n _ _ h2).trans (cs_A_n (cs_J (kaS σ i) 3 _) _ h2))
  have xJ : X.2.1 = ev_u (ev_u (kaS σ i).2.1 3 ((kaS σ i).2.1 3 + t.toInt64)) 4 ((kaS σ i).2.1 4 + (f - sMl (sDM σ) i).toInt64) := by rw [hX]; rfl
  refine ⟨fun k _ _ => by rw [hX]; rfl, fun k hk => ?_, fun w k hw hk => ?_, fun w k hw hw2 hk => ?_, fun w k hw hw2 hk => ?_⟩
  · rw [xJ]
    by_cases c : k = 4
    · subst c; rw [ev_u_self, hf]; rfl
    · rw [ev_u_ne _ _ c]
      by_cases c2 : k = 3
      · subst c2; rw [ev_u_self, ht]; rfl
      · rw [ev_u_ne _ _ c2]
        show ev_u (ev_u σ.2.1 3 _) 4 _ k = ev_u (ev_u σ.2.1 3 _) 4 _ k
        rw [ev_u_ne _ _ c, ev_u_ne _ _ c2, ev_u_ne _ _ c, ev_u_ne _ _ c2]
  · by_cases c : w = 1
    · subst c
      rw [kaS_r1, x1, kaS_r1, fillTo_up _ _ _ _ rfl]
    · by_cases c2 : w = 2
      · subst c2
        rw [kaS_r2, x2, kaS_r2]
        by_cases c3 : k = i
        · subst c3; rw [ev_u_self, fillTo_lt _ _ (by omega)]
        · rw [ev_u_ne _ _ c3, ev_u_ne _ _ c3]
          show (if k < i + 1 then _ else _) = (if k < i then _ else _)
          by_cases c4 : k < i
          · rw [if_pos c4, if_pos (by omega)]
          · rw [if_neg c4, if_neg (by omega)]
      · rw [kaS_ro σ _ c c2, xo w c c2, kaS_ro σ _ c c2]
  · rw [kaS_ro σ _ (by omega) (by omega), xo w (by omega) (by omega), kaS_ro σ _ (by omega) (by omega)]
  · rw [kaS_ro σ _ (by omega) (by omega), xo w (by omega) (by omega), kaS_ro σ _ (by omega) (by omega)]
theorem lcI_mt {A : Nat → Nat} {q0 : Nat} {g : Nat → Nat} {m p q : Nat} (hm : m ≤ 12) : mtA (lcI A q0 g) m p q ↔ mtA A m p q := by
  have e : ∀ i, i ≠ 3 → (i < 50 ∨ 70 ≤ i) → lcI A q0 g i = A i := fun i h1 h2 => lcI_o A q0 g h1 h2
  constructor
  · rintro (rfl | rfl | ⟨k, hk, rfl⟩ | ⟨k, hk, rfl⟩ | ⟨k, hk, rfl⟩)
    · exact Or.inl (e 0 (by omega) (by omega))
    · exact Or.inr (Or.inl (e 5 (by omega) (by omega)))
    · exact Or.inr (Or.inr (Or.inl ⟨k, hk, e _ (by omega) (by omega)⟩))
    · exact Or.inr (Or.inr (Or.inr (Or.inl ⟨k, hk, e _ (by omega) (by omega)⟩)))
    · exact Or.inr (Or.inr (Or.inr (Or.inr ⟨k, hk, e _ (by omega) (by omega)⟩)))
  · rintro (rfl | rfl | ⟨k, hk, rfl⟩ | ⟨k, hk, rfl⟩ | ⟨k, hk, rfl⟩)
    · exact Or.inl (e 0 (by omega) (by omega)).symm
    · exact Or.inr (Or.inl (e 5 (by omega) (by omega)).symm)
    · exact Or.inr (Or.inr (Or.inl ⟨k, hk, (e _ (by omega) (by omega)).symm⟩))
    · exact Or.inr (Or.inr (Or.inr (Or.inl ⟨k, hk, (e _ (by omega) (by omega)).symm⟩)))
    · exact Or.inr (Or.inr (Or.inr (Or.inr ⟨k, hk, (e _ (by omega) (by omega)).symm⟩)))
section LTK
variable {G : ev_G} {l : Launch} {a a0 : ev_H} {A : Nat → Nat} {σ τ : CS} {nI z : Nat} {mI : Nat → TI} {T : Int}
set_option maxRecDepth 20000 in
theorem lp_tA {J : ev_K} {k n : Nat} (hJ : 2 ≤ J.2.2.1) (hC : LC G a A σ nI mI) (hv : sInv σ) (hb : RBs σ) (ht : ∀ (q : Nat) (e : va_E), a.1 q = some e → q < z) (hk : ∀ F : Nat → Int64, (∀ s, s < sNm σ + 1 → F s = (sPull σ s).toInt64) → ev_V G l mX7_ticks J 33 [some (.ref (A 0)), some (.int (σ.1 0)), some (.ref z)] [] (ev_new a z (.inl (G.2.1 1, sNm σ + 1, .inr (.inl F)))) k n) : ∀ (r i : Nat) (x : Int32) (F : Nat → Int64), r + i = sNm σ + 1 → x.toInt = (i : Int) → (∀ s, s < i → F s = (sPull σ s).toInt64) → ev_V G l mX7_ticks J 14 [some (.ref (A 0)), some (.int (σ.1 0)), some (.ref z), some (.int x)] [] (ev_new a z (.inl (G.2.1 1, sNm σ + 1, .inr (.inl F)))) k n := by
  intro r
  induction r using Nat.strongRecOn with
  | ind r ih =>
    intro i x F hr hx hF
    have hn : x.toInt.toNat = i := ar_nat hx
    have hmn := hv.1.nat
    have hmu : (σ.1 0).toInt = (sNm σ : Int) := hmn.1.symm
    have hmu2 : (σ.1 0).toInt = sM σ := rfl
    have z0 := ar_0
    have z1 := ar_1
    have hC1 : LC G (ev_new a z (.inl (G.2.1 1, sNm σ + 1, .inr (.inl F)))) A σ nI mI := hC.mono (sub.new _ ht)
    refine e_iload_n dX7_ticks_14 rfl rfl ?_
    refine e_iload_n dX7_ticks_15 rfl rfl ?_
    refine e_icmp_gt (tgt := 33) dX7_ticks_16 (by decide) (fun c16 => ?_) (fun c16 => ?_)
    · obtain rfl : i = sNm σ + 1 := by omega
      exact ev_lc (hk F hF) ⟨rfl, rfl, rfl, trivial⟩
    · have hi : i < sNm σ + 1 := by omega
      refine e_aload_n dX7_ticks_19 rfl rfl ?_
      refine e_iload_n dX7_ticks_20 rfl rfl ?_
      refine e_aload_n dX7_ticks_21 rfl rfl ?_
      refine e_iload_n dX7_ticks_22 rfl rfl ?_
      refine e_invV (mcY := 0) (msY := 0) (ct_X7_pull hC1 hv hb hx hi) vX7_pull wM_X7_84 hC1.1.1 rfl dX7_ticks_23 rfl rfl (Nat.le_of_ble_eq_true rfl) (Nat.le_trans (Nat.le_of_ble_eq_true rfl) hJ) ?_
      rintro _ _ ⟨rfl, rfl⟩
      refine e_last (new_eq _ _ _) (by omega) (by omega) dX7_ticks_26 ?_
      rw [new_put, hn]
      refine e_iinc dX7_ticks_27 rfl rfl (Nat.le_of_ble_eq_true rfl) ?_
      refine e_goto (tgt := 14) dX7_ticks_30 (by decide) ?_
      refine ih (r - 1) (by omega) (i + 1) _ _ (by omega) (ar_inc hx (by omega)) (fun s hs => ?_)
      by_cases e : s = i
      · rw [e, ev_u_self]
      · rw [ev_u_ne _ _ e]
        exact hF s (by omega)
set_option maxRecDepth 20000 in
theorem pull_at {G : ev_G} {l : Launch} {M : ev_M} {J : ev_K} {pc k n : Nat} {L : List (Option Value)} {st : List Value} {b : ev_H} {N j : Nat} {F : Nat → Int64} {x : Int32} {v : Int64} (hp : b.1 z = some (.inl (G.2.1 1, N, .inr (.inl F)))) (hx : x.toInt = (j : Int)) (hj : j < N) (hv : F j = v) (hd : decode M.2.1 pc = .ok (.laload, 1)) (h : ev_V G l M J (pc + 1) L (.long v :: st) b k n) : ev_V G l M J pc L (.int x :: .ref z :: st) b k n := by
  subst hv
  refine e_lald hp (by omega) (by omega) hd ?_
  rw [ar_nat hx]
  exact h
set_option maxRecDepth 20000 in
theorem lp_tB {J : ev_K} {k n : Nat} (hJ : 3 ≤ J.2.2.1) (hv : sInv σ) (hb : RBs σ) (hbm : RBm 100000000 σ) {F : Nat → Int64} (hF : ∀ s, s < sNm σ + 1 → F s = (sPull σ s).toInt64) (nz : ¬ mtA A (sNm σ) (sPn σ) z) (hk : ∀ b : ev_H, LC G b A (cs_A (cs_J (cs_J σ 0 (σ.2.1 0 - (sPull σ 0).toInt64)) 1 (σ.2.1 1 + (sPull σ (sNm σ)).toInt64)) 2 (fillTo (sNm σ) (sMom1 σ) (σ.2.2 2))) nI mI → fr a b A (sNm σ) (sPn σ) → b.2 = some (z + 1) → ev_V G l mX7_ticks J 93 [some (.ref (A 0)), some (.int (σ.1 0))] [] b k n) : ∀ (r i : Nat) (x : Int32) (b : ev_H), r + i = sNm σ → x.toInt = (i : Int) → LC G b A (cs_A (cs_J (cs_J σ 0 (σ.2.1 0 - (sPull σ 0).toInt64)) 1 (σ.2.1 1 + (sPull σ (sNm σ)).toInt64)) 2 (fillTo i (sMom1 σ) (σ.2.2 2))) nI mI → b.1 z = some (.inl (G.2.1 1, sNm σ + 1, .inr (.inl F))) → fr a b A (sNm σ) (sPn σ) → b.2 = some (z + 1) → ev_V G l mX7_ticks J 59 [some (.ref (A 0)), some (.int (σ.1 0)), some (.ref z), some (.int x)] [] (b) (k) (n) := by
  intro r
  induction r using Nat.strongRecOn with
  | ind r ih =>
    intro i x b hr hx hB hp hfr hsz
    have hn : x.toInt.toNat = i := ar_nat hx
    have hmn := hv.1.nat
    have hmu : (σ.1 0).toInt = (sNm σ : Int) := hmn.1.symm
    have hmu2 : (σ.1 0).toInt = sM σ := rfl
    have z0 := ar_0
    have z1 := ar_1
    have fB : (cs_A (cs_J (cs_J σ 0 (σ.2.1 0 - (sPull σ 0).toInt64)) 1 (σ.2.1 1 + (sPull σ (sNm σ)).toInt64)) 2 (fillTo i (sMom1 σ) (σ.2.2 2))).2.2 2 i = σ.2.2 2 i := fillTo_at i (sMom1 σ) (σ.2.2 2)
    refine e_iload_n dX7_ticks_59 rfl rfl ?_
    refine e_iload_n dX7_ticks_60 rfl rfl ?_
    refine e_icmp_ge (tgt := 93) dX7_ticks_61 (by decide) (fun c61 => ?_) (fun c61 => ?_)
    · obtain rfl : i = sNm σ := by omega
      exact ev_lc (hk b hB hfr hsz) ⟨rfl, rfl, trivial⟩
    · have hi : i < sNm σ := by omega
      have hx1 : (x + 1).toInt = ((i + 1 : Nat) : Int) := by have := ar_inc hx (by omega); rwa [ar_i1] at this
      have fM : (σ.2.2 2 i).toInt64 + ((sPull σ (i + 1)).toInt64 - (sPull σ i).toInt64) = (sMom1 σ i).toInt64 := by rw [(sMom1_64 hv.1 hb hbm hi).1, Int64.sub_eq_add_neg, Int64.sub_eq_add_neg, Int64.add_assoc]
      refine e_aload_n dX7_ticks_64 rfl rfl ?_
      refine lc_g4 hB wF_X7_10 dX7_ticks_65 ?_
      refine e_iload_n dX7_ticks_68 rfl rfl ?_
      refine lc_q1 hB hx hi dX7_ticks_69 ?_
      refine e_dup dX7_ticks_70 rfl ?_
      refine lc_m2 hB hi wF_X7_87 dX7_ticks_71 ?_
      refine e_aload_n dX7_ticks_74 rfl rfl ?_
      refine e_iload_n dX7_ticks_75 rfl rfl ?_
      refine e_iconst (v := 1) dX7_ticks_76 (by decide) ?_
      refine e_iadd dX7_ticks_77 ?_
      refine pull_at hp hx1 (by omega) (hF _ (by omega)) dX7_ticks_78 ?_
      refine e_aload_n dX7_ticks_79 rfl rfl ?_
      refine e_iload_n dX7_ticks_80 rfl rfl ?_
      refine pull_at hp hx (by omega) (hF _ (by omega)) dX7_ticks_81 ?_
      refine e_lsub dX7_ticks_82 ?_
      refine e_ladd dX7_ticks_83 ?_
      refine lc_wm2 hB hi (by rw [fB]; exact fM) wF_X7_87 dX7_ticks_84 ?_
      intro a1 C1 f1 z1
      have fr1 := hfr.tr f1
      have sz1 := z1.trans hsz
      have hp1 := f1 _ _ hp nz
      refine e_iinc dX7_ticks_87 rfl rfl (Nat.le_of_ble_eq_true rfl) ?_
      refine e_goto (tgt := 59) dX7_ticks_90 (by decide) ?_
      refine ih (r - 1) (by omega) (i + 1) _ _ (by omega) (ar_inc hx (by omega)) ?_ hp1 fr1 sz1
      have e : cs_A (cs_A (cs_J (cs_J σ 0 (σ.2.1 0 - (sPull σ 0).toInt64)) 1 (σ.2.1 1 + (sPull σ (sNm σ)).toInt64)) 2 (fillTo i (sMom1 σ) (σ.2.2 2))) 2 (ev_u ((cs_A (cs_J (cs_J σ 0 (σ.2.1 0 - (sPull σ 0).toInt64)) 1 (σ.2.1 1 + (sPull σ (sNm σ)).toInt64)) 2 (fillTo i (sMom1 σ) (σ.2.2 2))).2.2 2) i (sMom1 σ i)) = cs_A (cs_J (cs_J σ 0 (σ.2.1 0 - (sPull σ 0).toInt64)) 1 (σ.2.1 1 + (sPull σ (sNm σ)).toInt64)) 2 (fillTo (i + 1) (sMom1 σ) (σ.2.2 2)) := by
        show cs_A (cs_A (cs_J (cs_J σ 0 (σ.2.1 0 - (sPull σ 0).toInt64)) 1 (σ.2.1 1 + (sPull σ (sNm σ)).toInt64)) 2 (fillTo i (sMom1 σ) (σ.2.2 2))) 2 (ev_u (fillTo i (sMom1 σ) (σ.2.2 2)) i (sMom1 σ i)) = _
        rw [cs_A_A, fillTo_up _ _ _ _ rfl]
      rw [← e]
      exact C1
end LTK
