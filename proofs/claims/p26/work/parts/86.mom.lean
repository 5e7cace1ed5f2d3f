/-! momenta are accounted for -/
theorem accL_z (z : Int64) (f : Nat → Int64) : ∀ n, accL z f n = z + accL 0 f n
  | 0 => (Int64.add_zero z).symm
  | n + 1 => by
    show accL z f n + f n = z + (accL 0 f n + f n)
    rw [accL_z z f n, Int64.add_assoc]
theorem accL_ad {f f' g : Nat → Int64} : ∀ n, (∀ j, j < n → f' j = f j + g j) → accL 0 f' n = accL 0 f n + accL 0 g n
  | 0, _ => (Int64.add_zero 0).symm
  | n + 1, h => by
    show accL 0 f' n + f' n = (accL 0 f n + f n) + (accL 0 g n + g n)
    have := accL_ad n (fun j hj => h j (by omega))
    have := h n (by omega)
    grind
theorem accL_eq {f f' : Nat → Int64} : ∀ n, (∀ j, j < n → f' j = f j) → accL 0 f' n = accL 0 f n
  | 0, _ => rfl
  | n + 1, h => by
    show accL 0 f' n + f' n = accL 0 f n + f n
    rw [accL_eq n (fun j hj => h j (by omega)), h n (by omega)]
theorem accL_up {f f' : Nat → Int64} {j : Nat} (h : ∀ i, i ≠ j → f' i = f i) : ∀ n, j < n → accL 0 f' n = accL 0 f n + (f' j - f j)
  | 0, hj => absurd hj (Nat.not_lt_zero j)
  | n + 1, hj => by
    show accL 0 f' n + f' n = accL 0 f n + f n + (f' j - f j)
    by_cases e : j = n
    · subst e
      rw [accL_eq j (fun i hi => h i (by omega))]
      grind
    · have := accL_up h n (by omega)
      have := h n (fun q => e q.symm)
      grind
theorem accL_tel (p : Nat → Int64) : ∀ n, accL 0 (fun j => p (j + 1) - p j) n = p n - p 0
  | 0 => (Int64.sub_self (p 0)).symm
  | n + 1 => by
    show accL 0 (fun j => p (j + 1) - p j) n + (p (n + 1) - p n) = _
    have := accL_tel p n
    grind
def Dm (σ : CS) : Int64 := accL 0 (sMomL σ) (sNm σ) - (σ.2.1 0 + σ.2.1 1 + σ.2.1 2 - σ.2.1 3 - σ.2.1 4)
theorem MOM_iff (σ : CS) : MOM σ ↔ Dm σ = 0 := by
  show accL 0 (sMomL σ) (sNm σ) = σ.2.1 0 + σ.2.1 1 + σ.2.1 2 - σ.2.1 3 - σ.2.1 4 ↔ accL 0 (sMomL σ) (sNm σ) - (σ.2.1 0 + σ.2.1 1 + σ.2.1 2 - σ.2.1 3 - σ.2.1 4) = 0
  generalize accL 0 (sMomL σ) (sNm σ) = x
  generalize σ.2.1 0 + σ.2.1 1 + σ.2.1 2 - σ.2.1 3 - σ.2.1 4 = y
  exact ⟨fun h => by rw [h, Int64.sub_self], fun h => by grind⟩
theorem Dm_congr {σ τ : CS} (h0 : τ.1 0 = σ.1 0) (h1 : ∀ k, k < 5 → τ.2.1 k = σ.2.1 k) (h2 : ∀ j, j < sNm σ → τ.2.2 2 j = σ.2.2 2 j) : Dm τ = Dm σ := by
  have e : sNm τ = sNm σ := by unfold sNm; rw [h0]
  unfold Dm
  rw [e, h1 0 (by decide), h1 1 (by decide), h1 2 (by decide), h1 3 (by decide), h1 4 (by decide), accL_eq (f := sMomL σ) (f' := sMomL τ) (sNm σ) (fun j hj => by unfold sMomL; rw [h2 j hj])]
theorem Dm_TP {σ : CS} (hm : sOk σ) (hb : RBs σ) (hk : RBm 100000000 σ) : Dm (sTP σ) = Dm σ := by
  have h1 : accL 0 (sMomL (sTP σ)) (sNm σ) = accL 0 (sMomL σ) (sNm σ) + accL 0 (fun j => (sPull σ (j + 1)).toInt64 - (sPull σ j).toInt64) (sNm σ) := accL_ad _ (fun j hj => by
    show (fillTo (sNm σ) (sMom1 σ) (σ.2.2 2) j).toInt64 = _
    rw [fillTo_lt _ _ hj, (sMom1_64 hm hb hk hj).1]
    show _ = (σ.2.2 2 j).toInt64 + ((sPull σ (j + 1)).toInt64 - (sPull σ j).toInt64)
    grind)
  rw [accL_tel (fun s => (sPull σ s).toInt64)] at h1
  show accL 0 (sMomL (sTP σ)) (sNm σ) - (σ.2.1 0 - (sPull σ 0).toInt64 + (σ.2.1 1 + (sPull σ (sNm σ)).toInt64) + σ.2.1 2 - σ.2.1 3 - σ.2.1 4) = accL 0 (sMomL σ) (sNm σ) - (σ.2.1 0 + σ.2.1 1 + σ.2.1 2 - σ.2.1 3 - σ.2.1 4)
  grind
theorem Dm_giv {σ : CS} {T : Int} (hv : sInv σ) (ht : RBt T σ) (hk : RBm 140000000 σ) : ∀ d, d ≤ sIn σ → Dm (sGiv σ d) = Dm σ
  | 0, _ => rfl
  | d + 1, hd => by
    rw [← Dm_giv hv ht hk d (by omega)]
    have hin := hv.2.2.1.nat
    have hx := ht.2.1 d (by omega)
    have hi := hv.2.2.2.1 d (by omega)
    have hn := hv.1.nat
    have hb := sGiv_b ht (by decide) (by decide) hk hin.2 d (by omega)
    have k0 := sGiv_keep σ d
    have eN : sNm (sGiv σ d) = sNm σ := by unfold sNm; rw [k0.1]
    have eN1 : sNm (sGiv σ (d + 1)) = sNm σ := by unfold sNm; rw [(sGiv_keep σ (d + 1)).1]
    generalize hq : (σ.2.2 8 d).toInt.toNat = q
    have hqn : q < sNm σ := by omega
    have hbq := hb q (by rw [eN]; exact hqn)
    have m1 : ∀ j, (sGiv σ (d + 1)).2.2 2 j = ev_u ((sGiv σ d).2.2 2) q ((sGiv σ d).2.2 2 q + σ.2.2 9 d) j := fun j => by rw [← hq]; rfl
    have h1 := accL_up (f := sMomL (sGiv σ d)) (f' := sMomL (sGiv σ (d + 1))) (j := q) (fun i hi => by unfold sMomL; rw [m1, ev_u_ne _ _ hi]) (sNm σ) hqn
    have h2 : sMomL (sGiv σ (d + 1)) q = sMomL (sGiv σ d) q + (σ.2.2 9 d).toInt64 := by
      unfold sMomL; rw [m1, ev_u_self, ar_64add (by omega) (by omega)]
    show accL 0 (sMomL (sGiv σ (d + 1))) (sNm (sGiv σ (d + 1))) - ((sGiv σ d).2.1 0 + (sGiv σ d).2.1 1 + ((sGiv σ d).2.1 2 + (σ.2.2 9 d).toInt64) - (sGiv σ d).2.1 3 - (sGiv σ d).2.1 4) = accL 0 (sMomL (sGiv σ d)) (sNm (sGiv σ d)) - ((sGiv σ d).2.1 0 + (sGiv σ d).2.1 1 + (sGiv σ d).2.1 2 - (sGiv σ d).2.1 3 - (sGiv σ d).2.1 4)
    rw [eN, eN1]
    grind
theorem Dm_GI {σ : CS} {T : Int} (hv : sInv σ) (ht : RBt T σ) (hk : RBm 140000000 σ) : Dm (sGI σ) = Dm σ := by
  rw [← Dm_giv hv ht hk _ (sDue_le σ (σ.1 1))]
  exact Dm_congr (by rw [sGI_1 σ (by decide), (sGiv_keep σ _).1]) (fun k _ => by rw [sGI_J]) (fun j _ => by rw [sGI_2 σ (by decide) (by decide) (by decide)])
theorem Dm_DM {σ : CS} (hb : RBs σ) (hk : RBm 141000000 σ) : Dm (sDM σ) = Dm σ := by
  have h1 : accL 0 (sMomL σ) (sNm σ) = accL 0 (sMomL (sDM σ)) (sNm σ) + accL 0 (fun j => (sTake σ j).toInt64) (sNm σ) := accL_ad _ (fun j hj => by
    have ht := (sTake_64 hb hk (by decide) (by decide) hj).2
    have hx := hk j hj
    show (σ.2.2 2 j).toInt64 = ((sDM σ).2.2 2 j).toInt64 + (sTake σ j).toInt64
    rw [sDM_at hj, ar_64sub (by omega) (by omega)]
    grind)
  have h2 := accL_z (σ.2.1 3) (fun j => (sTake σ j).toInt64) (sNm σ)
  show accL 0 (sMomL (sDM σ)) (sNm σ) - (σ.2.1 0 + σ.2.1 1 + σ.2.1 2 - accL (σ.2.1 3) (fun j => (sTake σ j).toInt64) (sNm σ) - σ.2.1 4) = accL 0 (sMomL σ) (sNm σ) - (σ.2.1 0 + σ.2.1 1 + σ.2.1 2 - σ.2.1 3 - σ.2.1 4)
  grind
theorem RBm_DM2 {σ : CS} (hb : RBs σ) (hk : RBm 141000000 σ) : RBm 282000000 (sDM σ) := fun j hj => by
  have hj2 : j < sNm σ := hj
  have ht := (sTake_64 hb hk (by decide) (by decide) hj2).2
  have hx := hk j hj2
  rw [sDM_at hj2, ar_sub (by omega) (by omega)]
  omega
theorem Dm_LM {σ : CS} (hk : RBm 282000000 σ) : Dm (sLM σ) = Dm σ := by
  have h1 : accL 0 (sMomL σ) (sNm σ) = accL 0 (sMomL (sLM σ)) (sNm σ) + accL 0 (fun j => (σ.2.2 2 j - sMl σ j).toInt64) (sNm σ) := accL_ad _ (fun j hj => by
    have hx := hk j hj
    have hy := sMl_b σ j
    show (σ.2.2 2 j).toInt64 = ((sLM σ).2.2 2 j).toInt64 + (σ.2.2 2 j - sMl σ j).toInt64
    rw [sLM_2, fillTo_lt _ _ hj, ar_64sub (by omega) (by omega)]
    grind)
  have h2 := accL_z (σ.2.1 4) (fun j => (σ.2.2 2 j - sMl σ j).toInt64) (sNm σ)
  show accL 0 (sMomL (sLM σ)) (sNm σ) - (σ.2.1 0 + σ.2.1 1 + σ.2.1 2 - σ.2.1 3 - accL (σ.2.1 4) (fun j => (σ.2.2 2 j - sMl σ j).toInt64) (sNm σ)) = accL 0 (sMomL σ) (sNm σ) - (σ.2.1 0 + σ.2.1 1 + σ.2.1 2 - σ.2.1 3 - σ.2.1 4)
  grind
theorem sNoteF_mo (σ : CS) (p : Int32) : ∀ f k, (sNoteF σ p f k).2.1 = σ.2.1 ∧ (sNoteF σ p f k).2.2 2 = σ.2.2 2 ∧ (sNoteF σ p f k).1 0 = σ.1 0 := fun f k => ⟨(sNoteF_keep σ p f k).2.2, (sNoteF_keep σ p f k).2.1 2 (by decide) (by decide), (sNoteF_keep σ p f k).1 0 (by decide)⟩
theorem Dm_SB (τ : CS) : Dm (sBS (sSM τ)) = Dm τ := Dm_congr (σ := τ) rfl (fun _ _ => rfl) (fun _ _ => rfl)
theorem Dm_ti (τ : CS) : Dm (cs_I (sNote τ (sPat τ)) 1 ((sNote τ (sPat τ)).1 1 + 1)) = Dm τ := by
  have hn := sNoteF_mo τ (sPat τ) 32 0
  refine Dm_congr (σ := τ) ?_ (fun k _ => ?_) (fun j _ => ?_)
  · have q : ∀ v, ev_u (sNoteF τ (sPat τ) 32 0).1 1 v 0 = (sNoteF τ (sPat τ) 32 0).1 0 := fun v => ev_u_ne _ _ (by decide)
    exact (q ((sNote τ (sPat τ)).1 1 + 1)).trans hn.2.2
  · show (sNoteF τ (sPat τ) 32 0).2.1 k = _
    rw [hn.1]
  · show (sNoteF τ (sPat τ) 32 0).2.2 2 j = _
    rw [hn.2.1]
theorem Dm_tick {σ : CS} {T : Int} (hv : sInv σ) (hb : RB T σ) : Dm (sTick σ) = Dm σ := by
  have v1 := sInv_TP hv
  have bs1 : RBs (sT1 σ) := RBs_GI (σ := sTP σ) (RBs_TP hb.1)
  have bm0 : RBm 140000000 (sTP σ) := RBm_TP hv.1 hb.1 hb.2.1
  have bm1 : RBm 141000000 (sT1 σ) := RBm_GI (σ := sTP σ) hv.2.2.1 hb.2.2 bm0
  have e1 : Dm (sT1 σ) = Dm σ := (Dm_GI v1 (RBt_TP hb.2.2) bm0).trans (Dm_TP hv.1 hb.1 hb.2.1)
  have e2 : Dm (sLM (sDM (sT1 σ))) = Dm σ := (Dm_LM (RBm_DM2 bs1 bm1)).trans ((Dm_DM bs1 bm1).trans e1)
  exact (Dm_ti (sT3 σ)).trans ((Dm_SB (sLM (sDM (sT1 σ)))).trans e2)
theorem MOM_tick {σ : CS} {T : Int} (hv : sInv σ) (hb : RB T σ) (h : MOM σ) : MOM (sTick σ) := (MOM_iff _).mpr ((Dm_tick hv hb).trans ((MOM_iff _).mp h))
theorem Dm_hit {σ : CS} (hk : RBm 100000000 σ) {j : Nat} (hj : j < sNm σ) (y : Int32) : Dm (sHit σ j y) = Dm σ := by
  have hx := hk j hj
  have w : (100000000 : Int32).toInt = 100000000 := by decide +kernel
  have hy := sLim_b (x := (σ.2.2 2 j).toInt64 + y.toInt64) (b := 100000000) (by rw [w]; decide)
  rw [w] at hy
  have h1 := accL_up (f := sMomL σ) (f' := sMomL (sHit σ j y)) (j := j) (fun i hi => by
    show (ev_u (σ.2.2 2) j _ i).toInt64 = _
    rw [ev_u_ne _ _ hi]; rfl) (sNm σ) hj
  have h2 : sMomL (sHit σ j y) j = (sLim ((σ.2.2 2 j).toInt64 + y.toInt64) 100000000).toInt64 := by
    show (ev_u (σ.2.2 2) j _ j).toInt64 = _
    rw [ev_u_self]
  have h3 : (sLim ((σ.2.2 2 j).toInt64 + y.toInt64) 100000000 - σ.2.2 2 j).toInt64 = (sLim ((σ.2.2 2 j).toInt64 + y.toInt64) 100000000).toInt64 - sMomL σ j := by
    rw [ar_64sub (by omega) (by omega)]; rfl
  show accL 0 (sMomL (sHit σ j y)) (sNm σ) - (σ.2.1 0 + σ.2.1 1 + (σ.2.1 2 + (sLim ((σ.2.2 2 j).toInt64 + y.toInt64) 100000000 - σ.2.2 2 j).toInt64) - σ.2.1 3 - σ.2.1 4) = accL 0 (sMomL σ) (sNm σ) - (σ.2.1 0 + σ.2.1 1 + σ.2.1 2 - σ.2.1 3 - σ.2.1 4)
  grind
theorem MOM_hit {σ : CS} (hk : RBm 100000000 σ) {j : Nat} (hj : j < sNm σ) (y : Int32) (h : MOM σ) : MOM (sHit σ j y) := (MOM_iff _).mpr ((Dm_hit hk hj y).trans ((MOM_iff _).mp h))
theorem MOM_congr {σ τ : CS} (h0 : τ.1 0 = σ.1 0) (h1 : ∀ k, k < 5 → τ.2.1 k = σ.2.1 k) (h2 : ∀ j, j < sNm σ → τ.2.2 2 j = σ.2.2 2 j) (h : MOM σ) : MOM τ := (MOM_iff _).mpr ((Dm_congr h0 h1 h2).trans ((MOM_iff _).mp h))
theorem MOM_0 {σ : CS} (h1 : ∀ k, k < 5 → σ.2.1 k = 0) (h2 : ∀ j, j < sNm σ → σ.2.2 2 j = 0) : MOM σ := by
  have z : ∀ n, accL 0 (fun _ => (0 : Int64)) n = 0 := fun n => by
    induction n with
    | zero => rfl
    | succ n ih => show accL 0 (fun _ => (0 : Int64)) n + 0 = 0; rw [ih]; rfl
  rw [MOM_iff]
  unfold Dm
  rw [h1 0 (by decide), h1 1 (by decide), h1 2 (by decide), h1 3 (by decide), h1 4 (by decide), accL_eq (f := fun _ => 0) (f' := sMomL σ) (sNm σ) (fun j hj => by unfold sMomL; rw [h2 j hj]; decide +kernel), z]
  decide +kernel
