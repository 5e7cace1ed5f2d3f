/-! the reader: a whole setup; load -/
def rU (b : Nat) (S : SS) (x : Int32) : SS := ss_I (ss_I (ss_I (ss_I (ss_T (ss_I (ss_T S 0 (some (b + 1))) 6 x) 1 (some (sc b 1))) 7 0) 4 0) 5 (-1)) 9 0
def rC (U : SS) (i : Nat) : SS := ss_R (ss_R U 1 (fillTo i (fun _ => 0) (U.2.1 1))) 2 (fillTo i (fun _ => 0) (U.2.1 2))
theorem rC_0 (U : SS) : rC U 0 = U := by
  unfold rC ss_R
  rw [fillTo_0, fillTo_0]
  refine Prod.ext rfl (Prod.ext (funext fun j => ?_) rfl)
  show ev_u (ev_u U.2.1 1 (U.2.1 1)) 2 (U.2.1 2) j = U.2.1 j
  unfold ev_u
  by_cases c : j = 2
  · simp [c]
  · by_cases d : j = 1
    · simp [d]
    · simp [c, d]
theorem rC_up (U : SS) (i : Nat) : ss_R (ss_R (rC U i) 1 (ev_u ((rC U i).2.1 1) i 0)) 2 (ev_u ((ss_R (rC U i) 1 (ev_u ((rC U i).2.1 1) i 0)).2.1 2) i 0) = rC U (i + 1) := by
  have e1 : (rC U i).2.1 1 = fillTo i (fun _ => 0) (U.2.1 1) := rfl
  have e2 : (ss_R (rC U i) 1 (ev_u ((rC U i).2.1 1) i 0)).2.1 2 = fillTo i (fun _ => 0) (U.2.1 2) := rfl
  rw [e2, e1, fillTo_up i _ _ 0 rfl, fillTo_up i _ _ 0 rfl]
  refine Prod.ext rfl (Prod.ext (funext fun j => ?_) rfl)
  show ev_u (ev_u (ev_u (ev_u U.2.1 1 _) 2 _) 1 _) 2 _ j = ev_u (ev_u U.2.1 1 _) 2 _ j
  unfold ev_u
  by_cases c : j = 2
  · simp [c]
  · by_cases d : j = 1
    · simp [d]
    · simp [c, d]
theorem pHd_0 {B : Nat → Int32} {n p : Nat} (hB : ∀ k, n ≤ k → B k = -1) (h : (pHd B n p).1 = 0) : (pHd B n p).2.1 ≤ n ∧ 1 ≤ (pHd B n p).2.2 ∧ (pHd B n p).2.2 ≤ 12 := by
  unfold pHd at h ⊢
  cases hw : wB B 1 (sk B n p) with
  | false => rw [hw] at h; exact absurd h (show ¬ (2 : Nat) = 0 by decide)
  | true =>
    rw [hw] at h
    rw [cond_true] at h ⊢
    have h5 := wAt_n hB (wB_iff.mp hw) (by decide)
    change sk B n p + 5 ≤ n at h5
    by_cases c : (pN B n 1 12 (sk B n p + 5)).1 = 0
    · rw [if_pos c] at h ⊢
      have f := pN_0 hB h5 c
      by_cases d : B (sk B n (pN B n 1 12 (sk B n p + 5)).2.1) = 59
      · rw [if_pos d]
        have hlt : sk B n (pN B n 1 12 (sk B n p + 5)).2.1 < n := Nat.lt_of_not_le fun c2 => by rw [hB _ c2] at d; exact absurd d (by decide)
        exact ⟨hlt, f.2.2.1, f.2.2.2⟩
      · rw [if_neg d] at h; exact absurd h (show ¬ (2 : Nat) = 0 by decide)
    · rw [if_neg c] at h; exact absurd h c
def pAll (b : Nat) (S : SS) (n : Nat) : Nat × Nat × SS :=
  if (pHd (tB (S.2.1 0) n) n 0).1 = 0 then pRun n 500 (ss_C (rC (rU b S (Int32.ofNat n)) 12) 1 (sBeg (S.2.2.2 1) (Int32.ofInt (pHd (tB (S.2.1 0) n) n 0).2.2))) (pHd (tB (S.2.1 0) n) n 0).2.1 else ((pHd (tB (S.2.1 0) n) n 0).1, (pHd (tB (S.2.1 0) n) n 0).2.1, rC (rU b S (Int32.ofNat n)) 12)
def oA (G : ev_G) (b : Nat) (U : SS) (h : ev_H) (A : Nat × Nat × SS) (c : Option Value) (a : ev_H) : Prop := (A.1 = 0 ∧ c = some (.int 1) ∧ (∃ w, a = sy G b (rS A.2.2 A.2.1 w) h) ∧ kp U A.2.2 ∧ sInv (A.2.2.2.2.2 1)) ∨ (A.1 ≠ 0 ∧ c = some (.int 0) ∧ FR G b U h A.1 A.2.1 a)
section RD9
variable {G : ev_G} {l : Launch} {M : ev_M} {J : ev_K} {pc k m idx : Nat} {L : List (Option Value)} {st : List Value} {b n p q j : Nat} {S : SS} {h : ev_H} {x y z v : Int32} {lo hi : Int}
set_option maxRecDepth 20000 in
theorem lp_clr {J : ev_K} {k m : Nat} {U : SS} {x0 : Int32} (hk : ev_V G l mX5_readSetup J 80 [some (.ref (b + 2))] [] (sy G b (rC U 12) h) k m) : ∀ (r i : Nat) (x : Int32), r + i = 12 → x.toInt = (i : Int) → ev_V G l mX5_readSetup J 51 [some (.ref (b + 2)), none, none, none, some (.int x)] [] (sy G b (rC U i) h) k m := by
  have w12 := ar_12
  intro r
  induction r with
  | zero =>
    intro i x hr hx
    have hi : i = 12 := by omega
    subst hi
    refine e_iload dX5_readSetup_51 rfl ?_
    refine e_bipush (v := 12) dX5_readSetup_53 (by decide) ?_
    refine e_icmp_ge (tgt := 80) dX5_readSetup_55 (by decide) (fun i55 => ?_) (fun i55 => ?_)
    · exact ev_lc hk ⟨rfl, trivial⟩
    · omega
  | succ r ih =>
    intro i x hr hx
    have hn : x.toInt.toNat = i := ar_nat hx
    refine e_iload dX5_readSetup_51 rfl ?_
    refine e_bipush (v := 12) dX5_readSetup_53 (by decide) ?_
    refine e_icmp_ge (tgt := 80) dX5_readSetup_55 (by decide) (fun i55 => ?_) (fun i55 => ?_)
    · omega
    · refine e_aload_n dX5_readSetup_58 rfl rfl ?_
      refine sy_g5_8 wF_X5_9 dX5_readSetup_59 ?_
      refine e_iload dX5_readSetup_62 rfl ?_
      refine e_iconst (v := 0) dX5_readSetup_64 (by decide) ?_
      refine sy_s3 (by omega) (by omega) dX5_readSetup_65 ?_
      refine e_aload_n dX5_readSetup_66 rfl rfl ?_
      refine sy_g5_9 wF_X5_15 dX5_readSetup_67 ?_
      refine e_iload dX5_readSetup_70 rfl ?_
      refine e_iconst (v := 0) dX5_readSetup_72 (by decide) ?_
      refine sy_s4 (by omega) (by omega) dX5_readSetup_73 ?_
      refine e_iinc dX5_readSetup_74 rfl rfl (Nat.le_of_ble_eq_true rfl) ?_
      refine e_goto (tgt := 51) dX5_readSetup_77 (by decide) ?_
      refine ev_as ?_ (ev_lc (ih (i + 1) _ (by omega) (ar_inc hx (by omega))) ⟨rfl, rfl, trivial⟩)
      rw [hn, show vp_nar .boolean 0 = 0 by decide +kernel, ← rC_up U i]
set_option maxRecDepth 20000 in
theorem ct_X5_readSetup (hn : n ≤ 500) (hx : x = Int32.ofNat n) : ev_Ct G l mX5_readSetup 10 0 0 [.ref (b + 2), .ref (b + 1), .int x, .ref (sc b 1)] (sy G b S h) (fun c a => oA G b (rC (rU b S (Int32.ofNat n)) 12) h (pAll b S n) c a) (fun _ _ => False) := by
  refine ev_Ct.of (by decide +kernel) (Nat.le_of_ble_eq_true rfl) ?_
  subst hx
  have hx1 := ar_of (n := n) (by omega)
  have w500 : (500 : Int32).toInt = 500 := by decide +kernel
  have hmin : (if (500 : Int32) < Int32.ofNat n then 500 else Int32.ofNat n) = Int32.ofNat n := by
    rw [if_neg]
    intro q
    have := ev_lt32.mp q
    omega
  refine e_aload_n dX5_readSetup_0 rfl rfl ?_
  refine e_aload_n dX5_readSetup_1 rfl rfl ?_
  refine sy_p5_2 wF_X5_22 dX5_readSetup_2 ?_
  refine e_aload_n dX5_readSetup_5 rfl rfl ?_
  refine e_aload_n dX5_readSetup_6 rfl rfl ?_
  refine e_ifnonnull (tgt := 14) dX5_readSetup_7 (by decide) ?_
  refine e_iload_n dX5_readSetup_14 rfl rfl ?_
  refine e_aload_n dX5_readSetup_15 rfl rfl ?_
  refine sy_n1 (v := 500) (by decide +kernel) dX5_readSetup_16 ?_
  refine e_mmin wM_X5_26 (Nat.le_of_ble_eq_true rfl) (Nat.le_of_ble_eq_true rfl) dX5_readSetup_17 ?_
  rw [hmin]
  refine sy_p5_3 wF_X5_32 dX5_readSetup_20 ?_
  refine e_aload_n dX5_readSetup_23 rfl rfl ?_
  refine e_aload_n dX5_readSetup_24 rfl rfl ?_
  refine sy_p5_6 wF_X5_35 dX5_readSetup_25 ?_
  refine e_aload_n dX5_readSetup_28 rfl rfl ?_
  refine e_iconst (v := 0) dX5_readSetup_29 (by decide) ?_
  refine sy_p5_4 wF_X5_39 dX5_readSetup_30 ?_
  refine e_aload_n dX5_readSetup_33 rfl rfl ?_
  refine e_iconst (v := 0) dX5_readSetup_34 (by decide) ?_
  refine sy_p5_0 wF_X5_42 dX5_readSetup_35 ?_
  refine e_aload_n dX5_readSetup_38 rfl rfl ?_
  refine e_iconst (v := (-1)) dX5_readSetup_39 (by decide) ?_
  refine sy_p5_1 wF_X5_18 dX5_readSetup_40 ?_
  refine e_aload_n dX5_readSetup_43 rfl rfl ?_
  refine e_iconst (v := 0) dX5_readSetup_44 (by decide) ?_
  refine sy_p5_7_0 wF_X5_45 dX5_readSetup_45 ?_
  refine e_iconst (v := 0) dX5_readSetup_48 (by decide) ?_
  refine e_istore dX5_readSetup_49 (Nat.le_of_ble_eq_true rfl) ?_
  refine ev_loc (L' := [some (.ref (b + 2)), none, none, none, some (.int 0)]) ⟨rfl, rfl, trivial⟩ ?_
  refine ev_as (a' := sy G b (rC (rU b S (Int32.ofNat n)) 0) h) (by rw [rC_0]; rfl) ?_
  refine lp_clr (x0 := 0) ?_ 12 0 _ (by omega) ar_0
  have hO : rOk b (rC (rU b S (Int32.ofNat n)) 12) n := ⟨rfl, hn, rfl, rfl⟩
  refine ev_as (a' := sy G b (rS (rC (rU b S (Int32.ofNat n)) 12) 0 ((rC (rU b S (Int32.ofNat n)) 12).1 8)) h) (by rw [rS_self (S := rC (rU b S (Int32.ofNat n)) 12) (p := 0) rfl]) ?_
  refine e_aload_n dX5_readSetup_80 rfl rfl ?_
  refine rS_g6 hO wF_X5_35 dX5_readSetup_81 ?_
  refine e_ifnull dX5_readSetup_84 ?_
  refine e_aload_n dX5_readSetup_87 rfl rfl ?_
  refine e_invV (mcY := 0) (msY := 0) (ct_X5_readHead (n := n) hO (Nat.zero_le _)) vX5_readHead wM_X5_49 (sy_at G b _ h 2 (by decide)) rfl dX5_readSetup_88 rfl rfl (Nat.le_of_ble_eq_true rfl) (Nat.le_of_ble_eq_true rfl) ?_
  rintro c a hc
  have hc2 : oH G b (rC (rU b S (Int32.ofNat n)) 12) h (pHd (tB (S.2.1 0) n) n 0) c a := hc
  rcases hc2 with ⟨r0, rfl, w, rfl⟩ | ⟨r0, rfl, hf⟩
  · have f0 := pHd_0 tbB r0
    have e0 : pAll b S n = pRun n 500 (ss_C (rC (rU b S (Int32.ofNat n)) 12) 1 (sBeg (S.2.2.2 1) (Int32.ofInt (pHd (tB (S.2.1 0) n) n 0).2.2))) (pHd (tB (S.2.1 0) n) n 0).2.1 := if_pos r0
    refine e_if_ne (tgt := 96) dX5_readSetup_91 (by decide) (fun i91 => ?_) (fun i91 => ?_)
    · refine e_iconst (v := 0) dX5_readSetup_96 (by decide) ?_
      refine e_istore dX5_readSetup_97 (Nat.le_of_ble_eq_true rfl) ?_
      refine ev_loc (L' := [some (.ref (b + 2)), none, none, none, some (.int 0)]) ⟨rfl, rfl, trivial⟩ ?_
      have hkk : kp (rC (rU b S (Int32.ofNat n)) 12) (ss_C (rC (rU b S (Int32.ofNat n)) 12) 1 (sBeg (S.2.2.2 1) (Int32.ofInt (pHd (tB (S.2.1 0) n) n 0).2.2))) := kp_C _ _
      have hss : sInv ((ss_C (rC (rU b S (Int32.ofNat n)) 12) 1 (sBeg (S.2.2.2 1) (Int32.ofInt (pHd (tB (S.2.1 0) n) n 0).2.2))).2.2.2 1) := sInv_beg _ (by rw [ar_ofI (by omega) (by omega)]; exact f0.2.1) (by rw [ar_ofI (by omega) (by omega)]; exact f0.2.2)
      refine lp_run (Nat.le_of_ble_eq_true rfl) (R := pAll b S n) (S0 := (rC (rU b S (Int32.ofNat n)) 12)) (n := n) (fun d0 d1 d2 x => ?_) (fun d0 a d1 => Or.inr (by exact ⟨d0, rfl, d1⟩)) 500 0 _ _ _ _ (by omega) ar_0 (Nat.zero_le _) f0.1 (rOk_kp hkk hO) hkk hss e0.symm
      refine e_iconst (v := 1) dX5_readSetup_138 (by decide) ?_
      exact e_zret (ty := .boolean) rfl rfl dX5_readSetup_139 (Or.inl (by exact ⟨d0, rfl, ⟨x, rfl⟩, d1, d2⟩))
    · first | exact absurd i91 (by decide) | exact absurd rfl i91
  · have e0 : pAll b S n = ((pHd (tB (S.2.1 0) n) n 0).1, (pHd (tB (S.2.1 0) n) n 0).2.1, (rC (rU b S (Int32.ofNat n)) 12)) := if_neg r0
    refine e_if_ne (tgt := 96) dX5_readSetup_91 (by decide) (fun i91 => ?_) (fun i91 => ?_)
    · first | exact absurd i91 (by decide) | exact absurd rfl i91
    · refine e_iconst (v := 0) dX5_readSetup_94 (by decide) ?_
      exact e_zret (ty := .boolean) rfl rfl dX5_readSetup_95 (by rw [e0]; exact Or.inr (by exact ⟨r0, rfl, hf⟩))
end RD9
