/-! the reader: the head, all statements -/
def kp (S U : SS) : Prop := (∀ k, k ≠ 9 → U.1 k = S.1 k) ∧ U.2.1 0 = S.2.1 0 ∧ U.2.2.1 = S.2.2.1 ∧ ∀ i, i ≠ 1 → U.2.2.2 i = S.2.2.2 i
theorem kp.rfl' (S : SS) : kp S S := ⟨fun _ _ => rfl, rfl, rfl, fun _ _ => rfl⟩
theorem kp.trans {S U V : SS} (h : kp S U) (g : kp U V) : kp S V := ⟨fun k hk => (g.1 k hk).trans (h.1 k hk), g.2.1.trans h.2.1, g.2.2.1.trans h.2.2.1, fun i hi => (g.2.2.2 i hi).trans (h.2.2.2 i hi)⟩
theorem FR_kp {G : ev_G} {b : Nat} {S U : SS} {h : ev_H} {c q : Nat} {a : ev_H} (k : kp S U) (f : FR G b U h c q a) : FR G b S h c q a := by
  obtain ⟨V, f1, f2, f3, f4, f5, f6, f7⟩ := f
  exact ⟨V, f1, f2, f3, fun j hj => (f4 j hj).trans (k.1 j (by omega)), f5.trans k.2.1, f6.trans k.2.2.1, fun i hi => (f7 i hi).trans (k.2.2.2 i hi)⟩
theorem kp_C (S : SS) (τ : CS) : kp S (ss_C S 1 τ) := ⟨fun _ _ => rfl, rfl, rfl, fun _ hi => ev_u_ne _ _ hi⟩
theorem kp_I (S : SS) (x : Int32) : kp S (ss_I S 9 x) := ⟨fun _ hk => ev_u_ne _ _ hk, rfl, rfl, fun _ _ => rfl⟩
theorem kp_R (S : SS) {i : Nat} (f : Nat → Int32) (hi : i ≠ 0) : kp S (ss_R S i f) := ⟨fun _ _ => rfl, ev_u_ne _ _ (Ne.symm hi), rfl, fun _ _ => rfl⟩
theorem kp_aS (r : Nat × Int × Int × Int) (S : SS) : kp S (aS r S) := by
  unfold aS
  split
  · exact kp_C _ _
  split
  · exact kp_C _ _
  split
  · exact kp_C _ _
  split
  · exact kp_C _ _
  split
  · exact (kp_I S 1).trans (kp_C _ _)
  split
  · exact (kp_R S _ (by decide)).trans (kp_C _ _)
  split
  · exact (kp_R S _ (by decide)).trans (kp_C _ _)
  split
  · exact kp_C _ _
  · exact kp_C _ _
theorem rOk_kp {b n : Nat} {S U : SS} (k : kp S U) (hO : rOk b S n) : rOk b U n := ⟨(k.1 6 (by decide)).trans hO.1, hO.2.1, by rw [k.2.2.1]; exact hO.2.2.1, by rw [k.2.2.1]; exact hO.2.2.2⟩
theorem aS_inv {S : SS} {r : Nat × Int × Int × Int} (hd : sInv (S.2.2.2 1)) (ok : okA (sM (S.2.2.2 1)) ((S.2.2.2 1).1 5).toInt r) : sInv ((aS r S).2.2.2 1) := by
  have m1 : 1 ≤ sM (S.2.2.2 1) := hd.1.1
  have m2 : sM (S.2.2.2 1) ≤ 12 := hd.1.2
  obtain ⟨k, a, b, c⟩ := r
  rcases ok with ⟨rfl, h1, h2, h3, h4⟩ | ⟨rfl, h3, h4⟩ | ⟨rfl, h1⟩ | ⟨rfl, h1⟩ | ⟨rfl, h1⟩ | ⟨rfl, h1⟩ | ⟨rfl, h1⟩ | ⟨rfl, h1⟩ | ⟨rfl, h1, h2, h3, h4, h5, h6⟩
  · have e : (aS (0, a, b, c) S).2.2.2 1 = cs_A (S.2.2.2 1) 0 (ev_u ((S.2.2.2 1).2.2 0) a.toNat (Int32.ofInt b)) := rfl
    rw [e]
    refine ⟨hd.1, ?_, hd.2.2⟩
    intro j hj
    have e2 : (cs_A (S.2.2.2 1) 0 (ev_u ((S.2.2.2 1).2.2 0) a.toNat (Int32.ofInt b))).2.2 0 j = ev_u ((S.2.2.2 1).2.2 0) a.toNat (Int32.ofInt b) j := rfl
    rw [e2]
    by_cases q : j = a.toNat
    · subst q
      change 1 ≤ b at h3
      change b ≤ 99 at h4
      rw [ev_u_self, ar_ofI (by omega) (by omega)]
      exact ⟨h3, h4⟩
    · rw [ev_u_ne _ _ q]
      exact hd.2.1 j hj
  · have e : (aS (1, a, b, c) S).2.2.2 1 = cs_A (S.2.2.2 1) 0 (fillTo 12 (fun _ => Int32.ofInt a) ((S.2.2.2 1).2.2 0)) := rfl
    rw [e]
    refine ⟨hd.1, ?_, hd.2.2⟩
    intro j hj
    have e2 : (cs_A (S.2.2.2 1) 0 (fillTo 12 (fun _ => Int32.ofInt a) ((S.2.2.2 1).2.2 0))).2.2 0 j = fillTo 12 (fun _ => Int32.ofInt a) ((S.2.2.2 1).2.2 0) j := rfl
    rw [e2]
    have hj2 : j < 12 := by
      have e3 : sNm (cs_A (S.2.2.2 1) 0 (fillTo 12 (fun _ => Int32.ofInt a) ((S.2.2.2 1).2.2 0))) = (sM (S.2.2.2 1)).toNat := rfl
      omega
    unfold fillTo
    change 1 ≤ a at h3
    change a ≤ 99 at h4
    rw [if_pos hj2, ar_ofI (by omega) (by omega)]
    exact ⟨h3, h4⟩
  · exact hd
  · exact hd
  · exact hd
  · exact hd
  · exact hd
  · have e : (aS (7, a, b, c) S).2.2.2 1 = if a = 0 then cs_I (S.2.2.2 1) 3 (Int32.ofInt b) else cs_I (S.2.2.2 1) 4 (Int32.ofInt b) := rfl
    rw [e]
    split
    · exact hd
    · exact hd
  · have e : (aS (8, a, b, c) S).2.2.2 1 = sIns (S.2.2.2 1) (Int32.ofInt a) (Int32.ofInt b) (Int32.ofInt c) := rfl
    rw [e]
    change 0 ≤ b at h4
    change b < sM (S.2.2.2 1) at h5
    have e2 : (sIn (S.2.2.2 1) : Int) = ((S.2.2.2 1).1 5).toInt := (sIok.nat hd.2.2.1).1
    exact sInv_ins hd (by omega) (by rw [ar_ofI (by omega) (by omega)]; exact h4) (by rw [ar_ofI (by omega) (by omega)]; exact h5)
def pHd (B : Nat → Int32) (n p : Nat) : Nat × Nat × Int :=
  bif wB B 1 (sk B n p) then (if (pN B n 1 12 (sk B n p + 5)).1 = 0 then (if B (sk B n (pN B n 1 12 (sk B n p + 5)).2.1) = 59 then (0, sk B n (pN B n 1 12 (sk B n p + 5)).2.1 + 1, (pN B n 1 12 (sk B n p + 5)).2.2) else (2, sk B n (pN B n 1 12 (sk B n p + 5)).2.1, 0)) else pN B n 1 12 (sk B n p + 5)) else (2, sk B n p, 0)
def oH (G : ev_G) (b : Nat) (S : SS) (h : ev_H) (r : Nat × Nat × Int) (c : Option Value) (a : ev_H) : Prop := (r.1 = 0 ∧ c = some (.int 1) ∧ ∃ x, a = sy G b (rS (ss_C S 1 (sBeg (S.2.2.2 1) (Int32.ofInt r.2.2))) r.2.1 x) h) ∨ (r.1 ≠ 0 ∧ c = some (.int 0) ∧ FR G b S h r.1 r.2.1 a)
theorem oH_no {G : ev_G} {b : Nat} {S : SS} {h : ev_H} {r : Nat × Nat × Int} {k q : Nat} {t : Int} {a : ev_H} (e : r = (k, q, t)) (hk : k ≠ 0) (f : FR G b S h k q a) : oH G b S h r (some (.int 0)) a := by subst e; exact Or.inr ⟨hk, rfl, f⟩
theorem oH_ok {G : ev_G} {b : Nat} {S : SS} {h : ev_H} {r : Nat × Nat × Int} {q : Nat} {t : Int} {a : ev_H} (x : Int32) (e : r = (0, q, t)) (f : a = sy G b (rS (ss_C S 1 (sBeg (S.2.2.2 1) (Int32.ofInt t))) q x) h) : oH G b S h r (some (.int 1)) a := by subst e; exact Or.inl ⟨rfl, rfl, x, f⟩
section RD8
variable {G : ev_G} {l : Launch} {M : ev_M} {J : ev_K} {pc k m idx : Nat} {L : List (Option Value)} {st : List Value} {b n p q j : Nat} {S : SS} {h : ev_H} {x y z v : Int32} {lo hi : Int}
set_option maxRecDepth 20000 in
theorem ct_X5_readHead (hO : rOk b S n) (hp : p ≤ n) : ev_Ct G l mX5_readHead 6 0 0 [.ref (b + 2)] (sy G b (rS S p v) h) (fun c a => oH G b S h (pHd (tB (S.2.1 0) n) n p) c a) (fun _ _ => False) := by
  refine ev_Ct.of (by decide +kernel) (Nat.le_of_ble_eq_true rfl) ?_
  have z1 := ar_1
  have w12 : (12 : Int32).toInt = 12 := by decide +kernel
  refine e_aload_n dX5_readHead_0 rfl rfl ?_
  refine e_ldcS (j := 1) (tx := "chain") dX5_readHead_1 (by decide +kernel) ?_
  refine e_invV (mcY := 0) (msY := 0) (ct_X5_takeWord (j := 1) hO hp (by decide)) vX5_takeWord wM_X5_68 (sy_at G b _ h 2 (by decide)) rfl dX5_readHead_3 rfl rfl (Nat.le_of_ble_eq_true rfl) (Nat.le_of_ble_eq_true rfl) ?_
  rintro c a hc
  rcases hc with ⟨t1, rfl, rfl⟩ | ⟨t1, rfl, rfl⟩
  · have g1 : wB (tB (S.2.1 0) n) 1 (sk (tB (S.2.1 0) n) n p) = true := wB_iff.mpr t1
    have h5 := wAt_n tbB t1 (by decide)
    change sk (tB (S.2.1 0) n) n p + 5 ≤ n at h5
    refine e_if_ne (tgt := 20) dX5_readHead_6 (by decide) (fun i6 => ?_) (fun i6 => ?_)
    · refine e_aload_n dX5_readHead_20 rfl rfl ?_
      refine e_iconst (v := 1) dX5_readHead_21 (by decide) ?_
      refine e_bipush (v := 12) dX5_readHead_22 (by decide) ?_
      refine e_invV (mcY := 0) (msY := 0) (ct_rN (p := sk (tB (S.2.1 0) n) n p + 5) hO h5 (lo := 1) (hi := 12) z1 w12 (by omega)) vX5_readNumber wM_X5_76 (sy_at G b _ h 2 (by decide)) rfl dX5_readHead_24 rfl rfl (Nat.le_of_ble_eq_true rfl) (Nat.le_of_ble_eq_true rfl) ?_
      rintro c a hc
      rcases hc with ⟨r0, rfl, rfl⟩ | ⟨r0, rfl, hf⟩
      · have f0 := pN_0 (lo := 1) (hi := 12) tbB h5 r0
        generalize hA : (pN (tB (S.2.1 0) n) n 1 12 (sk (tB (S.2.1 0) n) n p + 5)) = A at *
        refine e_if_ne (tgt := 32) dX5_readHead_27 (by decide) (fun i27 => ?_) (fun i27 => ?_)
        · refine e_aload_n dX5_readHead_32 rfl rfl ?_
          refine rS_g6 hO wF_X5_35 dX5_readHead_33 ?_
          refine e_aload_n dX5_readHead_36 rfl rfl ?_
          refine rS_g5 wF_X5_79 dX5_readHead_37 ?_
          refine ev_as (sy_as G b _ h 1 (by decide)) ?_
          refine e_invV (mcY := 0) (msY := 0) (ct_X0_begin (c := sc b 1) (σ := S.2.2.2 1) (by rw [ar_ofI (by omega) (by omega)]; omega) (by rw [ar_ofI (by omega) (by omega)]; omega)) vX0_begin wM_X5_82 (ch_at G (sc b 1) _ (sy G b _ h) 0 (by decide)) rfl dX5_readHead_40 rfl rfl (Nat.le_of_ble_eq_true rfl) (Nat.le_of_ble_eq_true rfl) ?_
          rintro _ _ ⟨rfl, rfl⟩
          refine ev_as (sy_chset G b _ h 1 _ (by decide)) ?_
          rw [rS_C]
          refine e_aload_n dX5_readHead_43 rfl rfl ?_
          refine e_bipush (v := 59) dX5_readHead_44 (by decide) ?_
          refine e_invV (mcY := 0) (msY := 0) (ct_X5_readSign (S := ss_C S 1 _) (y := 59) hO f0.2.1) vX5_readSign wM_X5_59 (sy_at G b _ h 2 (by decide)) rfl dX5_readHead_46 rfl rfl (Nat.le_of_ble_eq_true rfl) (Nat.le_of_ble_eq_true rfl) ?_
          rintro c a hc
          rcases hc with ⟨d0, rfl, rfl⟩ | ⟨d0, rfl, hf⟩
          · have d1 : tB (S.2.1 0) n (sk (tB (S.2.1 0) n) n A.2.1) = 59 := d0
            exact e_zret (ty := .boolean) rfl rfl dX5_readHead_49 (by first | exact oH_ok (q := sk (tB (S.2.1 0) n) n A.2.1 + 1) (t := A.2.2) _ (by unfold pHd; rw [g1, cond_true, hA, if_pos r0, if_pos d1]) rfl | exact oH_no (k := 2) (q := sk (tB (S.2.1 0) n) n A.2.1) (t := 0) (by unfold pHd; rw [g1, cond_true, hA, if_pos r0, if_neg d1]) (by decide) (FR_C hf))
          · have d1 : ¬ tB (S.2.1 0) n (sk (tB (S.2.1 0) n) n A.2.1) = 59 := d0
            exact e_zret (ty := .boolean) rfl rfl dX5_readHead_49 (by first | exact oH_ok (q := sk (tB (S.2.1 0) n) n A.2.1 + 1) (t := A.2.2) _ (by unfold pHd; rw [g1, cond_true, hA, if_pos r0, if_pos d1]) rfl | exact oH_no (k := 2) (q := sk (tB (S.2.1 0) n) n A.2.1) (t := 0) (by unfold pHd; rw [g1, cond_true, hA, if_pos r0, if_neg d1]) (by decide) (FR_C hf))
        · first | exact absurd i27 (by decide) | exact absurd rfl i27
      · refine e_if_ne (tgt := 32) dX5_readHead_27 (by decide) (fun i27 => ?_) (fun i27 => ?_)
        · first | exact absurd i27 (by decide) | exact absurd rfl i27
        · refine e_iconst (v := 0) dX5_readHead_30 (by decide) ?_
          exact e_zret (ty := .boolean) rfl rfl dX5_readHead_31 (by unfold pHd; rw [g1, cond_true, if_neg r0]; exact Or.inr (by exact ⟨r0, rfl, hf⟩))
    · first | exact absurd i6 (by decide) | exact absurd rfl i6
  · have g1 : wB (tB (S.2.1 0) n) 1 (sk (tB (S.2.1 0) n) n p) = false := by rw [← Bool.not_eq_true]; exact fun q2 => t1 (wB_iff.mp q2)
    refine e_if_ne (tgt := 20) dX5_readHead_6 (by decide) (fun i6 => ?_) (fun i6 => ?_)
    · first | exact absurd i6 (by decide) | exact absurd rfl i6
    · refine e_aload_n dX5_readHead_9 rfl rfl ?_
      refine e_bipush (v := (-2)) dX5_readHead_10 (by decide) ?_
      refine e_aload_n dX5_readHead_12 rfl rfl ?_
      refine rS_g4 wF_X5_39 dX5_readHead_13 ?_
      refine e_invV (mcY := 0) (msY := 0) (ct_X5_fail) vX5_fail wM_X5_72 (sy_at G b _ h 2 (by decide)) rfl dX5_readHead_16 rfl rfl (Nat.le_of_ble_eq_true rfl) (Nat.le_of_ble_eq_true rfl) ?_
      rintro _ _ ⟨rfl, rfl⟩
      exact e_zret (ty := .boolean) rfl rfl dX5_readHead_19 (oH_no (by unfold pHd; rw [g1]; rfl) (by decide) (FR_of G b S h _ _ _ _ 2 (by decide +kernel)))
def pRun (n : Nat) : Nat → SS → Nat → Nat × Nat × SS
  | 0, S, p => (0, sk (tB (S.2.1 0) n) n p, S)
  | f + 1, S, p => if n ≤ sk (tB (S.2.1 0) n) n p then (0, sk (tB (S.2.1 0) n) n p, S) else
      if (pStm (tB (S.2.1 0) n) n (sM (S.2.2.2 1)) ((S.2.2.2 1).1 5).toInt (S.1 9) (S.2.1 1) (S.2.1 2) (sk (tB (S.2.1 0) n) n p)).1 = 0 then
        (if tB (S.2.1 0) n (sk (tB (S.2.1 0) n) n (pStm (tB (S.2.1 0) n) n (sM (S.2.2.2 1)) ((S.2.2.2 1).1 5).toInt (S.1 9) (S.2.1 1) (S.2.1 2) (sk (tB (S.2.1 0) n) n p)).2.1) = 59 then pRun n f (aS (pStm (tB (S.2.1 0) n) n (sM (S.2.2.2 1)) ((S.2.2.2 1).1 5).toInt (S.1 9) (S.2.1 1) (S.2.1 2) (sk (tB (S.2.1 0) n) n p)).2.2 S) (sk (tB (S.2.1 0) n) n (pStm (tB (S.2.1 0) n) n (sM (S.2.2.2 1)) ((S.2.2.2 1).1 5).toInt (S.1 9) (S.2.1 1) (S.2.1 2) (sk (tB (S.2.1 0) n) n p)).2.1 + 1)
         else (2, sk (tB (S.2.1 0) n) n (pStm (tB (S.2.1 0) n) n (sM (S.2.2.2 1)) ((S.2.2.2 1).1 5).toInt (S.1 9) (S.2.1 1) (S.2.1 2) (sk (tB (S.2.1 0) n) n p)).2.1, S))
      else ((pStm (tB (S.2.1 0) n) n (sM (S.2.2.2 1)) ((S.2.2.2 1).1 5).toInt (S.1 9) (S.2.1 1) (S.2.1 2) (sk (tB (S.2.1 0) n) n p)).1, (pStm (tB (S.2.1 0) n) n (sM (S.2.2.2 1)) ((S.2.2.2 1).1 5).toInt (S.1 9) (S.2.1 1) (S.2.1 2) (sk (tB (S.2.1 0) n) n p)).2.1, S)
set_option maxRecDepth 20000 in
theorem lp_run {J : ev_K} {k m : Nat} {S0 : SS} {R : Nat × Nat × SS} (hJ : 9 ≤ J.2.2.1) (hT : R.1 = 0 → kp S0 R.2.2 → sInv (R.2.2.2.2.2 1) → ∀ x, ev_V G l mX5_readSetup J 138 [some (.ref (b + 2))] [] (sy G b (rS R.2.2 R.2.1 x) h) k m) (hF : R.1 ≠ 0 → ∀ a, FR G b S0 h R.1 R.2.1 a → J.2.2.2.2.2.1 (some (.int 0)) a) : ∀ (r i : Nat) (x : Int32) (S : SS) (p : Nat) (v : Int32), r + i = 500 → x.toInt = (i : Int) → i ≤ p → p ≤ n → rOk b S n → kp S0 S → sInv (S.2.2.2 1) → pRun n r S p = R → ev_V G l mX5_readSetup J 99 [some (.ref (b + 2)), none, none, none, some (.int x)] [] (sy G b (rS S p v) h) k m := by
  have w500 : (500 : Int32).toInt = 500 := by decide +kernel
  intro r
  induction r with
  | zero =>
    intro i x S p v hr hx hip hp hO hk hd hR
    have hn2 := hO.2.1
    have hpn : sk (tB (S.2.1 0) n) n p = p := sk_fix (Or.inl (by omega))
    have hR2 : (0, sk (tB (S.2.1 0) n) n p, S) = R := hR
    rw [hpn] at hR2
    subst hR2
    refine e_iload dX5_readSetup_99 rfl ?_
    refine e_sipush (v := 500) dX5_readSetup_101 (by decide) ?_
    refine e_icmp_ge (tgt := 138) dX5_readSetup_104 (by decide) (fun i104 => ?_) (fun i104 => ?_)
    · exact ev_lc (hT rfl hk hd v) ⟨rfl, trivial⟩
    · omega
  | succ r ih =>
    intro i x S p v hr hx hip hp hO hk hd hR
    have hn2 := hO.2.1
    have hs1 := sk_rng (tB (S.2.1 0) n) hp
    have hs2 := sk_sk (tB (S.2.1 0) n) hp
    have hR2 : (if n ≤ sk (tB (S.2.1 0) n) n p then (0, sk (tB (S.2.1 0) n) n p, S) else
      if (pStm (tB (S.2.1 0) n) n (sM (S.2.2.2 1)) ((S.2.2.2 1).1 5).toInt (S.1 9) (S.2.1 1) (S.2.1 2) (sk (tB (S.2.1 0) n) n p)).1 = 0 then (if tB (S.2.1 0) n (sk (tB (S.2.1 0) n) n (pStm (tB (S.2.1 0) n) n (sM (S.2.2.2 1)) ((S.2.2.2 1).1 5).toInt (S.1 9) (S.2.1 1) (S.2.1 2) (sk (tB (S.2.1 0) n) n p)).2.1) = 59 then pRun n r (aS (pStm (tB (S.2.1 0) n) n (sM (S.2.2.2 1)) ((S.2.2.2 1).1 5).toInt (S.1 9) (S.2.1 1) (S.2.1 2) (sk (tB (S.2.1 0) n) n p)).2.2 S) (sk (tB (S.2.1 0) n) n (pStm (tB (S.2.1 0) n) n (sM (S.2.2.2 1)) ((S.2.2.2 1).1 5).toInt (S.1 9) (S.2.1 1) (S.2.1 2) (sk (tB (S.2.1 0) n) n p)).2.1 + 1) else (2, sk (tB (S.2.1 0) n) n (pStm (tB (S.2.1 0) n) n (sM (S.2.2.2 1)) ((S.2.2.2 1).1 5).toInt (S.1 9) (S.2.1 1) (S.2.1 2) (sk (tB (S.2.1 0) n) n p)).2.1, S)) else ((pStm (tB (S.2.1 0) n) n (sM (S.2.2.2 1)) ((S.2.2.2 1).1 5).toInt (S.1 9) (S.2.1 1) (S.2.1 2) (sk (tB (S.2.1 0) n) n p)).1, (pStm (tB (S.2.1 0) n) n (sM (S.2.2.2 1)) ((S.2.2.2 1).1 5).toInt (S.1 9) (S.2.1 1) (S.2.1 2) (sk (tB (S.2.1 0) n) n p)).2.1, S)) = R := hR
    have hok : okR n (sk (tB (S.2.1 0) n) n p) (sM (S.2.2.2 1)) ((S.2.2.2 1).1 5).toInt (pStm (tB (S.2.1 0) n) n (sM (S.2.2.2 1)) ((S.2.2.2 1).1 5).toInt (S.1 9) (S.2.1 1) (S.2.1 2) (sk (tB (S.2.1 0) n) n p)) := ok_Stm tbB
    refine e_iload dX5_readSetup_99 rfl ?_
    refine e_sipush (v := 500) dX5_readSetup_101 (by decide) ?_
    refine e_icmp_ge (tgt := 138) dX5_readSetup_104 (by decide) (fun i104 => ?_) (fun i104 => ?_)
    · omega
    · refine e_aload_n dX5_readSetup_107 rfl rfl ?_
      refine e_invV (mcY := 0) (msY := 0) (ct_X5_isAtEnd hO hp) vX5_isAtEnd wM_X5_53 (sy_at G b _ h 2 (by decide)) rfl dX5_readSetup_108 rfl rfl (Nat.le_of_ble_eq_true rfl) (Nat.le_trans (Nat.le_of_ble_eq_true rfl) hJ) ?_
      rintro c a hc
      rcases hc with ⟨e0, rfl, rfl⟩ | ⟨e0, rfl, rfl⟩
      · rw [if_pos e0] at hR2
        subst hR2
        refine e_if_ne (tgt := 138) dX5_readSetup_111 (by decide) (fun i111 => ?_) (fun i111 => ?_)
        · exact ev_lc (hT rfl hk hd _) ⟨rfl, trivial⟩
        · first | exact absurd i111 (by decide) | exact absurd rfl i111
      · rw [if_neg (by omega)] at hR2
        generalize hA : pStm (tB (S.2.1 0) n) n (sM (S.2.2.2 1)) ((S.2.2.2 1).1 5).toInt (S.1 9) (S.2.1 1) (S.2.1 2) (sk (tB (S.2.1 0) n) n p) = A at *
        refine e_if_ne (tgt := 138) dX5_readSetup_111 (by decide) (fun i111 => ?_) (fun i111 => ?_)
        · first | exact absurd i111 (by decide) | exact absurd rfl i111
        · refine e_aload_n dX5_readSetup_114 rfl rfl ?_
          refine e_invV (mcY := 0) (msY := 0) (ct_X5_readStatement hO hd hs1.2 hs2) vX5_readStatement wM_X5_56 (sy_at G b _ h 2 (by decide)) rfl dX5_readSetup_115 rfl rfl (Nat.le_of_ble_eq_true rfl) (Nat.le_trans (Nat.le_of_ble_eq_true rfl) hJ) ?_
          rw [hA]
          rintro c a hc
          rcases hc with ⟨r0, rfl, w, rfl⟩ | ⟨r0, rfl, hf⟩
          · have f0 := hok r0
            have hk2 := kp_aS A.2.2 S
            have hB2 : tB ((aS A.2.2 S).2.1 0) n = tB (S.2.1 0) n := by rw [hk2.2.1]
            rw [if_pos r0] at hR2
            refine e_if_eq (tgt := 130) dX5_readSetup_118 (by decide) (fun i118 => ?_) (fun i118 => ?_)
            · first | exact absurd i118 (by decide) | exact absurd rfl i118
            · refine e_aload_n dX5_readSetup_121 rfl rfl ?_
              refine e_bipush (v := 59) dX5_readSetup_122 (by decide) ?_
              refine e_invV (mcY := 0) (msY := 0) (ct_X5_readSign (y := 59) (rOk_kp hk2 hO) f0.2.1) vX5_readSign wM_X5_59 (sy_at G b _ h 2 (by decide)) rfl dX5_readSetup_124 rfl rfl (Nat.le_of_ble_eq_true rfl) (Nat.le_trans (Nat.le_of_ble_eq_true rfl) hJ) ?_
              rintro c a hc
              rw [hB2] at hc
              rcases hc with ⟨d0, rfl, rfl⟩ | ⟨d0, rfl, hf⟩
              · have d1 : tB (S.2.1 0) n (sk (tB (S.2.1 0) n) n A.2.1) = 59 := d0
                rw [if_pos d1] at hR2
                refine e_if_ne (tgt := 132) dX5_readSetup_127 (by decide) (fun i127 => ?_) (fun i127 => ?_)
                · refine e_iinc dX5_readSetup_132 rfl rfl (Nat.le_of_ble_eq_true rfl) ?_
                  refine e_goto (tgt := 99) dX5_readSetup_135 (by decide) ?_
                  have hs3 := sk_rng (tB (S.2.1 0) n) f0.2.1
                  have hlt : sk (tB (S.2.1 0) n) n A.2.1 < n := Nat.lt_of_not_le fun c2 => by rw [tB_ge c2] at d1; exact absurd d1 (by decide)
                  exact ev_lc (ih (i + 1) _ _ _ _ (by omega) (ar_inc hx (by omega)) (by omega) (by omega) (rOk_kp hk2 hO) (hk.trans hk2) (aS_inv hd f0.2.2) hR2) ⟨rfl, rfl, trivial⟩
                · first | exact absurd i127 (by decide) | exact absurd rfl i127
              · have d1 : ¬ tB (S.2.1 0) n (sk (tB (S.2.1 0) n) n A.2.1) = 59 := d0
                rw [if_neg d1] at hR2
                subst hR2
                refine e_if_ne (tgt := 132) dX5_readSetup_127 (by decide) (fun i127 => ?_) (fun i127 => ?_)
                · first | exact absurd i127 (by decide) | exact absurd rfl i127
                · refine e_iconst (v := 0) dX5_readSetup_130 (by decide) ?_
                  exact e_zret (ty := .boolean) rfl rfl dX5_readSetup_131 (by first | exact hF r0 _ (FR_kp hk hf) | exact hF (show (2 : Nat) ≠ 0 by decide) _ (FR_kp hk (FR_kp hk2 hf)))
          · rw [if_neg r0] at hR2
            subst hR2
            refine e_if_eq (tgt := 130) dX5_readSetup_118 (by decide) (fun i118 => ?_) (fun i118 => ?_)
            · refine e_iconst (v := 0) dX5_readSetup_130 (by decide) ?_
              exact e_zret (ty := .boolean) rfl rfl dX5_readSetup_131 (by first | exact hF r0 _ (FR_kp hk hf) | exact hF (show (2 : Nat) ≠ 0 by decide) _ (FR_kp hk (FR_kp hk2 hf)))
            · first | exact absurd i118 (by decide) | exact absurd rfl i118
end RD8
