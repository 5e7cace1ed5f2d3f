/-! the reader: statements -/
abbrev PR : Type := Nat × Nat × Nat × Int × Int × Int
def pb (r : Nat × Nat × Int) (f : Nat → Int → PR) : PR := if r.1 = 0 then f r.2.1 r.2.2 else (r.1, r.2.1, 0, 0, 0, 0)
theorem pb_ok {r : Nat × Nat × Int} {f : Nat → Int → PR} (h : r.1 = 0) : pb r f = f r.2.1 r.2.2 := if_pos h
theorem pb_no {r : Nat × Nat × Int} {f : Nat → Int → PR} (h : r.1 ≠ 0) : pb r f = (r.1, r.2.1, 0, 0, 0, 0) := if_neg h
def wB (B : Nat → Int32) (j s : Nat) : Bool := (List.range (ev_len.getD j 0)).all (fun k => B (s + k) == sB j k) && !(decide (isLt (B (s + ev_len.getD j 0))))
theorem wB_iff {B : Nat → Int32} {j s : Nat} : wB B j s = true ↔ wAt B j s := by
  unfold wB wAt
  rw [Bool.and_eq_true, List.all_eq_true, Bool.not_eq_true', decide_eq_false_iff_not]
  constructor
  · intro q
    exact ⟨fun k hk => eq_of_beq (q.1 k (List.mem_range.mpr hk)), q.2⟩
  · intro q
    exact ⟨fun k hk => by rw [q.1 k (List.mem_range.mp hk)]; exact beq_self_eq_true _, q.2⟩
theorem pSk_at (B : Nat → Int32) : ∀ f p, (pSk B f p = p + f ∨ B (pSk B f p) ≠ 32)
  | 0, p => Or.inl rfl
  | f + 1, p => by
    unfold pSk
    split
    · rcases pSk_at B f (p + 1) with e | e
      · exact Or.inl (by omega)
      · exact Or.inr e
    · rename_i c
      exact Or.inr c
theorem sk_at (B : Nat → Int32) {n p : Nat} (hp : p ≤ n) : sk B n p = n ∨ B (sk B n p) ≠ 32 := by
  rcases pSk_at B (n - p) p with e | e
  · exact Or.inl (by unfold sk; omega)
  · exact Or.inr e
theorem sk_fix {B : Nat → Int32} {n p : Nat} (h : p = n ∨ B p ≠ 32) : sk B n p = p := by
  unfold sk
  rcases h with rfl | h
  · rw [Nat.sub_self]; rfl
  · cases n - p with
    | zero => rfl
    | succ f => exact if_neg h
theorem sk_sk (B : Nat → Int32) {n p : Nat} (hp : p ≤ n) : sk B n (sk B n p) = sk B n p := sk_fix (sk_at B hp)
def pWt (B : Nat → Int32) (n : Nat) (M : Int) (p : Nat) : PR := pb (pN B n 0 (M - 1) p) fun q m => pb (pN B n 1 99 q) fun q2 w => (0, q2, 0, m, w, 0)
def pAW (B : Nat → Int32) (n p : Nat) : PR := pb (pN B n 1 99 p) fun q w => (0, q, 1, w, 0, 0)
def pSp (B : Nat → Int32) (n : Nat) (M : Int) (p : Nat) : PR := pb (pN B n 0 M p) fun q s => pb (pN B n 0 999 q) fun q2 t => bif wB B 5 (sk B n q2) then pb (pN B n 0 99999 (sk B n q2 + 5)) fun q3 u => (0, q3, 2, s, t, u) else (0, sk B n q2, 2, s, t, 0)
def pAS (B : Nat → Int32) (n p : Nat) : PR := pb (pN B n 0 999 p) fun q w => (0, q, 3, w, 0, 0)
def pDm (B : Nat → Int32) (n : Nat) (dt : Int32) (start p : Nat) : PR := if dt = 0 then pb (pN B n 0 999 p) (fun q d => (0, q, 4, d, 0, 0)) else (2, start, 0, 0, 0, 0)
def pPl (B : Nat → Int32) (n : Nat) (M : Int) (pl : Nat → Int32) (p : Nat) : PR := pb (pN B n 0 (M - 1) p) fun q m => if pl m.toNat = 0 then pb (pS B n 10000 q) (fun q2 u => (0, q2, 5, m, u, 0)) else (4, sk B n p, 0, 0, 0, 0)
def pSr (B : Nat → Int32) (n : Nat) (M : Int) (pl : Nat → Int32) (p : Nat) : PR := pb (pN B n 0 (M - 1) p) fun q m => if pl m.toNat = 0 then pb (pS B n 100000 q) (fun q2 u => (0, q2, 6, m, u, 0)) else (4, sk B n p, 0, 0, 0, 0)
def pEn (B : Nat → Int32) (n p : Nat) : PR := bif wB B 11 (sk B n p) then pb (pS B n 100000 (sk B n p + 5)) (fun q u => (0, q, 7, 1, u, 0)) else bif wB B 12 (sk B n p) then pb (pS B n 100000 (sk B n p + 4)) (fun q u => (0, q, 7, 0, u, 0)) else (2, sk B n p, 0, 0, 0, 0)
def pIm (B : Nat → Int32) (n : Nat) (M nI : Int) (start p : Nat) : PR := if nI < 16 then pb (pN B n 0 9999 p) (fun q t => pb (pN B n 0 (M - 1) q) fun q2 m => pb (pS B n 9999 (sk B n q2)) fun q3 u => if u = 0 then (3, sk B n q2, 0, 0, 0, 0) else (0, q3, 8, t, m, u)) else (5, start, 0, 0, 0, 0)
def pStm (B : Nat → Int32) (n : Nat) (M nI : Int) (dt : Int32) (pl st : Nat → Int32) (p : Nat) : PR :=
  bif wB B 2 p then pWt B n M (p + 4) else bif wB B 3 p then pAW B n (p + 6) else bif wB B 4 p then pSp B n M (p + 6) else bif wB B 6 p then pAS B n (p + 7) else bif wB B 7 p then pDm B n dt p (p + 4) else bif wB B 8 p then pPl B n M pl (p + 5) else bif wB B 9 p then pSr B n M st (p + 6) else bif wB B 10 p then pEn B n (p + 3) else bif wB B 13 p then pIm B n M nI p (p + 7) else (2, p, 0, 0, 0, 0)
theorem wAt_n {B : Nat → Int32} {n j s : Nat} (hB : ∀ k, n ≤ k → B k = -1) (h : wAt B j s) (h0 : 0 < ev_len.getD j 0) : s + ev_len.getD j 0 ≤ n := by
  refine Nat.le_of_not_lt fun c => ?_
  have e := h.1 (ev_len.getD j 0 - 1) (by omega)
  rw [hB _ (by omega)] at e
  have := sB_rng j (ev_len.getD j 0 - 1)
  rw [← e, ar_m1] at this
  omega
/-- what a statement does -/
def aS (r : Nat × Int × Int × Int) (S : SS) : SS :=
  if r.1 = 0 then ss_C S 1 (cs_A (S.2.2.2 1) 0 (ev_u ((S.2.2.2 1).2.2 0) r.2.1.toNat (Int32.ofInt r.2.2.1)))
  else if r.1 = 1 then ss_C S 1 (cs_A (S.2.2.2 1) 0 (fillTo 12 (fun _ => Int32.ofInt r.2.1) ((S.2.2.2 1).2.2 0)))
  else if r.1 = 2 then ss_C S 1 (cs_A (cs_A (S.2.2.2 1) 3 (ev_u ((S.2.2.2 1).2.2 3) r.2.1.toNat (Int32.ofInt r.2.2.1))) 4 (ev_u ((S.2.2.2 1).2.2 4) r.2.1.toNat (Int32.ofInt r.2.2.2)))
  else if r.1 = 3 then ss_C S 1 (cs_A (S.2.2.2 1) 3 (fillTo 13 (fun _ => Int32.ofInt r.2.1) ((S.2.2.2 1).2.2 3)))
  else if r.1 = 4 then ss_C (ss_I S 9 1) 1 (cs_I (S.2.2.2 1) 2 (Int32.ofInt r.2.1))
  else if r.1 = 5 then ss_C (ss_R S 1 (ev_u (S.2.1 1) r.2.1.toNat 1)) 1 (cs_A (S.2.2.2 1) 1 (ev_u ((S.2.2.2 1).2.2 1) r.2.1.toNat (Int32.ofInt r.2.2.1)))
  else if r.1 = 6 then ss_C (ss_R S 2 (ev_u (S.2.1 2) r.2.1.toNat 1)) 1 (sHit (S.2.2.2 1) r.2.1.toNat (Int32.ofInt r.2.2.1))
  else if r.1 = 7 then ss_C S 1 (if r.2.1 = 0 then cs_I (S.2.2.2 1) 3 (Int32.ofInt r.2.2.1) else cs_I (S.2.2.2 1) 4 (Int32.ofInt r.2.2.1))
  else ss_C S 1 (sIns (S.2.2.2 1) (Int32.ofInt r.2.1) (Int32.ofInt r.2.2.1) (Int32.ofInt r.2.2.2))
def oP (G : ev_G) (b : Nat) (S : SS) (h : ev_H) (r : PR) (c : Option Value) (a : ev_H) : Prop := (r.1 = 0 ∧ c = some (.int 1) ∧ ∃ x, a = sy G b (rS (aS r.2.2 S) r.2.1 x) h) ∨ (r.1 ≠ 0 ∧ c = some (.int 0) ∧ FR G b S h r.1 r.2.1 a)
theorem oP_no {G : ev_G} {b : Nat} {S : SS} {h : ev_H} {r : PR} {k q : Nat} {t : Nat × Int × Int × Int} {a : ev_H} (e : r = (k, q, t)) (hk : k ≠ 0) (f : FR G b S h k q a) : oP G b S h r (some (.int 0)) a := by subst e; exact Or.inr ⟨hk, rfl, f⟩
theorem oP_ok {G : ev_G} {b : Nat} {S : SS} {h : ev_H} {r : PR} {q : Nat} {t : Nat × Int × Int × Int} {a : ev_H} (x : Int32) (e : r = (0, q, t)) (f : a = sy G b (rS (aS t S) q x) h) : oP G b S h r (some (.int 1)) a := by subst e; exact Or.inl ⟨rfl, rfl, x, f⟩
section RD4
variable {G : ev_G} {l : Launch} {M : ev_M} {J : ev_K} {pc k m idx : Nat} {L : List (Option Value)} {st : List Value} {b n p q j : Nat} {S : SS} {h : ev_H} {x y z v : Int32} {lo hi : Int}
theorem tbB {T : Nat → Int32} {n : Nat} : ∀ k, n ≤ k → tB T n k = -1 := fun _ => tB_ge
theorem ct_rN (hO : rOk b S n) (hp : p ≤ n) (hx : x.toInt = lo) (hy : y.toInt = hi) (hh : hi < 10000000) : ev_Ct G l mX5_readNumber 3 0 0 [.ref (b + 2), .int x, .int y] (sy G b (rS S p v) h) (fun c a => oN G b S h (pN (tB (S.2.1 0) n) n lo hi p) c a) (fun _ _ => False) := by
  subst hx
  subst hy
  exact ct_X5_readNumber hO hp hh
theorem ct_rG (hO : rOk b S n) (hp : p ≤ n) (hx : x.toInt = hi) (h0 : 0 ≤ hi) (hh : hi < 10000000) : ev_Ct G l mX5_readSigned 3 0 0 [.ref (b + 2), .int x] (sy G b (rS S p v) h) (fun c a => oN G b S h (pS (tB (S.2.1 0) n) n hi p) c a) (fun _ _ => False) := by
  subst hx
  exact ct_X5_readSigned hO hp h0 hh
set_option maxRecDepth 20000 in
theorem ct_X5_readWeight (hO : rOk b S n) (hd : sInv (S.2.2.2 1)) (hp : p ≤ n) : ev_Ct G l mX5_readWeight 5 0 0 [.ref (b + 2)] (sy G b (rS S p v) h) (fun c a => oP G b S h (pWt (tB (S.2.1 0) n) n (sM (S.2.2.2 1)) p) c a) (fun _ _ => False) := by
  refine ev_Ct.of (by decide +kernel) (Nat.le_of_ble_eq_true rfl) ?_
  have hM : 1 ≤ sM (S.2.2.2 1) ∧ sM (S.2.2.2 1) ≤ 12 := hd.1
  have hM3 : sM (S.2.2.2 1) = ((S.2.2.2 1).1 0).toInt := rfl
  have z0 := ar_0
  have z1 := ar_1
  have hn2 := hO.2.1
  have hM4 : ((S.2.2.2 1).1 0 - 1).toInt = sM (S.2.2.2 1) - 1 := by rw [ar_sub (by omega) (by omega)]; omega
  have w99 : (99 : Int32).toInt = 99 := by decide +kernel
  refine e_aload_n dX5_readWeight_0 rfl rfl ?_
  refine e_iconst (v := 0) dX5_readWeight_1 (by decide) ?_
  refine e_aload_n dX5_readWeight_2 rfl rfl ?_
  refine rS_g6 hO wF_X5_35 dX5_readWeight_3 ?_
  refine ev_as (sy_as G b _ h 1 (by decide)) (ch_g0_0 (c := sc b 1) wF_X5_134 dX5_readWeight_6 (ev_as (sy_as G b _ h 1 (by decide)).symm ?_))
  refine e_iconst (v := 1) dX5_readWeight_9 (by decide) ?_
  refine e_isub dX5_readWeight_10 ?_
  refine e_invV (mcY := 0) (msY := 0) (ct_rN hO hp (lo := 0) (hi := (sM (S.2.2.2 1)) - 1) z0 hM4 (by omega)) vX5_readNumber wM_X5_76 (sy_at G b _ h 2 (by decide)) rfl dX5_readWeight_11 rfl rfl (Nat.le_of_ble_eq_true rfl) (Nat.le_of_ble_eq_true rfl) ?_
  rintro c a hc
  rcases hc with ⟨r0, rfl, rfl⟩ | ⟨r0, rfl, hf⟩
  · have fr0 := pN_0 (lo := 0) (hi := (sM (S.2.2.2 1)) - 1) tbB hp r0
    refine e_if_ne (tgt := 19) dX5_readWeight_14 (by decide) (fun i14 => ?_) (fun i14 => ?_)
    · refine e_aload_n dX5_readWeight_19 rfl rfl ?_
      refine rS_g5 wF_X5_79 dX5_readWeight_20 ?_
      refine e_istore_n dX5_readWeight_23 rfl (Nat.le_of_ble_eq_true rfl) ?_
      refine e_aload_n dX5_readWeight_24 rfl rfl ?_
      refine e_iconst (v := 1) dX5_readWeight_25 (by decide) ?_
      refine e_bipush (v := 99) dX5_readWeight_26 (by decide) ?_
      refine e_invV (mcY := 0) (msY := 0) (ct_rN hO fr0.2.1 (lo := 1) (hi := 99) z1 w99 (by omega)) vX5_readNumber wM_X5_76 (sy_at G b _ h 2 (by decide)) rfl dX5_readWeight_28 rfl rfl (Nat.le_of_ble_eq_true rfl) (Nat.le_of_ble_eq_true rfl) ?_
      rintro c a hc
      rcases hc with ⟨r1, rfl, rfl⟩ | ⟨r1, rfl, hf⟩
      · have fr1 := pN_0 (lo := 1) (hi := 99) tbB fr0.2.1 r1
        have g0 : (Int32.ofInt (pN (tB (S.2.1 0) n) n 0 ((sM (S.2.2.2 1)) - 1) p).2.2).toInt = (pN (tB (S.2.1 0) n) n 0 ((sM (S.2.2.2 1)) - 1) p).2.2 := ar_ofI (by omega) (by omega)
        refine e_if_ne (tgt := 36) dX5_readWeight_31 (by decide) (fun i31 => ?_) (fun i31 => ?_)
        · refine e_aload_n dX5_readWeight_36 rfl rfl ?_
          refine rS_g6 hO wF_X5_35 dX5_readWeight_37 ?_
          refine e_iload_n dX5_readWeight_40 rfl rfl ?_
          refine e_aload_n dX5_readWeight_41 rfl rfl ?_
          refine rS_g5 wF_X5_79 dX5_readWeight_42 ?_
          refine ev_as (sy_as G b _ h 1 (by decide)) ?_
          refine e_invV (mcY := 0) (msY := 0) (ct_X0_setWeight (c := sc b 1) (σ := S.2.2.2 1) (by omega) (by omega) hd.1) vX0_setWeight wM_X5_136 (ch_at G (sc b 1) _ (sy G b _ h) 0 (by decide)) rfl dX5_readWeight_45 rfl rfl (Nat.le_of_ble_eq_true rfl) (Nat.le_of_ble_eq_true rfl) ?_
          rintro _ _ ⟨rfl, rfl⟩
          refine ev_as (sy_chset G b _ h 1 _ (by decide)) ?_
          rw [rS_C]
          refine e_iconst (v := 1) dX5_readWeight_48 (by decide) ?_
          exact e_zret (ty := .boolean) rfl rfl dX5_readWeight_49 (by
                unfold pWt
                first
                  | exact oP_no (pb_no r0) r0 hf
                  | exact oP_no ((pb_ok r0).trans (pb_no r1)) r1 hf
                  | exact oP_ok _ ((pb_ok r0).trans (pb_ok r1)) (by rw [g0]; rfl))
        · first | exact absurd i31 (by decide) | exact absurd rfl i31
      · refine e_if_ne (tgt := 36) dX5_readWeight_31 (by decide) (fun i31 => ?_) (fun i31 => ?_)
        · first | exact absurd i31 (by decide) | exact absurd rfl i31
        · refine e_iconst (v := 0) dX5_readWeight_34 (by decide) ?_
          exact e_zret (ty := .boolean) rfl rfl dX5_readWeight_35 (by
                unfold pWt
                first
                  | exact oP_no (pb_no r0) r0 hf
                  | exact oP_no ((pb_ok r0).trans (pb_no r1)) r1 hf
                  | exact oP_ok _ ((pb_ok r0).trans (pb_ok r1)) (by rw [g0]; rfl))
    · first | exact absurd i14 (by decide) | exact absurd rfl i14
  · refine e_if_ne (tgt := 19) dX5_readWeight_14 (by decide) (fun i14 => ?_) (fun i14 => ?_)
    · first | exact absurd i14 (by decide) | exact absurd rfl i14
    · refine e_iconst (v := 0) dX5_readWeight_17 (by decide) ?_
      exact e_zret (ty := .boolean) rfl rfl dX5_readWeight_18 (by
            unfold pWt
            first
              | exact oP_no (pb_no r0) r0 hf
              | exact oP_no ((pb_ok r0).trans (pb_no r1)) r1 hf
              | exact oP_ok _ ((pb_ok r0).trans (pb_ok r1)) (by rw [g0]; rfl))
set_option maxRecDepth 20000 in
theorem ct_X5_readAllWeights (hO : rOk b S n) (hd : sInv (S.2.2.2 1)) (hp : p ≤ n) : ev_Ct G l mX5_readAllWeights 5 0 0 [.ref (b + 2)] (sy G b (rS S p v) h) (fun c a => oP G b S h (pAW (tB (S.2.1 0) n) n p) c a) (fun _ _ => False) := by
  refine ev_Ct.of (by decide +kernel) (Nat.le_of_ble_eq_true rfl) ?_
  have hM : 1 ≤ sM (S.2.2.2 1) ∧ sM (S.2.2.2 1) ≤ 12 := hd.1
  have hM3 : sM (S.2.2.2 1) = ((S.2.2.2 1).1 0).toInt := rfl
  have z0 := ar_0
  have z1 := ar_1
  have hn2 := hO.2.1
  have hM4 : ((S.2.2.2 1).1 0 - 1).toInt = sM (S.2.2.2 1) - 1 := by rw [ar_sub (by omega) (by omega)]; omega
  have w99 : (99 : Int32).toInt = 99 := by decide +kernel
  refine e_aload_n dX5_readAllWeights_0 rfl rfl ?_
  refine e_iconst (v := 1) dX5_readAllWeights_1 (by decide) ?_
  refine e_bipush (v := 99) dX5_readAllWeights_2 (by decide) ?_
  refine e_invV (mcY := 0) (msY := 0) (ct_rN hO hp (lo := 1) (hi := 99) z1 w99 (by omega)) vX5_readNumber wM_X5_76 (sy_at G b _ h 2 (by decide)) rfl dX5_readAllWeights_4 rfl rfl (Nat.le_of_ble_eq_true rfl) (Nat.le_of_ble_eq_true rfl) ?_
  rintro c a hc
  rcases hc with ⟨r0, rfl, rfl⟩ | ⟨r0, rfl, hf⟩
  · have fr0 := pN_0 (lo := 1) (hi := 99) tbB hp r0
    refine e_if_ne (tgt := 12) dX5_readAllWeights_7 (by decide) (fun i7 => ?_) (fun i7 => ?_)
    · refine e_aload_n dX5_readAllWeights_12 rfl rfl ?_
      refine rS_g6 hO wF_X5_35 dX5_readAllWeights_13 ?_
      refine e_aload_n dX5_readAllWeights_16 rfl rfl ?_
      refine rS_g5 wF_X5_79 dX5_readAllWeights_17 ?_
      refine ev_as (sy_as G b _ h 1 (by decide)) ?_
      refine e_invV (mcY := 0) (msY := 0) (ct_X0_setAllWeights (c := sc b 1) (σ := S.2.2.2 1)) vX0_setAllWeights wM_X5_140 (ch_at G (sc b 1) _ (sy G b _ h) 0 (by decide)) rfl dX5_readAllWeights_20 rfl rfl (Nat.le_of_ble_eq_true rfl) (Nat.le_of_ble_eq_true rfl) ?_
      rintro _ _ ⟨rfl, rfl⟩
      refine ev_as (sy_chset G b _ h 1 _ (by decide)) ?_
      rw [rS_C]
      refine e_iconst (v := 1) dX5_readAllWeights_23 (by decide) ?_
      exact e_zret (ty := .boolean) rfl rfl dX5_readAllWeights_24 (by
            unfold pAW
            first
              | exact oP_no (pb_no r0) r0 hf
              | exact oP_ok _ (pb_ok r0) rfl)
    · first | exact absurd i7 (by decide) | exact absurd rfl i7
  · refine e_if_ne (tgt := 12) dX5_readAllWeights_7 (by decide) (fun i7 => ?_) (fun i7 => ?_)
    · first | exact absurd i7 (by decide) | exact absurd rfl i7
    · refine e_iconst (v := 0) dX5_readAllWeights_10 (by decide) ?_
      exact e_zret (ty := .boolean) rfl rfl dX5_readAllWeights_11 (by
            unfold pAW
            first
              | exact oP_no (pb_no r0) r0 hf
              | exact oP_ok _ (pb_ok r0) rfl)
set_option maxRecDepth 20000 in
theorem ct_X5_readAllStiffnesses (hO : rOk b S n) (hd : sInv (S.2.2.2 1)) (hp : p ≤ n) : ev_Ct G l mX5_readAllStiffnesses 5 0 0 [.ref (b + 2)] (sy G b (rS S p v) h) (fun c a => oP G b S h (pAS (tB (S.2.1 0) n) n p) c a) (fun _ _ => False) := by
  refine ev_Ct.of (by decide +kernel) (Nat.le_of_ble_eq_true rfl) ?_
  have hM : 1 ≤ sM (S.2.2.2 1) ∧ sM (S.2.2.2 1) ≤ 12 := hd.1
  have hM3 : sM (S.2.2.2 1) = ((S.2.2.2 1).1 0).toInt := rfl
  have z0 := ar_0
  have z1 := ar_1
  have hn2 := hO.2.1
  have hM4 : ((S.2.2.2 1).1 0 - 1).toInt = sM (S.2.2.2 1) - 1 := by rw [ar_sub (by omega) (by omega)]; omega
  have w999 : (999 : Int32).toInt = 999 := by decide +kernel
  refine e_aload_n dX5_readAllStiffnesses_0 rfl rfl ?_
  refine e_iconst (v := 0) dX5_readAllStiffnesses_1 (by decide) ?_
  refine e_sipush (v := 999) dX5_readAllStiffnesses_2 (by decide) ?_
  refine e_invV (mcY := 0) (msY := 0) (ct_rN hO hp (lo := 0) (hi := 999) z0 w999 (by omega)) vX5_readNumber wM_X5_76 (sy_at G b _ h 2 (by decide)) rfl dX5_readAllStiffnesses_5 rfl rfl (Nat.le_of_ble_eq_true rfl) (Nat.le_of_ble_eq_true rfl) ?_
  rintro c a hc
  rcases hc with ⟨r0, rfl, rfl⟩ | ⟨r0, rfl, hf⟩
  · have fr0 := pN_0 (lo := 0) (hi := 999) tbB hp r0
    refine e_if_ne (tgt := 13) dX5_readAllStiffnesses_8 (by decide) (fun i8 => ?_) (fun i8 => ?_)
    · refine e_aload_n dX5_readAllStiffnesses_13 rfl rfl ?_
      refine rS_g6 hO wF_X5_35 dX5_readAllStiffnesses_14 ?_
      refine e_aload_n dX5_readAllStiffnesses_17 rfl rfl ?_
      refine rS_g5 wF_X5_79 dX5_readAllStiffnesses_18 ?_
      refine ev_as (sy_as G b _ h 1 (by decide)) ?_
      refine e_invV (mcY := 0) (msY := 0) (ct_X0_setAllStiffnesses (c := sc b 1) (σ := S.2.2.2 1)) vX0_setAllStiffnesses wM_X5_152 (ch_at G (sc b 1) _ (sy G b _ h) 0 (by decide)) rfl dX5_readAllStiffnesses_21 rfl rfl (Nat.le_of_ble_eq_true rfl) (Nat.le_of_ble_eq_true rfl) ?_
      rintro _ _ ⟨rfl, rfl⟩
      refine ev_as (sy_chset G b _ h 1 _ (by decide)) ?_
      rw [rS_C]
      refine e_iconst (v := 1) dX5_readAllStiffnesses_24 (by decide) ?_
      exact e_zret (ty := .boolean) rfl rfl dX5_readAllStiffnesses_25 (by
            unfold pAS
            first
              | exact oP_no (pb_no r0) r0 hf
              | exact oP_ok _ (pb_ok r0) rfl)
    · first | exact absurd i8 (by decide) | exact absurd rfl i8
  · refine e_if_ne (tgt := 13) dX5_readAllStiffnesses_8 (by decide) (fun i8 => ?_) (fun i8 => ?_)
    · first | exact absurd i8 (by decide) | exact absurd rfl i8
    · refine e_iconst (v := 0) dX5_readAllStiffnesses_11 (by decide) ?_
      exact e_zret (ty := .boolean) rfl rfl dX5_readAllStiffnesses_12 (by
            unfold pAS
            first
              | exact oP_no (pb_no r0) r0 hf
              | exact oP_ok _ (pb_ok r0) rfl)
end RD4
