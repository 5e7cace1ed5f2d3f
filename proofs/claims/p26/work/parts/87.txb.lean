/-! the text read back -/
def tx (B : Nat → Int32) (p : Nat) (w : List Nat) : Prop := ∀ k, k < w.length → B (p + k) = Int32.ofNat (w.getD k 0)
theorem tx.l {B : Nat → Int32} {p : Nat} {u v : List Nat} (h : tx B p (u ++ v)) : tx B p u := fun k hk => by
  have := h k (by rw [List.length_append]; omega)
  rw [this, List.getD_eq_getElem?_getD, List.getD_eq_getElem?_getD, List.getElem?_append_left hk]
theorem tx.r {B : Nat → Int32} {p : Nat} {u v : List Nat} (h : tx B p (u ++ v)) : tx B (p + u.length) v := fun k hk => by
  have := h (u.length + k) (by rw [List.length_append]; omega)
  rw [Nat.add_assoc, this, List.getD_eq_getElem?_getD, List.getD_eq_getElem?_getD, List.getElem?_append_right (by omega), Nat.add_sub_cancel_left]
theorem tx.hd {B : Nat → Int32} {p c : Nat} {w : List Nat} (h : tx B p (c :: w)) : B p = Int32.ofNat c := h 0 (by rw [List.length_cons]; omega)
theorem tx.tl {B : Nat → Int32} {p c : Nat} {w : List Nat} (h : tx B p (c :: w)) : tx B (p + 1) w := fun k hk => by
  have := h (k + 1) (by rw [List.length_cons]; omega)
  rw [show p + 1 + k = p + (k + 1) by omega, this]
  rfl
theorem dg_isD {d : Nat} (h : d < 10) : isD (Int32.ofNat (48 + d)) ∧ ((Int32.ofNat (48 + d)).toInt - 48).toNat = d := by
  have := ar_of (n := 48 + d) (by omega)
  unfold isD
  rw [this]
  omega
theorem isD_32 {x : Int32} (h : isD x) : x ≠ 32 ∧ x ≠ 45 := by
  have a : (32 : Int32).toInt = 32 := by decide +kernel
  have b : (45 : Int32).toInt = 45 := by decide +kernel
  exact ⟨fun e => by rw [e, isD, a] at h; omega, fun e => by rw [e, isD, b] at h; omega⟩
theorem pDE_0 {B : Nat → Int32} {q : Nat} (h : ¬ isD (B q)) : ∀ f, pDE B f q = q
  | 0 => rfl
  | f + 1 => if_neg h
theorem pDN_0 {B : Nat → Int32} {q : Nat} (h : ¬ isD (B q)) (v : Nat) : ∀ f, pDN B f q v = v
  | 0 => rfl
  | f + 1 => if_neg h
theorem pDE_dgs {B : Nat → Int32} {N : Nat} : ∀ k p f, tx B p (dgs k N) → ¬ isD (B (p + (k + 1))) → k + 1 ≤ f → pDE B f p = p + (k + 1)
  | 0, p, f, h, he, hf => by
    obtain ⟨f, rfl⟩ : ∃ g, f = g + 1 := ⟨f - 1, by omega⟩
    have h0 := tx.hd (w := []) h
    show (if isD (B p) then pDE B f (p + 1) else p) = _
    rw [h0, if_pos (dg_isD (Nat.mod_lt _ (by decide))).1]
    exact pDE_0 he f
  | k + 1, p, f, h, he, hf => by
    obtain ⟨f, rfl⟩ : ∃ g, f = g + 1 := ⟨f - 1, by omega⟩
    have h0 := tx.hd (w := dgs k N) h
    have h1 := tx.tl (w := dgs k N) h
    show (if isD (B p) then pDE B f (p + 1) else p) = _
    rw [h0, if_pos (dg_isD (Nat.mod_lt _ (by decide))).1, pDE_dgs k (p + 1) f h1 (by rw [show p + 1 + (k + 1) = p + (k + 1 + 1) by omega]; exact he) (by omega)]
    omega
theorem pDN_dgs {B : Nat → Int32} {N : Nat} : ∀ k p f v, tx B p (dgs k N) → ¬ isD (B (p + (k + 1))) → k + 1 ≤ f → pDN B f p v = v * 10 ^ (k + 1) + N % 10 ^ (k + 1)
  | 0, p, f, v, h, he, hf => by
    obtain ⟨f, rfl⟩ : ∃ g, f = g + 1 := ⟨f - 1, by omega⟩
    have h0 := tx.hd (w := []) h
    show (if isD (B p) then pDN B f (p + 1) (10 * v + ((B p).toInt - 48).toNat) else v) = _
    rw [h0, if_pos (dg_isD (Nat.mod_lt _ (by decide))).1, (dg_isD (Nat.mod_lt _ (by decide))).2]
    rw [show p + (0 + 1) = p + 1 from rfl] at he
    rw [pDN_0 he]
    omega
  | k + 1, p, f, v, h, he, hf => by
    obtain ⟨f, rfl⟩ : ∃ g, f = g + 1 := ⟨f - 1, by omega⟩
    have h0 := tx.hd (w := dgs k N) h
    have h1 := tx.tl (w := dgs k N) h
    show (if isD (B p) then pDN B f (p + 1) (10 * v + ((B p).toInt - 48).toNat) else v) = _
    rw [h0, if_pos (dg_isD (Nat.mod_lt _ (by decide))).1, (dg_isD (Nat.mod_lt _ (by decide))).2, pDN_dgs k (p + 1) f _ h1 (by rw [show p + 1 + (k + 1) = p + (k + 1 + 1) by omega]; exact he) (by omega)]
    rw [Nat.mod_pow_succ (x := N) (b := 10) (k := k + 1), Nat.pow_succ 10 (k + 1), Nat.add_mul, Nat.mul_comm 10 v, Nat.mul_assoc v, Nat.mul_comm (N / 10 ^ (k + 1) % 10), Nat.mul_comm 10 (10 ^ (k + 1))]
    omega
theorem dgN_pow {N : Nat} (h : N < 100000) : N % 10 ^ (kdg N + 1) = N := by
  refine Nat.mod_eq_of_lt ?_
  rcases kdg_c h with c | c | c | c | c <;> rw [c.1] <;> omega
theorem sk_1 {B : Nat → Int32} {n p : Nat} (h : B p = 32) (h1 : B (p + 1) ≠ 32) (hp : p + 1 < n) : sk B n p = p + 1 := by
  unfold sk
  obtain ⟨f, e⟩ : ∃ g, n - p = g + 1 := ⟨n - p - 1, by omega⟩
  rw [e]
  show (if B p = 32 then pSk B f (p + 1) else p) = _
  rw [if_pos h]
  cases f with
  | zero => rfl
  | succ f => exact if_neg h1
theorem of_32 : Int32.ofNat 32 = 32 := by decide +kernel
theorem of_45 : Int32.ofNat 45 = 45 := by decide +kernel
theorem of_59 : Int32.ofNat 59 = 59 := by decide +kernel
theorem dg_hd {B : Nat → Int32} {q N : Nat} (h : tx B q (dgN N)) : isD (B q) := by
  unfold dgN at h
  cases hk : kdg N with
  | zero => rw [hk] at h; rw [tx.hd (w := []) h]; exact (dg_isD (Nat.mod_lt _ (by decide))).1
  | succ k => rw [hk] at h; rw [tx.hd (w := dgs k N) h]; exact (dg_isD (Nat.mod_lt _ (by decide))).1
theorem dg_dE {B : Nat → Int32} {q N n : Nat} (h : tx B q (dgN N)) (hN : N < 100000) (hn : q + (dgN N).length ≤ n) (he : ¬ isD (B (q + (dgN N).length))) : dE B n q = q + (dgN N).length ∧ dN B n q = N := by
  have hl : (dgN N).length = kdg N + 1 := dgs_len _ _
  rw [hl] at hn he ⊢
  refine ⟨pDE_dgs _ q _ h he (by omega), ?_⟩
  unfold dN
  rw [pDN_dgs _ q _ 0 h he (by omega), Nat.zero_mul, Nat.zero_add, dgN_pow hN]
theorem nmW_n {x : Int32} (h : 0 ≤ x.toInt) : nmW x = 32 :: dgN x.toInt.natAbs := by
  unfold nmW; rw [if_neg (by omega)]; rfl
theorem nmW_m {x : Int32} (h : x.toInt < 0) : nmW x = 32 :: 45 :: dgN x.toInt.natAbs := by
  unfold nmW; rw [if_pos h]; rfl
theorem pN_w {B : Nat → Int32} {n p : Nat} {x : Int32} {lo hi : Int} (h : tx B p (nmW x)) (h0 : 0 ≤ x.toInt) (h5 : x.toInt < 100000) (h1 : lo ≤ x.toInt) (h2 : x.toInt ≤ hi) (hn : p + (nmW x).length ≤ n) (he : ¬ isD (B (p + (nmW x).length))) : pN B n lo hi p = (0, p + (nmW x).length, x.toInt) ∧ sk B n p = p + 1 := by
  rw [nmW_n h0] at h hn he ⊢
  rw [List.length_cons] at hn he ⊢
  have t1 := h.tl
  have d := dg_hd t1
  have hl := (dgN_len x.toInt.natAbs).2
  have s : sk B n p = p + 1 := sk_1 (h.hd.trans of_32) (isD_32 d).1 (by omega)
  obtain ⟨e1, e2⟩ := dg_dE (n := n) t1 (by omega) (by omega) (by rw [show p + 1 + (dgN x.toInt.natAbs).length = p + ((dgN x.toInt.natAbs).length + 1) by omega]; exact he)
  refine ⟨?_, s⟩
  unfold pN
  rw [s, if_pos d, e1, e2, if_pos ⟨by omega, by omega⟩]
  refine Prod.ext rfl (Prod.ext ?_ ?_)
  · show p + 1 + (dgN x.toInt.natAbs).length = p + ((dgN x.toInt.natAbs).length + 1)
    omega
  · show ((x.toInt.natAbs : Nat) : Int) = x.toInt
    omega
theorem pS_w {B : Nat → Int32} {n p : Nat} {x : Int32} {m : Int} (h : tx B p (nmW x)) (h5 : -100000 < x.toInt ∧ x.toInt < 100000) (h1 : -m ≤ x.toInt) (h2 : x.toInt ≤ m) (hn : p + (nmW x).length ≤ n) (he : ¬ isD (B (p + (nmW x).length))) : pS B n m p = (0, p + (nmW x).length, x.toInt) ∧ sk B n p = p + 1 := by
  by_cases c : x.toInt < 0
  · rw [nmW_m c] at h hn he ⊢
    rw [List.length_cons, List.length_cons] at hn he ⊢
    have t1 := h.tl
    have t2 := t1.tl
    have d := dg_hd t2
    have hl := (dgN_len x.toInt.natAbs).2
    have e45 : B (p + 1) = 45 := t1.hd.trans of_45
    have s : sk B n p = p + 1 := sk_1 (h.hd.trans of_32) (by rw [e45]; decide) (by omega)
    have s2 : sk B n (p + 1 + 1) = p + 1 + 1 := sk_fix (Or.inr (isD_32 d).1)
    obtain ⟨e1, e2⟩ := dg_dE (n := n) t2 (by omega) (by omega) (by rw [show p + 1 + 1 + (dgN x.toInt.natAbs).length = p + ((dgN x.toInt.natAbs).length + 1 + 1) by omega]; exact he)
    refine ⟨?_, s⟩
    unfold pS
    rw [s, if_pos e45, s2, if_pos d, e1, e2, if_pos (by omega)]
    refine Prod.ext rfl (Prod.ext ?_ ?_)
    · show p + 1 + 1 + (dgN x.toInt.natAbs).length = p + ((dgN x.toInt.natAbs).length + 1 + 1)
      omega
    · show -((x.toInt.natAbs : Nat) : Int) = x.toInt
      omega
  · obtain ⟨a, s⟩ := pN_w (lo := -m) (hi := m) h (by omega) h5.2 h1 h2 hn he
    refine ⟨?_, s⟩
    unfold pS
    rw [s, if_neg, a]
    rw [nmW_n (by omega)] at h
    exact (isD_32 (dg_hd h.tl)).2
theorem pS_sk {B : Nat → Int32} {n p : Nat} {m : Int} (hp : p ≤ n) : pS B n m (sk B n p) = pS B n m p := by
  unfold pS pN
  rw [sk_sk B hp]
theorem wB_no {B : Nat → Int32} {j p k : Nat} {c : Nat} (hc : B (p + k) = Int32.ofNat c) (hk : k < ev_len.getD j 0) (hs : Int32.ofNat c ≠ sB j k) : wB B j p = false := by
  cases h : wB B j p with
  | false => rfl
  | true => exact absurd (hc.symm.trans ((wB_iff.mp h).1 k hk)) hs
theorem wB_nl {B : Nat → Int32} {j p : Nat} (h : isLt (B (p + ev_len.getD j 0))) : wB B j p = false := by
  cases e : wB B j p with
  | false => rfl
  | true => exact absurd h (wB_iff.mp e).2
theorem wB_ok {B : Nat → Int32} {j p : Nat} (hj : j < 26) (h : tx B p (txtN j)) (hl : ¬ isLt (B (p + ev_len.getD j 0))) : wB B j p = true := by
  have h24 := ev_len_le j
  refine wB_iff.mpr ⟨fun k hk => ?_, hl⟩
  rw [h k (by rw [txtN_len j hj]; exact hk), (txtN_at j hj k (by omega) hk).2]
theorem nl_32 {x : Int32} (h : x = 32) : ¬ isLt x ∧ ¬ isD x := by
  subst h
  have a : (32 : Int32).toInt = 32 := by decide +kernel
  unfold isLt isD; rw [a]; omega
theorem nl_59 {x : Int32} (h : x = 59) : ¬ isLt x ∧ ¬ isD x ∧ x ≠ 32 := by
  subst h
  have a : (59 : Int32).toInt = 59 := by decide +kernel
  unfold isLt isD; rw [a]; exact ⟨by omega, by omega, by decide⟩
theorem nmW_hd {B : Nat → Int32} {p : Nat} {x : Int32} (h : tx B p (nmW x)) : B p = 32 := by
  by_cases c : x.toInt < 0
  · rw [nmW_m c] at h; exact h.hd.trans of_32
  · rw [nmW_n (by omega)] at h; exact h.hd.trans of_32
theorem nmW_1 (x : Int32) : 1 ≤ (nmW x).length := by
  by_cases c : x.toInt < 0
  · rw [nmW_m c, List.length_cons]; omega
  · rw [nmW_n (by omega), List.length_cons]; omega
