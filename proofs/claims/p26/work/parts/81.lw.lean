/-! what the law writes -/
theorem ar_b255 (v : Int32) : (vp_nar .byte v.toInt8.toInt32) &&& 255 = v &&& 255 := by
  have e : vp_nar .byte v.toInt8.toInt32 = v.toInt8.toInt32.toInt8.toInt32 := rfl
  have q : ∀ i, i < 32 → (255#32).getLsbD i = decide (i < 8) := by decide +kernel
  rw [e, show v.toInt8.toInt32.toInt8 = v.toInt8 from by rw [Int8.toInt8_toInt32]]
  rw [← Int32.toBitVec_inj, Int32.toBitVec_and, Int32.toBitVec_and]
  apply BitVec.eq_of_getLsbD_eq
  intro i hi
  rw [BitVec.getLsbD_and, BitVec.getLsbD_and, show (255 : Int32).toBitVec = 255#32 from rfl, q i hi]
  by_cases c : i < 8
  · rw [decide_eq_true c, Bool.and_true, Bool.and_true]
    show (v.toInt8.toInt32.toBitVec).getLsbD i = _
    rw [Int8.toBitVec_toInt32, BitVec.getLsbD_signExtend, decide_eq_true hi, Bool.true_and, if_pos c, Int32.toBitVec_toInt8, BitVec.getLsbD_signExtend, decide_eq_true c, Bool.true_and, if_pos hi]
  · rw [decide_eq_false c, Bool.and_false, Bool.and_false]
/-- the twenty bytes -/
def bl5 (x y z w u : Int32) : List Int32 := [x >>> ((24 : Int32) &&& 31), x >>> ((16 : Int32) &&& 31), x >>> ((8 : Int32) &&& 31), x >>> ((0 : Int32) &&& 31), y >>> ((24 : Int32) &&& 31), y >>> ((16 : Int32) &&& 31), y >>> ((8 : Int32) &&& 31), y >>> ((0 : Int32) &&& 31), z >>> ((24 : Int32) &&& 31), z >>> ((16 : Int32) &&& 31), z >>> ((8 : Int32) &&& 31), z >>> ((0 : Int32) &&& 31), w >>> ((24 : Int32) &&& 31), w >>> ((16 : Int32) &&& 31), w >>> ((8 : Int32) &&& 31), w >>> ((0 : Int32) &&& 31), u >>> ((24 : Int32) &&& 31), u >>> ((16 : Int32) &&& 31), u >>> ((8 : Int32) &&& 31), u >>> ((0 : Int32) &&& 31)]
theorem sAW_fold (S : SS) (x y z w u : Int32) : sAW (sAW (sAW (sAW (sAW S x) y) z) w) u = (bl5 x y z w u).foldl sAB S := by
  unfold sAW bl5
  simp only [List.foldl_cons, List.foldl_nil]
theorem sAB_fold : ∀ (l : List Int32) (S : SS), 0 ≤ (S.1 0).toInt → (S.1 0).toInt + (l.length : Int) ≤ 500 →
    ((l.foldl sAB S).1 0).toInt = (S.1 0).toInt + (l.length : Int) ∧ (∀ k, k ≠ 0 → (l.foldl sAB S).1 k = S.1 k) ∧ (l.foldl sAB S).2.2 = S.2.2 ∧ (∀ p, p < (S.1 0).toInt.toNat → (l.foldl sAB S).2.1 0 p = S.2.1 0 p) ∧ (∀ i v, l[i]? = some v → (l.foldl sAB S).2.1 0 ((S.1 0).toInt.toNat + i) = vp_nar .byte v.toInt8.toInt32)
  | [], S, _, _ => ⟨by show (S.1 0).toInt = (S.1 0).toInt + ((0 : Nat) : Int); omega, fun _ _ => rfl, rfl, fun _ _ => rfl, fun i v h => by simp at h⟩
  | a :: l, S, h0, h1 => by
    rw [List.length_cons] at h1 ⊢
    have e0 : ((sAB S a).1 0).toInt = (S.1 0).toInt + 1 := sAB_i a rfl h0 (by omega)
    obtain ⟨g1, g2, g3, g4, g5⟩ := sAB_fold l (sAB S a) (by omega) (by omega)
    have er : (sAB S a).2.1 0 = ev_u (S.2.1 0) (S.1 0).toInt.toNat (vp_nar .byte a.toInt8.toInt32) := rfl
    have en : ((sAB S a).1 0).toInt.toNat = (S.1 0).toInt.toNat + 1 := by omega
    refine ⟨?_, fun k hk => ?_, ?_, fun p hp => ?_, fun i v hv => ?_⟩
    · show ((l.foldl sAB (sAB S a)).1 0).toInt = _
      rw [g1, e0]; omega
    · show (l.foldl sAB (sAB S a)).1 k = _
      rw [g2 k hk]; exact ev_u_ne _ _ hk
    · show (l.foldl sAB (sAB S a)).2.2 = _
      rw [g3]; rfl
    · show (l.foldl sAB (sAB S a)).2.1 0 p = _
      rw [g4 p (by omega), er, ev_u_ne _ _ (by omega)]
    · show (l.foldl sAB (sAB S a)).2.1 0 _ = _
      cases i with
      | zero =>
        rw [List.getElem?_cons_zero] at hv
        cases hv
        rw [g4 _ (by omega), er, Nat.add_zero, ev_u_self]
      | succ i =>
        rw [List.getElem?_cons_succ] at hv
        have := g5 i v hv
        rw [en, show (S.1 0).toInt.toNat + 1 + i = (S.1 0).toInt.toNat + (i + 1) by omega] at this
        exact this
/-- the system's cells in a heap -/
def SY (G : ev_G) (b : Nat) (S : SS) (a : ev_H) : Prop := ∀ j, j < 157 → a.1 (b + j) = some (sy_cell G b S j)
theorem SY.eq {G : ev_G} {b : Nat} {S : SS} {a : ev_H} (h : SY G b S a) : a = sy G b S a := by
  refine Prod.ext (funext fun q => ?_) rfl
  show a.1 q = if b ≤ q ∧ q < b + 157 then some (sy_cell G b S (q - b)) else a.1 q
  by_cases c : b ≤ q ∧ q < b + 157
  · rw [if_pos c, ← h (q - b) (by omega), show b + (q - b) = q by omega]
  · rw [if_neg c]
theorem SY.of (G : ev_G) (b : Nat) (S : SS) (h : ev_H) : SY G b S (sy G b S h) := fun j hj => sy_at G b S h j hj
theorem sy_o (G : ev_G) (b : Nat) (S : SS) (h : ev_H) {q : Nat} (hq : ¬ (b ≤ q ∧ q < b + 157)) : (sy G b S h).1 q = h.1 q := if_neg hq
theorem SY.put {G : ev_G} {b : Nat} {S : SS} {a : ev_H} (h : SY G b S a) {q : Nat} (e : va_E) (hq : ¬ (b ≤ q ∧ q < b + 157)) : SY G b S (ev_put a q e) := fun j hj => by rw [put_ne _ _ (by omega)]; exact h j hj
theorem SY.to {G : ev_G} {b : Nat} {S : SS} {a a' : ev_H} (h : SY G b S a) (s : sub a a') : SY G b S a' := fun j hj => s _ _ (h j hj)
/-- only the system's cells and the buffer have changed -/
def fw (a a' : ev_H) (b u : Nat) : Prop := ∀ (q : Nat) (e : va_E), a.1 q = some e → ¬ (b ≤ q ∧ q < b + 157) → q ≠ u → a'.1 q = some e
theorem fw.rf (a : ev_H) (b u : Nat) : fw a a b u := fun _ _ h _ _ => h
theorem fw.tr {a b c : ev_H} {x u : Nat} (h : fw a b x u) (g : fw b c x u) : fw a c x u := fun q e he h1 h2 => g q e (h q e he h1 h2) h1 h2
def kpx (S S' : SS) : Prop := (∀ i, i ≠ 0 → S'.1 i = S.1 i) ∧ S'.2.2 = S.2.2
theorem kpx.tr {S S' S'' : SS} (h : kpx S S') (g : kpx S' S'') : kpx S S'' := ⟨fun i hi => (g.1 i hi).trans (h.1 i hi), g.2.trans h.2⟩
/-- the text's characters -/
def chT (T : List Nat) (k : Nat) : Nat := T.getD k 0
def wdT (T : List Nat) (p : Nat) : Nat := chT T p * 16777216 + chT T (p + 1) * 65536 + chT T (p + 2) * 256 + chT T (p + 3)
theorem chT_lt {T : List Nat} (h : ∀ c ∈ T, c < 128) (k : Nat) : chT T k < 128 := by
  unfold chT
  rw [List.getD_eq_getElem?_getD]
  by_cases c : k < T.length
  · rw [List.getElem?_eq_getElem c, Option.getD_some]
    exact h _ (List.getElem_mem c)
  · rw [List.getElem?_eq_none (by omega)]; decide
theorem chT_ge {T : List Nat} {k : Nat} (h : T.length ≤ k) : chT T k = 0 := by
  unfold chT
  rw [List.getD_eq_getElem?_getD, List.getElem?_eq_none h]
  rfl
theorem chT_l {T : List Nat} (R : List Nat) {k : Nat} (h : k < T.length) : chT (T ++ R) k = chT T k := by
  unfold chT
  rw [List.getD_eq_getElem?_getD, List.getD_eq_getElem?_getD, List.getElem?_append_left h]
theorem chT_r {T : List Nat} (R : List Nat) {k : Nat} (h : T.length ≤ k) : chT (T ++ R) k = chT R (k - T.length) := by
  unfold chT
  rw [List.getD_eq_getElem?_getD, List.getD_eq_getElem?_getD, List.getElem?_append_right h]
theorem wdT_lt {T : List Nat} (h : ∀ c ∈ T, c < 128) (p : Nat) : wdT T p < 2147483648 := by
  have a := chT_lt h p
  have b := chT_lt h (p + 1)
  have c := chT_lt h (p + 2)
  have e := chT_lt h (p + 3)
  unfold wdT
  omega
theorem or_sh (A c s : Nat) (hc : c < 256) : (A * 2 ^ (s + 8)) ||| (c * 2 ^ s) = A * 2 ^ (s + 8) + c * 2 ^ s := by
  have h : c * 2 ^ s < 2 ^ (s + 8) := by
    rw [Nat.pow_add, Nat.mul_comm (2 ^ s)]
    exact Nat.mul_lt_mul_of_pos_right hc (Nat.two_pow_pos s)
  have := Nat.shiftLeft_add_eq_or_of_lt h A
  rw [Nat.shiftLeft_eq] at this
  exact this.symm
theorem or_of (A B : Nat) : Int32.ofNat A ||| Int32.ofNat B = Int32.ofNat (A ||| B) := by
  rw [← Int32.toBitVec_inj, Int32.toBitVec_or, Int32.toBitVec_ofNat', Int32.toBitVec_ofNat', Int32.toBitVec_ofNat', BitVec.ofNat_or]
theorem shl_of : ∀ c : Fin 128, ∀ r : Fin 4, Int32.ofNat c.1 <<< ((Int32.ofNat (24 - 8 * r.1)) &&& 31) = Int32.ofNat (c.1 * 2 ^ (24 - 8 * r.1)) := by decide +kernel
/-- one character more in the word -/
theorem wdT_up {T : List Nat} (h : ∀ c ∈ T, c < 128) {c p : Nat} (hc : c < 128) (h1 : p ≤ T.length) (h2 : T.length < p + 4) : Int32.ofNat (wdT T p) ||| (Int32.ofNat c <<< ((Int32.ofNat (24 - 8 * (T.length - p))) &&& 31)) = Int32.ofNat (wdT (T ++ [c]) p) := by
  have hs : Int32.ofNat c <<< ((Int32.ofNat (24 - 8 * (T.length - p))) &&& 31) = Int32.ofNat (c * 2 ^ (24 - 8 * (T.length - p))) := shl_of ⟨c, hc⟩ ⟨T.length - p, by omega⟩
  rw [hs, or_of]
  have z0 : ∀ k, T.length ≤ k → chT T k = 0 := fun k hk => chT_ge hk
  have zl : ∀ k, k < T.length → chT (T ++ [c]) k = chT T k := fun k hk => chT_l [c] hk
  have zn : chT (T ++ [c]) T.length = c := by rw [chT_r [c] (Nat.le_refl _), Nat.sub_self]; rfl
  have zg : ∀ k, T.length < k → chT (T ++ [c]) k = 0 := fun k hk => chT_ge (by rw [List.length_append, List.length_singleton]; omega)
  rcases (show T.length = p ∨ T.length = p + 1 ∨ T.length = p + 2 ∨ T.length = p + 3 by omega) with e | e | e | e
  · have q : wdT T p = 0 := by unfold wdT; rw [z0 p (by omega), z0 (p + 1) (by omega), z0 (p + 2) (by omega), z0 (p + 3) (by omega)]
    have q2 : wdT (T ++ [c]) p = c * 2 ^ 24 := by unfold wdT; rw [← e, zn, zg (T.length + 1) (by omega), zg (T.length + 2) (by omega), zg (T.length + 3) (by omega)]; omega
    rw [q, q2, show 24 - 8 * (T.length - p) = 24 by omega, Nat.zero_or]
  · have q : wdT T p = chT T p * 2 ^ (16 + 8) := by unfold wdT; rw [z0 (p + 1) (by omega), z0 (p + 2) (by omega), z0 (p + 3) (by omega)]; omega
    have q2 : wdT (T ++ [c]) p = chT T p * 2 ^ (16 + 8) + c * 2 ^ 16 := by unfold wdT; rw [zl p (by omega), ← e, zn, show p + 2 = T.length + 1 by omega, show p + 3 = T.length + 2 by omega, zg (T.length + 1) (by omega), zg (T.length + 2) (by omega)]; omega
    rw [q, q2, show 24 - 8 * (T.length - p) = 16 by omega, or_sh _ _ _ (by omega)]
  · have q : wdT T p = (chT T p * 256 + chT T (p + 1)) * 2 ^ (8 + 8) := by unfold wdT; rw [z0 (p + 2) (by omega), z0 (p + 3) (by omega)]; omega
    have q2 : wdT (T ++ [c]) p = (chT T p * 256 + chT T (p + 1)) * 2 ^ (8 + 8) + c * 2 ^ 8 := by unfold wdT; rw [zl p (by omega), zl (p + 1) (by omega), ← e, zn, show p + 3 = T.length + 1 by omega, zg (T.length + 1) (by omega)]; omega
    rw [q, q2, show 24 - 8 * (T.length - p) = 8 by omega, or_sh _ _ _ (by omega)]
  · have q : wdT T p = (chT T p * 65536 + chT T (p + 1) * 256 + chT T (p + 2)) * 2 ^ (0 + 8) := by unfold wdT; rw [z0 (p + 3) (by omega)]; omega
    have q2 : wdT (T ++ [c]) p = (chT T p * 65536 + chT T (p + 1) * 256 + chT T (p + 2)) * 2 ^ (0 + 8) + c * 2 ^ 0 := by unfold wdT; rw [zl p (by omega), zl (p + 1) (by omega), zl (p + 2) (by omega), ← e, zn]; omega
    rw [q, q2, show 24 - 8 * (T.length - p) = 0 by omega, or_sh _ _ _ (by omega)]
/-- words before it stay -/
theorem wdT_old {T : List Nat} {c p : Nat} (h : p + 4 ≤ T.length) : wdT (T ++ [c]) p = wdT T p := by
  unfold wdT
  rw [chT_l _ (by omega), chT_l _ (by omega), chT_l _ (by omega), chT_l _ (by omega)]
theorem wdT_new {T : List Nat} {c p : Nat} (h : T.length < p) : wdT (T ++ [c]) p = 0 ∧ wdT T p = 0 := by
  unfold wdT
  have g : ∀ k, p ≤ k → chT (T ++ [c]) k = 0 := fun k hk => chT_ge (by rw [List.length_append, List.length_singleton]; omega)
  have g' : ∀ k, p ≤ k → chT T k = 0 := fun k hk => chT_ge (by omega)
  rw [g p (by omega), g (p + 1) (by omega), g (p + 2) (by omega), g (p + 3) (by omega), g' p (by omega), g' (p + 1) (by omega), g' (p + 2) (by omega), g' (p + 3) (by omega)]
  exact ⟨rfl, rfl⟩
theorem sh_by {N s : Nat} (hN : N < 2147483648) (hs : s < 32) (e : (((Int32.ofNat s) &&& 31).toBitVec.smod 32).toNat = s) : (Int32.ofNat N >>> ((Int32.ofNat s) &&& 31)) &&& 255 = Int32.ofNat (N / 2 ^ s % 256) := by
  rw [← Int32.toBitVec_inj, Int32.toBitVec_and, Int32.toBitVec_shiftRight, Int32.toBitVec_ofNat', Int32.toBitVec_ofNat']
  apply BitVec.eq_of_toNat_eq
  rw [BitVec.toNat_and]
  show (BitVec.sshiftRight _ _).toNat &&& _ = _
  rw [BitVec.toNat_sshiftRight, e]
  have n0 : (BitVec.ofNat 32 N).toNat = N := by rw [BitVec.toNat_ofNat]; omega
  have m0 : (BitVec.ofNat 32 N).msb = false := by rw [BitVec.msb_eq_decide, n0]; exact decide_eq_false (by omega)
  rw [m0, if_neg (by decide), n0, Nat.shiftRight_eq_div_pow]
  show N / 2 ^ s &&& (2 ^ 8 - 1) = _
  rw [Nat.and_two_pow_sub_one_eq_mod, BitVec.toNat_ofNat]
  show N / 2 ^ s % 256 = N / 2 ^ s % 256 % 2 ^ 32
  omega
theorem wd_by {T : List Nat} (h : ∀ c ∈ T, c < 128) (p : Nat) : ((Int32.ofNat (wdT T p) >>> ((24 : Int32) &&& 31)) &&& 255 = Int32.ofNat (chT T p)) ∧ ((Int32.ofNat (wdT T p) >>> ((16 : Int32) &&& 31)) &&& 255 = Int32.ofNat (chT T (p + 1))) ∧ ((Int32.ofNat (wdT T p) >>> ((8 : Int32) &&& 31)) &&& 255 = Int32.ofNat (chT T (p + 2))) ∧ ((Int32.ofNat (wdT T p) >>> ((0 : Int32) &&& 31)) &&& 255 = Int32.ofNat (chT T (p + 3))) := by
  have a := chT_lt h p
  have b := chT_lt h (p + 1)
  have c := chT_lt h (p + 2)
  have e := chT_lt h (p + 3)
  have w := wdT_lt h p
  have d24 := sh_by (s := 24) w (by decide) (by decide +kernel)
  have d16 := sh_by (s := 16) w (by decide) (by decide +kernel)
  have d8 := sh_by (s := 8) w (by decide) (by decide +kernel)
  have d0 := sh_by (s := 0) w (by decide) (by decide +kernel)
  refine ⟨d24.trans (congrArg Int32.ofNat ?_), d16.trans (congrArg Int32.ofNat ?_), d8.trans (congrArg Int32.ofNat ?_), d0.trans (congrArg Int32.ofNat ?_)⟩ <;> unfold wdT <;> omega
/-- the text so far: what fills twenties is appended, the rest lies in the buffer -/
def TXT (G : ev_G) (a : ev_H) (u : Nat) (S : SS) (T : List Nat) : Prop :=
  (∃ f : Nat → Int32, a.1 u = some (.inl (G.2.1 0, 8, .inl f)) ∧ f 0 = Int32.ofNat T.length ∧ ∀ j, j < 5 → f (1 + j) = Int32.ofNat (wdT T (20 * (T.length / 20) + 4 * j))) ∧ S.1 0 = Int32.ofNat (20 * (T.length / 20)) ∧ (∀ k, k < 20 * (T.length / 20) → S.2.1 0 k &&& 255 = Int32.ofNat (chT T k)) ∧ ∀ c ∈ T, c < 128
/-- what twenty appended bytes leave -/
theorem sAW5 {S : SS} {p : Nat} {x y z w u : Int32} (hp : S.1 0 = Int32.ofNat p) (h480 : p ≤ 480) : kpx S (sAW (sAW (sAW (sAW (sAW S x) y) z) w) u) ∧ (sAW (sAW (sAW (sAW (sAW S x) y) z) w) u).1 0 = Int32.ofNat (p + 20) ∧ (∀ k, k < p → (sAW (sAW (sAW (sAW (sAW S x) y) z) w) u).2.1 0 k = S.2.1 0 k) ∧ ∀ i v, (bl5 x y z w u)[i]? = some v → (sAW (sAW (sAW (sAW (sAW S x) y) z) w) u).2.1 0 (p + i) &&& 255 = v &&& 255 := by
  rw [sAW_fold]
  have hp2 : (S.1 0).toInt = (p : Int) := by rw [hp, ar_of (by omega)]
  have hn : (S.1 0).toInt.toNat = p := by omega
  have hL : (bl5 x y z w u).length = 20 := rfl
  obtain ⟨g1, g2, g3, g4, g5⟩ := sAB_fold (bl5 x y z w u) S (by omega) (by rw [hL]; omega)
  rw [hn] at g4 g5
  refine ⟨⟨fun i hi => g2 i hi, g3⟩, ar_eq (by rw [g1, hL, hp2, ar_of (by omega)]; omega), g4, fun i v hv => by rw [g5 i v hv]; exact ar_b255 v⟩
section LWR
variable {G : ev_G} {l : Launch} {a : ev_H} {b u : Nat} {S : SS} {T : List Nat} {x : Int32}
set_option maxRecDepth 20000 in
theorem lp_flush {J : ev_K} {FF : Nat → Int32} {k n : Nat} (hk : ∀ (f : Nat → Int32) (c : ev_H), c.1 u = some (.inl (G.2.1 0, 8, .inl f)) → (∀ j, j < 5 → f (1 + j) = 0) → f 0 = FF 0 → (∀ q, q ≠ u → c.1 q = a.1 q) → c.2 = a.2 → ev_V G l mL_flush J 38 [] [] c k n) : ∀ (r i : Nat) (y : Int32) (f : Nat → Int32) (c : ev_H), r + i = 6 → 1 ≤ i → y.toInt = (i : Int) → c.1 u = some (.inl (G.2.1 0, 8, .inl f)) → (∀ j, 1 + j < i → f (1 + j) = 0) → f 0 = FF 0 → (∀ q, q ≠ u → c.1 q = a.1 q) → c.2 = a.2 → ev_V G l mL_flush J 22 [some (.ref b), some (.ref u), some (.int y)] [] c k n := by
  intro r
  induction r with
  | zero =>
    intro i y f c hr h1 hy hu hz h0 ho hs
    have w6 : (6 : Int32).toInt = 6 := by decide +kernel
    refine e_iload_n dL_flush_22 rfl rfl ?_
    refine e_bipush (v := 6) dL_flush_23 (by decide) ?_
    refine e_icmp_ge (tgt := 38) dL_flush_25 (by decide) (fun _ => ?_) (fun c9 => absurd c9 (by omega))
    exact ev_lc (hk f c hu (fun j hj => hz j (by omega)) h0 ho hs) trivial
  | succ r ih =>
    intro i y f c hr h1 hy hu hz h0 ho hs
    have w6 : (6 : Int32).toInt = 6 := by decide +kernel
    have hn : y.toInt.toNat = i := ar_nat hy
    refine e_iload_n dL_flush_22 rfl rfl ?_
    refine e_bipush (v := 6) dL_flush_23 (by decide) ?_
    refine e_icmp_ge (tgt := 38) dL_flush_25 (by decide) (fun c9 => absurd c9 (by omega)) (fun _ => ?_)
    refine e_aload_n dL_flush_28 rfl rfl ?_
    refine e_iload_n dL_flush_29 rfl rfl ?_
    refine e_iconst (v := 0) dL_flush_30 (by decide) ?_
    refine e_iast hu (by omega) (by omega) dL_flush_31 ?_
    rw [hn]
    refine e_iinc dL_flush_32 rfl rfl (Nat.le_of_ble_eq_true rfl) ?_
    refine e_goto (tgt := 22) dL_flush_35 (by decide) ?_
    refine ih (i + 1) _ _ _ (by omega) (by omega) (ar_inc hy (by omega)) (put_eq _ _ _) (fun j hj => ?_) (by rw [ev_u_ne _ _ (by omega)]; exact h0) (fun q hq => by rw [put_ne _ _ hq]; exact ho q hq) hs
    by_cases e : 1 + j = i
    · rw [e, ev_u_self]
    · rw [ev_u_ne _ _ e]; exact hz j (by omega)
set_option maxRecDepth 20000 in
theorem ct_L_flush {p : Nat} {f : Nat → Int32} (hS : SY G b S a) (hu : a.1 u = some (.inl (G.2.1 0, 8, .inl f))) (hub : ¬ (b ≤ u ∧ u < b + 157)) (hp : S.1 0 = Int32.ofNat p) (h480 : p ≤ 480) : ev_Ct G l mL_flush 6 0 0 [.ref b, .ref u] a (fun v c => v = none ∧ SY G b (sAW (sAW (sAW (sAW (sAW S (f 1)) (f 2)) (f 3)) (f 4)) (f 5)) c ∧ (∃ f2 : Nat → Int32, c.1 u = some (.inl (G.2.1 0, 8, .inl f2)) ∧ (∀ j, j < 5 → f2 (1 + j) = 0) ∧ f2 0 = f 0) ∧ fw a c b u ∧ c.2 = a.2) (fun _ _ => False) := by
  refine ev_Ct.of (by decide +kernel) (Nat.le_of_ble_eq_true rfl) ?_
  have hp2 : (S.1 0).toInt = (p : Int) := by rw [hp, ar_of (by omega)]
  have hx : ∀ i, (i = 1 ∨ i = 2 ∨ i = 3 ∨ i = 4 ∨ i = 5) → (sy G b S a).1 u = some (.inl (G.2.1 0, 8, .inl f)) := fun _ _ => by rw [sy_o G b S a hub]; exact hu
  refine ev_as hS.eq ?_
  refine e_aload_n dL_flush_0 rfl rfl ?_
  refine e_aload_n dL_flush_1 rfl rfl ?_
  refine e_iconst (v := 1) dL_flush_2 (by decide) ?_
  refine e_iald (hx 1 (by omega)) (by decide) (by decide) dL_flush_3 ?_
  refine e_aload_n dL_flush_4 rfl rfl ?_
  refine e_iconst (v := 2) dL_flush_5 (by decide) ?_
  refine e_iald (hx 1 (by omega)) (by decide) (by decide) dL_flush_6 ?_
  refine e_aload_n dL_flush_7 rfl rfl ?_
  refine e_iconst (v := 3) dL_flush_8 (by decide) ?_
  refine e_iald (hx 1 (by omega)) (by decide) (by decide) dL_flush_9 ?_
  refine e_aload_n dL_flush_10 rfl rfl ?_
  refine e_iconst (v := 4) dL_flush_11 (by decide) ?_
  refine e_iald (hx 1 (by omega)) (by decide) (by decide) dL_flush_12 ?_
  refine e_aload_n dL_flush_13 rfl rfl ?_
  refine e_iconst (v := 5) dL_flush_14 (by decide) ?_
  refine e_iald (hx 1 (by omega)) (by decide) (by decide) dL_flush_15 ?_
  refine e_invV (mcY := 0) (msY := 0) (ct_X6_append (by omega) (by omega)) vX6_append wM_L_13 (sy_at G b S a 0 (by decide)) rfl dL_flush_16 rfl rfl (Nat.le_of_ble_eq_true rfl) (Nat.le_of_ble_eq_true rfl) ?_
  rintro v c (⟨h1, -⟩ | ⟨-, rfl, hc⟩)
  · exact absurd h1 (by omega)
  refine e_pop dL_flush_19 rfl ?_
  refine e_iconst (v := 1) dL_flush_20 (by decide) ?_
  refine e_istore_n dL_flush_21 rfl (Nat.le_of_ble_eq_true rfl) ?_
  rw [hc]
  refine lp_flush (a := sy G b (sAW (sAW (sAW (sAW (sAW S (f 1)) (f 2)) (f 3)) (f 4)) (f 5)) a) (FF := f) (fun f2 c2 q1 q2 q3 q4 q5 => ?_) 5 1 1 f _ (by omega) (by omega) ar_1 (by rw [sy_o G b _ a hub]; exact hu) (fun j hj => absurd hj (by omega)) rfl (fun q hq => rfl) rfl
  refine e_vret rfl dL_flush_38 ⟨rfl, fun j hj => ?_, ⟨f2, q1, q2, q3⟩, fun q e he h1 h2 => ?_, q5⟩
  · rw [q4 _ (by omega)]
    exact sy_at G b _ a j hj
  · rw [q4 q h2, sy_o G b _ a h1]
    exact he
theorem put_ix : ∀ n : Fin 481, (1 : Int32) + (Int32.ofNat n.1 - Int32.ofNat n.1 / 20 * 20) / 4 = Int32.ofNat (1 + n.1 % 20 / 4) := by decide +kernel
theorem put_sh : ∀ n : Fin 481, (24 : Int32) - 8 * (Int32.ofNat n.1 - Int32.ofNat n.1 / 4 * 4) = Int32.ofNat (24 - 8 * (n.1 % 4)) := by decide +kernel
theorem put_20 : ∀ n : Fin 481, Int32.ofNat n.1 - Int32.ofNat n.1 / 20 * 20 = Int32.ofNat (n.1 % 20) := by decide +kernel
theorem of_1 (n : Nat) : Int32.ofNat n + 1 = Int32.ofNat (n + 1) := by
  rw [← Int32.toBitVec_inj, Int32.toBitVec_add, Int32.toBitVec_ofNat', Int32.toBitVec_ofNat', BitVec.ofNat_add]
  rfl
set_option maxRecDepth 20000 in
theorem ct_L_put {c : Nat} (hS : SY G b S a) (hub : ¬ (b ≤ u ∧ u < b + 157)) (hT : TXT G a u S T) (hc : c < 128) (hx : x = Int32.ofNat c) (hL : T.length < 480) : ev_Ct G l mL_put 7 0 0 [.ref b, .ref u, .int x] a (fun v h => v = none ∧ ∃ S2, SY G b S2 h ∧ TXT G h u S2 (T ++ [c]) ∧ kpx S S2 ∧ fw a h b u ∧ h.2 = a.2) (fun _ _ => False) := by
  refine ev_Ct.of (by decide +kernel) (Nat.le_of_ble_eq_true rfl) ?_
  obtain ⟨⟨f, hu, hf0, hf1⟩, t1, t2, t3⟩ := hT
  have i0 : (0 : Int32).toInt.toNat = 0 := by decide +kernel
  have dv := Nat.div_add_mod T.length 20
  have dl := Nat.mod_lt T.length (show 0 < 20 by decide)
  have dr : T.length % 20 / 4 < 5 := by omega
  have ix : ((1 : Int32) + (f 0 - f 0 / 20 * 20) / 4).toInt = ((1 + T.length % 20 / 4 : Nat) : Int) := by rw [hf0, put_ix ⟨T.length, by omega⟩, ar_of (by omega)]
  have ixn : ((1 : Int32) + (f 0 - f 0 / 20 * 20) / 4).toInt.toNat = 1 + T.length % 20 / 4 := ar_nat ix
  have h4 : 4 * (T.length % 20 / 4) + T.length % 4 = T.length % 20 := by omega
  have wv : f (1 + T.length % 20 / 4) ||| (x <<< ((24 - 8 * (f 0 - f 0 / 4 * 4)) &&& 31)) = Int32.ofNat (wdT (T ++ [c]) (20 * (T.length / 20) + 4 * (T.length % 20 / 4))) := by
    have q := wdT_up t3 hc (p := 20 * (T.length / 20) + 4 * (T.length % 20 / 4)) (by omega) (by omega)
    rw [hf1 _ dr, hf0, put_sh ⟨T.length, by omega⟩, hx]
    rw [show T.length - (20 * (T.length / 20) + 4 * (T.length % 20 / 4)) = T.length % 4 by omega] at q
    exact q
  refine e_aload_n dL_put_0 rfl rfl ?_
  refine e_iconst (v := 1) dL_put_1 (by decide) ?_
  refine e_aload_n dL_put_2 rfl rfl ?_
  refine e_iconst (v := 0) dL_put_3 (by decide) ?_
  refine e_iald hu (by decide) (by decide) dL_put_4 ?_
  rw [i0]
  refine e_bipush (v := 20) dL_put_5 (by decide) ?_
  refine e_irem dL_put_7 (by decide) ?_
  refine e_iconst (v := 4) dL_put_8 (by decide) ?_
  refine e_idiv dL_put_9 (by decide) ?_
  refine e_iadd dL_put_10 ?_
  refine e_dup2 dL_put_11 rfl rfl ?_
  refine e_iald hu (by omega) (by omega) dL_put_12 ?_
  rw [ixn]
  refine e_iload_n dL_put_13 rfl rfl ?_
  refine e_bipush (v := 24) dL_put_14 (by decide) ?_
  refine e_bipush (v := 8) dL_put_16 (by decide) ?_
  refine e_aload_n dL_put_18 rfl rfl ?_
  refine e_iconst (v := 0) dL_put_19 (by decide) ?_
  refine e_iald hu (by decide) (by decide) dL_put_20 ?_
  rw [i0]
  refine e_iconst (v := 4) dL_put_21 (by decide) ?_
  refine e_irem dL_put_22 (by decide) ?_
  refine e_imul dL_put_23 ?_
  refine e_isub dL_put_24 ?_
  refine e_ishl dL_put_25 ?_
  refine e_ior dL_put_26 ?_
  rw [wv]
  refine e_iast hu (by omega) (by omega) dL_put_27 ?_
  rw [ixn]
  refine e_aload_n dL_put_28 rfl rfl ?_
  refine e_iconst (v := 0) dL_put_29 (by decide) ?_
  refine e_dup2 dL_put_30 rfl rfl ?_
  refine e_iald (put_eq _ _ _) (by decide) (by decide) dL_put_31 ?_
  rw [i0, ev_u_ne _ _ (by omega), hf0]
  refine e_iconst (v := 1) dL_put_32 (by decide) ?_
  refine e_iadd dL_put_33 ?_
  rw [of_1]
  refine e_iast (put_eq _ _ _) (by decide) (by decide) dL_put_34 ?_
  rw [i0, put_put]
  generalize hF : ev_u (ev_u f (1 + T.length % 20 / 4) (Int32.ofNat (wdT (T ++ [c]) (20 * (T.length / 20) + 4 * (T.length % 20 / 4))))) 0 (Int32.ofNat (T.length + 1)) = F
  have F0 : F 0 = Int32.ofNat (T.length + 1) := by rw [← hF, ev_u_self]
  have Fj : ∀ j, j < 5 → F (1 + j) = Int32.ofNat (wdT (T ++ [c]) (20 * (T.length / 20) + 4 * j)) := fun j hj => by
    rw [← hF, ev_u_ne _ _ (by omega)]
    by_cases e : j = T.length % 20 / 4
    · rw [e, ev_u_self]
    · rw [ev_u_ne _ _ (by omega), hf1 j hj]
      by_cases e2 : j < T.length % 20 / 4
      · rw [wdT_old (by omega)]
      · rw [(wdT_new (T := T) (c := c) (by omega)).1, (wdT_new (T := T) (c := c) (by omega)).2]
  have hS1 := hS.put (.inl (G.2.1 0, 8, .inl F)) hub
  have hu1 : (ev_put a u (.inl (G.2.1 0, 8, .inl F))).1 u = some (.inl (G.2.1 0, 8, .inl F)) := put_eq _ _ _
  have hw1 : fw a (ev_put a u (.inl (G.2.1 0, 8, .inl F))) b u := fun q e he _ h2 => by rw [put_ne _ _ h2]; exact he
  have hz1 : (ev_put a u (.inl (G.2.1 0, 8, .inl F))).2 = a.2 := rfl
  generalize ev_put a u (.inl (G.2.1 0, 8, .inl F)) = a1 at hS1 hu1 hw1 hz1
  have t3' : ∀ c' ∈ T ++ [c], c' < 128 := fun c' h' => by
    rcases List.mem_append.mp h' with h' | h'
    · exact t3 c' h'
    · rw [List.mem_singleton.mp h']; exact hc
  have hLn : (T ++ [c]).length = T.length + 1 := by rw [List.length_append, List.length_singleton]
  have t2' : ∀ k, k < 20 * (T.length / 20) → S.2.1 0 k &&& 255 = Int32.ofNat (chT (T ++ [c]) k) := fun k hk => by rw [t2 k hk, chT_l _ (by omega)]
  refine e_aload_n dL_put_35 rfl rfl ?_
  refine e_iconst (v := 0) dL_put_36 (by decide) ?_
  refine e_iald hu1 (by decide) (by decide) dL_put_37 ?_
  rw [i0, F0]
  refine e_bipush (v := 20) dL_put_38 (by decide) ?_
  refine e_irem dL_put_40 (by decide) ?_
  rw [put_20 ⟨T.length + 1, by omega⟩]
  have h20 : (Int32.ofNat ((T.length + 1) % 20)).toInt = (((T.length + 1) % 20 : Nat) : Int) := ar_of (by omega)
  have z0 := ar_0
  refine e_if_ne (tgt := 49) dL_put_41 (by decide) (fun c41 => ?_) (fun c41 => ?_)
  · have n20 : (T.length + 1) % 20 ≠ 0 := fun q => c41 (ar_eq (by show (Int32.ofNat ((T.length + 1) % 20)).toInt = _; rw [h20, q]; exact z0.symm))
    have q20 : (T.length + 1) / 20 = T.length / 20 := by omega
    exact e_vret rfl dL_put_49 ⟨rfl, S, hS1, ⟨⟨F, hu1, by rw [hLn]; exact F0, by rw [hLn, q20]; exact Fj⟩, by rw [hLn, q20]; exact t1, by rw [hLn, q20]; exact t2', t3'⟩, ⟨fun _ _ => rfl, rfl⟩, hw1, hz1⟩
  · have n20 : (T.length + 1) % 20 = 0 := by
      have q := congrArg Int32.toInt c41
      rw [z0] at q
      have q2 : (Int32.ofNat ((T.length + 1) % 20)).toInt = 0 := q
      rw [h20] at q2; omega
    have q20 : (T.length + 1) / 20 = T.length / 20 + 1 := by omega
    have hl19 : T.length = 20 * (T.length / 20) + 19 := by omega
    refine e_aload_n dL_put_44 rfl rfl ?_
    refine e_aload_n dL_put_45 rfl rfl ?_
    refine e_invS (mcY := 0) (msY := 0) (ct_L_flush (p := 20 * (T.length / 20)) hS1 hu1 hub t1 (by omega)) vL_flush wM_L_7 dL_put_46 rfl rfl (Nat.le_of_ble_eq_true rfl) (Nat.le_of_ble_eq_true rfl) ?_
    rintro _ a2 ⟨rfl, hS2, ⟨f2, u2, u3, u4⟩, hw2, hz2⟩
    obtain ⟨k1, k2, k3, k4⟩ := sAW5 (x := F 1) (y := F 2) (z := F 3) (w := F 4) (u := F 5) t1 (by omega)
    refine e_vret rfl dL_put_49 ⟨rfl, _, hS2, ⟨⟨f2, u2, by rw [hLn, u4, F0], fun j hj => ?_⟩, ?_, fun k hk => ?_, t3'⟩, k1, hw1.tr hw2, hz2.trans hz1⟩
    · rw [u3 j hj, hLn, q20]
      have e : ∀ p, T.length < p → wdT (T ++ [c]) p = 0 := fun p hp => (wdT_new (T := T) (c := c) hp).1
      rw [e _ (by omega)]
      rfl
    · rw [hLn, q20, k2]
      exact congrArg Int32.ofNat (by omega)
    · rw [hLn, q20] at hk
      by_cases ck : k < 20 * (T.length / 20)
      · rw [k3 k ck]; exact t2' k ck
      · have e : k = 20 * (T.length / 20) + (k - 20 * (T.length / 20)) := by omega
        generalize hi : k - 20 * (T.length / 20) = i at e
        have hi20 : i < 20 := by omega
        rw [e]
        have b0 := wd_by t3' (20 * (T.length / 20) + 4 * 0)
        have b1 := wd_by t3' (20 * (T.length / 20) + 4 * 1)
        have b2 := wd_by t3' (20 * (T.length / 20) + 4 * 2)
        have b3 := wd_by t3' (20 * (T.length / 20) + 4 * 3)
        have b4 := wd_by t3' (20 * (T.length / 20) + 4 * 4)
        rw [← Fj 0 (by decide)] at b0
        rw [← Fj 1 (by decide)] at b1
        rw [← Fj 2 (by decide)] at b2
        rw [← Fj 3 (by decide)] at b3
        rw [← Fj 4 (by decide)] at b4
        rcases (show i = 0 ∨ i = 1 ∨ i = 2 ∨ i = 3 ∨ i = 4 ∨ i = 5 ∨ i = 6 ∨ i = 7 ∨ i = 8 ∨ i = 9 ∨ i = 10 ∨ i = 11 ∨ i = 12 ∨ i = 13 ∨ i = 14 ∨ i = 15 ∨ i = 16 ∨ i = 17 ∨ i = 18 ∨ i = 19 by omega) with rfl | rfl | rfl | rfl | rfl | rfl | rfl | rfl | rfl | rfl | rfl | rfl | rfl | rfl | rfl | rfl | rfl | rfl | rfl | rfl
        · exact (k4 0 _ rfl).trans b0.1
        · exact (k4 1 _ rfl).trans b0.2.1
        · exact (k4 2 _ rfl).trans b0.2.2.1
        · exact (k4 3 _ rfl).trans b0.2.2.2
        · exact (k4 4 _ rfl).trans b1.1
        · exact (k4 5 _ rfl).trans b1.2.1
        · exact (k4 6 _ rfl).trans b1.2.2.1
        · exact (k4 7 _ rfl).trans b1.2.2.2
        · exact (k4 8 _ rfl).trans b2.1
        · exact (k4 9 _ rfl).trans b2.2.1
        · exact (k4 10 _ rfl).trans b2.2.2.1
        · exact (k4 11 _ rfl).trans b2.2.2.2
        · exact (k4 12 _ rfl).trans b3.1
        · exact (k4 13 _ rfl).trans b3.2.1
        · exact (k4 14 _ rfl).trans b3.2.2.1
        · exact (k4 15 _ rfl).trans b3.2.2.2
        · exact (k4 16 _ rfl).trans b4.1
        · exact (k4 17 _ rfl).trans b4.2.1
        · exact (k4 18 _ rfl).trans b4.2.2.1
        · exact (k4 19 _ rfl).trans b4.2.2.2
end LWR
