/-! the model's parser beside the reader: bits, the draft -/
def bt (x : Int32) (i : Nat) : Bool := x.toBitVec.getLsbD i
theorem b_or (x y : Int32) (i : Nat) : bt (x ||| y) i = (bt x i || bt y i) := by unfold bt; rw [Int32.toBitVec_or, BitVec.getLsbD_or]
theorem b_and (x y : Int32) (i : Nat) : bt (x &&& y) i = (bt x i && bt y i) := by unfold bt; rw [Int32.toBitVec_and, BitVec.getLsbD_and]
theorem s_l : ∀ n, n < 32 → ((nI n &&& 31).toBitVec.smod 32).toNat = n := by decide +kernel
theorem b_sshr (n : Nat) (hn : n < 32) (x : Int32) {i : Nat} (hi : i < 32) : bt (x >>> (nI n &&& 31)) i = if n + i < 32 then bt x (n + i) else bt x 31 := by
  unfold bt
  rw [Int32.toBitVec_shiftRight]
  show (x.toBitVec.sshiftRight ((nI n &&& 31).toBitVec.smod 32).toNat).getLsbD i = _
  rw [s_l n hn, BitVec.getLsbD_sshiftRight, BitVec.msb_eq_getLsbD_last]
  simp [hi]
theorem b_ext {x y : Int32} (h : ∀ i, i < 32 → bt x i = bt y i) : x = y := Int32.toBitVec_inj.mp (BitVec.eq_of_getLsbD_eq (fun i hi => h i hi))
theorem b_one : ∀ i, i < 32 → bt 1 i = decide (i = 0) := by decide +kernel
theorem bt_test (w : Int32) (m : Nat) (hm : m < 12) : ((w >>> (Int32.ofNat m &&& 31)) &&& 1 = 1) ↔ bt w m = true := by
  have h0 := b_sshr m (by omega) w (i := 0) (by decide)
  rw [if_pos (by omega), Nat.add_zero] at h0
  change bt (w >>> (Int32.ofNat m &&& 31)) 0 = bt w m at h0
  constructor
  · intro q
    have := congrArg (fun z => bt z 0) q
    simp only [b_and, h0, b_one 0 (by decide)] at this
    simpa using this
  · intro q
    refine b_ext (fun i hi => ?_)
    rw [b_and, b_one i hi]
    by_cases e : i = 0
    · subst e; rw [h0, q]; rfl
    · rw [decide_eq_false e, Bool.and_false]
theorem bt_set1 : ∀ m, m < 12 → ∀ i, i < 12 → bt ((1 : Int32) <<< (Int32.ofNat m &&& 31)) i = decide (i = m) := by decide +kernel
/-- bits that tell which masses were told -/
def PB (w : Int32) (pl : Nat → Int32) : Prop := ∀ m, m < 12 → (bt w m = true ↔ pl m ≠ 0)
theorem PB.set {w : Int32} {pl : Nat → Int32} (h : PB w pl) {m : Nat} (hm : m < 12) : PB (w ||| ((1 : Int32) <<< (Int32.ofNat m &&& 31))) (ev_u pl m 1) := by
  intro i hi
  rw [b_or, bt_set1 m hm i hi, Bool.or_eq_true, decide_eq_true_iff]
  by_cases e : i = m
  · subst e; rw [ev_u_self]; exact ⟨fun _ => by decide, fun _ => Or.inr rfl⟩
  · rw [ev_u_ne _ _ e]
    exact ⟨fun q => (h i hi).mp (q.resolve_right e), fun q => Or.inl ((h i hi).mpr q)⟩
theorem PB.zero {pl : Nat → Int32} (h : ∀ m, m < 12 → pl m = 0) : PB 0 pl := by
  intro m hm
  rw [h m hm]
  have : bt 0 m = false := BitVec.getLsbD_zero
  rw [this]
  exact ⟨fun q => absurd q (by decide), fun q => absurd rfl q⟩
/-- the draft -/
def DR (T : Int) (S : SS) (μ : MS) : Prop := KR T (S.2.2.2 1) (μ.2.1 1) ∧ PB (μ.1 9) (S.2.1 1) ∧ PB (μ.1 10) (S.2.1 2) ∧ (μ.1 11 = S.1 9 ∧ (S.1 9 = 0 ∨ S.1 9 = 1)) ∧ (S.2.2.2 1).1 1 = 0 ∧ (∀ m, m < sNm (S.2.2.2 1) → S.2.1 2 m = 0 → (S.2.2.2 1).2.2 2 m = 0)
/-- what reading leaves alone -/
def FRM (μ ν : MS) : Prop := (∀ k, k ≠ 9 → k ≠ 10 → k ≠ 11 → ν.1 k = μ.1 k) ∧ (∀ i, i ≠ 1 → ν.2.1 i = μ.2.1 i) ∧ ν.2.2 = μ.2.2
theorem FRM.refl (μ : MS) : FRM μ μ := ⟨fun _ _ _ _ => rfl, fun _ _ => rfl, rfl⟩
theorem FRM.trans {μ ν ξ : MS} (h : FRM μ ν) (g : FRM ν ξ) : FRM μ ξ := ⟨fun k a b d => (g.1 k a b d).trans (h.1 k a b d), fun i a => (g.2.1 i a).trans (h.2.1 i a), g.2.2.trans h.2.2⟩
theorem FRM.row (μ : MS) (f : Nat → Int64) : FRM μ (ms_L μ 1 f) := ⟨fun _ _ _ _ => rfl, fun i a => ms_L_ne _ _ a, rfl⟩
theorem FRM.int (μ : MS) {k : Nat} (v : Int32) (hk : k = 9 ∨ k = 10 ∨ k = 11) : FRM μ (ms_I μ k v) := ⟨fun j a b d => ms_I_ne _ _ (by omega), fun _ _ => rfl, rfl⟩
theorem FRM.mb {B : Nat → Int32} {n : Nat} {μ ν : MS} (h : FRM μ ν) (hB : MB B n μ) : MB B n ν := ⟨(h.1 2 (by decide) (by decide) (by decide)).trans hB.1, hB.2.1, by rw [h.2.2]; exact hB.2.2.1, hB.2.2.2⟩
/-- the outcome of a statement's body -/
def oQ (G : ev_G) (c : Nat) (h : ev_H) (T : Int) (S : SS) (μ : MS) (f : Int32) (r : PR) (a : ev_H) : Prop :=
  (r.1 = 0 ∧ ∃ (μ' : MS) (s' : Int32), DR T (aS r.2.2 S) μ' ∧ FRM μ μ' ∧ a = mo G c (qS μ' r.2.1 s' 0 f) h) ∨
  (r.1 ≠ 0 ∧ ∃ (μ' : MS) (p' : Nat) (s' e' : Int32), FRM μ μ' ∧ e' ≠ 0 ∧ e'.toInt = -(r.1 : Int) ∧ a = mo G c (qS μ' p' s' e' (Int32.ofNat r.2.1)) h)
theorem oQ_no {G : ev_G} {c : Nat} {h : ev_H} {T : Int} {S : SS} {μ μ' : MS} {f : Int32} {r : PR} {k q p' : Nat} {t : Nat × Int × Int × Int} {s' e' : Int32} {a : ev_H} (er : r = (k, q, t)) (hk : k ≠ 0) (hF : FRM μ μ') (he : e' ≠ 0) (he2 : e'.toInt = -(k : Int)) (ha : a = mo G c (qS μ' p' s' e' (Int32.ofNat q)) h) : oQ G c h T S μ f r a := by subst er; exact Or.inr ⟨hk, μ', p', s', e', hF, he, he2, ha⟩
theorem oQ_ok {G : ev_G} {c : Nat} {h : ev_H} {T : Int} {S : SS} {μ μ' : MS} {f : Int32} {r : PR} {q : Nat} {t : Nat × Int × Int × Int} {s' : Int32} {a : ev_H} (er : r = (0, q, t)) (hD : DR T (aS t S) μ') (hF : FRM μ μ') (ha : a = mo G c (qS μ' q s' 0 f) h) : oQ G c h T S μ f r a := by subst er; exact Or.inl ⟨rfl, μ', s', hD, hF, ha⟩
theorem ss_C_1 (S : SS) (τ : CS) : (ss_C S 1 τ).2.2.2 1 = τ := ss_C_at S 1 τ
theorem DR.ch {T : Int} {S : SS} {μ : MS} {D : CS} {δ : Nat → Int64} (h : DR T S μ) (hk : KR T D δ) (e1 : D.1 1 = (S.2.2.2 1).1 1) (e2 : D.1 0 = (S.2.2.2 1).1 0) (e3 : D.2.2 2 = (S.2.2.2 1).2.2 2) : DR T (ss_C S 1 D) (ms_L μ 1 δ) := by
  refine ⟨?_, h.2.1, h.2.2.1, h.2.2.2.1, ?_, ?_⟩
  · rw [ss_C_1, ms_L_get]; exact hk
  · rw [ss_C_1, e1]; exact h.2.2.2.2.1
  · rw [ss_C_1]
    unfold sNm
    rw [e2, e3]
    exact h.2.2.2.2.2
theorem aS_0 (S : SS) (a b d : Int) : aS (0, a, b, d) S = ss_C S 1 (cs_A (S.2.2.2 1) 0 (ev_u ((S.2.2.2 1).2.2 0) a.toNat (Int32.ofInt b))) := rfl
theorem aS_1 (S : SS) (a b d : Int) : aS (1, a, b, d) S = ss_C S 1 (cs_A (S.2.2.2 1) 0 (fillTo 12 (fun _ => Int32.ofInt a) ((S.2.2.2 1).2.2 0))) := rfl
theorem aS_2 (S : SS) (a b d : Int) : aS (2, a, b, d) S = ss_C S 1 (cs_A (cs_A (S.2.2.2 1) 3 (ev_u ((S.2.2.2 1).2.2 3) a.toNat (Int32.ofInt b))) 4 (ev_u ((S.2.2.2 1).2.2 4) a.toNat (Int32.ofInt d))) := rfl
theorem aS_3 (S : SS) (a b d : Int) : aS (3, a, b, d) S = ss_C S 1 (cs_A (S.2.2.2 1) 3 (fillTo 13 (fun _ => Int32.ofInt a) ((S.2.2.2 1).2.2 3))) := rfl
theorem aS_4 (S : SS) (a b d : Int) : aS (4, a, b, d) S = ss_C (ss_I S 9 1) 1 (cs_I (S.2.2.2 1) 2 (Int32.ofInt a)) := rfl
theorem aS_5 (S : SS) (a b d : Int) : aS (5, a, b, d) S = ss_C (ss_R S 1 (ev_u (S.2.1 1) a.toNat 1)) 1 (cs_A (S.2.2.2 1) 1 (ev_u ((S.2.2.2 1).2.2 1) a.toNat (Int32.ofInt b))) := rfl
theorem aS_6 (S : SS) (a b d : Int) : aS (6, a, b, d) S = ss_C (ss_R S 2 (ev_u (S.2.1 2) a.toNat 1)) 1 (sHit (S.2.2.2 1) a.toNat (Int32.ofInt b)) := rfl
theorem aS_7 (S : SS) (a b d : Int) : aS (7, a, b, d) S = ss_C S 1 (if a = 0 then cs_I (S.2.2.2 1) 3 (Int32.ofInt b) else cs_I (S.2.2.2 1) 4 (Int32.ofInt b)) := rfl
theorem aS_8 (S : SS) (a b d : Int) : aS (8, a, b, d) S = ss_C S 1 (sIns (S.2.2.2 1) (Int32.ofInt a) (Int32.ofInt b) (Int32.ofInt d)) := rfl
section DRS
variable {T : Int} {S : SS} {μ : MS} {δ : Nat → Int64} {a b d : Int}
theorem DR.s0 (h : DR T S μ) (hk : KR T (cs_A (S.2.2.2 1) 0 (ev_u ((S.2.2.2 1).2.2 0) a.toNat (Int32.ofInt b))) δ) : DR T (aS (0, a, b, d) S) (ms_L μ 1 δ) := by rw [aS_0]; exact h.ch hk rfl rfl rfl
theorem DR.s1 (h : DR T S μ) (hk : KR T (cs_A (S.2.2.2 1) 0 (fillTo 12 (fun _ => Int32.ofInt a) ((S.2.2.2 1).2.2 0))) δ) : DR T (aS (1, a, b, d) S) (ms_L μ 1 δ) := by rw [aS_1]; exact h.ch hk rfl rfl rfl
theorem DR.s2 (h : DR T S μ) (hk : KR T (cs_A (cs_A (S.2.2.2 1) 3 (ev_u ((S.2.2.2 1).2.2 3) a.toNat (Int32.ofInt b))) 4 (ev_u ((S.2.2.2 1).2.2 4) a.toNat (Int32.ofInt d))) δ) : DR T (aS (2, a, b, d) S) (ms_L μ 1 δ) := by rw [aS_2]; exact h.ch hk rfl rfl rfl
theorem DR.s3 (h : DR T S μ) (hk : KR T (cs_A (S.2.2.2 1) 3 (fillTo 13 (fun _ => Int32.ofInt a) ((S.2.2.2 1).2.2 3))) δ) : DR T (aS (3, a, b, d) S) (ms_L μ 1 δ) := by rw [aS_3]; exact h.ch hk rfl rfl rfl
theorem DR.s4 (h : DR T S μ) (hk : KR T (cs_I (S.2.2.2 1) 2 (Int32.ofInt a)) δ) : DR T (aS (4, a, b, d) S) (ms_L (ms_I μ 11 1) 1 δ) := by
  rw [aS_4]
  have h2 : DR T (ss_I S 9 1) (ms_I μ 11 1) := by
    refine ⟨h.1, ?_, ?_, ⟨?_, Or.inr (show ev_u S.1 9 1 9 = 1 from ev_u_self _ _ _)⟩, h.2.2.2.2⟩
    · rw [ms_I_ne _ _ (by decide)]; exact h.2.1
    · rw [ms_I_ne _ _ (by decide)]; exact h.2.2.1
    · rw [ms_I_get]; exact (show ev_u S.1 9 1 9 = 1 from ev_u_self _ _ _).symm
  exact h2.ch hk rfl rfl rfl
theorem DR.s5 (h : DR T S μ) (ha : a.toNat < 12) (hk : KR T (cs_A (S.2.2.2 1) 1 (ev_u ((S.2.2.2 1).2.2 1) a.toNat (Int32.ofInt b))) δ) : DR T (aS (5, a, b, d) S) (ms_L (ms_I μ 9 (μ.1 9 ||| ((1 : Int32) <<< (Int32.ofNat a.toNat &&& 31)))) 1 δ) := by
  rw [aS_5]
  have h2 : DR T (ss_R S 1 (ev_u (S.2.1 1) a.toNat 1)) (ms_I μ 9 (μ.1 9 ||| ((1 : Int32) <<< (Int32.ofNat a.toNat &&& 31)))) := by
    refine ⟨h.1, ?_, ?_, ⟨?_, h.2.2.2.1.2⟩, h.2.2.2.2⟩
    · rw [ms_I_get]
      show PB _ (ev_u S.2.1 1 (ev_u (S.2.1 1) a.toNat 1) 1)
      rw [ev_u_self]; exact h.2.1.set ha
    · rw [ms_I_ne _ _ (by decide)]; exact h.2.2.1
    · rw [ms_I_ne _ _ (by decide)]; exact h.2.2.2.1.1
  exact h2.ch hk rfl rfl rfl
theorem DR.s6 (h : DR T S μ) (ha : a.toNat < 12) (hk : KR T (sHit (S.2.2.2 1) a.toNat (Int32.ofInt b)) δ) : DR T (aS (6, a, b, d) S) (ms_L (ms_I μ 10 (μ.1 10 ||| ((1 : Int32) <<< (Int32.ofNat a.toNat &&& 31)))) 1 δ) := by
  rw [aS_6]
  refine ⟨?_, ?_, ?_, ⟨?_, h.2.2.2.1.2⟩, ?_, fun m hm h0 => ?_⟩
  · rw [ss_C_1, ms_L_get]; exact hk
  · show PB ((ms_I μ 10 (μ.1 10 ||| ((1 : Int32) <<< (Int32.ofNat a.toNat &&& 31)))).1 9) _
    rw [ms_I_ne _ _ (by decide)]; exact h.2.1
  · show PB ((ms_I μ 10 (μ.1 10 ||| ((1 : Int32) <<< (Int32.ofNat a.toNat &&& 31)))).1 10) (ev_u S.2.1 2 (ev_u (S.2.1 2) a.toNat 1) 2)
    rw [ms_I_get, ev_u_self]; exact h.2.2.1.set ha
  · show (ms_I μ 10 (μ.1 10 ||| ((1 : Int32) <<< (Int32.ofNat a.toNat &&& 31)))).1 11 = _
    rw [ms_I_ne _ _ (by decide)]; exact h.2.2.2.1.1
  · rw [ss_C_1]; exact h.2.2.2.2.1
  · rw [ss_C_1] at hm ⊢
    have hm2 : m < sNm (S.2.2.2 1) := hm
    have h1 : ev_u (S.2.1 2) a.toNat 1 m = 0 := by
      have h3 : ev_u S.2.1 2 (ev_u (S.2.1 2) a.toNat 1) 2 m = 0 := h0
      rwa [ev_u_self] at h3
    by_cases e : m = a.toNat
    · rw [e, ev_u_self] at h1; exact absurd h1 (by decide)
    · rw [ev_u_ne _ _ e] at h1
      show ev_u ((S.2.2.2 1).2.2 2) a.toNat _ m = 0
      rw [ev_u_ne _ _ e]
      exact h.2.2.2.2.2 m hm2 h1
theorem DR.s7 (h : DR T S μ) (hk : KR T (if a = 0 then cs_I (S.2.2.2 1) 3 (Int32.ofInt b) else cs_I (S.2.2.2 1) 4 (Int32.ofInt b)) δ) : DR T (aS (7, a, b, d) S) (ms_L μ 1 δ) := by
  rw [aS_7]
  refine h.ch hk ?_ ?_ ?_ <;> split <;> rfl
theorem DR.s8 (h : DR T S μ) (hk : KR T (sIns (S.2.2.2 1) (Int32.ofInt a) (Int32.ofInt b) (Int32.ofInt d)) δ) : DR T (aS (8, a, b, d) S) (ms_L μ 1 δ) := by
  rw [aS_8]
  exact h.ch hk (sIns_1 _ _ _ _ (by decide)) (sIns_1 _ _ _ _ (by decide)) (sIns_2 _ _ _ _ (by decide) (by decide) (by decide))
end DRS
theorem KR.fillW {T : Int} {D : CS} {g F : Nat → Int32} {δ : Nat → Int64} (h : KR T (cs_A D 0 (fillTo (sNm D) g F)) δ) : KR T (cs_A D 0 (fillTo 12 g F)) δ := by
  obtain ⟨hR, hv, hs, hm, ht⟩ := h
  have hn : (sNm D : Int) = sM D ∧ sNm D ≤ 12 ∧ 1 ≤ sNm D := (show sOk D from hv.1).nat
  have hin : (sIn D : Int) = (D.1 5).toInt ∧ sIn D ≤ 16 := (show sIok D from hv.2.2.1).nat
  refine ⟨hR.congr hn.2.1 hin.2 (by have := hv.2.2.2.2; show (D.1 6).toInt.toNat ≤ 32; have h2 : (D.1 6).toInt ≤ 32 := this.2; omega) (fun _ _ => rfl) (fun _ _ => rfl) (fun w j hw hj => ?_) (fun w s hw hs => ?_) (fun w k hw hk => ?_) (fun w k hw hk => ?_) (fun _ _ => rfl), ⟨hv.1, fun j hj => ?_, hv.2.2⟩, hs, hm, ht⟩
  · have hj2 : j < sNm D := hj
    show ev_u D.2.2 0 (fillTo 12 g F) w j = ev_u D.2.2 0 (fillTo (sNm D) g F) w j
    by_cases e : w = 0
    · subst e; rw [ev_u_self, ev_u_self, fillTo_lt _ _ (by omega), fillTo_lt _ _ hj2]
    · rw [ev_u_ne _ _ e, ev_u_ne _ _ e]
  · show ev_u D.2.2 0 _ (3 + w) s = ev_u D.2.2 0 _ (3 + w) s
    rw [ev_u_ne _ _ (by omega), ev_u_ne _ _ (by omega)]
  · show ev_u D.2.2 0 _ (7 + w) k = ev_u D.2.2 0 _ (7 + w) k
    rw [ev_u_ne _ _ (by omega), ev_u_ne _ _ (by omega)]
  · show ev_u D.2.2 0 _ (10 + w) k = ev_u D.2.2 0 _ (10 + w) k
    rw [ev_u_ne _ _ (by omega), ev_u_ne _ _ (by omega)]
  · have hj2 : j < sNm D := hj
    have h1 := hv.2.1 j hj
    change 1 ≤ (fillTo (sNm D) g F j).toInt ∧ (fillTo (sNm D) g F j).toInt ≤ 99 at h1
    show 1 ≤ (fillTo 12 g F j).toInt ∧ (fillTo 12 g F j).toInt ≤ 99
    rw [fillTo_lt _ _ hj2] at h1
    rw [fillTo_lt _ _ (by omega)]
    exact h1
theorem KR.fillS {T : Int} {D : CS} {g F : Nat → Int32} {δ : Nat → Int64} (h : KR T (cs_A D 3 (fillTo (sNm D + 1) g F)) δ) : KR T (cs_A D 3 (fillTo 13 g F)) δ := by
  obtain ⟨hR, hv, hs, hm, ht⟩ := h
  have hn : (sNm D : Int) = sM D ∧ sNm D ≤ 12 ∧ 1 ≤ sNm D := (show sOk D from hv.1).nat
  have hin : (sIn D : Int) = (D.1 5).toInt ∧ sIn D ≤ 16 := (show sIok D from hv.2.2.1).nat
  refine ⟨hR.congr hn.2.1 hin.2 (by have := hv.2.2.2.2; show (D.1 6).toInt.toNat ≤ 32; have h2 : (D.1 6).toInt ≤ 32 := this.2; omega) (fun _ _ => rfl) (fun _ _ => rfl) (fun w j hw hj => ?_) (fun w s hw hs => ?_) (fun w k hw hk => ?_) (fun w k hw hk => ?_) (fun _ _ => rfl), hv, ⟨hs.1, hs.2.1, hs.2.2.1, fun s hs2 => ⟨?_, (hs.2.2.2 s hs2).2⟩⟩, hm, ht⟩
  · show ev_u D.2.2 3 _ w j = ev_u D.2.2 3 _ w j
    rw [ev_u_ne _ _ (by omega), ev_u_ne _ _ (by omega)]
  · have hs2 : s ≤ sNm D := hs
    show ev_u D.2.2 3 (fillTo 13 g F) (3 + w) s = ev_u D.2.2 3 (fillTo (sNm D + 1) g F) (3 + w) s
    by_cases e : w = 0
    · subst e; rw [ev_u_self, ev_u_self, fillTo_lt _ _ (by omega), fillTo_lt _ _ (by omega)]
    · rw [ev_u_ne _ _ (by omega), ev_u_ne _ _ (by omega)]
  · show ev_u D.2.2 3 _ (7 + w) k = ev_u D.2.2 3 _ (7 + w) k
    rw [ev_u_ne _ _ (by omega), ev_u_ne _ _ (by omega)]
  · show ev_u D.2.2 3 _ (10 + w) k = ev_u D.2.2 3 _ (10 + w) k
    rw [ev_u_ne _ _ (by omega), ev_u_ne _ _ (by omega)]
  · have hs3 : s ≤ sNm D := hs2
    have h1 := (hs.2.2.2 s hs2).1
    change 0 ≤ (fillTo (sNm D + 1) g F s).toInt ∧ (fillTo (sNm D + 1) g F s).toInt ≤ 999 at h1
    show 0 ≤ (fillTo 13 g F s).toInt ∧ (fillTo 13 g F s).toInt ≤ 999
    rw [fillTo_lt _ _ (by omega)] at h1
    rw [fillTo_lt _ _ (by omega)]
    exact h1
/-- a strike by the text, of a mass that was not struck -/
theorem KR.hit0 {T : Int} {D : CS} {δ : Nat → Int64} {j : Nat} {y : Int32} (h : KR T D δ) (hj : j < sNm D) (h0 : D.2.2 2 j = 0) (h1 : -100000 ≤ y.toInt) (h2 : y.toInt ≤ 100000) : KR T (sHit D j y) (ev_u (ev_u δ (12 + 3 * j + 2) y.toInt64) 9 (δ 9 + y.toInt64)) := by
  have q := h.hit (y := y) hj
  have w : (100000000 : Int32).toInt = 100000000 := by decide +kernel
  have e0 : (0 : Int32).toInt64 = 0 := by decide +kernel
  have e : sLim ((D.2.2 2 j).toInt64 + y.toInt64) 100000000 = y := by
    apply ar_eq
    rw [sLim_to (by rw [w]; decide), w, h0, e0, Int64.zero_add, ar_64, if_neg (by omega), if_neg (by omega)]
  rw [e, h0] at q
  have e2 : (y - 0).toInt64 = y.toInt64 := by rw [Int32.sub_zero]
  rw [e2, ← h.1.2.1.1 2 (by decide)] at q
  exact q

