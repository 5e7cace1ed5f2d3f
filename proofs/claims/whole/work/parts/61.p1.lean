/-! the model's parser: its state, words, numbers -/
/-- position, numberStart, error, errorAt -/
def qS (μ : MS) (p : Nat) (s e f : Int32) : MS := (fun k => if k = 3 then Int32.ofNat p else if k = 4 then e else if k = 5 then f else if k = 8 then s else μ.1 k, μ.2)
theorem qS_0 (μ : MS) (p : Nat) (s e f : Int32) {k : Nat} (h3 : k ≠ 3) (h4 : k ≠ 4) (h5 : k ≠ 5) (h8 : k ≠ 8) : (qS μ p s e f).1 k = μ.1 k := by
  show (if k = 3 then _ else if k = 4 then _ else if k = 5 then _ else if k = 8 then _ else μ.1 k) = _
  rw [if_neg h3, if_neg h4, if_neg h5, if_neg h8]
theorem qS_ext {μ ν : MS} {p : Nat} {s e f : Int32} (h3 : ν.1 3 = Int32.ofNat p) (h4 : ν.1 4 = e) (h5 : ν.1 5 = f) (h8 : ν.1 8 = s) (ho : ∀ k, k ≠ 3 → k ≠ 4 → k ≠ 5 → k ≠ 8 → ν.1 k = μ.1 k) (h2 : ν.2 = μ.2) : ν = qS μ p s e f := by
  refine Prod.ext (funext fun k => ?_) h2
  show _ = (if k = 3 then _ else if k = 4 then _ else if k = 5 then _ else if k = 8 then _ else μ.1 k)
  by_cases a3 : k = 3
  · rw [if_pos a3, a3, h3]
  · rw [if_neg a3]
    by_cases a4 : k = 4
    · rw [if_pos a4, a4, h4]
    · rw [if_neg a4]
      by_cases a5 : k = 5
      · rw [if_pos a5, a5, h5]
      · rw [if_neg a5]
        by_cases a8 : k = 8
        · rw [if_pos a8, a8, h8]
        · rw [if_neg a8]; exact ho k a3 a4 a5 a8
theorem qS_w3 (μ : MS) (p q : Nat) (s e f : Int32) : ms_I (qS μ p s e f) 3 (Int32.ofNat q) = qS μ q s e f := qS_ext rfl rfl rfl rfl (fun k a3 a4 a5 a8 => (ms_I_ne _ _ a3).trans (qS_0 _ _ _ _ _ a3 a4 a5 a8)) rfl
theorem qS_w4 (μ : MS) (p : Nat) (s e f v : Int32) : ms_I (qS μ p s e f) 4 v = qS μ p s v f := qS_ext rfl rfl rfl rfl (fun k a3 a4 a5 a8 => (ms_I_ne _ _ a4).trans (qS_0 _ _ _ _ _ a3 a4 a5 a8)) rfl
theorem qS_w5 (μ : MS) (p : Nat) (s e f v : Int32) : ms_I (qS μ p s e f) 5 v = qS μ p s e v := qS_ext rfl rfl rfl rfl (fun k a3 a4 a5 a8 => (ms_I_ne _ _ a5).trans (qS_0 _ _ _ _ _ a3 a4 a5 a8)) rfl
theorem qS_w8 (μ : MS) (p : Nat) (s e f v : Int32) : ms_I (qS μ p s e f) 8 v = qS μ p v e f := qS_ext rfl rfl rfl rfl (fun k a3 a4 a5 a8 => (ms_I_ne _ _ a8).trans (qS_0 _ _ _ _ _ a3 a4 a5 a8)) rfl
theorem qS_wO (μ : MS) (p : Nat) (s e f v : Int32) {k : Nat} (h3 : k ≠ 3) (h4 : k ≠ 4) (h5 : k ≠ 5) (h8 : k ≠ 8) : ms_I (qS μ p s e f) k v = qS (ms_I μ k v) p s e f := by
  refine qS_ext ((ms_I_ne _ _ h3.symm).trans rfl) ((ms_I_ne _ _ h4.symm).trans rfl) ((ms_I_ne _ _ h5.symm).trans rfl) ((ms_I_ne _ _ h8.symm).trans rfl) (fun j a3 a4 a5 a8 => ?_) rfl
  show ev_u (qS μ p s e f).1 k v j = ev_u μ.1 k v j
  unfold ev_u
  by_cases a : j = k
  · rw [if_pos a, if_pos a]
  · rw [if_neg a, if_neg a]; exact qS_0 _ _ _ _ _ a3 a4 a5 a8
/-- the text: n bytes -/
def MB (B : Nat → Int32) (n : Nat) (μ : MS) : Prop := μ.1 2 = Int32.ofNat n ∧ n ≤ 500 ∧ (∀ k, k < n → μ.2.2 k = B k) ∧ ∀ k, n ≤ k → B k = -1
section P1R
variable {G : ev_G} {l : Launch} {M : ev_M} {J : ev_K} {pc k n c idx p q : Nat} {L : List (Option Value)} {st : List Value} {h : ev_H} {μ : MS} {s e f : Int32}
theorem qS_g1 (hw : Cond.fieldLink M.1.cls idx "SpringChainModel" "buffer" "[I" ∈ ev_ws) (hd : decode M.2.1 pc = .ok (.getfield idx, 3)) (k0 : ev_V G l M J (pc + 3) L (.ref (c + 1) :: st) (mo G c (qS μ p s e f) h) k n) : ev_V G l M J pc L (.ref (c) :: st) (mo G c (qS μ p s e f) h) k n := mo_g1 hw hd k0
theorem qS_g2 (hw : Cond.fieldLink M.1.cls idx "SpringChainModel" "bufferLength" "I" ∈ ev_ws) (hd : decode M.2.1 pc = .ok (.getfield idx, 3)) (k0 : ev_V G l M J (pc + 3) L (.int (μ.1 1) :: st) (mo G c (qS μ p s e f) h) k n) : ev_V G l M J pc L (.ref (c) :: st) (mo G c (qS μ p s e f) h) k n := mo_g2 hw hd k0
theorem qS_p2 {v : Int32} (hw : Cond.fieldLink M.1.cls idx "SpringChainModel" "bufferLength" "I" ∈ ev_ws) (hd : decode M.2.1 pc = .ok (.putfield idx, 3)) (k0 : ev_V G l M J (pc + 3) L st (mo G c (qS (ms_I μ 1 v) p s e f) h) k n) : ev_V G l M J pc L (.int v :: .ref (c) :: st) (mo G c (qS μ p s e f) h) k n := mo_p2 hw hd (ev_as (congrArg (fun ν => mo G c ν h) (qS_wO μ p s e f v (by decide) (by decide) (by decide) (by decide))) k0)
theorem qS_g3 (hw : Cond.fieldLink M.1.cls idx "SpringChainModel" "textLength" "I" ∈ ev_ws) (hd : decode M.2.1 pc = .ok (.getfield idx, 3)) (k0 : ev_V G l M J (pc + 3) L (.int (μ.1 2) :: st) (mo G c (qS μ p s e f) h) k n) : ev_V G l M J pc L (.ref (c) :: st) (mo G c (qS μ p s e f) h) k n := mo_g3 hw hd k0
theorem qS_g4 (hw : Cond.fieldLink M.1.cls idx "SpringChainModel" "position" "I" ∈ ev_ws) (hd : decode M.2.1 pc = .ok (.getfield idx, 3)) (k0 : ev_V G l M J (pc + 3) L (.int (Int32.ofNat p) :: st) (mo G c (qS μ p s e f) h) k n) : ev_V G l M J pc L (.ref (c) :: st) (mo G c (qS μ p s e f) h) k n := mo_g4 hw hd k0
theorem qS_p4 {v : Int32} (hv : v = Int32.ofNat q) (hw : Cond.fieldLink M.1.cls idx "SpringChainModel" "position" "I" ∈ ev_ws) (hd : decode M.2.1 pc = .ok (.putfield idx, 3)) (k0 : ev_V G l M J (pc + 3) L st (mo G c (qS μ q s e f) h) k n) : ev_V G l M J pc L (.int v :: .ref (c) :: st) (mo G c (qS μ p s e f) h) k n := by
  subst hv
  exact mo_p4 hw hd (ev_as (congrArg (fun ν => mo G c ν h) (qS_w3 μ p q s e f)) k0)
theorem qS_g5 (hw : Cond.fieldLink M.1.cls idx "SpringChainModel" "error" "I" ∈ ev_ws) (hd : decode M.2.1 pc = .ok (.getfield idx, 3)) (k0 : ev_V G l M J (pc + 3) L (.int (e) :: st) (mo G c (qS μ p s e f) h) k n) : ev_V G l M J pc L (.ref (c) :: st) (mo G c (qS μ p s e f) h) k n := mo_g5 hw hd k0
theorem qS_p5 {v : Int32} (hw : Cond.fieldLink M.1.cls idx "SpringChainModel" "error" "I" ∈ ev_ws) (hd : decode M.2.1 pc = .ok (.putfield idx, 3)) (k0 : ev_V G l M J (pc + 3) L st (mo G c (qS μ p s v f) h) k n) : ev_V G l M J pc L (.int v :: .ref (c) :: st) (mo G c (qS μ p s e f) h) k n := mo_p5 hw hd (ev_as (congrArg (fun ν => mo G c ν h) (qS_w4 μ p s e f v)) k0)
theorem qS_g6 (hw : Cond.fieldLink M.1.cls idx "SpringChainModel" "errorAt" "I" ∈ ev_ws) (hd : decode M.2.1 pc = .ok (.getfield idx, 3)) (k0 : ev_V G l M J (pc + 3) L (.int (f) :: st) (mo G c (qS μ p s e f) h) k n) : ev_V G l M J pc L (.ref (c) :: st) (mo G c (qS μ p s e f) h) k n := mo_g6 hw hd k0
theorem qS_p6 {v : Int32} (hw : Cond.fieldLink M.1.cls idx "SpringChainModel" "errorAt" "I" ∈ ev_ws) (hd : decode M.2.1 pc = .ok (.putfield idx, 3)) (k0 : ev_V G l M J (pc + 3) L st (mo G c (qS μ p s e v) h) k n) : ev_V G l M J pc L (.int v :: .ref (c) :: st) (mo G c (qS μ p s e f) h) k n := mo_p6 hw hd (ev_as (congrArg (fun ν => mo G c ν h) (qS_w5 μ p s e f v)) k0)
theorem qS_g7 (hw : Cond.fieldLink M.1.cls idx "SpringChainModel" "errorOffset" "I" ∈ ev_ws) (hd : decode M.2.1 pc = .ok (.getfield idx, 3)) (k0 : ev_V G l M J (pc + 3) L (.int (μ.1 6) :: st) (mo G c (qS μ p s e f) h) k n) : ev_V G l M J pc L (.ref (c) :: st) (mo G c (qS μ p s e f) h) k n := mo_g7 hw hd k0
theorem qS_p7 {v : Int32} (hw : Cond.fieldLink M.1.cls idx "SpringChainModel" "errorOffset" "I" ∈ ev_ws) (hd : decode M.2.1 pc = .ok (.putfield idx, 3)) (k0 : ev_V G l M J (pc + 3) L st (mo G c (qS (ms_I μ 6 v) p s e f) h) k n) : ev_V G l M J pc L (.int v :: .ref (c) :: st) (mo G c (qS μ p s e f) h) k n := mo_p7 hw hd (ev_as (congrArg (fun ν => mo G c ν h) (qS_wO μ p s e f v (by decide) (by decide) (by decide) (by decide))) k0)
theorem qS_g8 (hw : Cond.fieldLink M.1.cls idx "SpringChainModel" "data" "[J" ∈ ev_ws) (hd : decode M.2.1 pc = .ok (.getfield idx, 3)) (k0 : ev_V G l M J (pc + 3) L (.ref (c + 2) :: st) (mo G c (qS μ p s e f) h) k n) : ev_V G l M J pc L (.ref (c) :: st) (mo G c (qS μ p s e f) h) k n := mo_g8 hw hd k0
theorem qS_g9 (hw : Cond.fieldLink M.1.cls idx "SpringChainModel" "draft" "[J" ∈ ev_ws) (hd : decode M.2.1 pc = .ok (.getfield idx, 3)) (k0 : ev_V G l M J (pc + 3) L (.ref (c + 3) :: st) (mo G c (qS μ p s e f) h) k n) : ev_V G l M J pc L (.ref (c) :: st) (mo G c (qS μ p s e f) h) k n := mo_g9 hw hd k0
theorem qS_g10 (hw : Cond.fieldLink M.1.cls idx "SpringChainModel" "aside" "[J" ∈ ev_ws) (hd : decode M.2.1 pc = .ok (.getfield idx, 3)) (k0 : ev_V G l M J (pc + 3) L (.ref (c + 4) :: st) (mo G c (qS μ p s e f) h) k n) : ev_V G l M J pc L (.ref (c) :: st) (mo G c (qS μ p s e f) h) k n := mo_g10 hw hd k0
theorem qS_g11 (hw : Cond.fieldLink M.1.cls idx "SpringChainModel" "history" "[[J" ∈ ev_ws) (hd : decode M.2.1 pc = .ok (.getfield idx, 3)) (k0 : ev_V G l M J (pc + 3) L (.ref (c + 5) :: st) (mo G c (qS μ p s e f) h) k n) : ev_V G l M J pc L (.ref (c) :: st) (mo G c (qS μ p s e f) h) k n := mo_g11 hw hd k0
theorem qS_g13 (hw : Cond.fieldLink M.1.cls idx "SpringChainModel" "numberStart" "I" ∈ ev_ws) (hd : decode M.2.1 pc = .ok (.getfield idx, 3)) (k0 : ev_V G l M J (pc + 3) L (.int (s) :: st) (mo G c (qS μ p s e f) h) k n) : ev_V G l M J pc L (.ref (c) :: st) (mo G c (qS μ p s e f) h) k n := mo_g13 hw hd k0
theorem qS_p13 {v : Int32} (hw : Cond.fieldLink M.1.cls idx "SpringChainModel" "numberStart" "I" ∈ ev_ws) (hd : decode M.2.1 pc = .ok (.putfield idx, 3)) (k0 : ev_V G l M J (pc + 3) L st (mo G c (qS μ p v e f) h) k n) : ev_V G l M J pc L (.int v :: .ref (c) :: st) (mo G c (qS μ p s e f) h) k n := mo_p13 hw hd (ev_as (congrArg (fun ν => mo G c ν h) (qS_w8 μ p s e f v)) k0)
theorem qS_g14 (hw : Cond.fieldLink M.1.cls idx "SpringChainModel" "plucked" "I" ∈ ev_ws) (hd : decode M.2.1 pc = .ok (.getfield idx, 3)) (k0 : ev_V G l M J (pc + 3) L (.int (μ.1 9) :: st) (mo G c (qS μ p s e f) h) k n) : ev_V G l M J pc L (.ref (c) :: st) (mo G c (qS μ p s e f) h) k n := mo_g14 hw hd k0
theorem qS_p14 {v : Int32} (hw : Cond.fieldLink M.1.cls idx "SpringChainModel" "plucked" "I" ∈ ev_ws) (hd : decode M.2.1 pc = .ok (.putfield idx, 3)) (k0 : ev_V G l M J (pc + 3) L st (mo G c (qS (ms_I μ 9 v) p s e f) h) k n) : ev_V G l M J pc L (.int v :: .ref (c) :: st) (mo G c (qS μ p s e f) h) k n := mo_p14 hw hd (ev_as (congrArg (fun ν => mo G c ν h) (qS_wO μ p s e f v (by decide) (by decide) (by decide) (by decide))) k0)
theorem qS_g15 (hw : Cond.fieldLink M.1.cls idx "SpringChainModel" "struck" "I" ∈ ev_ws) (hd : decode M.2.1 pc = .ok (.getfield idx, 3)) (k0 : ev_V G l M J (pc + 3) L (.int (μ.1 10) :: st) (mo G c (qS μ p s e f) h) k n) : ev_V G l M J pc L (.ref (c) :: st) (mo G c (qS μ p s e f) h) k n := mo_g15 hw hd k0
theorem qS_p15 {v : Int32} (hw : Cond.fieldLink M.1.cls idx "SpringChainModel" "struck" "I" ∈ ev_ws) (hd : decode M.2.1 pc = .ok (.putfield idx, 3)) (k0 : ev_V G l M J (pc + 3) L st (mo G c (qS (ms_I μ 10 v) p s e f) h) k n) : ev_V G l M J pc L (.int v :: .ref (c) :: st) (mo G c (qS μ p s e f) h) k n := mo_p15 hw hd (ev_as (congrArg (fun ν => mo G c ν h) (qS_wO μ p s e f v (by decide) (by decide) (by decide) (by decide))) k0)
theorem qS_g16 (hw : Cond.fieldLink M.1.cls idx "SpringChainModel" "hasDamp" "Z" ∈ ev_ws) (hd : decode M.2.1 pc = .ok (.getfield idx, 3)) (k0 : ev_V G l M J (pc + 3) L (.int (μ.1 11) :: st) (mo G c (qS μ p s e f) h) k n) : ev_V G l M J pc L (.ref (c) :: st) (mo G c (qS μ p s e f) h) k n := mo_g16 hw hd k0
theorem qS_p16_0 (hw : Cond.fieldLink M.1.cls idx "SpringChainModel" "hasDamp" "Z" ∈ ev_ws) (hd : decode M.2.1 pc = .ok (.putfield idx, 3)) (k0 : ev_V G l M J (pc + 3) L st (mo G c (qS (ms_I μ 11 0) p s e f) h) k n) : ev_V G l M J pc L (.int 0 :: .ref (c) :: st) (mo G c (qS μ p s e f) h) k n := mo_p16_0 hw hd (ev_as (congrArg (fun ν => mo G c ν h) (qS_wO μ p s e f 0 (by decide) (by decide) (by decide) (by decide))) k0)
theorem qS_p16_1 (hw : Cond.fieldLink M.1.cls idx "SpringChainModel" "hasDamp" "Z" ∈ ev_ws) (hd : decode M.2.1 pc = .ok (.putfield idx, 3)) (k0 : ev_V G l M J (pc + 3) L st (mo G c (qS (ms_I μ 11 1) p s e f) h) k n) : ev_V G l M J pc L (.int 1 :: .ref (c) :: st) (mo G c (qS μ p s e f) h) k n := mo_p16_1 hw hd (ev_as (congrArg (fun ν => mo G c ν h) (qS_wO μ p s e f 1 (by decide) (by decide) (by decide) (by decide))) k0)
theorem qS_l1 {i : Int32} (h0 : 0 ≤ i.toInt) (h1 : i.toInt < 500) (hd : decode M.2.1 pc = .ok (.iaload, 1)) (k0 : ev_V G l M J (pc + 1) L (.int (μ.2.2 i.toInt.toNat) :: st) (mo G c (qS μ p s e f) h) k n) : ev_V G l M J pc L (.int i :: .ref (c + 1) :: st) (mo G c (qS μ p s e f) h) k n := mo_l1 h0 h1 hd k0
theorem qS_l3 {i : Int32} (h0 : 0 ≤ i.toInt) (h1 : i.toInt < 199) (hd : decode M.2.1 pc = .ok (.laload, 1)) (k0 : ev_V G l M J (pc + 1) L (.long (μ.2.1 1 i.toInt.toNat) :: st) (mo G c (qS μ p s e f) h) k n) : ev_V G l M J pc L (.int i :: .ref (c + 3) :: st) (mo G c (qS μ p s e f) h) k n := mo_l3 h0 h1 hd k0
theorem qS_s3 {i : Int32} {x : Int64} (h0 : 0 ≤ i.toInt) (h1 : i.toInt < 199) (hd : decode M.2.1 pc = .ok (.lastore, 1)) (k0 : ev_V G l M J (pc + 1) L st (mo G c (qS (ms_L μ 1 (ev_u (μ.2.1 1) i.toInt.toNat x)) p s e f) h) k n) : ev_V G l M J pc L (.long x :: .int i :: .ref (c + 3) :: st) (mo G c (qS μ p s e f) h) k n := mo_s3 h0 h1 hd k0
end P1R
section P1
variable {G : ev_G} {l : Launch} {c n p q j : Nat} {μ : MS} {h : ev_H} {B : Nat → Int32} {x y z s f e : Int32} {lo hi : Int} {T : Int} {S : SS}
set_option maxRecDepth 20000 in
theorem ct_X7_byteAt (hB : MB B n μ) (hx : x = Int32.ofNat q) (hq : q ≤ 2000) : ev_Ct G l mX7_byteAt 0 0 0 [.ref c, .int x] (mo G c (qS μ p s e f) h) (fun v a => v = some (.int (B q)) ∧ a = mo G c (qS μ p s e f) h) (fun _ _ => False) := by
  refine ev_Ct.of (by decide +kernel) (Nat.le_of_ble_eq_true rfl) ?_
  have hn := ar_of (n := n) (by have := hB.2.1; omega)
  have hxq : x.toInt = (q : Int) := by rw [hx, ar_of hq]
  have hnq := ar_nat hxq
  refine e_iload_n dX7_byteAt_0 rfl rfl ?_
  refine e_aload_n dX7_byteAt_1 rfl rfl ?_
  refine qS_g3 wF_X7_49 dX7_byteAt_2 ?_
  rw [hB.1]
  refine e_icmp_ge (tgt := 17) dX7_byteAt_5 (by decide) (fun c5 => ?_) (fun c5 => ?_)
  · refine e_iconst (v := (-1)) dX7_byteAt_17 (by decide) ?_
    exact e_iret rfl dX7_byteAt_18 (⟨by first | (rw [hB.2.2.2 q (by omega)]; done) | (rw [hnq, hB.2.2.1 q (by omega)]; done), rfl⟩)
  · refine e_aload_n dX7_byteAt_8 rfl rfl ?_
    refine qS_g1 wF_X7_9 dX7_byteAt_9 ?_
    refine e_iload_n dX7_byteAt_12 rfl rfl ?_
    refine qS_l1 (by omega) (by have := hB.2.1; omega) dX7_byteAt_13 ?_
    refine e_goto (tgt := 18) dX7_byteAt_14 (by decide) ?_
    exact e_iret rfl dX7_byteAt_18 (⟨by first | (rw [hB.2.2.2 q (by omega)]; done) | (rw [hnq, hB.2.2.1 q (by omega)]; done), rfl⟩)
set_option maxRecDepth 20000 in
theorem lp_ahead {J : ev_K} {k m : Nat} (hJ : 1 ≤ J.2.2.1) (hB : MB B n μ) (hk : ev_V G l mX7_ahead J 26 [some (.ref c)] [] (mo G c (qS μ q s e f) h) k m) : ∀ (r p : Nat), r + p = n → pSk B r p = q → ev_V G l mX7_ahead J 0 [some (.ref c)] [] (mo G c (qS μ p s e f) h) k m := by
  have w32 : (32 : Int32).toInt = 32 := by decide +kernel
  intro r
  induction r with
  | zero =>
    intro p hr hq
    have hq' : p = q := hq
    subst hq'
    refine e_aload_n dX7_ahead_0 rfl rfl ?_
    refine e_aload_n dX7_ahead_1 rfl rfl ?_
    refine qS_g4 wF_X7_52 dX7_ahead_2 ?_
    refine e_invV (mcY := 0) (msY := 0) (ct_X7_byteAt hB (q := p) (rfl) (by have := hB.2.1; omega)) vX7_byteAt wM_X7_55 (mo_at G c _ h 0 (by decide)) rfl dX7_ahead_5 rfl rfl (Nat.le_of_ble_eq_true rfl) (Nat.le_trans (Nat.le_of_ble_eq_true rfl) hJ) ?_
    rintro _ _ ⟨rfl, rfl⟩
    refine e_bipush (v := 32) dX7_ahead_8 (by decide) ?_
    refine e_icmp_ne (tgt := 26) dX7_ahead_10 (by decide) (fun c10 => ?_) (fun c10 => ?_)
    · exact hk
    · rw [hB.2.2.2 p (by omega)] at c10; exact absurd c10 (by decide)
  | succ r ih =>
    intro p hr hq
    have hq' : (if B p = 32 then pSk B r (p + 1) else p) = q := hq
    refine e_aload_n dX7_ahead_0 rfl rfl ?_
    refine e_aload_n dX7_ahead_1 rfl rfl ?_
    refine qS_g4 wF_X7_52 dX7_ahead_2 ?_
    refine e_invV (mcY := 0) (msY := 0) (ct_X7_byteAt hB (q := p) (rfl) (by have := hB.2.1; omega)) vX7_byteAt wM_X7_55 (mo_at G c _ h 0 (by decide)) rfl dX7_ahead_5 rfl rfl (Nat.le_of_ble_eq_true rfl) (Nat.le_trans (Nat.le_of_ble_eq_true rfl) hJ) ?_
    rintro _ _ ⟨rfl, rfl⟩
    refine e_bipush (v := 32) dX7_ahead_8 (by decide) ?_
    refine e_icmp_ne (tgt := 26) dX7_ahead_10 (by decide) (fun c10 => ?_) (fun c10 => ?_)
    · rw [if_neg c10] at hq'
      subst hq'
      exact hk
    · rw [if_pos c10] at hq'
      refine e_aload_n dX7_ahead_13 rfl rfl ?_
      refine e_dup dX7_ahead_14 rfl ?_
      refine qS_g4 wF_X7_52 dX7_ahead_15 ?_
      refine e_iconst (v := 1) dX7_ahead_18 (by decide) ?_
      refine e_iadd dX7_ahead_19 ?_
      refine qS_p4 (q := p + 1) (ar_ofadd ar_1 (by have := hB.2.1; omega) (by decide)) wF_X7_52 dX7_ahead_20 ?_
      refine e_goto (tgt := 0) dX7_ahead_23 (by decide) ?_
      exact ih (p + 1) (by omega) hq'
set_option maxRecDepth 20000 in
theorem ct_X7_ahead (hB : MB B n μ) (hp : p ≤ n) : ev_Ct G l mX7_ahead 1 0 0 [.ref c] (mo G c (qS μ p s e f) h) (fun v a => v = some (.int (B (sk B n p))) ∧ a = mo G c (qS μ (sk B n p) s e f) h) (fun _ _ => False) := by
  refine ev_Ct.of (by decide +kernel) (Nat.le_of_ble_eq_true rfl) ?_
  have hsr := sk_rng B hp
  refine lp_ahead (q := sk B n p) (Nat.le_refl _) hB ?_ (n - p) p (by omega) rfl
  refine e_aload_n dX7_ahead_26 rfl rfl ?_
  refine e_aload_n dX7_ahead_27 rfl rfl ?_
  refine qS_g4 wF_X7_52 dX7_ahead_28 ?_
  refine e_invV (mcY := 0) (msY := 0) (ct_X7_byteAt hB (q := sk B n p) (rfl) (by have := hB.2.1; omega)) vX7_byteAt wM_X7_55 (mo_at G c _ h 0 (by decide)) rfl dX7_ahead_31 rfl rfl (Nat.le_of_ble_eq_true rfl) (Nat.le_of_ble_eq_true rfl) ?_
  rintro _ _ ⟨rfl, rfl⟩
  exact e_iret rfl dX7_ahead_34 (⟨rfl, rfl⟩)
set_option maxRecDepth 20000 in
theorem ct_X7_isGood1  : ev_Ct G l mX7_isGood 0 0 0 [.ref c] (mo G c (qS μ p s 0 f) h) (fun v a => v = some (.int 1) ∧ a = mo G c (qS μ p s 0 f) h) (fun _ _ => False) := by
  refine ev_Ct.of (by decide +kernel) (Nat.le_of_ble_eq_true rfl) ?_
  refine e_aload_n dX7_isGood_0 rfl rfl ?_
  refine qS_g5 wF_X7_59 dX7_isGood_1 ?_
  refine e_if_ne (tgt := 11) dX7_isGood_4 (by decide) (fun c4 => ?_) (fun c4 => ?_)
  · exact absurd rfl c4
  · refine e_iconst (v := 1) dX7_isGood_7 (by decide) ?_
    refine e_goto (tgt := 12) dX7_isGood_8 (by decide) ?_
    exact e_zret (ty := .boolean) rfl rfl dX7_isGood_12 (⟨rfl, rfl⟩)
set_option maxRecDepth 20000 in
theorem ct_X7_isGood0 (he : e ≠ 0) : ev_Ct G l mX7_isGood 0 0 0 [.ref c] (mo G c (qS μ p s e f) h) (fun v a => v = some (.int 0) ∧ a = mo G c (qS μ p s e f) h) (fun _ _ => False) := by
  refine ev_Ct.of (by decide +kernel) (Nat.le_of_ble_eq_true rfl) ?_
  refine e_aload_n dX7_isGood_0 rfl rfl ?_
  refine qS_g5 wF_X7_59 dX7_isGood_1 ?_
  refine e_if_ne (tgt := 11) dX7_isGood_4 (by decide) (fun c4 => ?_) (fun c4 => ?_)
  · refine e_iconst (v := 0) dX7_isGood_11 (by decide) ?_
    exact e_zret (ty := .boolean) rfl rfl dX7_isGood_12 (⟨rfl, rfl⟩)
  · exact absurd c4 he
set_option maxRecDepth 20000 in
theorem ct_X7_report1  : ev_Ct G l mX7_report 0 0 0 [.ref c, .int x, .int y] (mo G c (qS μ p s 0 f) h) (fun v a => v = none ∧ a = mo G c (qS μ p s x y) h) (fun _ _ => False) := by
  refine ev_Ct.of (by decide +kernel) (Nat.le_of_ble_eq_true rfl) ?_
  refine e_aload_n dX7_report_0 rfl rfl ?_
  refine qS_g5 wF_X7_59 dX7_report_1 ?_
  refine e_if_eq (tgt := 8) dX7_report_4 (by decide) (fun c4 => ?_) (fun c4 => ?_)
  · refine e_aload_n dX7_report_8 rfl rfl ?_
    refine e_iload_n dX7_report_9 rfl rfl ?_
    refine qS_p5 wF_X7_59 dX7_report_10 ?_
    refine e_aload_n dX7_report_13 rfl rfl ?_
    refine e_iload_n dX7_report_14 rfl rfl ?_
    refine qS_p6 wF_X7_62 dX7_report_15 ?_
    exact e_vret rfl dX7_report_18 (⟨rfl, rfl⟩)
  · exact absurd rfl c4
set_option maxRecDepth 20000 in
theorem ct_X7_report0 (he : e ≠ 0) : ev_Ct G l mX7_report 0 0 0 [.ref c, .int x, .int y] (mo G c (qS μ p s e f) h) (fun v a => v = none ∧ a = mo G c (qS μ p s e f) h) (fun _ _ => False) := by
  refine ev_Ct.of (by decide +kernel) (Nat.le_of_ble_eq_true rfl) ?_
  refine e_aload_n dX7_report_0 rfl rfl ?_
  refine qS_g5 wF_X7_59 dX7_report_1 ?_
  refine e_if_eq (tgt := 8) dX7_report_4 (by decide) (fun c4 => ?_) (fun c4 => ?_)
  · exact absurd c4 he
  · exact e_vret rfl dX7_report_7 (⟨rfl, rfl⟩)
set_option maxRecDepth 20000 in
theorem ct_X7_isDigit {b : ev_H} : ev_Ct G l mX7_isDigit 2 0 0 [.int x] (b) (fun v a => (isD x ∧ v = some (.int 1) ∧ a = b) ∨ (¬ isD x ∧ v = some (.int 0) ∧ a = b)) (fun _ _ => False) := by
  refine ev_Ct.of (by decide +kernel) (Nat.le_of_ble_eq_true rfl) ?_
  have w48 : (48 : Int32).toInt = 48 := by decide +kernel
  have w57 : (57 : Int32).toInt = 57 := by decide +kernel
  refine e_iload_n dX7_isDigit_0 rfl rfl ?_
  refine e_bipush (v := 48) dX7_isDigit_1 (by decide) ?_
  refine e_bipush (v := 57) dX7_isDigit_3 (by decide) ?_
  refine e_invS (mcY := 0) (msY := 0) (ct_X7_in) vX7_in wM_X7_65 dX7_isDigit_5 rfl rfl (Nat.le_of_ble_eq_true rfl) (Nat.le_of_ble_eq_true rfl) ?_
  rintro _ _ hc
  rw [w48, w57] at hc
  rcases hc with ⟨hd, rfl, rfl⟩ | ⟨hd, rfl, rfl⟩
  · exact e_zret (ty := .boolean) rfl rfl dX7_isDigit_8 (by first | exact Or.inl ⟨hd, rfl, rfl⟩ | exact Or.inr ⟨hd, rfl, rfl⟩)
  · exact e_zret (ty := .boolean) rfl rfl dX7_isDigit_8 (by first | exact Or.inl ⟨hd, rfl, rfl⟩ | exact Or.inr ⟨hd, rfl, rfl⟩)
set_option maxRecDepth 20000 in
theorem lp_mword {J : ev_K} {k m : Nat} (hJ : 4 ≤ J.2.2.1) (hB : MB B n μ) (hp : p ≤ n) (hj : j < 20) (hk : ∀ (i : Nat) (x : Int32), x.toInt = (i : Int) → i ≤ ev_len.getD j 0 → (∀ k, k < i → B (p + k) = sB j k) → (i = ev_len.getD j 0 ∨ (i < ev_len.getD j 0 ∧ B (p + i) ≠ sB j i)) → ev_V G l mX7_takeWord J 48 [some (.ref c), some (.ref (ev_Ks G j)), some (.int x)] [] (mo G c (qS μ p s 0 f) h) k m) : ∀ (r i : Nat) (x : Int32), r + i = ev_len.getD j 0 → x.toInt = (i : Int) → (∀ k, k < i → B (p + k) = sB j k) → ev_V G l mX7_takeWord J 16 [some (.ref c), some (.ref (ev_Ks G j)), some (.int x)] [] (mo G c (qS μ p s 0 f) h) k m := by
  have hn2 := hB.2.1
  have hl := ev_len_le j
  have hl2 : (Int32.ofNat (ev_len.getD j 0)).toInt = (ev_len.getD j 0 : Nat) := ar_of (by omega)
  intro r
  induction r using Nat.strongRecOn with
  | ind r ih =>
    intro i x hr hx hno
    have hn := ar_nat hx
    refine e_iload_n dX7_takeWord_16 rfl rfl ?_
    refine e_aload_n dX7_takeWord_17 rfl rfl ?_
    refine e_invK (mcY := 0) (msY := 0) (ct_J0_length hj) vJ0_length_8abf5 wM_X7_77 hj rfl dX7_takeWord_18 rfl rfl (Nat.le_of_ble_eq_true rfl) (Nat.le_trans (Nat.le_of_ble_eq_true rfl) hJ) ?_
    rintro _ _ ⟨rfl, rfl⟩
    refine e_icmp_ge (tgt := 48) dX7_takeWord_21 (by decide) (fun c21 => ?_) (fun c21 => ?_)
    · exact hk i x hx (by omega) hno (Or.inl (by omega))
    · refine e_aload_n dX7_takeWord_24 rfl rfl ?_
      refine e_aload_n dX7_takeWord_25 rfl rfl ?_
      refine qS_g4 wF_X7_52 dX7_takeWord_26 ?_
      refine e_iload_n dX7_takeWord_29 rfl rfl ?_
      refine e_iadd dX7_takeWord_30 ?_
      refine e_invV (mcY := 0) (msY := 0) (ct_X7_byteAt hB (q := p + i) (ar_ofadd hx (by omega) (by omega)) (by have := hB.2.1; omega)) vX7_byteAt wM_X7_55 (mo_at G c _ h 0 (by decide)) rfl dX7_takeWord_31 rfl rfl (Nat.le_of_ble_eq_true rfl) (Nat.le_trans (Nat.le_of_ble_eq_true rfl) hJ) ?_
      rintro _ _ ⟨rfl, rfl⟩
      refine e_aload_n dX7_takeWord_34 rfl rfl ?_
      refine e_iload_n dX7_takeWord_35 rfl rfl ?_
      refine e_invK (mcY := 0) (msY := 0) (ct_J0_charAt hj (by omega) (by omega)) vJ0_charAt_5068e wM_X7_82 hj rfl dX7_takeWord_36 rfl rfl (Nat.le_of_ble_eq_true rfl) (Nat.le_trans (Nat.le_of_ble_eq_true rfl) hJ) ?_
      rintro _ _ ⟨rfl, rfl⟩
      refine e_icmp_ne (tgt := 48) dX7_takeWord_39 (by decide) (fun c39 => ?_) (fun c39 => ?_)
      · exact hk i x hx (by omega) hno (Or.inr ⟨by omega, fun q => c39 (by rw [hn]; exact q)⟩)
      · refine e_iinc dX7_takeWord_42 rfl rfl (Nat.le_of_ble_eq_true rfl) ?_
        refine e_goto (tgt := 16) dX7_takeWord_45 (by decide) ?_
        refine ih (r - 1) (by omega) (i + 1) _ (by omega) (ar_inc hx (by omega)) (fun k2 hk2 => ?_)
        by_cases e : k2 = i
        · rw [e, c39, hn]
        · exact hno k2 (by omega)
set_option maxRecDepth 20000 in
theorem ct_X7_takeWord1 (hB : MB B n μ) (hp : p ≤ n) (hj : j < 20) : ev_Ct G l mX7_takeWord 5 0 0 [.ref c, .ref (ev_Ks G j)] (mo G c (qS μ p s 0 f) h) (fun v a => ((wAt B j (sk B n p)) ∧ v = some (.int 1) ∧ a = mo G c (qS μ (sk B n p + ev_len.getD j 0) s 0 f) h) ∨ (¬ (wAt B j (sk B n p)) ∧ v = some (.int 0) ∧ a = mo G c (qS μ (sk B n p) s 0 f) h)) (fun _ _ => False) := by
  refine ev_Ct.of (by decide +kernel) (Nat.le_of_ble_eq_true rfl) ?_
  have hn2 := hB.2.1
  have hl := ev_len_le j
  have hl2 : (Int32.ofNat (ev_len.getD j 0)).toInt = (ev_len.getD j 0 : Nat) := ar_of (by omega)
  have hsr := sk_rng B hp
  have w97 : (97 : Int32).toInt = 97 := by decide +kernel
  have w122 : (122 : Int32).toInt = 122 := by decide +kernel
  refine e_aload_n dX7_takeWord_0 rfl rfl ?_
  refine e_invV (mcY := 0) (msY := 0) (ct_X7_isGood1) vX7_isGood wM_X7_69 (mo_at G c _ h 0 (by decide)) rfl dX7_takeWord_1 rfl rfl (Nat.le_of_ble_eq_true rfl) (Nat.le_of_ble_eq_true rfl) ?_
  rintro _ _ ⟨rfl, rfl⟩
  refine e_if_ne (tgt := 9) dX7_takeWord_4 (by decide) (fun c4 => ?_) (fun c4 => ?_)
  · refine e_aload_n dX7_takeWord_9 rfl rfl ?_
    refine e_invV (mcY := 0) (msY := 0) (ct_X7_ahead hB hp) vX7_ahead wM_X7_73 (mo_at G c _ h 0 (by decide)) rfl dX7_takeWord_10 rfl rfl (Nat.le_of_ble_eq_true rfl) (Nat.le_of_ble_eq_true rfl) ?_
    rintro _ _ ⟨rfl, rfl⟩
    refine e_pop dX7_takeWord_13 rfl ?_
    refine e_iconst (v := 0) dX7_takeWord_14 (by decide) ?_
    refine e_istore_n dX7_takeWord_15 rfl (Nat.le_of_ble_eq_true rfl) ?_
    refine ev_loc (L' := [some (.ref c), some (.ref (ev_Ks G j)), some (.int 0)]) ⟨rfl, rfl, rfl, trivial⟩ ?_
    refine lp_mword (Nat.le_of_ble_eq_true rfl) hB hsr.2 hj (fun i x hx hil hno hor => ?_) (ev_len.getD j 0) 0 0 (by omega) ar_0 (fun k hk => absurd hk (Nat.not_lt_zero _))
    refine e_iload_n dX7_takeWord_48 rfl rfl ?_
    refine e_aload_n dX7_takeWord_49 rfl rfl ?_
    refine e_invK (mcY := 0) (msY := 0) (ct_J0_length hj) vJ0_length_8abf5 wM_X7_77 hj rfl dX7_takeWord_50 rfl rfl (Nat.le_of_ble_eq_true rfl) (Nat.le_of_ble_eq_true rfl) ?_
    rintro _ _ ⟨rfl, rfl⟩
    refine e_icmp_lt (tgt := 76) dX7_takeWord_53 (by decide) (fun c53 => ?_) (fun c53 => ?_)
    · have hF : ¬ wAt B j (sk B n p) := fun q => hor.elim (fun q1 => by omega) (fun q1 => q1.2 (q.1 i q1.1))
      refine e_iconst (v := 0) dX7_takeWord_76 (by decide) ?_
      exact e_zret (ty := .boolean) rfl rfl dX7_takeWord_77 (by first | exact Or.inr ⟨hF, rfl, rfl⟩ | exact Or.inr ⟨fun q => q.2 hd, rfl, rfl⟩ | exact Or.inl ⟨⟨hno, hd⟩, rfl, rfl⟩)
    · have hi : i = ev_len.getD j 0 := by omega
      subst hi
      refine e_aload_n dX7_takeWord_56 rfl rfl ?_
      refine e_aload_n dX7_takeWord_57 rfl rfl ?_
      refine qS_g4 wF_X7_52 dX7_takeWord_58 ?_
      refine e_iload_n dX7_takeWord_61 rfl rfl ?_
      refine e_iadd dX7_takeWord_62 ?_
      refine e_invV (mcY := 0) (msY := 0) (ct_X7_byteAt hB (q := sk B n p + ev_len.getD j 0) (ar_ofadd hx (by omega) (by omega)) (by have := hB.2.1; omega)) vX7_byteAt wM_X7_55 (mo_at G c _ h 0 (by decide)) rfl dX7_takeWord_63 rfl rfl (Nat.le_of_ble_eq_true rfl) (Nat.le_of_ble_eq_true rfl) ?_
      rintro _ _ ⟨rfl, rfl⟩
      refine e_bipush (v := 97) dX7_takeWord_66 (by decide) ?_
      refine e_bipush (v := 122) dX7_takeWord_68 (by decide) ?_
      refine e_invS (mcY := 0) (msY := 0) (ct_X7_in) vX7_in wM_X7_65 dX7_takeWord_70 rfl rfl (Nat.le_of_ble_eq_true rfl) (Nat.le_of_ble_eq_true rfl) ?_
      rintro _ _ hc
      rw [w97, w122] at hc
      rcases hc with ⟨hd, rfl, rfl⟩ | ⟨hd, rfl, rfl⟩
      · refine e_if_eq (tgt := 78) dX7_takeWord_73 (by decide) (fun c73 => ?_) (fun c73 => ?_)
        · first | exact absurd c73 (by decide) | exact absurd rfl c73
        · refine e_iconst (v := 0) dX7_takeWord_76 (by decide) ?_
          exact e_zret (ty := .boolean) rfl rfl dX7_takeWord_77 (by first | exact Or.inr ⟨hF, rfl, rfl⟩ | exact Or.inr ⟨fun q => q.2 hd, rfl, rfl⟩ | exact Or.inl ⟨⟨hno, hd⟩, rfl, rfl⟩)
      · refine e_if_eq (tgt := 78) dX7_takeWord_73 (by decide) (fun c73 => ?_) (fun c73 => ?_)
        · refine e_aload_n dX7_takeWord_78 rfl rfl ?_
          refine e_dup dX7_takeWord_79 rfl ?_
          refine qS_g4 wF_X7_52 dX7_takeWord_80 ?_
          refine e_iload_n dX7_takeWord_83 rfl rfl ?_
          refine e_iadd dX7_takeWord_84 ?_
          refine qS_p4 (q := sk B n p + ev_len.getD j 0) (ar_ofadd hx (by omega) (by omega)) wF_X7_52 dX7_takeWord_85 ?_
          refine e_iconst (v := 1) dX7_takeWord_88 (by decide) ?_
          exact e_zret (ty := .boolean) rfl rfl dX7_takeWord_89 (by first | exact Or.inr ⟨hF, rfl, rfl⟩ | exact Or.inr ⟨fun q => q.2 hd, rfl, rfl⟩ | exact Or.inl ⟨⟨hno, hd⟩, rfl, rfl⟩)
        · first | exact absurd c73 (by decide) | exact absurd rfl c73
  · first | exact absurd c4 (by decide) | exact absurd rfl c4
set_option maxRecDepth 20000 in
theorem ct_X7_takeWord0 (he : e ≠ 0) : ev_Ct G l mX7_takeWord 5 0 0 [.ref c, .ref (ev_Ks G j)] (mo G c (qS μ p s e f) h) (fun v a => v = some (.int 0) ∧ a = mo G c (qS μ p s e f) h) (fun _ _ => False) := by
  refine ev_Ct.of (by decide +kernel) (Nat.le_of_ble_eq_true rfl) ?_
  refine e_aload_n dX7_takeWord_0 rfl rfl ?_
  refine e_invV (mcY := 0) (msY := 0) (ct_X7_isGood0 he) vX7_isGood wM_X7_69 (mo_at G c _ h 0 (by decide)) rfl dX7_takeWord_1 rfl rfl (Nat.le_of_ble_eq_true rfl) (Nat.le_of_ble_eq_true rfl) ?_
  rintro _ _ ⟨rfl, rfl⟩
  refine e_if_ne (tgt := 9) dX7_takeWord_4 (by decide) (fun c4 => ?_) (fun c4 => ?_)
  · first | exact absurd c4 (by decide) | exact absurd rfl c4
  · refine e_iconst (v := 0) dX7_takeWord_7 (by decide) ?_
    exact e_zret (ty := .boolean) rfl rfl dX7_takeWord_8 (⟨rfl, rfl⟩)
set_option maxRecDepth 20000 in
theorem ct_X7_expect1 (hB : MB B n μ) (hp : p ≤ n) (hx : x ≠ -1) : ev_Ct G l mX7_expect 2 0 0 [.ref c, .int x] (mo G c (qS μ p s 0 f) h) (fun v a => v = none ∧ ((B (sk B n p) = x ∧ a = mo G c (qS μ (sk B n p + 1) s 0 f) h) ∨ (B (sk B n p) ≠ x ∧ a = mo G c (qS μ (sk B n p) s (-2) (Int32.ofNat (sk B n p))) h))) (fun _ _ => False) := by
  refine ev_Ct.of (by decide +kernel) (Nat.le_of_ble_eq_true rfl) ?_
  have hn2 := hB.2.1
  have hsr := sk_rng B hp
  refine e_aload_n dX7_expect_0 rfl rfl ?_
  refine e_invV (mcY := 0) (msY := 0) (ct_X7_isGood1) vX7_isGood wM_X7_69 (mo_at G c _ h 0 (by decide)) rfl dX7_expect_1 rfl rfl (Nat.le_of_ble_eq_true rfl) (Nat.le_of_ble_eq_true rfl) ?_
  rintro _ _ ⟨rfl, rfl⟩
  refine e_if_ne (tgt := 8) dX7_expect_4 (by decide) (fun c4 => ?_) (fun c4 => ?_)
  · refine e_aload_n dX7_expect_8 rfl rfl ?_
    refine e_invV (mcY := 0) (msY := 0) (ct_X7_ahead hB hp) vX7_ahead wM_X7_73 (mo_at G c _ h 0 (by decide)) rfl dX7_expect_9 rfl rfl (Nat.le_of_ble_eq_true rfl) (Nat.le_of_ble_eq_true rfl) ?_
    rintro _ _ ⟨rfl, rfl⟩
    refine e_iload_n dX7_expect_12 rfl rfl ?_
    refine e_icmp_ne (tgt := 29) dX7_expect_13 (by decide) (fun c13 => ?_) (fun c13 => ?_)
    · refine e_aload_n dX7_expect_29 rfl rfl ?_
      refine e_bipush (v := (-2)) dX7_expect_30 (by decide) ?_
      refine e_aload_n dX7_expect_32 rfl rfl ?_
      refine qS_g4 wF_X7_52 dX7_expect_33 ?_
      refine e_invV (mcY := 0) (msY := 0) (ct_X7_report1) vX7_report wM_X7_86 (mo_at G c _ h 0 (by decide)) rfl dX7_expect_36 rfl rfl (Nat.le_of_ble_eq_true rfl) (Nat.le_of_ble_eq_true rfl) ?_
      rintro _ _ ⟨rfl, rfl⟩
      exact e_vret rfl dX7_expect_39 (⟨rfl, by first | exact Or.inl ⟨c13, rfl⟩ | exact Or.inr ⟨c13, rfl⟩⟩)
    · refine e_aload_n dX7_expect_16 rfl rfl ?_
      refine e_dup dX7_expect_17 rfl ?_
      refine qS_g4 wF_X7_52 dX7_expect_18 ?_
      refine e_iconst (v := 1) dX7_expect_21 (by decide) ?_
      refine e_iadd dX7_expect_22 ?_
      refine qS_p4 (q := sk B n p + 1) (ar_ofadd ar_1 (by omega) (by decide)) wF_X7_52 dX7_expect_23 ?_
      refine e_goto (tgt := 39) dX7_expect_26 (by decide) ?_
      exact e_vret rfl dX7_expect_39 (⟨rfl, by first | exact Or.inl ⟨c13, rfl⟩ | exact Or.inr ⟨c13, rfl⟩⟩)
  · first | exact absurd c4 (by decide) | exact absurd rfl c4
set_option maxRecDepth 20000 in
theorem ct_X7_expect0 (he : e ≠ 0) : ev_Ct G l mX7_expect 2 0 0 [.ref c, .int x] (mo G c (qS μ p s e f) h) (fun v a => v = none ∧ a = mo G c (qS μ p s e f) h) (fun _ _ => False) := by
  refine ev_Ct.of (by decide +kernel) (Nat.le_of_ble_eq_true rfl) ?_
  refine e_aload_n dX7_expect_0 rfl rfl ?_
  refine e_invV (mcY := 0) (msY := 0) (ct_X7_isGood0 he) vX7_isGood wM_X7_69 (mo_at G c _ h 0 (by decide)) rfl dX7_expect_1 rfl rfl (Nat.le_of_ble_eq_true rfl) (Nat.le_of_ble_eq_true rfl) ?_
  rintro _ _ ⟨rfl, rfl⟩
  refine e_if_ne (tgt := 8) dX7_expect_4 (by decide) (fun c4 => ?_) (fun c4 => ?_)
  · first | exact absurd c4 (by decide) | exact absurd rfl c4
  · exact e_vret rfl dX7_expect_7 (⟨rfl, rfl⟩)
end P1
