/-! words and numbers written -/
def TX (G : ev_G) (b u : Nat) (S0 : SS) (T : List Nat) (a : ev_H) : Prop := ∃ S2, SY G b S2 a ∧ TXT G a u S2 T ∧ kpx S0 S2
def txtN (j : Nat) : List Nat := (ev_byt.getD j []).map fun x => x.toInt.toNat
theorem txtN_len : ∀ j, j < 26 → (txtN j).length = ev_len.getD j 0 := fun j hj => (by decide +kernel : ∀ j : Fin 26, (txtN j.1).length = ev_len.getD j.1 0) ⟨j, hj⟩
theorem txtN_at : ∀ j, j < 26 → ∀ k, k < 24 → k < ev_len.getD j 0 → (txtN j).getD k 0 < 128 ∧ sB j k = Int32.ofNat ((txtN j).getD k 0) := fun j hj k hk hl => (by decide +kernel : ∀ j : Fin 26, ∀ k : Fin 24, k.1 < ev_len.getD j.1 0 → (txtN j.1).getD k.1 0 < 128 ∧ sB j.1 k.1 = Int32.ofNat ((txtN j.1).getD k.1 0)) ⟨j, hj⟩ ⟨k, hk⟩ hl
theorem take_up {l : List Nat} {i : Nat} (h : i < l.length) : l.take i ++ [l.getD i 0] = l.take (i + 1) := by
  rw [List.getD_eq_getElem?_getD, List.getElem?_eq_getElem h, Option.getD_some]
  exact (List.take_append_getElem h)
section LWN
variable {G : ev_G} {l : Launch} {a : ev_H} {b u w L : Nat} {S0 : SS} {T : List Nat} {x : Int32}
theorem TX.put (h : TX G b u S0 T a) (hub : ¬ (b ≤ u ∧ u < b + 157)) {c : Nat} (hc : c < 128) (hx : x = Int32.ofNat c) (hL : T.length < 480) : ev_Ct G l mL_put 7 0 0 [.ref b, .ref u, .int x] a (fun v h => v = none ∧ TX G b u S0 (T ++ [c]) h ∧ fw a h b u ∧ h.2 = a.2) (fun _ _ => False) := by
  obtain ⟨S2, h1, h2, h3⟩ := h
  refine (ct_L_put h1 hub h2 hc hx hL).mono (fun v c ⟨q1, S3, q2, q3, q4, q5, q6⟩ => ⟨q1, ⟨S3, q2, q3, h3.tr q4⟩, q5, q6⟩) (fun _ _ q => q)
set_option maxRecDepth 20000 in
theorem lp_write {J : ev_K} {k n j : Nat} (hJ : 8 ≤ J.2.2.1) (hj : j < 26) (hub : ¬ (b ≤ u ∧ u < b + 157)) (hL : T.length + ev_len.getD j 0 ≤ 480) (hk : ∀ c, TX G b u S0 (T ++ txtN j) c → fw a c b u → c.2 = a.2 → ev_V G l mL_write J 26 [] [] c k n) : ∀ (r i : Nat) (x : Int32) (c : ev_H), r + i = ev_len.getD j 0 → x.toInt = (i : Int) → TX G b u S0 (T ++ (txtN j).take i) c → fw a c b u → c.2 = a.2 → ev_V G l mL_write J 2 [some (.ref b), some (.ref u), some (.ref (ev_Ks G j)), some (.int x)] [] c k n := by
  have hl := ev_len_le j
  have hl2 : (Int32.ofNat (ev_len.getD j 0)).toInt = (ev_len.getD j 0 : Nat) := ar_of (by omega)
  have hln := txtN_len j hj
  intro r
  induction r with
  | zero =>
    intro i x c hr hx hT hw hz
    refine e_iload_n dL_write_2 rfl rfl ?_
    refine e_aload_n dL_write_3 rfl rfl ?_
    refine e_invK (mcY := 0) (msY := 0) (ct_J0_length hj) vJ0_length_8abf5 wM_L_23 hj rfl dL_write_4 rfl rfl (Nat.le_of_ble_eq_true rfl) (Nat.le_trans (Nat.le_of_ble_eq_true rfl) hJ) ?_
    intro v c1 hq
    obtain ⟨rfl, e1⟩ := hq
    rw [e1]
    refine e_icmp_ge (tgt := 26) dL_write_7 (by decide) (fun _ => ?_) (fun q => absurd q (by omega))
    refine ev_lc (hk c ?_ hw hz) trivial
    rw [List.take_of_length_le (by omega)] at hT
    exact hT
  | succ r ih =>
    intro i x c hr hx hT hw hz
    have hn : x.toInt.toNat = i := ar_nat hx
    refine e_iload_n dL_write_2 rfl rfl ?_
    refine e_aload_n dL_write_3 rfl rfl ?_
    refine e_invK (mcY := 0) (msY := 0) (ct_J0_length hj) vJ0_length_8abf5 wM_L_23 hj rfl dL_write_4 rfl rfl (Nat.le_of_ble_eq_true rfl) (Nat.le_trans (Nat.le_of_ble_eq_true rfl) hJ) ?_
    intro v c1 hq
    obtain ⟨rfl, e1⟩ := hq
    rw [e1]
    refine e_icmp_ge (tgt := 26) dL_write_7 (by decide) (fun q => absurd q (by omega)) (fun _ => ?_)
    refine e_aload_n dL_write_10 rfl rfl ?_
    refine e_aload_n dL_write_11 rfl rfl ?_
    refine e_aload_n dL_write_12 rfl rfl ?_
    refine e_iload_n dL_write_13 rfl rfl ?_
    refine e_invK (mcY := 0) (msY := 0) (ct_J0_charAt hj (by omega) (by omega)) vJ0_charAt_5068e wM_L_29 hj rfl dL_write_14 rfl rfl (Nat.le_of_ble_eq_true rfl) (Nat.le_trans (Nat.le_of_ble_eq_true rfl) hJ) ?_
    intro v c2 hq2
    obtain ⟨rfl, e2⟩ := hq2
    rw [e2, hn]
    obtain ⟨t1, t2⟩ := txtN_at j hj i (by omega) (by omega)
    refine e_invS (mcY := 0) (msY := 0) (hT.put hub t1 t2 (by rw [List.length_append, List.length_take]; omega)) vL_put wM_L_33 dL_write_17 rfl rfl (Nat.le_of_ble_eq_true rfl) (Nat.le_trans (Nat.le_of_ble_eq_true rfl) hJ) ?_
    intro v c3 hq3
    obtain ⟨rfl, h3, h4, h5⟩ := hq3
    rw [List.append_assoc, take_up (by omega)] at h3
    refine e_iinc dL_write_20 rfl rfl (Nat.le_of_ble_eq_true rfl) ?_
    refine e_goto (tgt := 2) dL_write_23 (by decide) ?_
    exact ih (i + 1) _ c3 (by omega) (ar_inc hx (by omega)) h3 (hw.tr h4) (h5.trans hz)
set_option maxRecDepth 20000 in
theorem ct_L_write {j : Nat} (h : TX G b u S0 T a) (hj : j < 26) (hub : ¬ (b ≤ u ∧ u < b + 157)) (hL : T.length + ev_len.getD j 0 ≤ 480) : ev_Ct G l mL_write 8 0 0 [.ref b, .ref u, .ref (ev_Ks G j)] a (fun v c => v = none ∧ TX G b u S0 (T ++ txtN j) c ∧ fw a c b u ∧ c.2 = a.2) (fun _ _ => False) := by
  refine ev_Ct.of (by decide +kernel) (Nat.le_of_ble_eq_true rfl) ?_
  refine e_iconst (v := 0) dL_write_0 (by decide) ?_
  refine e_istore_n dL_write_1 rfl (Nat.le_of_ble_eq_true rfl) ?_
  refine lp_write (a := a) (Nat.le_of_ble_eq_true rfl) hj hub hL (fun c q1 q2 q3 => ?_) _ 0 0 a rfl ar_0 (by rw [List.take_zero, List.append_nil]; exact h) (fw.rf a b u) rfl
  exact e_vret rfl dL_write_26 ⟨rfl, q1, q2, q3⟩
def dgs : Nat → Nat → List Nat
  | 0, n => [48 + n % 10]
  | k + 1, n => (48 + n / 10 ^ (k + 1) % 10) :: dgs k n
def kdg (n : Nat) : Nat := if n < 10 then 0 else if n < 100 then 1 else if n < 1000 then 2 else if n < 10000 then 3 else 4
def dgN (n : Nat) : List Nat := dgs (kdg n) n
theorem kdg_c {n : Nat} (h : n < 100000) : (kdg n = 0 ∧ n < 10) ∨ (kdg n = 1 ∧ 10 ≤ n ∧ n < 100) ∨ (kdg n = 2 ∧ 100 ≤ n ∧ n < 1000) ∨ (kdg n = 3 ∧ 1000 ≤ n ∧ n < 10000) ∨ (kdg n = 4 ∧ 10000 ≤ n) := by
  unfold kdg
  by_cases c0 : n < 10
  · rw [if_pos c0]; omega
  rw [if_neg c0]
  by_cases c1 : n < 100
  · rw [if_pos c1]; omega
  rw [if_neg c1]
  by_cases c2 : n < 1000
  · rw [if_pos c2]; omega
  rw [if_neg c2]
  by_cases c3 : n < 10000
  · rw [if_pos c3]; omega
  rw [if_neg c3]; omega
theorem kdg_4 (n : Nat) : kdg n ≤ 4 := by
  unfold kdg
  by_cases c0 : n < 10
  · rw [if_pos c0]; omega
  rw [if_neg c0]
  by_cases c1 : n < 100
  · rw [if_pos c1]; omega
  rw [if_neg c1]
  by_cases c2 : n < 1000
  · rw [if_pos c2]; omega
  rw [if_neg c2]
  by_cases c3 : n < 10000
  · rw [if_pos c3]; omega
  rw [if_neg c3]; omega
theorem dgs_len : ∀ k n, (dgs k n).length = k + 1
  | 0, _ => rfl
  | k + 1, n => by show (dgs k n).length + 1 = _; rw [dgs_len k n]
theorem dgN_len (n : Nat) : (dgN n).length ≤ 5 ∧ 1 ≤ (dgN n).length := by
  unfold dgN; rw [dgs_len]; have := kdg_4 n; omega
theorem ar_td {x y : Int32} {n m : Nat} (hx : x.toInt = (n : Int)) (hy : y.toInt = (m : Int)) : (x / y).toInt = ((n / m : Nat) : Int) := by
  rw [ar_div (by omega), hx, hy]; exact Int.ofNat_tdiv n m
theorem ar_rm {x y : Int32} {n m : Nat} (hx : x.toInt = (n : Int)) (hy : y.toInt = (m : Int)) : (x - x / y * y).toInt = ((n % m : Nat) : Int) := by
  have h1 := ar_td hx hy
  have r1 := ar_r x
  have hd := Nat.div_add_mod n m
  have hle : n / m * m ≤ n := Nat.div_mul_le_self n m
  have h2 : (x / y * y).toInt = ((n / m * m : Nat) : Int) := by
    rw [ar_mul (by rw [h1, hy]; omega) (by rw [h1, hy, ← Int.natCast_mul]; omega), h1, hy, Int.natCast_mul]
  rw [ar_sub (by rw [h2, hx]; omega) (by rw [h2, hx]; omega), h2, hx]
  rw [Nat.mul_comm] at hd
  omega
set_option maxRecDepth 20000 in
theorem lp_num1 {J : ev_K} {k n N : Nat} (hN : N < 100000) (hx : x.toInt = (N : Int)) (hk : ∀ y : Int32, y.toInt = ((10 ^ kdg N : Nat) : Int) → ev_V G l mL_writeNumber J 18 [some (.ref b), some (.ref u), some (.int x), some (.int y)] [] a k n) : ∀ (r i : Nat) (y : Int32), r + i = kdg N → y.toInt = ((10 ^ i : Nat) : Int) → ev_V G l mL_writeNumber J 2 [some (.ref b), some (.ref u), some (.int x), some (.int y)] [] a k n := by
  have w10 : (10 : Int32).toInt = (10 : Nat) := by decide +kernel
  have hdv := ar_td hx w10
  intro r
  induction r with
  | zero =>
    intro i y hr hy
    have hi : i = kdg N := by omega
    have hg : N / 10 < 10 ^ i := by
      rcases kdg_c hN with c | c | c | c | c <;> rw [hi, c.1] <;> omega
    refine e_iload_n dL_writeNumber_2 rfl rfl ?_
    refine e_iload_n dL_writeNumber_3 rfl rfl ?_
    refine e_bipush (v := 10) dL_writeNumber_4 (by decide) ?_
    refine e_idiv dL_writeNumber_6 (by decide) ?_
    refine e_icmp_gt (tgt := 18) dL_writeNumber_7 (by decide) (fun _ => hk y (by rw [← hi]; exact hy)) (fun q => absurd q (by omega))
  | succ r ih =>
    intro i y hr hy
    have h4 := kdg_4 N
    have hg : 10 ^ (i + 1) ≤ N := by
      have e5 : i + 1 ≤ kdg N := by omega
      have e : i = 0 ∨ i = 1 ∨ i = 2 ∨ i = 3 := by omega
      rcases e with rfl | rfl | rfl | rfl <;> rcases kdg_c hN with c | c | c | c | c <;> omega
    have hpw : 10 ^ (i + 1) = 10 ^ i * 10 := Nat.pow_succ 10 i
    refine e_iload_n dL_writeNumber_2 rfl rfl ?_
    refine e_iload_n dL_writeNumber_3 rfl rfl ?_
    refine e_bipush (v := 10) dL_writeNumber_4 (by decide) ?_
    refine e_idiv dL_writeNumber_6 (by decide) ?_
    refine e_icmp_gt (tgt := 18) dL_writeNumber_7 (by decide) (fun q => absurd q (by omega)) (fun _ => ?_)
    refine e_iload_n dL_writeNumber_10 rfl rfl ?_
    refine e_bipush (v := 10) dL_writeNumber_11 (by decide) ?_
    refine e_imul dL_writeNumber_13 ?_
    refine e_istore_n dL_writeNumber_14 rfl (Nat.le_of_ble_eq_true rfl) ?_
    refine e_goto (tgt := 2) dL_writeNumber_15 (by decide) ?_
    refine ih (i + 1) _ (by omega) ?_
    rw [ar_mul (by rw [hy, w10]; omega) (by rw [hy, w10]; omega), hy, w10]
    omega
set_option maxRecDepth 20000 in
theorem lp_num2 {J : ev_K} {k n N : Nat} {R : List Nat} (hJ : 8 ≤ J.2.2.1) (hN : N < 100000) (hx : x.toInt = (N : Int)) (hub : ¬ (b ≤ u ∧ u < b + 157)) (hL : R.length ≤ 480) (hk : ∀ c, TX G b u S0 R c → fw a c b u → c.2 = a.2 → ev_V G l mL_writeNumber J 44 [] [] c k n) : ∀ (i : Nat) (y : Int32) (c : ev_H) (T : List Nat), y.toInt = ((10 ^ i : Nat) : Int) → i ≤ 4 → T ++ dgs i N = R → TX G b u S0 T c → fw a c b u → c.2 = a.2 → ev_V G l mL_writeNumber J 18 [some (.ref b), some (.ref u), some (.int x), some (.int y)] [] c k n := by
  have w10 : (10 : Int32).toInt = (10 : Nat) := by decide +kernel
  intro i
  induction i with
  | zero =>
    intro y c T hy h4 hR hT hw hz
    generalize hi : (0 : Nat) = i at hy hR
    have hp : 0 < 10 ^ i := Nat.pow_pos (by decide)
    have hdv := ar_td hx hy
    have hrm := ar_rm hdv w10
    have hln : (T ++ dgs i N).length ≤ 480 := by rw [hR]; exact hL
    rw [List.length_append, dgs_len] at hln
    have hch : (48 : Int32) + (x / y - x / y / 10 * 10) = Int32.ofNat (48 + N / 10 ^ i % 10) := by
      have w48 : (48 : Int32).toInt = 48 := by decide +kernel
      have hm := Nat.mod_lt (N / 10 ^ i) (show 0 < 10 by decide)
      refine ar_eq ?_
      rw [ar_add (by rw [w48, hrm]; omega) (by rw [w48, hrm]; omega), w48, hrm, ar_of (by omega)]
      omega
    refine e_iload_n dL_writeNumber_18 rfl rfl ?_
    refine e_if_le (tgt := 44) dL_writeNumber_19 (by decide) (fun q => absurd q (by omega)) (fun _ => ?_)
    refine e_aload_n dL_writeNumber_22 rfl rfl ?_
    refine e_aload_n dL_writeNumber_23 rfl rfl ?_
    refine e_bipush (v := 48) dL_writeNumber_24 (by decide) ?_
    refine e_iload_n dL_writeNumber_26 rfl rfl ?_
    refine e_iload_n dL_writeNumber_27 rfl rfl ?_
    refine e_idiv dL_writeNumber_28 (fun e => by rw [e] at hy; have := ar_0; omega) ?_
    refine e_bipush (v := 10) dL_writeNumber_29 (by decide) ?_
    refine e_irem dL_writeNumber_31 (by decide) ?_
    refine e_iadd dL_writeNumber_32 ?_
    refine e_invS (mcY := 0) (msY := 0) (hT.put hub (c := 48 + N / 10 ^ i % 10) (by have := Nat.mod_lt (N / 10 ^ i) (show 0 < 10 by decide); omega) hch (by omega)) vL_put wM_L_33 dL_writeNumber_33 rfl rfl (Nat.le_of_ble_eq_true rfl) (Nat.le_trans (Nat.le_of_ble_eq_true rfl) hJ) ?_
    intro v c3 hq3
    obtain ⟨rfl, h3, h4, h5⟩ := hq3
    refine e_iload_n dL_writeNumber_36 rfl rfl ?_
    refine e_bipush (v := 10) dL_writeNumber_37 (by decide) ?_
    refine e_idiv dL_writeNumber_39 (by decide) ?_
    refine e_istore_n dL_writeNumber_40 rfl (Nat.le_of_ble_eq_true rfl) ?_
    refine e_goto (tgt := 18) dL_writeNumber_41 (by decide) ?_
    have hd2 := ar_td hy w10
    refine e_iload_n dL_writeNumber_18 rfl rfl ?_
    refine e_if_le (tgt := 44) dL_writeNumber_19 (by decide) (fun _ => ?_) (fun q => absurd q (by rw [hd2, ← hi]; decide))
    subst hi
    rw [Nat.pow_zero, Nat.div_one] at h3
    have hR2 : T ++ [48 + N % 10] = R := hR
    rw [hR2] at h3
    exact ev_lc (hk c3 h3 (hw.tr h4) (h5.trans hz)) trivial
  | succ j ih =>
    intro y c T hy h4i hR hT hw hz
    generalize hi : j + 1 = i at hy hR
    have hp : 0 < 10 ^ i := Nat.pow_pos (by decide)
    have hdv := ar_td hx hy
    have hrm := ar_rm hdv w10
    have hln : (T ++ dgs i N).length ≤ 480 := by rw [hR]; exact hL
    rw [List.length_append, dgs_len] at hln
    have hch : (48 : Int32) + (x / y - x / y / 10 * 10) = Int32.ofNat (48 + N / 10 ^ i % 10) := by
      have w48 : (48 : Int32).toInt = 48 := by decide +kernel
      have hm := Nat.mod_lt (N / 10 ^ i) (show 0 < 10 by decide)
      refine ar_eq ?_
      rw [ar_add (by rw [w48, hrm]; omega) (by rw [w48, hrm]; omega), w48, hrm, ar_of (by omega)]
      omega
    refine e_iload_n dL_writeNumber_18 rfl rfl ?_
    refine e_if_le (tgt := 44) dL_writeNumber_19 (by decide) (fun q => absurd q (by omega)) (fun _ => ?_)
    refine e_aload_n dL_writeNumber_22 rfl rfl ?_
    refine e_aload_n dL_writeNumber_23 rfl rfl ?_
    refine e_bipush (v := 48) dL_writeNumber_24 (by decide) ?_
    refine e_iload_n dL_writeNumber_26 rfl rfl ?_
    refine e_iload_n dL_writeNumber_27 rfl rfl ?_
    refine e_idiv dL_writeNumber_28 (fun e => by rw [e] at hy; have := ar_0; omega) ?_
    refine e_bipush (v := 10) dL_writeNumber_29 (by decide) ?_
    refine e_irem dL_writeNumber_31 (by decide) ?_
    refine e_iadd dL_writeNumber_32 ?_
    refine e_invS (mcY := 0) (msY := 0) (hT.put hub (c := 48 + N / 10 ^ i % 10) (by have := Nat.mod_lt (N / 10 ^ i) (show 0 < 10 by decide); omega) hch (by omega)) vL_put wM_L_33 dL_writeNumber_33 rfl rfl (Nat.le_of_ble_eq_true rfl) (Nat.le_trans (Nat.le_of_ble_eq_true rfl) hJ) ?_
    intro v c3 hq3
    obtain ⟨rfl, h3, h4, h5⟩ := hq3
    refine e_iload_n dL_writeNumber_36 rfl rfl ?_
    refine e_bipush (v := 10) dL_writeNumber_37 (by decide) ?_
    refine e_idiv dL_writeNumber_39 (by decide) ?_
    refine e_istore_n dL_writeNumber_40 rfl (Nat.le_of_ble_eq_true rfl) ?_
    refine e_goto (tgt := 18) dL_writeNumber_41 (by decide) ?_
    have hd2 := ar_td hy w10
    subst hi
    refine ih _ c3 _ (by rw [hd2, Nat.pow_succ, Nat.mul_div_cancel _ (by decide)]) (by omega) ?_ h3 (hw.tr h4) (h5.trans hz)
    rw [List.append_assoc]
    exact hR
set_option maxRecDepth 20000 in
theorem ct_L_writeNumber {N : Nat} (h : TX G b u S0 T a) (hN : N < 100000) (hx : x.toInt = (N : Int)) (hub : ¬ (b ≤ u ∧ u < b + 157)) (hL : T.length + (dgN N).length ≤ 480) : ev_Ct G l mL_writeNumber 8 0 0 [.ref b, .ref u, .int x] a (fun v c => v = none ∧ TX G b u S0 (T ++ dgN N) c ∧ fw a c b u ∧ c.2 = a.2) (fun _ _ => False) := by
  refine ev_Ct.of (by decide +kernel) (Nat.le_of_ble_eq_true rfl) ?_
  refine e_iconst (v := 1) dL_writeNumber_0 (by decide) ?_
  refine e_istore_n dL_writeNumber_1 rfl (Nat.le_of_ble_eq_true rfl) ?_
  refine lp_num1 hN hx (fun y hy => ?_) _ 0 1 (Nat.add_zero _) (by rw [ar_1]; rfl)
  refine lp_num2 (a := a) (R := T ++ dgN N) (Nat.le_of_ble_eq_true rfl) hN hx hub (by rw [List.length_append]; exact hL) (fun c q1 q2 q3 => ?_) _ y a T hy (kdg_4 N) rfl h (fw.rf a b u) rfl
  exact e_vret rfl dL_writeNumber_44 ⟨rfl, q1, q2, q3⟩
def nmW (x : Int32) : List Nat := (if x.toInt < 0 then [32, 45] else [32]) ++ dgN x.toInt.natAbs
def nmsW (f : Nat → Int32) : Nat → List Nat
  | 0 => []
  | i + 1 => nmsW f i ++ nmW (f i)
theorem nmW_len (x : Int32) : (nmW x).length ≤ 7 := by
  have := (dgN_len x.toInt.natAbs).1
  unfold nmW
  rw [List.length_append]
  split <;> simp only [List.length_cons, List.length_nil] <;> omega
theorem nmsW_len (f : Nat → Int32) : ∀ i j, (nmsW f i).length ≤ (nmsW f (i + j)).length
  | i, 0 => Nat.le_refl _
  | i, j + 1 => by
    have := nmsW_len f i j
    show _ ≤ (nmsW f (i + j) ++ nmW (f (i + j))).length
    rw [List.length_append]; omega
theorem mabs_nat {x : Int32} (h1 : -100000 < x.toInt) (h2 : x.toInt < 100000) : (if 0 ≤ x then x else 0 - x).toInt = (x.toInt.natAbs : Int) := by
  have w0 := ar_0
  by_cases c : 0 ≤ x
  · rw [if_pos c]
    have := Int32.le_iff_toInt_le.mp c
    exact (Int.natAbs_of_nonneg (by omega)).symm
  · rw [if_neg c]
    have : ¬ (0 : Int32).toInt ≤ x.toInt := fun q => c (Int32.le_iff_toInt_le.mpr q)
    rw [ar_sub (by omega) (by omega), w0, Int.zero_sub]
    exact (Int.ofNat_natAbs_of_nonpos (by omega)).symm
set_option maxRecDepth 20000 in
theorem lp_all {J : ev_K} {k n : Nat} {f : Nat → Int32} {y : Int32} (hJ : 9 ≤ J.2.2.1) (hw : a.1 w = some (.inl (G.2.1 0, L, .inl f))) (hwb : ¬ (b ≤ w ∧ w < b + 157)) (hwu : w ≠ u) (hL3 : L ≤ 3) (hy : y.toInt = (L : Int)) (hf : ∀ i, i < L → -100000 < (f i).toInt ∧ (f i).toInt < 100000) (hub : ¬ (b ≤ u ∧ u < b + 157)) (hL : (T ++ nmsW f L).length ≤ 480) (hk : ∀ c, TX G b u S0 (T ++ nmsW f L) c → fw a c b u → c.2 = a.2 → ev_V G l mL_writeAll J 64 [] [] c k n) : ∀ (r i : Nat) (x : Int32) (c : ev_H) (ls : List (Option Value)), r + i = L → x.toInt = (i : Int) → TX G b u S0 (T ++ nmsW f i) c → fw a c b u → c.2 = a.2 → ev_V G l mL_writeAll J 17 [some (.ref b), some (.ref u), none, none, some (.ref w), some (.int y), some (.int x)] [] c k n := by
  intro r
  induction r with
  | zero =>
    intro i x c ls hr hx hT hc hz
    refine e_iload dL_writeAll_17 rfl ?_
    refine e_iload dL_writeAll_19 rfl ?_
    refine e_icmp_ge (tgt := 64) dL_writeAll_21 (by decide) (fun _ => ?_) (fun q => absurd q (by omega))
    have e : i = L := by omega
    rw [e] at hT
    exact ev_lc (hk c hT hc hz) trivial
  | succ r ih =>
    intro i x c ls hr hx hT hc hz
    have hn : x.toInt.toNat = i := ar_nat hx
    obtain ⟨g1, g2⟩ := hf i (by omega)
    have hi7 := nmsW_len f (i + 1) (L - (i + 1))
    rw [show i + 1 + (L - (i + 1)) = L by omega] at hi7
    have hi6 : (nmsW f (i + 1)).length = (nmsW f i).length + (nmW (f i)).length := by show (nmsW f i ++ nmW (f i)).length = _; rw [List.length_append]
    rw [List.length_append] at hL
    refine e_iload dL_writeAll_17 rfl ?_
    refine e_iload dL_writeAll_19 rfl ?_
    refine e_icmp_ge (tgt := 64) dL_writeAll_21 (by decide) (fun q => absurd q (by omega)) (fun _ => ?_)
    refine e_aload dL_writeAll_24 rfl ?_
    refine e_iload dL_writeAll_26 rfl ?_
    refine e_iald (hc w _ hw hwb hwu) (by omega) (by omega) dL_writeAll_28 ?_
    rw [hn]
    refine e_istore dL_writeAll_29 (Nat.le_of_ble_eq_true rfl) ?_
    refine e_aload_n dL_writeAll_31 rfl rfl ?_
    refine e_aload_n dL_writeAll_32 rfl rfl ?_
    refine e_iload dL_writeAll_33 rfl ?_
    have fin : ∀ (c1 : ev_H) (R : List Nat), TX G b u S0 (T ++ nmsW f i ++ R) c1 → fw a c1 b u → c1.2 = a.2 → R ++ dgN (f i).toInt.natAbs = nmW (f i) → ev_V G l mL_writeAll J 48 [some (.ref b), some (.ref u), none, none, some (.ref w), some (.int y), some (.int x), some (.int (f i))] [] c1 k n := by
      intro c1 R t1 t2 t3 t4
      refine e_aload_n dL_writeAll_48 rfl rfl ?_
      refine e_aload_n dL_writeAll_49 rfl rfl ?_
      refine e_iload dL_writeAll_50 rfl ?_
      refine e_mabs wM_L_125 (Nat.le_of_ble_eq_true rfl) (Nat.le_trans (Nat.le_of_ble_eq_true rfl) hJ) dL_writeAll_52 ?_
      refine e_invS (mcY := 0) (msY := 0) (ct_L_writeNumber t1 (N := (f i).toInt.natAbs) (by omega) (mabs_nat g1 g2) hub (by have := congrArg List.length t4; rw [List.length_append] at this; rw [List.length_append, List.length_append]; omega)) vL_writeNumber wM_L_128 dL_writeAll_55 rfl rfl (Nat.le_of_ble_eq_true rfl) (Nat.le_trans (Nat.le_of_ble_eq_true rfl) hJ) ?_
      intro v c3 hq3
      obtain ⟨rfl, h3, h4, h5⟩ := hq3
      rw [List.append_assoc, List.append_assoc, t4] at h3
      refine e_iinc dL_writeAll_58 rfl rfl (Nat.le_of_ble_eq_true rfl) ?_
      refine e_goto (tgt := 17) dL_writeAll_61 (by decide) ?_
      exact ev_lc (ih (i + 1) _ c3 [] (by omega) (ar_inc hx (by omega)) h3 (t2.tr h4) (h5.trans t3)) ⟨rfl, rfl, rfl, rfl, rfl, trivial⟩
    refine e_if_ge (tgt := 43) dL_writeAll_35 (by decide) (fun q => ?_) (fun q => ?_)
    · refine e_ldcS (j := 21) (tx := " ") dL_writeAll_43 (by decide +kernel) ?_
      refine e_invS (mcY := 0) (msY := 0) (ct_L_write hT (j := 21) (by decide) hub (by rw [List.length_append]; have := (dgN_len (f i).toInt.natAbs).2; unfold nmW at hi6; rw [if_neg (by omega), List.length_append] at hi6; simp only [List.length_cons, List.length_nil] at hi6; show _ + 1 ≤ _; omega)) vL_write wM_L_117 dL_writeAll_45 rfl rfl (Nat.le_of_ble_eq_true rfl) (Nat.le_trans (Nat.le_of_ble_eq_true rfl) hJ) ?_
      intro v c1 hq1
      obtain ⟨rfl, h1, h2, h3⟩ := hq1
      exact fin c1 _ h1 (hc.tr h2) (h3.trans hz) (by unfold nmW; rw [if_neg (by omega)]; rfl)
    · refine e_ldcS (j := 20) (tx := " -") dL_writeAll_38 (by decide +kernel) ?_
      refine e_goto (tgt := 45) dL_writeAll_40 (by decide) ?_
      refine e_invS (mcY := 0) (msY := 0) (ct_L_write hT (j := 20) (by decide) hub (by rw [List.length_append]; have := (dgN_len (f i).toInt.natAbs).2; unfold nmW at hi6; rw [if_pos q, List.length_append] at hi6; simp only [List.length_cons, List.length_nil] at hi6; show _ + 2 ≤ _; omega)) vL_write wM_L_117 dL_writeAll_45 rfl rfl (Nat.le_of_ble_eq_true rfl) (Nat.le_trans (Nat.le_of_ble_eq_true rfl) hJ) ?_
      intro v c1 hq1
      obtain ⟨rfl, h1, h2, h3⟩ := hq1
      exact fin c1 _ h1 (hc.tr h2) (h3.trans hz) (by unfold nmW; rw [if_pos q]; rfl)
set_option maxRecDepth 20000 in
theorem ct_L_writeAll {j : Nat} {f : Nat → Int32} (h : TX G b u S0 T a) (hj : j < 26) (hw : a.1 w = some (.inl (G.2.1 0, L, .inl f))) (hwb : ¬ (b ≤ w ∧ w < b + 157)) (hwu : w ≠ u) (hL3 : L ≤ 3) (hf : ∀ i, i < L → -100000 < (f i).toInt ∧ (f i).toInt < 100000) (hub : ¬ (b ≤ u ∧ u < b + 157)) (hL : (T ++ txtN j ++ nmsW f L).length ≤ 480) : ev_Ct G l mL_writeAll 9 0 0 [.ref b, .ref u, .ref (ev_Ks G j), .ref w] a (fun v c => v = none ∧ TX G b u S0 (T ++ txtN j ++ nmsW f L) c ∧ fw a c b u ∧ c.2 = a.2) (fun _ _ => False) := by
  refine ev_Ct.of (by decide +kernel) (Nat.le_of_ble_eq_true rfl) ?_
  have hL2 := hL
  rw [List.length_append, List.length_append, txtN_len j hj] at hL2
  refine e_aload_n dL_writeAll_0 rfl rfl ?_
  refine e_aload_n dL_writeAll_1 rfl rfl ?_
  refine e_aload_n dL_writeAll_2 rfl rfl ?_
  refine e_invS (mcY := 0) (msY := 0) (ct_L_write h hj hub (by omega)) vL_write wM_L_117 dL_writeAll_3 rfl rfl (Nat.le_of_ble_eq_true rfl) (Nat.le_of_ble_eq_true rfl) ?_
  intro v c1 hq1
  obtain ⟨rfl, h1, h2, h3⟩ := hq1
  refine e_aload_n dL_writeAll_6 rfl rfl ?_
  refine e_astore dL_writeAll_7 (Nat.le_of_ble_eq_true rfl) ?_
  refine e_aload dL_writeAll_9 rfl ?_
  refine e_alen (t0 := 0) (h2 w _ hw hwb hwu) rfl rfl dL_writeAll_11 ?_
  refine e_istore dL_writeAll_12 (Nat.le_of_ble_eq_true rfl) ?_
  refine e_iconst (v := 0) dL_writeAll_14 (by decide) ?_
  refine e_istore dL_writeAll_15 (Nat.le_of_ble_eq_true rfl) ?_
  refine ev_lc (lp_all (a := c1) (L := L) (Nat.le_of_ble_eq_true rfl) (h2 w _ hw hwb hwu) hwb hwu hL3 (ar_of (by omega)) hf hub hL (fun c q1 q2 q3 => ?_) _ 0 0 c1 [] rfl ar_0 (by show TX G b u S0 (T ++ txtN j ++ []) c1; rw [List.append_nil]; exact h1) (fw.rf c1 b u) rfl) ⟨rfl, rfl, rfl, rfl, rfl, trivial⟩
  exact e_vret rfl dL_writeAll_64 ⟨rfl, q1, h2.tr q2, q3.trans h3⟩
end LWN
