/-! the law's constructors and copies -/
theorem e_wide {G : ev_G} {l : Launch} {M : ev_M} {J : ev_K} {pc k n k0 n0 : Nat} {L : List (Option Value)} {st : List Value} {a : ev_H} (hk : k0 ≤ k) (hn : n0 ≤ n) (h : ev_V G l M J pc L st a k0 n0) : ev_V G l M J pc L st a k n :=
  fun p e R s d0 m args below meth c C hD H locs cells slots ls hR hS hc hs hl => h p e R s d0 m args below meth c C hD H locs cells slots ls hR hS (by omega) (by omega) hl
theorem new_put (a : ev_H) (z : Nat) (e e' : va_E) : ev_put (ev_new a z e) z e' = ev_new a z e' := by
  refine Prod.ext (funext fun q => ?_) rfl
  show (if q = z then some e' else (if q = z then some e else a.1 q)) = (if q = z then some e' else a.1 q)
  by_cases c : q = z
  · rw [if_pos c, if_pos c]
  · rw [if_neg c, if_neg c, if_neg c]
theorem put_put (a : ev_H) (z : Nat) (e e' : va_E) : ev_put (ev_put a z e) z e' = ev_put a z e' := by
  refine Prod.ext (funext fun q => ?_) rfl
  show (if q = z then some e' else (if q = z then some e else a.1 q)) = (if q = z then some e' else a.1 q)
  by_cases c : q = z
  · rw [if_pos c, if_pos c]
  · rw [if_neg c, if_neg c, if_neg c]
section LK
variable {G : ev_G} {l : Launch} {a h : ev_H} {q z : Nat}
set_option maxRecDepth 20000 in
theorem ct_X8_init (hq : a.1 q = some (.inr (8, [.int 0, .long 0, .long 0]))) : ev_Ct G l mX8_init 1 0 0 [.ref q] a (fun v b => v = none ∧ b = ev_put a q (.inr (8, [.int 10, .long 0, .long 0]))) (fun _ _ => False) := by
  refine ev_Ct.of (by decide +kernel) (Nat.le_of_ble_eq_true rfl) ?_
  refine e_aload_n dX8_init_0 rfl rfl ?_
  refine e_objInit wM_X8_1 wI_Object_init wC_Object_init (by decide) (Nat.le_of_ble_eq_true rfl) dX8_init_1 ?_
  refine e_aload_n dX8_init_4 rfl rfl ?_
  refine e_bipush (v := 10) dX8_init_5 (by decide) ?_
  refine e_putf (Cn := RX8) (T := TX8) (N := 3) (ci := 8) 0 tyX8 tyX8_ok nmX8 inX8 rfl hq (by decide) wF_X8_7 (Or.inl rfl) (tyX8_ok 0 (by decide)) rfl rfl (Nat.le_of_ble_eq_true rfl) dX8_init_7 ?_
  exact e_vret rfl dX8_init_10 ⟨rfl, rfl⟩
set_option maxRecDepth 20000 in
theorem ct_X10_init (hq : a.1 q = some (.inr (10, [.int 0, .int 0, .int 0]))) : ev_Ct G l mX10_init 1 0 0 [.ref q] a (fun v b => v = none ∧ b = ev_put a q (.inr (10, [.int 100, .int 0, .int 0]))) (fun _ _ => False) := by
  refine ev_Ct.of (by decide +kernel) (Nat.le_of_ble_eq_true rfl) ?_
  refine e_aload_n dX10_init_0 rfl rfl ?_
  refine e_objInit wM_X10_1 wI_Object_init wC_Object_init (by decide) (Nat.le_of_ble_eq_true rfl) dX10_init_1 ?_
  refine e_aload_n dX10_init_4 rfl rfl ?_
  refine e_bipush (v := 100) dX10_init_5 (by decide) ?_
  refine e_putf (Cn := RX10) (T := TX10) (N := 3) (ci := 10) 0 tyX10 tyX10_ok nmX10 inX10 rfl hq (by decide) wF_X10_7 (Or.inl rfl) (tyX10_ok 0 (by decide)) rfl rfl (Nat.le_of_ble_eq_true rfl) dX10_init_7 ?_
  exact e_vret rfl dX10_init_10 ⟨rfl, rfl⟩
theorem ct_X9_init {x : Int32} (hq : a.1 q = some (.inr (9, [.int 0]))) : ev_Ct G l mX9_init 1 0 0 [.ref q, .int x] a (fun v b => v = none ∧ b = ev_put a q (.inr (9, [.int x]))) (fun _ _ => False) := by
  refine ev_Ct.of (by decide +kernel) (Nat.le_of_ble_eq_true rfl) ?_
  refine e_aload_n dX9_init_0 rfl rfl ?_
  refine e_objInit wM_X9_1 wI_Object_init wC_Object_init (by decide) (Nat.le_of_ble_eq_true rfl) dX9_init_1 ?_
  refine e_aload_n dX9_init_4 rfl rfl ?_
  refine e_iload_n dX9_init_5 rfl rfl ?_
  refine e_putf (Cn := RX9) (T := TX9) (N := 1) (ci := 9) 0 tyX9 tyX9_ok nmX9 inX9 rfl hq (by decide) wF_X9_7 (Or.inl rfl) (tyX9_ok 0 (by decide)) rfl rfl (Nat.le_of_ble_eq_true rfl) dX9_init_6 ?_
  exact e_vret rfl dX9_init_9 ⟨rfl, rfl⟩
theorem ar_sh16 (x : Int32) : 0 ≤ (x.toUInt32 >>> ((16 : Int32).toUInt32 &&& Int32.toUInt32 31)).toInt32.toInt ∧ (x.toUInt32 >>> ((16 : Int32).toUInt32 &&& Int32.toUInt32 31)).toInt32.toInt ≤ 65535 := by
  have e : ((16 : Int32).toUInt32 &&& Int32.toUInt32 31) = 16 := by decide +kernel
  rw [e]
  have h1 : (x.toUInt32 >>> 16).toNat ≤ 65535 := by
    have : (x.toUInt32 >>> 16).toNat = x.toUInt32.toNat >>> 16 := by rw [UInt32.toNat_shiftRight]; rfl
    rw [this, Nat.shiftRight_eq_div_pow]
    have := x.toUInt32.toNat_lt
    omega
  have h2 : (x.toUInt32 >>> 16).toInt32.toInt = ((x.toUInt32 >>> 16).toNat : Int) := by
    show (x.toUInt32 >>> 16).toBitVec.toInt = _
    rw [BitVec.toInt_eq_toNat_bmod]
    exact ar_bm (by show -2147483648 ≤ ((x.toUInt32 >>> 16).toNat : Int); omega) (by show ((x.toUInt32 >>> 16).toNat : Int) < 2147483648; omega)
  rw [h2]
  omega
theorem ar_rem {x y : Int32} (hx : 0 ≤ x.toInt) (hy : 0 < y.toInt) : 0 ≤ (x - x / y * y).toInt ∧ (x - x / y * y).toInt < y.toInt := by
  have r1 := ar_r x
  have r2 := ar_r y
  have d1 : (x / y).toInt = x.toInt.tdiv y.toInt := ar_div (by omega)
  have d2 : x.toInt.tdiv y.toInt = x.toInt / y.toInt := Int.tdiv_eq_ediv_of_nonneg hx
  have m0 := Int.ediv_mul_le x.toInt (show y.toInt ≠ 0 by omega)
  have m1 := Int.lt_ediv_add_one_mul_self x.toInt hy
  have m2 := Int.ediv_nonneg hx (Int.le_of_lt hy)
  rw [Int.add_mul, Int.one_mul] at m1
  have m3 : 0 ≤ x.toInt / y.toInt * y.toInt := Int.mul_nonneg m2 (Int.le_of_lt hy)
  have e1 : (x / y * y).toInt = x.toInt / y.toInt * y.toInt := by rw [ar_mul (by rw [d1, d2]; omega) (by rw [d1, d2]; omega), d1, d2]
  rw [ar_sub (by rw [e1]; omega) (by rw [e1]; omega), e1]
  omega
theorem ct_X9_below {x s : Int32} (hq : a.1 q = some (.inr (9, [.int s]))) (hx : 0 < x.toInt) : ev_Ct G l mX9_below 0 0 0 [.ref q, .int x] a (fun v b => ∃ r t : Int32, v = some (.int r) ∧ (0 ≤ r.toInt ∧ r.toInt < x.toInt) ∧ b = ev_put a q (.inr (9, [.int t]))) (fun _ _ => False) := by
  refine ev_Ct.of (by decide +kernel) (Nat.le_of_ble_eq_true rfl) ?_
  refine e_aload_n dX9_below_0 rfl rfl ?_
  refine e_ldc dX9_below_1 wK_X9_13 ?_
  refine e_aload_n dX9_below_3 rfl rfl ?_
  refine e_getf (C := RX9) (T := TX9) (N := 1) (ci := 9) 0 inX9 rfl hq (by decide) wF_X9_7 rfl dX9_below_4 ?_
  refine e_imul dX9_below_7 ?_
  refine e_sipush (v := 12345) dX9_below_8 (by decide) ?_
  refine e_iadd dX9_below_11 ?_
  refine e_putf (Cn := RX9) (T := TX9) (N := 1) (ci := 9) 0 tyX9 tyX9_ok nmX9 inX9 rfl hq (by decide) wF_X9_7 (Or.inl rfl) (tyX9_ok 0 (by decide)) rfl rfl (Nat.le_of_ble_eq_true rfl) dX9_below_12 ?_
  refine e_aload_n dX9_below_15 rfl rfl ?_
  refine e_getf (C := RX9) (T := TX9) (N := 1) (ci := 9) 0 inX9 rfl (put_eq _ _ _) (by decide) wF_X9_7 rfl dX9_below_16 ?_
  refine e_bipush (v := 16) dX9_below_19 (by decide) ?_
  refine e_iushr dX9_below_21 ?_
  refine e_iload_n dX9_below_22 rfl rfl ?_
  refine e_irem dX9_below_23 (fun c => by rw [c] at hx; exact absurd hx (by decide)) ?_
  exact e_iret rfl dX9_below_24 ⟨_, _, rfl, ar_rem (ar_sh16 _).1 hx, rfl⟩
set_option maxRecDepth 20000 in
theorem ct_X8_copy {w : Int32} {p v : Int64} (hz : a.2 = some z) (hq : a.1 q = some (.inr (8, [.int w, .long p, .long v]))) : ev_Ct G l mX8_copy 2 1 3 [.ref q] a (fun x b => x = some (.ref z) ∧ b = ev_new a z (.inr (8, [.int w, .long p, .long v]))) (fun _ _ => False) := by
  refine ev_Ct.of (by decide +kernel) (Nat.le_of_ble_eq_true rfl) ?_
  refine e_top hz fun ht => ?_
  have hlt : q < z := ht q _ hq
  refine e_new (C := RX8) (T := TX8) (N := 3) (ci := 8) tyX8 tyX8_ok inX8 rfl wL_X8_8 wX_X8 wN_X8 dv8_ok hz dX8_copy_0 ?_
  refine e_dup dX8_copy_3 rfl ?_
  refine e_invI (mcY := 0) (msY := 0) (ct_X8_init (new_eq _ _ _)) vX8_init wM_X8_13 dX8_copy_4 rfl rfl (Nat.le_of_ble_eq_true rfl) (Nat.le_of_ble_eq_true rfl) ?_
  rintro _ _ ⟨rfl, rfl⟩
  rw [new_put]
  refine e_astore_n dX8_copy_7 rfl (Nat.le_of_ble_eq_true rfl) ?_
  refine e_aload_n dX8_copy_8 rfl rfl ?_
  refine e_aload_n dX8_copy_9 rfl rfl ?_
  refine e_getf (C := RX8) (T := TX8) (N := 3) (ci := 8) 0 inX8 rfl ((new_ne _ _ (by omega)).trans hq) (by decide) wF_X8_7 rfl dX8_copy_10 ?_
  refine e_putf (Cn := RX8) (T := TX8) (N := 3) (ci := 8) 0 tyX8 tyX8_ok nmX8 inX8 rfl (new_eq _ _ _) (by decide) wF_X8_7 (Or.inl rfl) (tyX8_ok 0 (by decide)) rfl rfl (Nat.le_of_ble_eq_true rfl) dX8_copy_13 ?_
  rw [new_put]
  refine e_aload_n dX8_copy_16 rfl rfl ?_
  refine e_aload_n dX8_copy_17 rfl rfl ?_
  refine e_getf (C := RX8) (T := TX8) (N := 3) (ci := 8) 1 inX8 rfl ((new_ne _ _ (by omega)).trans hq) (by decide) wF_X8_14 rfl dX8_copy_18 ?_
  refine e_putf (Cn := RX8) (T := TX8) (N := 3) (ci := 8) 1 tyX8 tyX8_ok nmX8 inX8 rfl (new_eq _ _ _) (by decide) wF_X8_14 (Or.inl rfl) (tyX8_ok 1 (by decide)) rfl rfl (Nat.le_of_ble_eq_true rfl) dX8_copy_21 ?_
  rw [new_put]
  refine e_aload_n dX8_copy_24 rfl rfl ?_
  refine e_aload_n dX8_copy_25 rfl rfl ?_
  refine e_getf (C := RX8) (T := TX8) (N := 3) (ci := 8) 2 inX8 rfl ((new_ne _ _ (by omega)).trans hq) (by decide) wF_X8_18 rfl dX8_copy_26 ?_
  refine e_putf (Cn := RX8) (T := TX8) (N := 3) (ci := 8) 2 tyX8 tyX8_ok nmX8 inX8 rfl (new_eq _ _ _) (by decide) wF_X8_18 (Or.inl rfl) (tyX8_ok 2 (by decide)) rfl rfl (Nat.le_of_ble_eq_true rfl) dX8_copy_29 ?_
  rw [new_put]
  refine e_aload_n dX8_copy_32 rfl rfl ?_
  exact e_aret rfl (Or.inl ⟨_, rfl⟩) (Or.inr ⟨_, rfl⟩) dX8_copy_33 ⟨rfl, rfl⟩
set_option maxRecDepth 20000 in
theorem ct_X10_copy {w p v : Int32} (hz : a.2 = some z) (hq : a.1 q = some (.inr (10, [.int w, .int p, .int v]))) (hb : narrow .boolean (.int v) = .int v) (hb2 : fits .boolean (.int v) = true) : ev_Ct G l mX10_copy 2 1 3 [.ref q] a (fun x b => x = some (.ref z) ∧ b = ev_new a z (.inr (10, [.int w, .int p, .int v]))) (fun _ _ => False) := by
  refine ev_Ct.of (by decide +kernel) (Nat.le_of_ble_eq_true rfl) ?_
  refine e_top hz fun ht => ?_
  have hlt : q < z := ht q _ hq
  refine e_new (C := RX10) (T := TX10) (N := 3) (ci := 10) tyX10 tyX10_ok inX10 rfl wL_X10_8 wX_X10 wN_X10 dv10_ok hz dX10_copy_0 ?_
  refine e_dup dX10_copy_3 rfl ?_
  refine e_invI (mcY := 0) (msY := 0) (ct_X10_init (new_eq _ _ _)) vX10_init wM_X10_13 dX10_copy_4 rfl rfl (Nat.le_of_ble_eq_true rfl) (Nat.le_of_ble_eq_true rfl) ?_
  rintro _ _ ⟨rfl, rfl⟩
  rw [new_put]
  refine e_astore_n dX10_copy_7 rfl (Nat.le_of_ble_eq_true rfl) ?_
  refine e_aload_n dX10_copy_8 rfl rfl ?_
  refine e_aload_n dX10_copy_9 rfl rfl ?_
  refine e_getf (C := RX10) (T := TX10) (N := 3) (ci := 10) 0 inX10 rfl ((new_ne _ _ (by omega)).trans hq) (by decide) wF_X10_7 rfl dX10_copy_10 ?_
  refine e_putf (Cn := RX10) (T := TX10) (N := 3) (ci := 10) 0 tyX10 tyX10_ok nmX10 inX10 rfl (new_eq _ _ _) (by decide) wF_X10_7 (Or.inl rfl) (tyX10_ok 0 (by decide)) rfl rfl (Nat.le_of_ble_eq_true rfl) dX10_copy_13 ?_
  rw [new_put]
  refine e_aload_n dX10_copy_16 rfl rfl ?_
  refine e_aload_n dX10_copy_17 rfl rfl ?_
  refine e_getf (C := RX10) (T := TX10) (N := 3) (ci := 10) 1 inX10 rfl ((new_ne _ _ (by omega)).trans hq) (by decide) wF_X10_14 rfl dX10_copy_18 ?_
  refine e_putf (Cn := RX10) (T := TX10) (N := 3) (ci := 10) 1 tyX10 tyX10_ok nmX10 inX10 rfl (new_eq _ _ _) (by decide) wF_X10_14 (Or.inl rfl) (tyX10_ok 1 (by decide)) rfl rfl (Nat.le_of_ble_eq_true rfl) dX10_copy_21 ?_
  rw [new_put]
  refine e_aload_n dX10_copy_24 rfl rfl ?_
  refine e_aload_n dX10_copy_25 rfl rfl ?_
  refine e_getf (C := RX10) (T := TX10) (N := 3) (ci := 10) 2 inX10 rfl ((new_ne _ _ (by omega)).trans hq) (by decide) wF_X10_17 rfl dX10_copy_26 ?_
  refine e_putf (Cn := RX10) (T := TX10) (N := 3) (ci := 10) 2 tyX10 tyX10_ok nmX10 inX10 rfl (new_eq _ _ _) (by decide) wF_X10_17 (Or.inl rfl) (tyX10_ok 2 (by decide)) hb hb2 (Nat.le_of_ble_eq_true rfl) dX10_copy_29 ?_
  rw [new_put]
  refine e_aload_n dX10_copy_32 rfl rfl ?_
  exact e_aret rfl (Or.inl ⟨_, rfl⟩) (Or.inr ⟨_, rfl⟩) dX10_copy_33 ⟨rfl, rfl⟩
set_option maxRecDepth 20000 in
def cl_X7 (G : ev_G) (c : Nat) : List va_E := [.inr (7, [.int 0, .int 0, .int 0, .int 0, .ref (c + 1), .ref (c + 3), .ref (c + 6), .ref (c + 7), .ref (c + 8)]), .inl (G.2.1 7, 1, .inr (.inr (.inr (.inr (ev_u (fun _ => none) (0 : Int32).toInt.toNat (some (c + 2))))))), .inr (8, [.int 10, .long 0, .long 0]), .inl (G.2.1 8, 2, .inr (.inr (.inr (.inr (ev_u (ev_u (fun _ => none) (0 : Int32).toInt.toNat (some (c + 4))) (1 : Int32).toInt.toNat (some (c + 5))))))), .inr (10, [.int 100, .int 0, .int 0]), .inr (10, [.int 100, .int 0, .int 0]), .inl (G.2.1 5, 0, .inr (.inr (.inr (.inr (fun _ => none))))), .inl (G.2.1 5, 0, .inr (.inr (.inr (.inr (fun _ => none))))), .inl (G.2.1 1, 6, .inr (.inl (fun _ => 0)))]
set_option maxRecDepth 20000 in
theorem ct_X7_init {c : Nat} : ev_Ct G l mX7_init 2 8 18 [.ref c] (pk c [.inr (7, dv7)] h) (fun v b => v = none ∧ b = pk c (cl_X7 G c) h) (fun _ _ => False) := by
  refine ev_Ct.of (by decide +kernel) (Nat.le_of_ble_eq_true rfl) ?_
  refine e_aload_n dX7_init_0 rfl rfl ?_
  refine e_objInit wM_X7_1 wI_Object_init wC_Object_init (by decide) (Nat.le_of_ble_eq_true rfl) dX7_init_1 ?_
  refine e_aload_n dX7_init_4 rfl rfl ?_
  refine e_iconst (v := 1) dX7_init_5 (by decide) ?_
  refine e_anewO8 (N := 1) wL_X7_7 (by decide +kernel) (by decide) rfl dX7_init_6 ?_
  refine ev_as (pk_new c [.inr (7, dv7)] h (.inl (G.2.1 7, 1, .inr (.inr (.inr (.inr (fun _ => none)))))) rfl) ?_
  refine ev_as (show _ = pk c [.inr (7, dv7), .inl (G.2.1 7, 1, .inr (.inr (.inr (.inr (fun _ => none)))))] h from rfl) ?_
  refine e_dup dX7_init_9 rfl ?_
  refine e_iconst (v := 0) dX7_init_10 (by decide) ?_
  refine pk_o8 wL_X7_7 dX7_init_11 ?_
  refine ev_as (show _ = pk c [.inr (7, dv7), .inl (G.2.1 7, 1, .inr (.inr (.inr (.inr (fun _ => none))))), .inr (8, dv8)] h from rfl) ?_
  refine e_dup dX7_init_14 rfl ?_
  refine e_invO (host := "SpringChainLaw") (mcY := 0) (msY := 0) (ct_X8_init (q := c + 2) (pk_at (j := 2) rfl)) vX8_init (ev_nw_ok 346 (by decide +kernel) rfl) dX7_init_15 rfl rfl (Nat.le_of_ble_eq_true rfl) (Nat.le_of_ble_eq_true rfl) ?_
  rintro _ _ ⟨rfl, rfl⟩
  refine ev_as (pk_put c [.inr (7, dv7), .inl (G.2.1 7, 1, .inr (.inr (.inr (.inr (fun _ => none))))), .inr (8, dv8)] h (.inr (8, [.int 10, .long 0, .long 0])) (j := 2) (show 2 < 3 by decide)) ?_
  refine ev_as (show _ = pk c [.inr (7, dv7), .inl (G.2.1 7, 1, .inr (.inr (.inr (.inr (fun _ => none))))), .inr (8, [.int 10, .long 0, .long 0])] h from rfl) ?_
  refine e_aastO (q := c + 1) (v := c + 2) (N := 1) (t0 := 7) (ci := 8) (pk_at (j := 1) rfl) rfl rfl (pk_at (j := 2) rfl) (by decide) (by decide) dX7_init_18 ?_
  refine ev_as (pk_put c [.inr (7, dv7), .inl (G.2.1 7, 1, .inr (.inr (.inr (.inr (fun _ => none))))), .inr (8, [.int 10, .long 0, .long 0])] h (.inl (G.2.1 7, 1, .inr (.inr (.inr (.inr (ev_u (fun _ => none) (0 : Int32).toInt.toNat (some (c + 2)))))))) (j := 1) (show 1 < 3 by decide)) ?_
  refine ev_as (show _ = pk c [.inr (7, dv7), .inl (G.2.1 7, 1, .inr (.inr (.inr (.inr (ev_u (fun _ => none) (0 : Int32).toInt.toNat (some (c + 2))))))), .inr (8, [.int 10, .long 0, .long 0])] h from rfl) ?_
  refine pk_p7_4 (j := 0) rfl rfl wF_X7_10 dX7_init_19 ?_
  refine ev_as (show _ = pk c [.inr (7, [.int 0, .int 0, .int 0, .int 0, .ref (c + 1), .null, .null, .null, .null]), .inl (G.2.1 7, 1, .inr (.inr (.inr (.inr (ev_u (fun _ => none) (0 : Int32).toInt.toNat (some (c + 2))))))), .inr (8, [.int 10, .long 0, .long 0])] h from rfl) ?_
  refine e_aload_n dX7_init_22 rfl rfl ?_
  refine e_iconst (v := 2) dX7_init_23 (by decide) ?_
  refine e_anewO10 (N := 2) wL_X7_16 (by decide +kernel) (by decide) rfl dX7_init_24 ?_
  refine ev_as (pk_new c [.inr (7, [.int 0, .int 0, .int 0, .int 0, .ref (c + 1), .null, .null, .null, .null]), .inl (G.2.1 7, 1, .inr (.inr (.inr (.inr (ev_u (fun _ => none) (0 : Int32).toInt.toNat (some (c + 2))))))), .inr (8, [.int 10, .long 0, .long 0])] h (.inl (G.2.1 8, 2, .inr (.inr (.inr (.inr (fun _ => none)))))) rfl) ?_
  refine ev_as (show _ = pk c [.inr (7, [.int 0, .int 0, .int 0, .int 0, .ref (c + 1), .null, .null, .null, .null]), .inl (G.2.1 7, 1, .inr (.inr (.inr (.inr (ev_u (fun _ => none) (0 : Int32).toInt.toNat (some (c + 2))))))), .inr (8, [.int 10, .long 0, .long 0]), .inl (G.2.1 8, 2, .inr (.inr (.inr (.inr (fun _ => none)))))] h from rfl) ?_
  refine e_dup dX7_init_27 rfl ?_
  refine e_iconst (v := 0) dX7_init_28 (by decide) ?_
  refine pk_o10 wL_X7_16 dX7_init_29 ?_
  refine ev_as (show _ = pk c [.inr (7, [.int 0, .int 0, .int 0, .int 0, .ref (c + 1), .null, .null, .null, .null]), .inl (G.2.1 7, 1, .inr (.inr (.inr (.inr (ev_u (fun _ => none) (0 : Int32).toInt.toNat (some (c + 2))))))), .inr (8, [.int 10, .long 0, .long 0]), .inl (G.2.1 8, 2, .inr (.inr (.inr (.inr (fun _ => none))))), .inr (10, dv10)] h from rfl) ?_
  refine e_dup dX7_init_32 rfl ?_
  refine e_invO (host := "SpringChainLaw") (mcY := 0) (msY := 0) (ct_X10_init (q := c + 4) (pk_at (j := 4) rfl)) vX10_init (ev_nw_ok 369 (by decide +kernel) rfl) dX7_init_33 rfl rfl (Nat.le_of_ble_eq_true rfl) (Nat.le_of_ble_eq_true rfl) ?_
  rintro _ _ ⟨rfl, rfl⟩
  refine ev_as (pk_put c [.inr (7, [.int 0, .int 0, .int 0, .int 0, .ref (c + 1), .null, .null, .null, .null]), .inl (G.2.1 7, 1, .inr (.inr (.inr (.inr (ev_u (fun _ => none) (0 : Int32).toInt.toNat (some (c + 2))))))), .inr (8, [.int 10, .long 0, .long 0]), .inl (G.2.1 8, 2, .inr (.inr (.inr (.inr (fun _ => none))))), .inr (10, dv10)] h (.inr (10, [.int 100, .int 0, .int 0])) (j := 4) (show 4 < 5 by decide)) ?_
  refine ev_as (show _ = pk c [.inr (7, [.int 0, .int 0, .int 0, .int 0, .ref (c + 1), .null, .null, .null, .null]), .inl (G.2.1 7, 1, .inr (.inr (.inr (.inr (ev_u (fun _ => none) (0 : Int32).toInt.toNat (some (c + 2))))))), .inr (8, [.int 10, .long 0, .long 0]), .inl (G.2.1 8, 2, .inr (.inr (.inr (.inr (fun _ => none))))), .inr (10, [.int 100, .int 0, .int 0])] h from rfl) ?_
  refine e_aastO (q := c + 3) (v := c + 4) (N := 2) (t0 := 8) (ci := 10) (pk_at (j := 3) rfl) rfl rfl (pk_at (j := 4) rfl) (by decide) (by decide) dX7_init_36 ?_
  refine ev_as (pk_put c [.inr (7, [.int 0, .int 0, .int 0, .int 0, .ref (c + 1), .null, .null, .null, .null]), .inl (G.2.1 7, 1, .inr (.inr (.inr (.inr (ev_u (fun _ => none) (0 : Int32).toInt.toNat (some (c + 2))))))), .inr (8, [.int 10, .long 0, .long 0]), .inl (G.2.1 8, 2, .inr (.inr (.inr (.inr (fun _ => none))))), .inr (10, [.int 100, .int 0, .int 0])] h (.inl (G.2.1 8, 2, .inr (.inr (.inr (.inr (ev_u (fun _ => none) (0 : Int32).toInt.toNat (some (c + 4)))))))) (j := 3) (show 3 < 5 by decide)) ?_
  refine ev_as (show _ = pk c [.inr (7, [.int 0, .int 0, .int 0, .int 0, .ref (c + 1), .null, .null, .null, .null]), .inl (G.2.1 7, 1, .inr (.inr (.inr (.inr (ev_u (fun _ => none) (0 : Int32).toInt.toNat (some (c + 2))))))), .inr (8, [.int 10, .long 0, .long 0]), .inl (G.2.1 8, 2, .inr (.inr (.inr (.inr (ev_u (fun _ => none) (0 : Int32).toInt.toNat (some (c + 4))))))), .inr (10, [.int 100, .int 0, .int 0])] h from rfl) ?_
  refine e_dup dX7_init_37 rfl ?_
  refine e_iconst (v := 1) dX7_init_38 (by decide) ?_
  refine pk_o10 wL_X7_16 dX7_init_39 ?_
  refine ev_as (show _ = pk c [.inr (7, [.int 0, .int 0, .int 0, .int 0, .ref (c + 1), .null, .null, .null, .null]), .inl (G.2.1 7, 1, .inr (.inr (.inr (.inr (ev_u (fun _ => none) (0 : Int32).toInt.toNat (some (c + 2))))))), .inr (8, [.int 10, .long 0, .long 0]), .inl (G.2.1 8, 2, .inr (.inr (.inr (.inr (ev_u (fun _ => none) (0 : Int32).toInt.toNat (some (c + 4))))))), .inr (10, [.int 100, .int 0, .int 0]), .inr (10, dv10)] h from rfl) ?_
  refine e_dup dX7_init_42 rfl ?_
  refine e_invO (host := "SpringChainLaw") (mcY := 0) (msY := 0) (ct_X10_init (q := c + 5) (pk_at (j := 5) rfl)) vX10_init (ev_nw_ok 369 (by decide +kernel) rfl) dX7_init_43 rfl rfl (Nat.le_of_ble_eq_true rfl) (Nat.le_of_ble_eq_true rfl) ?_
  rintro _ _ ⟨rfl, rfl⟩
  refine ev_as (pk_put c [.inr (7, [.int 0, .int 0, .int 0, .int 0, .ref (c + 1), .null, .null, .null, .null]), .inl (G.2.1 7, 1, .inr (.inr (.inr (.inr (ev_u (fun _ => none) (0 : Int32).toInt.toNat (some (c + 2))))))), .inr (8, [.int 10, .long 0, .long 0]), .inl (G.2.1 8, 2, .inr (.inr (.inr (.inr (ev_u (fun _ => none) (0 : Int32).toInt.toNat (some (c + 4))))))), .inr (10, [.int 100, .int 0, .int 0]), .inr (10, dv10)] h (.inr (10, [.int 100, .int 0, .int 0])) (j := 5) (show 5 < 6 by decide)) ?_
  refine ev_as (show _ = pk c [.inr (7, [.int 0, .int 0, .int 0, .int 0, .ref (c + 1), .null, .null, .null, .null]), .inl (G.2.1 7, 1, .inr (.inr (.inr (.inr (ev_u (fun _ => none) (0 : Int32).toInt.toNat (some (c + 2))))))), .inr (8, [.int 10, .long 0, .long 0]), .inl (G.2.1 8, 2, .inr (.inr (.inr (.inr (ev_u (fun _ => none) (0 : Int32).toInt.toNat (some (c + 4))))))), .inr (10, [.int 100, .int 0, .int 0]), .inr (10, [.int 100, .int 0, .int 0])] h from rfl) ?_
  refine e_aastO (q := c + 3) (v := c + 5) (N := 2) (t0 := 8) (ci := 10) (pk_at (j := 3) rfl) rfl rfl (pk_at (j := 5) rfl) (by decide) (by decide) dX7_init_46 ?_
  refine ev_as (pk_put c [.inr (7, [.int 0, .int 0, .int 0, .int 0, .ref (c + 1), .null, .null, .null, .null]), .inl (G.2.1 7, 1, .inr (.inr (.inr (.inr (ev_u (fun _ => none) (0 : Int32).toInt.toNat (some (c + 2))))))), .inr (8, [.int 10, .long 0, .long 0]), .inl (G.2.1 8, 2, .inr (.inr (.inr (.inr (ev_u (fun _ => none) (0 : Int32).toInt.toNat (some (c + 4))))))), .inr (10, [.int 100, .int 0, .int 0]), .inr (10, [.int 100, .int 0, .int 0])] h (.inl (G.2.1 8, 2, .inr (.inr (.inr (.inr (ev_u (ev_u (fun _ => none) (0 : Int32).toInt.toNat (some (c + 4))) (1 : Int32).toInt.toNat (some (c + 5)))))))) (j := 3) (show 3 < 6 by decide)) ?_
  refine ev_as (show _ = pk c [.inr (7, [.int 0, .int 0, .int 0, .int 0, .ref (c + 1), .null, .null, .null, .null]), .inl (G.2.1 7, 1, .inr (.inr (.inr (.inr (ev_u (fun _ => none) (0 : Int32).toInt.toNat (some (c + 2))))))), .inr (8, [.int 10, .long 0, .long 0]), .inl (G.2.1 8, 2, .inr (.inr (.inr (.inr (ev_u (ev_u (fun _ => none) (0 : Int32).toInt.toNat (some (c + 4))) (1 : Int32).toInt.toNat (some (c + 5))))))), .inr (10, [.int 100, .int 0, .int 0]), .inr (10, [.int 100, .int 0, .int 0])] h from rfl) ?_
  refine pk_p7_5 (j := 0) rfl rfl wF_X7_19 dX7_init_47 ?_
  refine ev_as (show _ = pk c [.inr (7, [.int 0, .int 0, .int 0, .int 0, .ref (c + 1), .ref (c + 3), .null, .null, .null]), .inl (G.2.1 7, 1, .inr (.inr (.inr (.inr (ev_u (fun _ => none) (0 : Int32).toInt.toNat (some (c + 2))))))), .inr (8, [.int 10, .long 0, .long 0]), .inl (G.2.1 8, 2, .inr (.inr (.inr (.inr (ev_u (ev_u (fun _ => none) (0 : Int32).toInt.toNat (some (c + 4))) (1 : Int32).toInt.toNat (some (c + 5))))))), .inr (10, [.int 100, .int 0, .int 0]), .inr (10, [.int 100, .int 0, .int 0])] h from rfl) ?_
  refine e_aload_n dX7_init_50 rfl rfl ?_
  refine e_iconst (v := 0) dX7_init_51 (by decide) ?_
  refine e_anewA (N := 0) wq_L_X7_23 (by decide +kernel) (by decide) rfl dX7_init_52 ?_
  refine ev_as (pk_new c [.inr (7, [.int 0, .int 0, .int 0, .int 0, .ref (c + 1), .ref (c + 3), .null, .null, .null]), .inl (G.2.1 7, 1, .inr (.inr (.inr (.inr (ev_u (fun _ => none) (0 : Int32).toInt.toNat (some (c + 2))))))), .inr (8, [.int 10, .long 0, .long 0]), .inl (G.2.1 8, 2, .inr (.inr (.inr (.inr (ev_u (ev_u (fun _ => none) (0 : Int32).toInt.toNat (some (c + 4))) (1 : Int32).toInt.toNat (some (c + 5))))))), .inr (10, [.int 100, .int 0, .int 0]), .inr (10, [.int 100, .int 0, .int 0])] h (.inl (G.2.1 5, 0, .inr (.inr (.inr (.inr (fun _ => none)))))) rfl) ?_
  refine ev_as (show _ = pk c [.inr (7, [.int 0, .int 0, .int 0, .int 0, .ref (c + 1), .ref (c + 3), .null, .null, .null]), .inl (G.2.1 7, 1, .inr (.inr (.inr (.inr (ev_u (fun _ => none) (0 : Int32).toInt.toNat (some (c + 2))))))), .inr (8, [.int 10, .long 0, .long 0]), .inl (G.2.1 8, 2, .inr (.inr (.inr (.inr (ev_u (ev_u (fun _ => none) (0 : Int32).toInt.toNat (some (c + 4))) (1 : Int32).toInt.toNat (some (c + 5))))))), .inr (10, [.int 100, .int 0, .int 0]), .inr (10, [.int 100, .int 0, .int 0]), .inl (G.2.1 5, 0, .inr (.inr (.inr (.inr (fun _ => none)))))] h from rfl) ?_
  refine pk_p7_6 (j := 0) rfl rfl wF_X7_25 dX7_init_55 ?_
  refine ev_as (show _ = pk c [.inr (7, [.int 0, .int 0, .int 0, .int 0, .ref (c + 1), .ref (c + 3), .ref (c + 6), .null, .null]), .inl (G.2.1 7, 1, .inr (.inr (.inr (.inr (ev_u (fun _ => none) (0 : Int32).toInt.toNat (some (c + 2))))))), .inr (8, [.int 10, .long 0, .long 0]), .inl (G.2.1 8, 2, .inr (.inr (.inr (.inr (ev_u (ev_u (fun _ => none) (0 : Int32).toInt.toNat (some (c + 4))) (1 : Int32).toInt.toNat (some (c + 5))))))), .inr (10, [.int 100, .int 0, .int 0]), .inr (10, [.int 100, .int 0, .int 0]), .inl (G.2.1 5, 0, .inr (.inr (.inr (.inr (fun _ => none)))))] h from rfl) ?_
  refine e_aload_n dX7_init_58 rfl rfl ?_
  refine e_iconst (v := 0) dX7_init_59 (by decide) ?_
  refine e_anewA (N := 0) wq_L_X7_23 (by decide +kernel) (by decide) rfl dX7_init_60 ?_
  refine ev_as (pk_new c [.inr (7, [.int 0, .int 0, .int 0, .int 0, .ref (c + 1), .ref (c + 3), .ref (c + 6), .null, .null]), .inl (G.2.1 7, 1, .inr (.inr (.inr (.inr (ev_u (fun _ => none) (0 : Int32).toInt.toNat (some (c + 2))))))), .inr (8, [.int 10, .long 0, .long 0]), .inl (G.2.1 8, 2, .inr (.inr (.inr (.inr (ev_u (ev_u (fun _ => none) (0 : Int32).toInt.toNat (some (c + 4))) (1 : Int32).toInt.toNat (some (c + 5))))))), .inr (10, [.int 100, .int 0, .int 0]), .inr (10, [.int 100, .int 0, .int 0]), .inl (G.2.1 5, 0, .inr (.inr (.inr (.inr (fun _ => none)))))] h (.inl (G.2.1 5, 0, .inr (.inr (.inr (.inr (fun _ => none)))))) rfl) ?_
  refine ev_as (show _ = pk c [.inr (7, [.int 0, .int 0, .int 0, .int 0, .ref (c + 1), .ref (c + 3), .ref (c + 6), .null, .null]), .inl (G.2.1 7, 1, .inr (.inr (.inr (.inr (ev_u (fun _ => none) (0 : Int32).toInt.toNat (some (c + 2))))))), .inr (8, [.int 10, .long 0, .long 0]), .inl (G.2.1 8, 2, .inr (.inr (.inr (.inr (ev_u (ev_u (fun _ => none) (0 : Int32).toInt.toNat (some (c + 4))) (1 : Int32).toInt.toNat (some (c + 5))))))), .inr (10, [.int 100, .int 0, .int 0]), .inr (10, [.int 100, .int 0, .int 0]), .inl (G.2.1 5, 0, .inr (.inr (.inr (.inr (fun _ => none))))), .inl (G.2.1 5, 0, .inr (.inr (.inr (.inr (fun _ => none)))))] h from rfl) ?_
  refine pk_p7_7 (j := 0) rfl rfl wF_X7_29 dX7_init_63 ?_
  refine ev_as (show _ = pk c [.inr (7, [.int 0, .int 0, .int 0, .int 0, .ref (c + 1), .ref (c + 3), .ref (c + 6), .ref (c + 7), .null]), .inl (G.2.1 7, 1, .inr (.inr (.inr (.inr (ev_u (fun _ => none) (0 : Int32).toInt.toNat (some (c + 2))))))), .inr (8, [.int 10, .long 0, .long 0]), .inl (G.2.1 8, 2, .inr (.inr (.inr (.inr (ev_u (ev_u (fun _ => none) (0 : Int32).toInt.toNat (some (c + 4))) (1 : Int32).toInt.toNat (some (c + 5))))))), .inr (10, [.int 100, .int 0, .int 0]), .inr (10, [.int 100, .int 0, .int 0]), .inl (G.2.1 5, 0, .inr (.inr (.inr (.inr (fun _ => none))))), .inl (G.2.1 5, 0, .inr (.inr (.inr (.inr (fun _ => none)))))] h from rfl) ?_
  refine e_aload_n dX7_init_66 rfl rfl ?_
  refine e_bipush (v := 6) dX7_init_67 (by decide) ?_
  refine pk_nL (N := 6) (by decide +kernel) (by decide) dX7_init_69 ?_
  refine ev_as (show _ = pk c [.inr (7, [.int 0, .int 0, .int 0, .int 0, .ref (c + 1), .ref (c + 3), .ref (c + 6), .ref (c + 7), .null]), .inl (G.2.1 7, 1, .inr (.inr (.inr (.inr (ev_u (fun _ => none) (0 : Int32).toInt.toNat (some (c + 2))))))), .inr (8, [.int 10, .long 0, .long 0]), .inl (G.2.1 8, 2, .inr (.inr (.inr (.inr (ev_u (ev_u (fun _ => none) (0 : Int32).toInt.toNat (some (c + 4))) (1 : Int32).toInt.toNat (some (c + 5))))))), .inr (10, [.int 100, .int 0, .int 0]), .inr (10, [.int 100, .int 0, .int 0]), .inl (G.2.1 5, 0, .inr (.inr (.inr (.inr (fun _ => none))))), .inl (G.2.1 5, 0, .inr (.inr (.inr (.inr (fun _ => none))))), .inl (G.2.1 1, 6, .inr (.inl (fun _ => 0)))] h from rfl) ?_
  refine pk_p7_8 (j := 0) rfl rfl wF_X7_32 dX7_init_71 ?_
  refine ev_as (show _ = pk c [.inr (7, [.int 0, .int 0, .int 0, .int 0, .ref (c + 1), .ref (c + 3), .ref (c + 6), .ref (c + 7), .ref (c + 8)]), .inl (G.2.1 7, 1, .inr (.inr (.inr (.inr (ev_u (fun _ => none) (0 : Int32).toInt.toNat (some (c + 2))))))), .inr (8, [.int 10, .long 0, .long 0]), .inl (G.2.1 8, 2, .inr (.inr (.inr (.inr (ev_u (ev_u (fun _ => none) (0 : Int32).toInt.toNat (some (c + 4))) (1 : Int32).toInt.toNat (some (c + 5))))))), .inr (10, [.int 100, .int 0, .int 0]), .inr (10, [.int 100, .int 0, .int 0]), .inl (G.2.1 5, 0, .inr (.inr (.inr (.inr (fun _ => none))))), .inl (G.2.1 5, 0, .inr (.inr (.inr (.inr (fun _ => none))))), .inl (G.2.1 1, 6, .inr (.inl (fun _ => 0)))] h from rfl) ?_
  exact e_vret rfl dX7_init_74 ⟨rfl, rfl⟩
end LK
