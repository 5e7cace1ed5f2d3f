/-! the history's constructor -/
theorem ev_new_pk {a : ev_H} {z : Nat} (hz : a.2 = some z) (e : va_E) : ev_new a z e = pk z [e] a := by
  refine Prod.ext (funext fun q => ?_) ?_
  · show (if q = z then some e else a.1 q) = (if z ≤ q ∧ q < z + [e].length then [e][q - z]? else a.1 q)
    rw [show [e].length = 1 from rfl]
    by_cases c1 : q = z
    · rw [if_pos c1, if_pos (by omega), show q - z = 0 by omega]; rfl
    · rw [if_neg c1, if_neg (by omega)]
  · show a.2.map (· + 1) = some (z + [e].length)
    rw [hz]; rfl
def kF (c i : Nat) : Nat → Option Nat := fun k => if k < i then some (c + 2 + 15 * k) else none
/-- the history at c with i of its chains laid -/
def kS (G : ev_G) (c : Nat) (h : ev_H) (i : Nat) : ev_H := (fun q => if c + 2 ≤ q ∧ q < c + 2 + 15 * i then some (ch_cell G (c + 2 + 15 * ((q - (c + 2)) / 15)) (sBeg cs_0 1) ((q - (c + 2)) % 15)) else if q = c then some (.inr (1, [.int 0, .int 0, .ref (c + 1)])) else if q = c + 1 then some (.inl (G.2.1 4, 8, .inr (.inr (.inr (.inr (kF c i)))))) else h.1 q, some (c + 2 + 15 * i))
theorem kS_0 (G : ev_G) (c : Nat) (h : ev_H) : pk c [.inr (1, [.int 0, .int 0, .ref (c + 1)]), .inl (G.2.1 4, 8, .inr (.inr (.inr (.inr (fun _ => none)))))] h = kS G c h 0 := by
  refine Prod.ext (funext fun q => ?_) rfl
  show (if c ≤ q ∧ q < c + 2 then _ else h.1 q) = (if c + 2 ≤ q ∧ q < c + 2 + 15 * 0 then _ else if q = c then _ else if q = c + 1 then _ else h.1 q)
  rw [if_neg (show ¬ (c + 2 ≤ q ∧ q < c + 2 + 15 * 0) by omega)]
  have e : kF c 0 = fun _ => none := by funext k; unfold kF; rw [if_neg (by omega)]
  by_cases c1 : q = c
  · subst c1
    rw [if_pos (show q ≤ q ∧ q < q + 2 by omega), if_pos rfl, Nat.sub_self]; rfl
  · by_cases c2 : q = c + 1
    · subst c2
      rw [if_pos (show c ≤ c + 1 ∧ c + 1 < c + 2 by omega), if_neg (by omega), if_pos rfl, show c + 1 - c = 1 by omega, e]; rfl
    · rw [if_neg (show ¬ (c ≤ q ∧ q < c + 2) by omega), if_neg c1, if_neg c2]
theorem kS_up (G : ev_G) (c : Nat) (h : ev_H) (i : Nat) : ev_put (ch G (c + 2 + 15 * i) (sBeg cs_0 1) ((kS G c h i).1, some (c + 2 + 15 * i + 15))) (c + 1) (.inl (G.2.1 4, 8, .inr (.inr (.inr (.inr (ev_u (kF c i) i (some (c + 2 + 15 * i)))))))) = kS G c h (i + 1) := by
  refine Prod.ext (funext fun q => ?_) (by show some (c + 2 + 15 * i + 15) = some (c + 2 + 15 * (i + 1)); congr 1)
  have e : ev_u (kF c i) i (some (c + 2 + 15 * i)) = kF c (i + 1) := by
    funext k
    unfold ev_u kF
    by_cases c1 : k = i
    · subst c1; rw [if_pos rfl, if_pos (by omega)]
    · rw [if_neg c1]
      by_cases c2 : k < i
      · rw [if_pos c2, if_pos (by omega)]
      · rw [if_neg c2, if_neg (by omega)]
  show (if q = c + 1 then _ else (if c + 2 + 15 * i ≤ q ∧ q < c + 2 + 15 * i + 15 then some (ch_cell G (c + 2 + 15 * i) (sBeg cs_0 1) (q - (c + 2 + 15 * i))) else (if c + 2 ≤ q ∧ q < c + 2 + 15 * i then _ else if q = c then _ else if q = c + 1 then _ else h.1 q))) = (if c + 2 ≤ q ∧ q < c + 2 + 15 * (i + 1) then _ else if q = c then _ else if q = c + 1 then _ else h.1 q)
  by_cases c1 : q = c + 1
  · rw [if_pos c1, if_neg (show ¬ (c + 2 ≤ q ∧ q < c + 2 + 15 * (i + 1)) by omega), if_neg (by omega), if_pos c1, e]
  · rw [if_neg c1]
    by_cases c2 : c + 2 + 15 * i ≤ q ∧ q < c + 2 + 15 * i + 15
    · rw [if_pos c2, if_pos (show c + 2 ≤ q ∧ q < c + 2 + 15 * (i + 1) by omega), show (q - (c + 2)) / 15 = i by omega, show (q - (c + 2)) % 15 = q - (c + 2 + 15 * i) by omega]
    · rw [if_neg c2]
      by_cases c3 : c + 2 ≤ q ∧ q < c + 2 + 15 * i
      · rw [if_pos c3, if_pos (show c + 2 ≤ q ∧ q < c + 2 + 15 * (i + 1) by omega)]
      · rw [if_neg c3, if_neg (show ¬ (c + 2 ≤ q ∧ q < c + 2 + 15 * (i + 1)) by omega), if_neg c1, if_neg c1]
theorem kS_at (G : ev_G) (c : Nat) (h : ev_H) (i : Nat) : (kS G c h i).1 c = some (.inr (1, [.int 0, .int 0, .ref (c + 1)])) := by
  show (if c + 2 ≤ c ∧ c < c + 2 + 15 * i then _ else if c = c then _ else _) = _
  rw [if_neg (by omega), if_pos rfl]
theorem kS_ar (G : ev_G) (c : Nat) (h : ev_H) (i : Nat) : (kS G c h i).1 (c + 1) = some (.inl (G.2.1 4, 8, .inr (.inr (.inr (.inr (kF c i)))))) := by
  show (if c + 2 ≤ c + 1 ∧ c + 1 < c + 2 + 15 * i then _ else if c + 1 = c then _ else if c + 1 = c + 1 then _ else _) = _
  rw [if_neg (by omega), if_neg (by omega), if_pos rfl]
theorem kS_put (G : ev_G) (c : Nat) (h : ev_H) (i : Nat) : ev_put (kS G c h i) c (.inr (1, [.int 0, .int 0, .ref (c + 1)])) = kS G c h i := by
  refine Prod.ext (funext fun q => ?_) rfl
  show (if q = c then _ else (kS G c h i).1 q) = _
  by_cases c1 : q = c
  · rw [if_pos c1, c1, kS_at]
  · rw [if_neg c1]
section HC
variable {G : ev_G} {l : Launch} {c : Nat} {h : ev_H}
set_option maxRecDepth 20000 in
theorem lp_X1 {J : ev_K} {k n : Nat} (hJ : 4 ≤ J.2.2.1) (hk : ev_V G l mX1_init J 40 [some (.ref c)] [] (kS G c h 8) k n) : ∀ (r i : Nat) (x : Int32), r + i = 8 → x.toInt = (i : Int) → ev_V G l mX1_init J 15 [some (.ref c), some (.int x)] [] (kS G c h i) (k + 15 * r) (n + 213 * r) := by
  have w8 : (8 : Int32).toInt = 8 := by decide +kernel
  intro r
  induction r with
  | zero =>
    intro i x hr hx
    have hi : i = 8 := by omega
    subst hi
    refine e_iload_n dX1_init_15 rfl rfl ?_
    refine e_bipush (v := 8) dX1_init_16 (by decide) ?_
    refine e_icmp_ge (tgt := 40) dX1_init_18 (by decide) (fun c18 => ?_) (fun c18 => ?_)
    · exact ev_lc hk ⟨rfl, trivial⟩
    · omega
  | succ r ih =>
    intro i x hr hx
    have hn : x.toInt.toNat = i := ar_nat hx
    rw [show k + 15 * (r + 1) = (k + 15 * r + 14) + 1 by omega, show n + 213 * (r + 1) = (n + 213 * r + 199) + 14 by omega]
    refine e_iload_n dX1_init_15 rfl rfl ?_
    refine e_bipush (v := 8) dX1_init_16 (by decide) ?_
    refine e_icmp_ge (tgt := 40) dX1_init_18 (by decide) (fun c18 => ?_) (fun c18 => ?_)
    · omega
    refine e_aload_n dX1_init_21 rfl rfl ?_
    refine e_getf (C := RX1) (T := TX1) (N := 3) (ci := 1) 2 inX1 rfl (kS_at G c h i) (by decide) wF_X1_11 rfl dX1_init_22 ?_
    refine e_iload_n dX1_init_25 rfl rfl ?_
    refine e_new (C := RX0) (T := TX0) (N := 14) (ci := 0) tyX0 tyX0_ok inX0 rfl wL_X1_9 wX_X0 wN_X0 dv0_ok (show (kS G c h i).2 = some (c + 2 + 15 * i) from rfl) dX1_init_26 ?_
    refine ev_as (ev_new_pk rfl _) ?_
    refine e_dup dX1_init_29 rfl ?_
    refine e_invI (mcY := 14) (msY := 199) (ct_X0_init (c := c + 2 + 15 * i) (h := kS G c h i)) vX0_init wM_X1_17 dX1_init_30 rfl rfl (Nat.le_of_ble_eq_true rfl) (Nat.le_trans (Nat.le_of_ble_eq_true rfl) hJ) ?_
    rintro _ _ ⟨rfl, rfl⟩
    refine e_aastq (N := 8) (f := kF c i) ?_ (ch_at G (c + 2 + 15 * i) _ _ 0 (by decide)) (by omega) (by omega) dX1_init_33 ?_
    · show (if c + 2 + 15 * i ≤ c + 1 ∧ c + 1 < c + 2 + 15 * i + 15 then _ else (kS G c h i).1 (c + 1)) = _
      rw [if_neg (by omega)]
      exact kS_ar G c h i
    rw [hn]
    refine ev_as (kS_up G c h i) ?_
    refine e_iinc dX1_init_34 rfl rfl (Nat.le_of_ble_eq_true rfl) ?_
    refine e_goto (tgt := 15) dX1_init_37 (by decide) ?_
    exact ev_lc (ih (i + 1) _ (by omega) (ar_inc hx (by omega))) ⟨rfl, rfl, trivial⟩
set_option maxRecDepth 20000 in
theorem ct_X1_init : ev_Ct G l mX1_init 5 121 1712 [.ref c] (pk c [.inr (1, dv1)] h) (fun v a => v = none ∧ a = kS G c h 8) (fun _ _ => False) := by
  refine ev_Ct.of (by decide +kernel) (Nat.le_of_ble_eq_true rfl) ?_
  refine e_aload_n dX1_init_0 rfl rfl ?_
  refine e_objInit wM_X1_3 wI_Object_init wC_Object_init (by decide) (Nat.le_of_ble_eq_true rfl) dX1_init_1 ?_
  refine e_aload_n dX1_init_4 rfl rfl ?_
  refine e_bipush (v := 8) dX1_init_5 (by decide) ?_
  refine pk_nQ (N := 8) wL_X1_9 (by decide +kernel) (by decide) dX1_init_7 ?_
  refine pk_p1_2 (j := 0) (by exact ⟨rfl, rfl⟩) rfl rfl wF_X1_11 dX1_init_10 ?_
  refine ev_as (show _ = kS G c h 0 from kS_0 G c h) ?_
  refine e_iconst (v := 0) dX1_init_13 (by decide) ?_
  refine e_istore_n dX1_init_14 rfl (Nat.le_of_ble_eq_true rfl) ?_
  refine ev_loc (L' := [some (.ref c), some (.int 0)]) ⟨rfl, rfl, trivial⟩ ?_
  refine lp_X1 (k := 0) (n := 0) (Nat.le_of_ble_eq_true rfl) ?_ 8 0 _ rfl ar_0
  refine e_aload_n dX1_init_40 rfl rfl ?_
  refine e_iconst (v := 0) dX1_init_41 (by decide) ?_
  refine e_putf (Cn := RX1) (T := TX1) (N := 3) (ci := 1) 0 tyX1 tyX1_ok nmX1 inX1 rfl (kS_at G c h 8) (by decide) wF_X1_18 (Or.inl rfl) (tyX1_ok 0 (by decide)) rfl rfl (Nat.le_of_ble_eq_true rfl) dX1_init_42 ?_
  refine ev_as (kS_put G c h 8) ?_
  refine e_aload_n dX1_init_45 rfl rfl ?_
  refine e_iconst (v := 0) dX1_init_46 (by decide) ?_
  refine e_putf (Cn := RX1) (T := TX1) (N := 3) (ci := 1) 1 tyX1 tyX1_ok nmX1 inX1 rfl (kS_at G c h 8) (by decide) wF_X1_22 (Or.inl rfl) (tyX1_ok 1 (by decide)) rfl rfl (Nat.le_of_ble_eq_true rfl) dX1_init_47 ?_
  refine ev_as (kS_put G c h 8) ?_
  exact e_vret rfl dX1_init_50 (⟨rfl, rfl⟩)
end HC
