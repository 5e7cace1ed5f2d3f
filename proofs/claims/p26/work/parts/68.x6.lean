set_option maxRecDepth 20000 in
/-! the constructor of SpringChain -/
theorem kS_put_out (G : ev_G) (c : Nat) (h : ev_H) (i q : Nat) (e : va_E) (hq : q < c) : ev_put (kS G c h i) q e = kS G c (ev_put h q e) i := by
  refine Prod.ext (funext fun x => ?_) rfl
  show (if x = q then some e else (if c + 2 ≤ x ∧ x < c + 2 + 15 * i then _ else if x = c then _ else if x = c + 1 then _ else h.1 x)) = (if c + 2 ≤ x ∧ x < c + 2 + 15 * i then _ else if x = c then _ else if x = c + 1 then _ else (if x = q then some e else h.1 x))
  by_cases c1 : x = q
  · rw [if_pos c1, if_neg (by omega), if_neg (by omega), if_neg (by omega), if_pos c1]
  · rw [if_neg c1, if_neg c1]
def x6e (G : ev_G) (b : Nat) (o : va_E) : List va_E := [o, .inl (G.2.1 2, 500, .inl (fun _ => 0)), .inr (5, [.int 0, .int (-1), .null, .int 0, .int 0, .int 0, .null, .int 0, .ref (b + 3), .ref (b + 4)]), .inl (G.2.1 3, 12, .inl (fun _ => 0)), .inl (G.2.1 3, 12, .inl (fun _ => 0))]
def x6A (G : ev_G) (b : Nat) (h : ev_H) (o : va_E) : ev_H := ch G (b + 5) (sBeg cs_0 1) ((pk b (x6e G b o) h).1, some (b + 20))
def x6B (G : ev_G) (b : Nat) (h : ev_H) (o : va_E) : ev_H := ch G (b + 20) (sBeg cs_0 1) ((x6A G b h o).1, some (b + 35))
def x6C (G : ev_G) (b : Nat) (h : ev_H) (o : va_E) : ev_H := kS G (b + 35) (x6B G b h o) 8
theorem x6e_at (G : ev_G) (b : Nat) (h : ev_H) (o : va_E) : (pk b (x6e G b o) h).1 b = some o := pk_at (j := 0) rfl
theorem x6A_at (G : ev_G) (b : Nat) (h : ev_H) (o : va_E) : (x6A G b h o).1 b = some o := by
  show (if b + 5 ≤ b ∧ b < b + 5 + 15 then _ else (pk b (x6e G b o) h).1 b) = _
  rw [if_neg (by omega), x6e_at]
theorem x6B_at (G : ev_G) (b : Nat) (h : ev_H) (o : va_E) : (x6B G b h o).1 b = some o := by
  show (if b + 20 ≤ b ∧ b < b + 20 + 15 then _ else (x6A G b h o).1 b) = _
  rw [if_neg (by omega), x6A_at]
theorem x6C_at (G : ev_G) (b : Nat) (h : ev_H) (o : va_E) : (x6C G b h o).1 b = some o := by
  show (if b + 35 + 2 ≤ b ∧ b < b + 35 + 2 + 15 * 8 then _ else if b = b + 35 then _ else if b = b + 35 + 1 then _ else (x6B G b h o).1 b) = _
  rw [if_neg (by omega), if_neg (by omega), if_neg (by omega), x6B_at]
theorem x6e_put (G : ev_G) (b : Nat) (h : ev_H) (o e : va_E) (z : Option Nat) : ev_put ((pk b (x6e G b o) h).1, z) b e = ((pk b (x6e G b e) h).1, z) := by
  refine Prod.ext ?_ rfl
  have h0 : ev_put (pk b (x6e G b o) h) (b + 0) e = pk b ((x6e G b o).set 0 e) h := pk_put b (x6e G b o) h e (j := 0) (Nat.succ_pos _)
  have h1 := congrArg Prod.fst h0
  exact h1
theorem x6A_put (G : ev_G) (b : Nat) (h : ev_H) (o e : va_E) : ev_put (x6A G b h o) b e = x6A G b h e := by
  show ev_put (ch G (b + 5) _ _) b e = _
  rw [ch_put_out G (b + 5) _ _ b e (by omega), x6e_put]
  rfl
theorem x6B_put (G : ev_G) (b : Nat) (h : ev_H) (o e : va_E) : ev_put (x6B G b h o) b e = x6B G b h e := by
  show ev_put (ch G (b + 20) _ _) b e = _
  rw [ch_put_out G (b + 20) _ _ b e (by omega)]
  exact congrArg (fun y : ev_H => ch G (b + 20) (sBeg cs_0 1) (y.1, some (b + 35))) (x6A_put G b h o e)
theorem x6C_put (G : ev_G) (b : Nat) (h : ev_H) (o e : va_E) : ev_put (x6C G b h o) b e = x6C G b h e := by
  show ev_put (kS G (b + 35) _ 8) b e = _
  rw [kS_put_out G (b + 35) _ 8 b e (by omega), x6B_put]
  rfl
def S_0 : SS := (fun i => if i = 1 ∨ i = 5 then -1 else 0, fun _ _ => 0, fun _ => none, fun _ => sBeg cs_0 1)
theorem ev_sim {G : ev_G} {l : Launch} {M : ev_M} {J : ev_K} {pc k n : Nat} {L : List (Option Value)} {st : List Value} {a a' : ev_H} (hz : a'.2 = a.2 ∨ a'.2 = none) (e : ∀ q x, a'.1 q = some x → ∃ y, a.1 q = some y ∧ (y = x ∨ ∀ H, va_at G.1 vwCl (q, y) H → va_at G.1 vwCl (q, x) H)) (h : ev_V G l M J pc L st a' k n) : ev_V G l M J pc L st a k n := by
  intro p e9 R s d0 m args below meth c C hD H locs cells slots ls hR
  refine h p e9 R s d0 m args below meth c C hD H locs cells slots ls ⟨fun q x hx => ?_, fun n hn => ?_, hR.2.2⟩
  · obtain ⟨y, hy, h1⟩ := e q x hx
    have := hR.1 q y hy
    rcases h1 with h1 | h1
    · exact h1 ▸ this
    · exact ⟨this.1, h1 H this.2⟩
  · rcases hz with hz | hz
    · exact hR.2.1 n (hz ▸ hn)
    · rw [hz] at hn; exact nomatch hn
theorem va_rowq {D : va_G} {q N : Nat} {t : ClassId} {f g : Nat → Option Nat} (e : ∀ k, k < N → f k = g k) (H : Heap) (h : va_at D vwCl (q, .inl (t, N, .inr (.inr (.inr (.inr f))))) H) : va_at D vwCl (q, .inl (t, N, .inr (.inr (.inr (.inr g))))) H := by
  have h1 : H[q]? = some (vp_cell t (N, .inr (.inr (.inr (.inr f))))) := h
  show H[q]? = some (vp_cell t (N, .inr (.inr (.inr (.inr g)))))
  rw [h1, vp_cell_q, vp_cell_q]
  have : (fun j : Fin N => va_rf (f j.val)) = (fun j : Fin N => va_rf (g j.val)) := funext fun j => by rw [e j.val j.isLt]
  show some ({ cls := t, slots := Array.ofFn (n := N) fun j => va_rf (f j.val), vm := .none } : Cell) = some ({ cls := t, slots := Array.ofFn (n := N) fun j => va_rf (g j.val), vm := .none } : Cell)
  rw [this]
def sR (c N : Nat) (a : ev_H) (t : ClassId) (g : Nat → Option Nat) : ev_H := (fun q => if q = c then some (.inl (t, N, .inr (.inr (.inr (.inr g))))) else a.1 q, a.2)
theorem x6_end (G : ev_G) (b : Nat) (h : ev_H) : sR (b + 36) 8 (x6C G b h (.inr (6, [.ref (b + 1), .ref (b + 2), .ref (b + 5), .ref (b + 20), .ref (b + 35), .int 0, .int (-1)]))) (G.2.1 4) (fun k => some (b + 37 + 15 * k)) = sy G b S_0 (h.1, some (b + 157)) := by
  refine Prod.ext (funext fun q => ?_) rfl
  show (if q = b + 36 then _ else if b + 35 + 2 ≤ q ∧ q < b + 35 + 2 + 15 * 8 then some (ch_cell G (b + 35 + 2 + 15 * ((q - (b + 35 + 2)) / 15)) (sBeg cs_0 1) ((q - (b + 35 + 2)) % 15)) else if q = b + 35 then _ else if q = b + 35 + 1 then some (.inl (G.2.1 4, 8, .inr (.inr (.inr (.inr (kF (b + 35) 8)))))) else
    (if b + 20 ≤ q ∧ q < b + 20 + 15 then some (ch_cell G (b + 20) (sBeg cs_0 1) (q - (b + 20))) else (if b + 5 ≤ q ∧ q < b + 5 + 15 then some (ch_cell G (b + 5) (sBeg cs_0 1) (q - (b + 5))) else (if b ≤ q ∧ q < b + 5 then _ else h.1 q)))) = (if b ≤ q ∧ q < b + 157 then some (sy_cell G b S_0 (q - b)) else h.1 q)
  by_cases hin : b ≤ q ∧ q < b + 157
  · obtain ⟨j, rfl⟩ : ∃ j, q = b + j := ⟨q - b, by omega⟩
    have hj : j < 157 := by omega
    rw [if_pos hin, show b + j - b = j by omega]
    by_cases h3 : j = 36
    · subst h3
      rw [if_pos rfl]; rfl
    rw [if_neg (show ¬ b + j = b + 36 by omega)]
    by_cases h1 : 37 ≤ j
    · rw [if_pos (show b + 35 + 2 ≤ b + j ∧ b + j < b + 35 + 2 + 15 * 8 by omega), show b + j - (b + 35 + 2) = j - 37 by omega]
      unfold sy_cell
      rw [if_neg (by omega), if_neg (by omega), if_neg (by omega), if_neg (by omega), if_neg (by omega), if_neg (by omega), if_neg (by omega), if_neg (by omega), if_neg (by omega)]
      rfl
    rw [if_neg (show ¬ (b + 35 + 2 ≤ b + j ∧ b + j < b + 35 + 2 + 15 * 8) by omega)]
    by_cases h2 : j = 35
    · subst h2
      rw [if_pos rfl]; rfl
    rw [if_neg (show ¬ b + j = b + 35 by omega)]
    rw [if_neg (show ¬ b + j = b + 35 + 1 by omega)]
    unfold sy_cell
    by_cases h4 : 20 ≤ j
    · rw [if_pos (show b + 20 ≤ b + j ∧ b + j < b + 20 + 15 by omega), show b + j - (b + 20) = j - 20 by omega]
      rw [if_neg (by omega), if_neg (by omega), if_neg (by omega), if_neg (by omega), if_neg (by omega), if_neg (by omega), if_pos (by omega)]
      rfl
    rw [if_neg (show ¬ (b + 20 ≤ b + j ∧ b + j < b + 20 + 15) by omega)]
    by_cases h5 : 5 ≤ j
    · rw [if_pos (show b + 5 ≤ b + j ∧ b + j < b + 5 + 15 by omega), show b + j - (b + 5) = j - 5 by omega]
      rw [if_neg (by omega), if_neg (by omega), if_neg (by omega), if_neg (by omega), if_neg (by omega), if_pos (by omega)]
      rfl
    rw [if_neg (show ¬ (b + 5 ≤ b + j ∧ b + j < b + 5 + 15) by omega), if_pos (show b ≤ b + j ∧ b + j < b + 5 by omega)]
    rcases (show j = 0 ∨ j = 1 ∨ j = 2 ∨ j = 3 ∨ j = 4 by omega) with rfl | rfl | rfl | rfl | rfl <;> rfl
  · rw [if_neg hin, if_neg (by omega), if_neg (by omega), if_neg (by omega), if_neg (by omega), if_neg (by omega), if_neg (by omega), if_neg (by omega)]
section X6C
variable {G : ev_G} {l : Launch} {c : Nat} {h : ev_H}
def x6o (v : List Value) : va_E := .inr (6, v)
set_option maxRecDepth 20000 in
theorem ct_X6_init : ev_Ct G l mX6_init 6 156 2675 [.ref c] (pk c [.inr (6, dv6)] h) (fun v a => v = none ∧ a = sy G c S_0 (h.1, some (c + 157))) (fun _ _ => False) := by
  refine ev_Ct.of (by decide +kernel) (Nat.le_of_ble_eq_true rfl) ?_
  refine e_aload_n dX6_init_0 rfl rfl ?_
  refine e_objInit wM_X6_3 wI_Object_init wC_Object_init (by decide) (Nat.le_of_ble_eq_true rfl) dX6_init_1 ?_
  refine e_aload_n dX6_init_4 rfl rfl ?_
  refine e_sipush (v := 500) dX6_init_5 (by decide) ?_
  refine pk_nB (N := 500) (by decide +kernel) (by decide) dX6_init_8 ?_
  refine pk_p6_0 (j := 0) (by exact ⟨rfl, rfl⟩) rfl rfl wF_X6_9 dX6_init_10 ?_
  refine e_aload_n dX6_init_13 rfl rfl ?_
  refine pk_o5 wL_X6_13 dX6_init_14 ?_
  refine e_dup dX6_init_17 rfl ?_
  refine ev_as (show _ = pk (c + 2) [.inr (5, dv5)] (pk c [.inr (6, [.ref (c + 1), .null, .null, .null, .null, .int 0, .int 0]), .inl (G.2.1 2, 500, .inl (fun _ => 0))] h) from (pk_split c [.inr (6, [.ref (c + 1), .null, .null, .null, .null, .int 0, .int 0]), .inl (G.2.1 2, 500, .inl (fun _ => 0))] [.inr (5, dv5)] h).symm) ?_
  refine e_invI (mcY := 2) (msY := 24) (ct_X5_init (c := c + 2) (h := pk c [.inr (6, [.ref (c + 1), .null, .null, .null, .null, .int 0, .int 0]), .inl (G.2.1 2, 500, .inl (fun _ => 0))] h)) vX5_init wM_X6_15 dX6_init_18 rfl rfl (Nat.le_of_ble_eq_true rfl) (Nat.le_of_ble_eq_true rfl) ?_
  rintro _ _ ⟨rfl, rfl⟩
  refine ev_as (pk_split c [.inr (6, [.ref (c + 1), .null, .null, .null, .null, .int 0, .int 0]), .inl (G.2.1 2, 500, .inl (fun _ => 0))] (cl_X5_init G (c + 2)) h) ?_
  refine pk_p6_1 (j := 0) (by exact ⟨rfl, rfl⟩) rfl rfl wF_X6_16 dX6_init_21 ?_
  refine ev_as (show _ = pk c (x6e G c (.inr (6, [.ref (c + 1), .ref (c + 2), .null, .null, .null, .int 0, .int 0]))) h from rfl) ?_
  refine e_aload_n dX6_init_24 rfl rfl ?_
  refine e_new (C := RX0) (T := TX0) (N := 14) (ci := 0) tyX0 tyX0_ok inX0 rfl wL_X6_20 wX_X0 wN_X0 dv0_ok (z := c + 5) rfl dX6_init_25 ?_
  refine ev_as (ev_new_pk rfl _) ?_
  refine e_dup dX6_init_28 rfl ?_
  refine e_invI (mcY := 14) (msY := 199) (ct_X0_init (c := c + 5) (h := pk c (x6e G c _) h)) vX0_init wM_X6_22 dX6_init_29 rfl rfl (Nat.le_of_ble_eq_true rfl) (Nat.le_of_ble_eq_true rfl) ?_
  rintro _ _ ⟨rfl, rfl⟩
  refine ev_as (show _ = x6A G c h _ from rfl) ?_
  refine e_putf (Cn := RX6) (T := TX6) (N := 7) (ci := 6) 2 tyX6 tyX6_ok nmX6 inX6 rfl (x6A_at G c h _) (by decide) wF_X6_23 (Or.inr ⟨rfl, rfl, rfl⟩) (tyX6_ok 2 (by decide)) rfl rfl (Nat.le_of_ble_eq_true rfl) dX6_init_32 ?_
  refine ev_as (x6A_put G c h _ _) ?_
  refine e_aload_n dX6_init_35 rfl rfl ?_
  refine e_new (C := RX0) (T := TX0) (N := 14) (ci := 0) tyX0 tyX0_ok inX0 rfl wL_X6_20 wX_X0 wN_X0 dv0_ok (z := c + 20) rfl dX6_init_36 ?_
  refine ev_as (ev_new_pk rfl _) ?_
  refine e_dup dX6_init_39 rfl ?_
  refine e_invI (mcY := 14) (msY := 199) (ct_X0_init (c := c + 20) (h := x6A G c h _)) vX0_init wM_X6_22 dX6_init_40 rfl rfl (Nat.le_of_ble_eq_true rfl) (Nat.le_of_ble_eq_true rfl) ?_
  rintro _ _ ⟨rfl, rfl⟩
  refine ev_as (show _ = x6B G c h _ from rfl) ?_
  refine e_putf (Cn := RX6) (T := TX6) (N := 7) (ci := 6) 3 tyX6 tyX6_ok nmX6 inX6 rfl (x6B_at G c h _) (by decide) wF_X6_27 (Or.inr ⟨rfl, rfl, rfl⟩) (tyX6_ok 3 (by decide)) rfl rfl (Nat.le_of_ble_eq_true rfl) dX6_init_43 ?_
  refine ev_as (x6B_put G c h _ _) ?_
  refine e_aload_n dX6_init_46 rfl rfl ?_
  refine e_new (C := RX1) (T := TX1) (N := 3) (ci := 1) tyX1 tyX1_ok inX1 rfl wL_X6_30 wX_X1 wN_X1 dv1_ok (z := c + 35) rfl dX6_init_47 ?_
  refine ev_as (ev_new_pk rfl _) ?_
  refine e_dup dX6_init_50 rfl ?_
  refine e_invI (mcY := 121) (msY := 1712) (ct_X1_init (c := c + 35) (h := x6B G c h _)) vX1_init wM_X6_32 dX6_init_51 rfl rfl (Nat.le_of_ble_eq_true rfl) (Nat.le_of_ble_eq_true rfl) ?_
  rintro _ _ ⟨rfl, rfl⟩
  refine ev_as (show _ = x6C G c h _ from rfl) ?_
  refine e_putf (Cn := RX6) (T := TX6) (N := 7) (ci := 6) 4 tyX6 tyX6_ok nmX6 inX6 rfl (x6C_at G c h _) (by decide) wF_X6_33 (Or.inr ⟨rfl, rfl, rfl⟩) (tyX6_ok 4 (by decide)) rfl rfl (Nat.le_of_ble_eq_true rfl) dX6_init_54 ?_
  refine ev_as (x6C_put G c h _ _) ?_
  refine e_aload_n dX6_init_57 rfl rfl ?_
  refine e_iconst (v := 0) dX6_init_58 (by decide) ?_
  refine e_putf (Cn := RX6) (T := TX6) (N := 7) (ci := 6) 5 tyX6 tyX6_ok nmX6 inX6 rfl (x6C_at G c h _) (by decide) wF_X6_37 (Or.inl rfl) (tyX6_ok 5 (by decide)) rfl rfl (Nat.le_of_ble_eq_true rfl) dX6_init_59 ?_
  refine ev_as (x6C_put G c h _ _) ?_
  refine e_aload_n dX6_init_62 rfl rfl ?_
  refine e_iconst (v := (-1)) dX6_init_63 (by decide) ?_
  refine e_putf (Cn := RX6) (T := TX6) (N := 7) (ci := 6) 6 tyX6 tyX6_ok nmX6 inX6 rfl (x6C_at G c h _) (by decide) wF_X6_41 (Or.inl rfl) (tyX6_ok 6 (by decide)) rfl rfl (Nat.le_of_ble_eq_true rfl) dX6_init_64 ?_
  refine ev_as (x6C_put G c h _ _) ?_
  refine ev_sim (a' := sR (c + 36) 8 (x6C G c h (.inr (6, [.ref (c + 1), .ref (c + 2), .ref (c + 5), .ref (c + 20), .ref (c + 35), .int 0, .int (-1)]))) (G.2.1 4) (fun k => some (c + 37 + 15 * k))) (Or.inl rfl) (fun q x hx => ?_) ?_
  · have hx1 : (if q = c + 36 then some (.inl (G.2.1 4, 8, .inr (.inr (.inr (.inr (fun k => some (c + 37 + 15 * k))))))) else (x6C G c h (.inr (6, [.ref (c + 1), .ref (c + 2), .ref (c + 5), .ref (c + 20), .ref (c + 35), .int 0, .int (-1)]))).1 q) = some x := hx
    by_cases c1 : q = c + 36
    · subst c1
      rw [if_pos rfl] at hx1
      refine ⟨_, kS_ar G (c + 35) (x6B G c h _) 8, Or.inr ?_⟩
      rw [← Option.some.inj hx1]
      refine va_rowq (fun k hk => ?_)
      show (if k < 8 then some (c + 35 + 2 + 15 * k) else none) = some (c + 37 + 15 * k)
      rw [if_pos hk]
    · rw [if_neg c1] at hx1
      exact ⟨x, hx1, Or.inl rfl⟩
  refine ev_as (x6_end G c h) ?_
  exact e_vret rfl dX6_init_67 (⟨rfl, rfl⟩)
end X6C
