/-! the history's constructor -/
theorem ev_new_pk {a : ev_H} {z : Nat} (hz : a.2 = some z) (e : va_E) : ev_new a z e = pk z [e] a := by
  refine Prod.ext (funext fun q => ?_) ?_
  · show (if q = z then some e else a.1 q) = (if z ≤ q ∧ q < z + [e].length then [e][q - z]? else a.1 q)
    rw [show [e].length = 1 from rfl]
    by_cases c1 : q = z
    · rw [if_pos c1, if_pos (by omega), show q - z = 0 by omega]; rfl
    · rw [if_neg c1, if_neg (by omega)]
  · show a.2.map (· + 1) = some (z + [e].length)
    rw [hz]; rfl
def kF (c i : Nat) : Nat → Option Nat := fun k => if k < i then some (c + 2 + 16 * k) else none
/-- the history at c with i of its chains laid -/
def kS (G : ev_G) (c : Nat) (h : ev_H) (i : Nat) : ev_H := (fun q => if c + 2 ≤ q ∧ q < c + 2 + 16 * i then some (ch_cell G (c + 2 + 16 * ((q - (c + 2)) / 16)) (sBeg cs_0 1) ((q - (c + 2)) % 16)) else if q = c then some (.inr (1, [.int 0, .int 0, .ref (c + 1)])) else if q = c + 1 then some (.inl (G.2.1 4, 8, .inr (.inr (.inr (.inr (kF c i)))))) else h.1 q, some (c + 2 + 16 * i))
theorem kS_0 (G : ev_G) (c : Nat) (h : ev_H) : pk c [.inr (1, [.int 0, .int 0, .ref (c + 1)]), .inl (G.2.1 4, 8, .inr (.inr (.inr (.inr (fun _ => none)))))] h = kS G c h 0 := by
  refine Prod.ext (funext fun q => ?_) rfl
  show (if c ≤ q ∧ q < c + 2 then _ else h.1 q) = (if c + 2 ≤ q ∧ q < c + 2 + 16 * 0 then _ else if q = c then _ else if q = c + 1 then _ else h.1 q)
  rw [if_neg (show ¬ (c + 2 ≤ q ∧ q < c + 2 + 16 * 0) by omega)]
  have e : kF c 0 = fun _ => none := by funext k; unfold kF; rw [if_neg (by omega)]
  by_cases c1 : q = c
  · subst c1
    rw [if_pos (show q ≤ q ∧ q < q + 2 by omega), if_pos rfl, Nat.sub_self]; rfl
  · by_cases c2 : q = c + 1
    · subst c2
      rw [if_pos (show c ≤ c + 1 ∧ c + 1 < c + 2 by omega), if_neg (by omega), if_pos rfl, show c + 1 - c = 1 by omega, e]; rfl
    · rw [if_neg (show ¬ (c ≤ q ∧ q < c + 2) by omega), if_neg c1, if_neg c2]
theorem kS_up (G : ev_G) (c : Nat) (h : ev_H) (i : Nat) : ev_put (ch G (c + 2 + 16 * i) (sBeg cs_0 1) ((kS G c h i).1, some (c + 2 + 16 * i + 16))) (c + 1) (.inl (G.2.1 4, 8, .inr (.inr (.inr (.inr (ev_u (kF c i) i (some (c + 2 + 16 * i)))))))) = kS G c h (i + 1) := by
  refine Prod.ext (funext fun q => ?_) (by show some (c + 2 + 16 * i + 16) = some (c + 2 + 16 * (i + 1)); congr 1)
  have e : ev_u (kF c i) i (some (c + 2 + 16 * i)) = kF c (i + 1) := by
    funext k
    unfold ev_u kF
    by_cases c1 : k = i
    · subst c1; rw [if_pos rfl, if_pos (by omega)]
    · rw [if_neg c1]
      by_cases c2 : k < i
      · rw [if_pos c2, if_pos (by omega)]
      · rw [if_neg c2, if_neg (by omega)]
  show (if q = c + 1 then _ else (if c + 2 + 16 * i ≤ q ∧ q < c + 2 + 16 * i + 16 then some (ch_cell G (c + 2 + 16 * i) (sBeg cs_0 1) (q - (c + 2 + 16 * i))) else (if c + 2 ≤ q ∧ q < c + 2 + 16 * i then _ else if q = c then _ else if q = c + 1 then _ else h.1 q))) = (if c + 2 ≤ q ∧ q < c + 2 + 16 * (i + 1) then _ else if q = c then _ else if q = c + 1 then _ else h.1 q)
  by_cases c1 : q = c + 1
  · rw [if_pos c1, if_neg (show ¬ (c + 2 ≤ q ∧ q < c + 2 + 16 * (i + 1)) by omega), if_neg (by omega), if_pos c1, e]
  · rw [if_neg c1]
    by_cases c2 : c + 2 + 16 * i ≤ q ∧ q < c + 2 + 16 * i + 16
    · rw [if_pos c2, if_pos (show c + 2 ≤ q ∧ q < c + 2 + 16 * (i + 1) by omega), show (q - (c + 2)) / 16 = i by omega, show (q - (c + 2)) % 16 = q - (c + 2 + 16 * i) by omega]
    · rw [if_neg c2]
      by_cases c3 : c + 2 ≤ q ∧ q < c + 2 + 16 * i
      · rw [if_pos c3, if_pos (show c + 2 ≤ q ∧ q < c + 2 + 16 * (i + 1) by omega)]
      · rw [if_neg c3, if_neg (show ¬ (c + 2 ≤ q ∧ q < c + 2 + 16 * (i + 1)) by omega), if_neg c1, if_neg c1]
