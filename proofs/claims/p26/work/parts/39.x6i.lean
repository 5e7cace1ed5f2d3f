/-! towards the constructor of SpringChain: cells beneath chains -/
theorem ch_put_out (G : ev_G) (c : Nat) (σ : CS) (h : ev_H) (q : Nat) (e : va_E) (hq : q < c ∨ c + 15 ≤ q) : ev_put (ch G c σ h) q e = ch G c σ (ev_put h q e) := by
  refine Prod.ext (funext fun x => ?_) rfl
  show (if x = q then some e else (if c ≤ x ∧ x < c + 15 then some (ch_cell G c σ (x - c)) else h.1 x)) = (if c ≤ x ∧ x < c + 15 then some (ch_cell G c σ (x - c)) else (if x = q then some e else h.1 x))
  by_cases c1 : x = q
  · rw [if_pos c1, if_neg (by omega), if_pos c1]
  · rw [if_neg c1, if_neg c1]
