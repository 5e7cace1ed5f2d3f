/-! heaps that grow: a list of cells from c on, the next cell comes to lie behind them -/
def pk (c : Nat) (es : List va_E) (h : ev_H) : ev_H := (fun q => if c ≤ q ∧ q < c + es.length then es[q - c]? else h.1 q, some (c + es.length))
theorem pk_at {c : Nat} {es : List va_E} {h : ev_H} {j : Nat} {e : va_E} (hj : es[j]? = some e) : (pk c es h).1 (c + j) = some e := by
  have hl : j < es.length := (List.getElem?_eq_some_iff.mp hj).1
  show (if c ≤ c + j ∧ c + j < c + es.length then es[c + j - c]? else h.1 (c + j)) = _
  rw [if_pos ⟨by omega, by omega⟩, show c + j - c = j by omega, hj]
theorem pk_sz (c : Nat) (es : List va_E) (h : ev_H) : (pk c es h).2 = some (c + es.length) := rfl
theorem pk_new (c : Nat) (es : List va_E) (h : ev_H) (e : va_E) {z : Nat} (hz : z = c + es.length) : ev_new (pk c es h) z e = pk c (es ++ [e]) h := by
  subst hz
  refine Prod.ext (funext fun q => ?_) ?_
  · show (if q = c + es.length then some e else (if c ≤ q ∧ q < c + es.length then es[q - c]? else h.1 q)) = (if c ≤ q ∧ q < c + (es ++ [e]).length then (es ++ [e])[q - c]? else h.1 q)
    rw [List.length_append, show [e].length = 1 from rfl]
    by_cases c1 : q = c + es.length
    · rw [if_pos c1, if_pos (by omega), List.getElem?_append_right (by omega), show q - c - es.length = 0 by omega]
      rfl
    · rw [if_neg c1]
      by_cases c2 : c ≤ q ∧ q < c + es.length
      · rw [if_pos c2, if_pos (by omega), List.getElem?_append_left (by omega)]
      · rw [if_neg c2, if_neg (by omega)]
  · show some (c + es.length + 1) = some (c + (es ++ [e]).length)
    rw [List.length_append]
    rfl
theorem pk_put (c : Nat) (es : List va_E) (h : ev_H) (e : va_E) {j : Nat} (hj : j < es.length) : ev_put (pk c es h) (c + j) e = pk c (es.set j e) h := by
  refine Prod.ext (funext fun q => ?_) ?_
  · show (if q = c + j then some e else (if c ≤ q ∧ q < c + es.length then es[q - c]? else h.1 q)) = (if c ≤ q ∧ q < c + (es.set j e).length then (es.set j e)[q - c]? else h.1 q)
    rw [List.length_set]
    by_cases c1 : q = c + j
    · rw [if_pos c1, if_pos (by omega), show q - c = j by omega, List.getElem?_set_self hj]
    · rw [if_neg c1]
      by_cases c2 : c ≤ q ∧ q < c + es.length
      · rw [if_pos c2, if_pos c2, List.getElem?_set_ne (by omega)]
      · rw [if_neg c2, if_neg c2]
  · show some (c + es.length) = some (c + (es.set j e).length)
    rw [List.length_set]
