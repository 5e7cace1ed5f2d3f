/-! whole numbers: what ints and longs are where nothing overflows -/
theorem ar_bm {n : Int} (h1 : -2147483648 ≤ n) (h2 : n < 2147483648) : n.bmod (2 ^ 32) = n := by
  have h := Int.bmod_eq_of_le (n := n) (m := 2 ^ 32)
  exact h (by simp; omega) (by simp; omega)
theorem ar_bmL {n : Int} (h1 : -9223372036854775808 ≤ n) (h2 : n < 9223372036854775808) : n.bmod (2 ^ 64) = n := by
  have h := Int.bmod_eq_of_le (n := n) (m := 2 ^ 64)
  exact h (by simp; omega) (by simp; omega)
theorem ar_r (x : Int32) : -2147483648 ≤ x.toInt ∧ x.toInt < 2147483648 := by
  have h1 := Int32.le_toInt x
  have h2 := Int32.toInt_lt x
  constructor
  · simpa using h1
  · simpa using h2
theorem ar_add {x y : Int32} (h1 : -2147483648 ≤ x.toInt + y.toInt) (h2 : x.toInt + y.toInt < 2147483648) : (x + y).toInt = x.toInt + y.toInt := by rw [Int32.toInt_add, ar_bm h1 h2]
theorem ar_sub {x y : Int32} (h1 : -2147483648 ≤ x.toInt - y.toInt) (h2 : x.toInt - y.toInt < 2147483648) : (x - y).toInt = x.toInt - y.toInt := by rw [Int32.toInt_sub, ar_bm h1 h2]
theorem ar_mul {x y : Int32} (h1 : -2147483648 ≤ x.toInt * y.toInt) (h2 : x.toInt * y.toInt < 2147483648) : (x * y).toInt = x.toInt * y.toInt := by rw [Int32.toInt_mul, ar_bm h1 h2]
theorem ar_neg {x : Int32} (h2 : x.toInt ≠ -2147483648) : (-x).toInt = -x.toInt := by
  have := ar_r x
  rw [Int32.toInt_neg, ar_bm (by omega) (by omega)]
theorem ar_addL {x y : Int64} (h1 : -9223372036854775808 ≤ x.toInt + y.toInt) (h2 : x.toInt + y.toInt < 9223372036854775808) : (x + y).toInt = x.toInt + y.toInt := by rw [Int64.toInt_add, ar_bmL h1 h2]
theorem ar_subL {x y : Int64} (h1 : -9223372036854775808 ≤ x.toInt - y.toInt) (h2 : x.toInt - y.toInt < 9223372036854775808) : (x - y).toInt = x.toInt - y.toInt := by rw [Int64.toInt_sub, ar_bmL h1 h2]
theorem ar_mulL {x y : Int64} (h1 : -9223372036854775808 ≤ x.toInt * y.toInt) (h2 : x.toInt * y.toInt < 9223372036854775808) : (x * y).toInt = x.toInt * y.toInt := by rw [Int64.toInt_mul, ar_bmL h1 h2]
theorem ar_32 {x : Int64} (h1 : -2147483648 ≤ x.toInt) (h2 : x.toInt < 2147483648) : x.toInt32.toInt = x.toInt := by rw [Int64.toInt_toInt32, ar_bm h1 h2]
theorem ar_0 : (0 : Int32).toInt = 0 := by decide +kernel
theorem ar_1 : (1 : Int32).toInt = 1 := by decide +kernel
theorem ar_12 : (12 : Int32).toInt = 12 := by decide +kernel
theorem ar_13 : (13 : Int32).toInt = 13 := by decide +kernel
theorem ar_16 : (16 : Int32).toInt = 16 := by decide +kernel
theorem ar_32c : (32 : Int32).toInt = 32 := by decide +kernel
theorem ar_i1 : Int32.ofInt 1 = 1 := by decide +kernel
theorem ar_im1 : Int32.ofInt (-1) = -1 := by decide +kernel
theorem ar_m1 : (-1 : Int32).toInt = -1 := by decide +kernel
/-- an index goes up -/
theorem ar_inc {x : Int32} {i : Nat} (h : x.toInt = (i : Int)) (hi : i < 2147483647) : (x + Int32.ofInt 1).toInt = ((i + 1 : Nat) : Int) := by
  rw [ar_i1, ar_add (by rw [h, ar_1]; omega) (by rw [h, ar_1]; omega), h, ar_1]
  omega
theorem ar_nat {x : Int32} {i : Nat} (h : x.toInt = (i : Int)) : x.toInt.toNat = i := by rw [h]; rfl
theorem ar_eq {x y : Int32} (h : x.toInt = y.toInt) : x = y := Int32.toInt_inj.mp h
theorem ar_eqL {x y : Int64} (h : x.toInt = y.toInt) : x = y := Int64.toInt_inj.mp h
theorem ar_ite0 {p : Prop} (hd : Decidable p) : (if p then (0 : Int32) else 1) = 0 ↔ p := by
  by_cases h : p <;> simp [h]
theorem ar_lcmp0 {x y : Int64} : lg_cmp x y = 0 ↔ x = y := by
  unfold lg_cmp
  constructor
  · intro h
    apply ar_eqL
    by_cases h1 : y < x
    · simp [h1] at h
    · by_cases h2 : x < y
      · simp [h1] at h
        rw [h]
      · have a1 := (not_congr Int64.lt_iff_toInt_lt).mp h1
        have a2 := (not_congr Int64.lt_iff_toInt_lt).mp h2
        omega
  · rintro rfl
    simp
