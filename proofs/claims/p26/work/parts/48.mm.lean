/-! rows of arithmetic -/
def mWi (v m : Int64) : Int64 := if m.toInt < v.toInt then m else if v.toInt < (-m).toInt then -m else v
def fillL (i : Nat) (g F : Nat → Int64) : Nat → Int64 := fun j => if j < i then g j else F j
theorem fillL_0 (g F : Nat → Int64) : fillL 0 g F = F := by funext j; simp [fillL]
theorem fillL_up (i : Nat) (g F : Nat → Int64) (v : Int64) (hv : v = g i) : ev_u (fillL i g F) i v = fillL (i + 1) g F := by
  funext j
  by_cases h : j = i
  · subst h; simp [ev_u, fillL, hv]
  · by_cases h2 : j < i
    · simp [ev_u, fillL, h, h2, Nat.lt_succ_of_lt h2]
    · simp [ev_u, fillL, h, h2, show ¬ j < i + 1 by omega]
theorem fillL_lt {i j : Nat} (g F : Nat → Int64) (h : j < i) : fillL i g F j = g j := if_pos h
theorem ar_dl0 {x : Int32} (h : ¬ lg_cmp x.toInt64 0 = 0) : ¬ x.toInt = 0 := fun q => h (ar_lcmp0.mpr (by rw [ar_eq (q.trans ar_0.symm)]; decide +kernel))
theorem ar_de0 {x : Int32} (h : lg_cmp x.toInt64 0 = 0) : x.toInt = 0 := by have := congrArg Int64.toInt (ar_lcmp0.mp h); rw [ar_64] at this; rw [this]; decide +kernel
theorem ar_dle {x : Int32} (h : (lg_cmp x.toInt64 0).toInt ≤ 0) : x.toInt ≤ 0 := by have := ar_lc_le h; rw [ar_64] at this; have z : (0 : Int64).toInt = 0 := (by decide +kernel); omega
theorem ar_dgt {x : Int32} (h : 0 < (lg_cmp x.toInt64 0).toInt) : 0 < x.toInt := by have := ar_lc_gt h; rw [ar_64] at this; have z : (0 : Int64).toInt = 0 := (by decide +kernel); omega
theorem ar_dge {x : Int32} (h : 0 ≤ (lg_cmp x.toInt64 0).toInt) : 0 ≤ x.toInt := by have := ar_lc_ge h; rw [ar_64] at this; have z : (0 : Int64).toInt = 0 := (by decide +kernel); omega
theorem ar_dlt {x : Int32} (h : (lg_cmp x.toInt64 0).toInt < 0) : x.toInt < 0 := by have := ar_lc_lt h; rw [ar_64] at this; have z : (0 : Int64).toInt = 0 := (by decide +kernel); omega
theorem sSgn_p {σ : CS} {j : Nat} (h : 0 < (σ.2.2 1 j).toInt) : sSgn σ j = 1 := if_pos h
theorem sSgn_n {σ : CS} {j : Nat} (h : (σ.2.2 1 j).toInt < 0) : sSgn σ j = -1 := (if_neg (by omega)).trans (if_pos h)
theorem sSgn_0 {σ : CS} {j : Nat} (h : (σ.2.2 1 j).toInt = 0) : sSgn σ j = 0 := (if_neg (by omega)).trans (if_neg (by omega))
theorem sDig_p {σ : CS} {j : Nat} (h : 0 < (σ.2.2 1 j).toInt) : sDig σ j = 1 := by unfold sDig; rw [sSgn_p h]; decide +kernel
theorem sDig_n {σ : CS} {j : Nat} (h : (σ.2.2 1 j).toInt < 0) : sDig σ j = 2 := by unfold sDig; rw [sSgn_n h]; decide +kernel
theorem sDig_0 {σ : CS} {j : Nat} (h : (σ.2.2 1 j).toInt = 0) : sDig σ j = 0 := by unfold sDig; rw [sSgn_0 h]; decide +kernel
theorem sSgn_rng (σ : CS) (j : Nat) : sSgn σ j = 0 ∨ sSgn σ j = 1 ∨ sSgn σ j = -1 := by
  unfold sSgn
  split
  · exact Or.inr (Or.inl rfl)
  · split
    · exact Or.inr (Or.inr rfl)
    · exact Or.inl rfl
theorem sNodT_rng (σ : CS) : ∀ i, (sNodT σ i).2 = 0 ∨ (sNodT σ i).2 = 1 ∨ (sNodT σ i).2 = -1
  | 0 => Or.inl rfl
  | i + 1 => by
    unfold sNodT
    split
    · exact sNodT_rng σ i
    · exact sSgn_rng σ i
theorem ar_labs {x : Int32} (h : -2147483648 < x.toInt) : (if (0 : Int64) < x.toInt64 then x.toInt64 else -x.toInt64).toInt = (sAbs x).toInt := by
  have z : (0 : Int64).toInt = 0 := by decide +kernel
  unfold sAbs
  have hr := ar_r x
  by_cases c : 0 < x.toInt
  · rw [if_pos (ar_lt64.mpr (by rw [z, ar_64]; exact c)), if_pos (Int32.le_iff_toInt_le.mpr (by rw [ar_0]; omega)), ar_64]
  · rw [if_neg (fun q => c (by have := ar_lt64.mp q; rwa [z, ar_64] at this)), Int64.toInt_neg, ar_64, ar_bmL (by omega) (by omega)]
    by_cases d : x.toInt = 0
    · rw [if_pos (Int32.le_iff_toInt_le.mpr (by rw [ar_0]; omega)), d]; rfl
    · rw [if_neg (fun q => by have := Int32.le_iff_toInt_le.mp q; rw [ar_0] at this; omega), ar_sub (by rw [ar_0]; omega) (by rw [ar_0]; omega), ar_0]
      omega
