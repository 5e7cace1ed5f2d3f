/-! a step's end -/
def KK (dn : Nat) (BB : Nat → Nat → Nat) (tt : Nat → CS) (nn : Nat → Nat) (mm : Nat → Nat → TI) : KPT := fun B τ n m => ∃ j, j < dn ∧ j < 9 ∧ B = BB j ∧ τ = tt j ∧ n = nn j ∧ m = mm j
def hsl (S : SS) (j : Nat) : Nat := 2 + ((S.1 3).toInt.toNat + 7 - j) % 8
def HP (S : SS) (dn : Nat) (BB : Nat → Nat → Nat) (tt : Nat → CS) (nn : Nat → Nat) (mm : Nat → Nat → TI) (g : Nat → Option Nat) : Prop :=
  (∀ j, j < dn → j < 9 → g j = some (BB j 0) ∧ sNm (tt j) ≤ 6) ∧ (∀ j, dn ≤ j → j < 9 → g j = none) ∧ (∀ j, j < dn → j < 8 → vis (tt j) (S.2.2.2 (hsl S j)) ∧ IV 1000 (S.2.2.2 (hsl S j)) (nn j) (mm j)) ∧ ((dn : Int) ≤ (S.1 2).toInt ∨ (S.1 2).toInt = 8)
def LH (G : ev_G) (b u r q8 c0 N : Nat) (T : Int) (x9 : Int32) (a : ev_H) : Prop := ∃ (S : SS) (A : Nat → Nat) (nI : Nat) (mI : Nat → TI) (g : Nat → Option Nat) (dn : Nat) (BB : Nat → Nat → Nat) (tt : Nat → CS) (nn : Nat → Nat) (mm : Nat → Nat → TI) (z : Nat), ST G b u r q8 (KK dn BB tt nn mm) S A (S.2.2.2 0) nI mI g a ∧ HP S dn BB tt nn mm g ∧ hOk S ∧ IV T (S.2.2.2 0) nI mI ∧ sNm (S.2.2.2 0) = N ∧ A 0 = c0 ∧ a.2 = some z ∧ S.1 0 = 0 ∧ x9.toInt = (dn : Int) ∧ 8 * (dn : Int) ≤ T
theorem HP.gok {S : SS} {dn : Nat} {BB : Nat → Nat → Nat} {tt : Nat → CS} {nn : Nat → Nat} {mm : Nat → Nat → TI} {g : Nat → Option Nat} (h : HP S dn BB tt nn mm g) : gok (KK dn BB tt nn mm) g := fun j hj => by
  by_cases c : j < dn
  · exact Or.inr ⟨BB j, tt j, nn j, mm j, ⟨j, c, hj, rfl, rfl, rfl, rfl⟩, (h.1 j c hj).1⟩
  · exact Or.inl (h.2.1 j (by omega) hj)
theorem gok_sh {K : KPT} {g : Nat → Option Nat} (h : gok K g) (x : Nat) : gok K (gsh g x) := fun j hj => by
  unfold gsh
  by_cases c : x < j ∧ j < 9
  · rw [if_pos c]; exact h (j - 1) (by omega)
  · rw [if_neg c]; exact h j hj
theorem gok_mo {K K' : KPT} {g : Nat → Option Nat} (h : gok K g) (hK : ∀ B τ n m, K B τ n m → K' B τ n m) : gok K' g := fun j hj => by
  rcases h j hj with c | ⟨B, τ, n, m, c1, c2⟩
  · exact Or.inl c
  · exact Or.inr ⟨B, τ, n, m, hK B τ n m c1, c2⟩
/-- the history goes on -/
theorem HP.push {S : SS} {dn : Nat} {BB : Nat → Nat → Nat} {tt : Nat → CS} {nn : Nat → Nat} {mm : Nat → Nat → TI} {g : Nat → Option Nat} {T : Int} {nI : Nat} {mI : Nat → TI} {B0 : Nat → Nat} {σ2 : CS} (h : HP S dn BB tt nn mm g) (hh : hOk S) (hI : IV T (S.2.2.2 0) nI mI) (hT : T ≤ 1000) (hN : sNm (S.2.2.2 0) ≤ 6) : HP (ss_C (sKeep S) 0 σ2) (dn + 1) (fun j => if j = 0 then B0 else BB (j - 1)) (fun j => if j = 0 then S.2.2.2 0 else tt (j - 1)) (fun j => if j = 0 then nI else nn (j - 1)) (fun j => if j = 0 then mI else mm (j - 1)) (ev_u (gsh g 0) 0 (some (B0 0))) ∧ hOk (ss_C (sKeep S) 0 σ2) ∧ (ss_C (sKeep S) 0 σ2).1 0 = S.1 0 := by
  have w8 := ar_8
  have e3 : (ss_C (sKeep S) 0 σ2).1 3 = if (S.1 3).toInt + 1 < 8 then S.1 3 + 1 else 0 := rfl
  have e2 : (ss_C (sKeep S) 0 σ2).1 2 = if (S.1 2).toInt < 8 then S.1 2 + 1 else 8 := rfl
  have e0 : (ss_C (sKeep S) 0 σ2).1 0 = S.1 0 := rfl
  have es : ∀ i, 2 ≤ i → (ss_C (sKeep S) 0 σ2).2.2.2 i = ev_u S.2.2.2 (2 + (S.1 3).toInt.toNat) (sBec (S.2.2.2 (2 + (S.1 3).toInt.toNat)) (S.2.2.2 0)) i := fun i hi => ev_u_ne _ _ (by omega)
  have n3 : ((ss_C (sKeep S) 0 σ2).1 3).toInt = if (S.1 3).toInt + 1 < 8 then (S.1 3).toInt + 1 else 0 := by
    rw [e3]
    by_cases c : (S.1 3).toInt + 1 < 8
    · rw [if_pos c, if_pos c, h_inc8 hh.2.1 (by omega)]
    · rw [if_neg c, if_neg c, ar_0]
  have n2 : ((ss_C (sKeep S) 0 σ2).1 2).toInt = if (S.1 2).toInt < 8 then (S.1 2).toInt + 1 else 8 := by
    rw [e2]
    by_cases c : (S.1 2).toInt < 8
    · rw [if_pos c, if_pos c, h_inc8 hh.1.1 (by omega)]
    · rw [if_neg c, if_neg c, w8]
  obtain ⟨h1, h2, h3, h4⟩ := h
  obtain ⟨⟨hc0, hc1⟩, hn0, hn1⟩ := hh
  refine ⟨⟨fun j hj hj9 => ?_, fun j hj hj9 => ?_, fun j hj hj8 => ?_, ?_⟩, ⟨?_, ?_⟩, e0⟩
  · dsimp only
    by_cases c : j = 0
    · subst c; exact ⟨by rw [ev_u_self, if_pos rfl], by rw [if_pos rfl]; exact hN⟩
    · rw [ev_u_ne _ _ c, if_neg c, if_neg c]
      unfold gsh
      rw [if_pos (by omega)]
      exact h1 (j - 1) (by omega) (by omega)
  · rw [ev_u_ne _ _ (by omega)]
    unfold gsh
    rw [if_pos (by omega)]
    exact h2 (j - 1) (by omega) (by omega)
  · unfold hsl
    rw [n3, es _ (by omega)]
    dsimp only
    by_cases c : j = 0
    · subst c
      rw [if_pos rfl, if_pos rfl, if_pos rfl]
      have ei : 2 + ((if (S.1 3).toInt + 1 < 8 then (S.1 3).toInt + 1 else 0).toNat + 7 - 0) % 8 = 2 + (S.1 3).toInt.toNat := by
        by_cases c : (S.1 3).toInt + 1 < 8
        · rw [if_pos c]; omega
        · rw [if_neg c]; omega
      rw [ei, ev_u_self]
      exact ⟨vis_bec _ hI.1 hI.2.1.1, (hI.bec _).up hT⟩
    · rw [if_neg c, if_neg c, if_neg c]
      have ei : 2 + ((if (S.1 3).toInt + 1 < 8 then (S.1 3).toInt + 1 else 0).toNat + 7 - j) % 8 = hsl S (j - 1) := by
        unfold hsl
        by_cases c : (S.1 3).toInt + 1 < 8
        · rw [if_pos c]; omega
        · rw [if_neg c]; omega
      have ne : hsl S (j - 1) ≠ 2 + (S.1 3).toInt.toNat := by unfold hsl; omega
      rw [ei, ev_u_ne _ _ ne]
      exact h3 (j - 1) (by omega) (by omega)
  · rw [n2]
    by_cases c : (S.1 2).toInt < 8
    · rw [if_pos c]; omega
    · rw [if_neg c]; omega
  · rw [n2]
    by_cases c : (S.1 2).toInt < 8
    · rw [if_pos c]; omega
    · rw [if_neg c]; omega
  · rw [n3]
    by_cases c : (S.1 3).toInt + 1 < 8
    · rw [if_pos c]; omega
    · rw [if_neg c]; omega
section LWE
variable {G : ev_G} {l : Launch} {J : ev_K} {k n : Nat} {a : ev_H} {b u r q8 z pB N j : Nat} {K : KPT} {S : SS} {A : Nat → Nat} {nI : Nat} {mI : Nat → TI} {g : Nat → Option Nat} {q0 : Nat} {x2 x7 x9 x10 k13 i14 : Int32} {T : Int}
set_option maxRecDepth 20000 in
theorem lp_sh {σ : CS} {c0 : Nat} {fl : Int32} (hub : ¬ (b ≤ u ∧ u < b + 157)) (hq8 : q8 ≠ b + 36) (hl0 : l.stackTraces = false) (hJ : 15 ≤ J.2.2.1) (hg : gok K g) (hN : sNm σ ≤ 6) (hK : ∀ B τ n m, K B τ n m → sNm τ ≤ 6) (hk : ∀ a, ST G b u r q8 K S A σ nI mI (gsh g 0) a → a.2 = some z → ev_V G l mL_law J 1174 [some (.ref q0), some (.int 1), some (.int x2), some (.ref b), some (.ref u), some (.ref r), some (.ref c0), some (.int x7), some (.ref q8), some (.int x9), some (.int x10), some (.ref pB), some (.int fl)] [] a k n) : ∀ (i : Nat) (x : Int32) (a : ev_H), x.toInt = (i : Int) → i ≤ 8 → ST G b u r q8 K S A σ nI mI (gsh g i) a → a.2 = some z → ev_V G l mL_law J 1151 [some (.ref q0), some (.int 1), some (.int x2), some (.ref b), some (.ref u), some (.ref r), some (.ref c0), some (.int x7), some (.ref q8), some (.int x9), some (.int x10), some (.ref pB), some (.int fl), none, none, some (.int x)] [] a k n := by
  have wm : (Int32.ofInt (-1)).toInt = -1 := by decide +kernel
  intro i
  induction i with
  | zero =>
    intro x a hx hi h hz
    refine e_iload dL_law_1151 rfl ?_
    refine e_if_le (tgt := 1174) dL_law_1153 (by decide) (fun _ => ev_lc (hk a h hz) ⟨rfl, rfl, rfl, rfl, rfl, rfl, rfl, rfl, rfl, rfl, rfl, rfl, rfl, trivial⟩) (fun c9 => absurd c9 (by omega))
  | succ i ih =>
    intro x a hx hi h hz
    have hx1 : (x - 1).toInt = (i : Int) := by rw [ar_sub (by rw [ar_1]; omega) (by rw [ar_1]; omega), ar_1]; omega
    have hn1 := ar_nat hx1
    refine e_iload dL_law_1151 rfl ?_
    refine e_if_le (tgt := 1174) dL_law_1153 (by decide) (fun c9 => absurd c9 (by omega)) (fun _ => ?_)
    refine e_aload dL_law_1156 rfl ?_
    refine e_iload dL_law_1158 rfl ?_
    refine e_aload dL_law_1160 rfl ?_
    refine e_iload dL_law_1162 rfl ?_
    refine e_iconst (v := 1) dL_law_1164 (by decide) ?_
    refine e_isub dL_law_1165 ?_
    refine e_aald (t0 := 6) h.2.2.2.1 rfl rfl (by omega) (by omega) dL_law_1166 ?_
    rw [hn1, show gsh g (i + 1) i = g i from if_neg (by omega)]
    refine st_aast h (gok_sh hg _) hq8 hN hK (hg i (by omega)) hx (by omega) dL_law_1167 ?_
    intro a2 h2 hz2
    rw [gsh_up g (by omega)] at h2
    refine e_iinc dL_law_1168 rfl rfl (Nat.le_of_ble_eq_true rfl) ?_
    refine e_goto (tgt := 1151) dL_law_1171 (by decide) ?_
    refine ev_lc (ih _ a2 ?_ (by omega) h2 (hz2.trans hz)) ⟨rfl, rfl, rfl, rfl, rfl, rfl, rfl, rfl, rfl, rfl, rfl, rfl, rfl, rfl, trivial⟩
    rw [ar_add (by rw [wm]; omega) (by rw [wm]; omega), wm]
    omega
set_option maxRecDepth 20000 in
theorem lw_tail {c0 dn : Nat} {BB : Nat → Nat → Nat} {tt : Nat → CS} {nn : Nat → Nat} {mm : Nat → Nat → TI} {B0 : Nat → Nat} (hub : ¬ (b ≤ u ∧ u < b + 157)) (hq8 : q8 ≠ b + 36) (hl0 : l.stackTraces = false) (hJ : 15 ≤ J.2.2.1) (hP : HP S dn BB tt nn mm g) (hh : hOk S) (hI : IV T (S.2.2.2 0) nI mI) (hT : T ≤ 900) (hN : sNm (S.2.2.2 0) = N) (hN6 : N ≤ 6) (hpB : B0 0 = pB) (h0 : S.1 0 = 0) (h9 : x9.toInt = (dn : Int)) (hdn : 8 * (dn : Int) ≤ T) (hk : ∀ (y9 : Int32) (a : ev_H), LH G b u r q8 c0 N (T + 8) y9 a → ev_V G l mL_law J 262 [some (.ref q0), some (.int 1), some (.int x2), some (.ref b), some (.ref u), some (.ref r), some (.ref c0), some (.int x7), some (.ref q8), some (.int y9), some (.int (x10 + Int32.ofInt 1))] [] a k n) (fl : Int32) (S2 : SS) (A2 : Nat → Nat) (σ2 : CS) (n2 : Nat) (m2 : Nat → TI) (a2 : ev_H) (z2 : Nat) (hS2 : (fl = 0 ∧ S2 = S) ∨ (fl = 1 ∧ S2 = ss_C (sKeep S) 0 σ2)) (h : ST G b u r q8 (fun B τ n m => KK dn BB tt nn mm B τ n m ∨ (B = B0 ∧ τ = S.2.2.2 0 ∧ n = nI ∧ m = mI)) S2 A2 σ2 n2 m2 g a2) (hσ : S2.2.2.2 0 = σ2) (hI2 : IV (T + 8) σ2 n2 m2) (hN2 : sNm σ2 = N) (hA : A2 0 = c0) (hz : a2.2 = some z2) : ev_V G l mL_law J 1142 [some (.ref q0), some (.int 1), some (.int x2), some (.ref b), some (.ref u), some (.ref r), some (.ref c0), some (.int x7), some (.ref q8), some (.int x9), some (.int x10), some (.ref pB), some (.int fl)] [] a2 (k + 25) (n + 150) := by
  have fin : ∀ (y9 : Int32) (K3 : KPT) (g3 : Nat → Option Nat) (a3 : ev_H) (z3 : Nat), ST G b u r q8 K3 S2 A2 σ2 n2 m2 g3 a3 → a3.2 = some z3 → (∀ (a4 : ev_H) (z4 : Nat), ST G b u r q8 K3 S2 A2 σ2 n2 m2 g3 a4 → a4.2 = some z4 → LH G b u r q8 c0 N (T + 8) y9 a4) → ev_V G l mL_law J 1183 [some (.ref q0), some (.int 1), some (.int x2), some (.ref b), some (.ref u), some (.ref r), some (.ref c0), some (.int x7), some (.ref q8), some (.int y9), some (.int x10)] [] a3 (k + 25) (n + 150) := by
    intro y9 K3 g3 a3 z3 h hz hLH
    subst hσ
    subst hA
    refine e_iload_n dL_law_1183 rfl rfl ?_
    refine e_if_eq (tgt := 1200) dL_law_1184 (by decide) (fun q => absurd q (by decide)) (fun _ => ?_)
    refine e_aload_n dL_law_1187 rfl rfl ?_
    refine e_aload dL_law_1188 rfl ?_
    refine st_agr h hq8 hub hl0 h.2.2.2.2.1 hI2 wM_L_239 dL_law_1190 (Nat.le_of_ble_eq_true rfl) (Nat.le_trans (Nat.le_of_ble_eq_true rfl) hJ) ?_
    intro a_g z h hz
    refine e_if_eq (tgt := 1200) dL_law_1193 (by decide) (fun q => absurd q (by decide)) (fun _ => ?_)
    refine e_iconst (v := 1) dL_law_1196 (by decide) ?_
    refine e_goto (tgt := 1201) dL_law_1197 (by decide) ?_
    refine e_istore_n dL_law_1201 rfl (Nat.le_of_ble_eq_true rfl) ?_
    refine e_iinc dL_law_1202 rfl rfl (Nat.le_of_ble_eq_true rfl) ?_
    refine e_goto (tgt := 262) dL_law_1205 (by decide) ?_
    exact ev_lc (hk y9 _ (hLH _ _ h hz)) ⟨rfl, rfl, rfl, rfl, rfl, rfl, rfl, rfl, rfl, rfl, rfl, trivial⟩
  rcases hS2 with ⟨rfl, e9⟩ | ⟨rfl, e9⟩
  · subst e9
    subst hσ
    have h' := h.less (K' := KK dn BB tt nn mm) (fun B τ n m q => Or.inl q)
    refine e_iload dL_law_1142 rfl ?_
    refine e_if_eq (tgt := 1183) dL_law_1144 (by decide) (fun _ => ?_) (fun q => absurd rfl q)
    refine ev_lc (fin x9 _ g a2 z2 h' hz (fun a4 z4 h4 hz4 => ⟨S2, A2, n2, m2, g, dn, BB, tt, nn, mm, z4, h4, hP, hh, hI2, hN2, hA, hz4, h0, h9, by omega⟩)) ⟨rfl, rfl, rfl, rfl, rfl, rfl, rfl, rfl, rfl, rfl, rfl, trivial⟩
  · subst e9
    have hgo : gok (fun B τ n m => KK dn BB tt nn mm B τ n m ∨ (B = B0 ∧ τ = S.2.2.2 0 ∧ n = nI ∧ m = mI)) g := gok_mo hP.gok (fun B τ n m q => Or.inl q)
    have hKN : ∀ (B : Nat → Nat) (τ : CS) (n : Nat) (m : Nat → TI), (KK dn BB tt nn mm B τ n m ∨ (B = B0 ∧ τ = S.2.2.2 0 ∧ n = nI ∧ m = mI)) → sNm τ ≤ 6 := fun B τ n m q => by
      rcases q with ⟨j, q1, q2, -, rfl, -, -⟩ | ⟨-, rfl, -, -⟩
      · exact (hP.1 j q1 q2).2
      · omega
    refine e_iload dL_law_1142 rfl ?_
    refine e_if_eq (tgt := 1183) dL_law_1144 (by decide) (fun q => absurd q (by decide)) (fun _ => ?_)
    refine e_bipush (v := 8) dL_law_1147 (by decide) ?_
    refine e_istore dL_law_1149 (Nat.le_of_ble_eq_true rfl) ?_
    refine ev_loc (L' := [some (.ref q0), some (.int 1), some (.int x2), some (.ref b), some (.ref u), some (.ref r), some (.ref c0), some (.int x7), some (.ref q8), some (.int x9), some (.int x10), some (.ref pB), some (.int 1), none, none, some (.int 8)]) ⟨rfl, rfl, rfl, rfl, rfl, rfl, rfl, rfl, rfl, rfl, rfl, rfl, rfl, rfl, trivial⟩ ?_
    refine lp_sh (σ := σ2) (g := g) hub hq8 hl0 hJ hgo (show sNm σ2 ≤ 6 by omega) hKN (fun a h hz => ?_) 8 8 a2 ar_8 (Nat.le_refl _) (by
      have e : gsh g 8 = g := funext fun j => if_neg (by omega)
      rw [e]; exact h) hz
    refine e_aload dL_law_1174 rfl ?_
    refine e_iconst (v := 0) dL_law_1176 (by decide) ?_
    refine e_aload dL_law_1177 rfl ?_
    refine st_aast (o := some pB) h (gok_sh hgo _) hq8 (by omega) hKN (Or.inr ⟨B0, S.2.2.2 0, nI, mI, Or.inr ⟨rfl, rfl, rfl, rfl⟩, by rw [hpB]⟩) ar_0 (by decide) dL_law_1179 ?_
    intro a3 h3 hz3
    refine e_iinc dL_law_1180 rfl rfl (Nat.le_of_ble_eq_true rfl) ?_
    have hpu := hP.push (B0 := B0) (σ2 := σ2) hh hI (by omega) (by omega)
    rw [hpB] at hpu
    refine ev_lc (fin (x9 + Int32.ofInt 1) (KK (dn + 1) (fun j => if j = 0 then B0 else BB (j - 1)) (fun j => if j = 0 then S.2.2.2 0 else tt (j - 1)) (fun j => if j = 0 then nI else nn (j - 1)) (fun j => if j = 0 then mI else mm (j - 1))) _ a3 _ (h3.less (fun B τ n m q => ?_)) (hz3.trans hz) (fun a4 z4 h4 hz4 => ⟨_, A2, n2, m2, _, dn + 1, _, _, _, _, z4, h4, hpu.1, hpu.2.1, hI2, hN2, hA, hz4, hpu.2.2.trans h0, ar_inc h9 (by omega), by omega⟩)) ⟨rfl, rfl, rfl, rfl, rfl, rfl, rfl, rfl, rfl, rfl, rfl, trivial⟩
    obtain ⟨j, j1, j2, rfl, rfl, rfl, rfl⟩ := q
    dsimp only
    by_cases c : j = 0
    · subst c; exact Or.inr ⟨rfl, rfl, rfl, rfl⟩
    · rw [if_neg c, if_neg c, if_neg c, if_neg c]
      exact Or.inl ⟨j - 1, by omega, by omega, rfl, rfl, rfl, rfl⟩
end LWE
