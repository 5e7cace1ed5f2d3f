/-! a step, and the steps -/
section LWF
variable {G : ev_G} {l : Launch} {J : ev_K} {k n : Nat} {a : ev_H} {b u r q8 z pB N j : Nat} {K : KPT} {S : SS} {A : Nat → Nat} {nI : Nat} {mI : Nat → TI} {g : Nat → Option Nat} {q0 : Nat} {x2 x7 x9 x10 k13 i14 : Int32} {T : Int} {c0 : Nat}
set_option maxRecDepth 20000 in
theorem lw_step (hub : ¬ (b ≤ u ∧ u < b + 157)) (hq8 : q8 ≠ b + 36) (hl0 : l.stackTraces = false) (hJ : 15 ≤ J.2.2.1) (h7 : x7.toInt = (N : Int)) (hN1 : 1 ≤ N) (hN6 : N ≤ 6) (hT : T ≤ 900) (hk : ∀ (y9 : Int32) (a : ev_H), LH G b u r q8 c0 N (T + 8) y9 a → ev_V G l mL_law J 262 [some (.ref q0), some (.int 1), some (.int x2), some (.ref b), some (.ref u), some (.ref r), some (.ref c0), some (.int x7), some (.ref q8), some (.int y9), some (.int (x10 + Int32.ofInt 1))] [] a k n) (hL : LH G b u r q8 c0 N T x9 a) : ev_V G l mL_law J 273 [some (.ref q0), some (.int 1), some (.int x2), some (.ref b), some (.ref u), some (.ref r), some (.ref c0), some (.int x7), some (.ref q8), some (.int x9), some (.int x10)] [] a (k + 25 + 161 + 71) (n + 150 + 5702 + 220) := by
  obtain ⟨S, A, nI, mI, g, dn, BB, tt, nn, mm, z, h, hP, hh, hI, hN, rfl, hz, h0, h9, hdn⟩ := hL
  have hin := hI.1.2.2.1.nat
  have hx71 : (x7 + 1).toInt = x7.toInt + 1 := by rw [ar_add (by rw [ar_1]; omega) (by rw [ar_1]; omega), ar_1]
  refine e_top hz fun ht => ?_
  refine e_aload dL_law_273 rfl ?_
  refine e_invV (mcY := 71) (msY := 220) (ct_X7_copy h.2.2.2.2.1 hI.1 hI.2.1.1 (by omega) (by have := hI.2.2.2.1; omega) hz) vX7_copy wM_L_270 h.2.2.2.2.1.1.1 rfl dL_law_275 (as := []) rfl rfl (Nat.le_of_ble_eq_true rfl) (Nat.le_trans (Nat.le_of_ble_eq_true rfl) hJ) ?_
  rintro v c ⟨rfl, B, zB, eB, CB, sB, hz9, mB⟩
  have h := (h.sub sB).more CB (fun q hq hB => by
    obtain ⟨e, he, -⟩ := h.2.2.2.2.1.mue hq
    have := ht q e he
    have := mB q hB
    omega)
  have hz := hz9
  refine e_astore dL_law_278 (Nat.le_of_ble_eq_true rfl) ?_
  refine e_iconst (v := 1) dL_law_280 (by decide) ?_
  refine e_istore dL_law_281 (Nat.le_of_ble_eq_true rfl) ?_
  refine e_aload dL_law_283 rfl ?_
  refine e_iload dL_law_285 rfl ?_
  refine e_iconst (v := 1) dL_law_287 (by decide) ?_
  refine e_iadd dL_law_288 ?_
  refine st_bel h hz (by omega) wM_L_131 dL_law_289 (Nat.le_of_ble_eq_true rfl) (Nat.le_trans (Nat.le_of_ble_eq_true rfl) hJ) ?_
  intro y a_y y0 y1 h hz
  rw [hx71] at y1
  refine e_istore dL_law_292 (Nat.le_of_ble_eq_true rfl) ?_
  obtain ⟨j, h13⟩ : ∃ j : Nat, y.toInt = (j : Int) := ⟨y.toInt.toNat, by omega⟩
  have fin : ∀ i14 : Int32, i14 = (if j < N then 1 else 0) → ev_V G l mL_law J 306 [some (.ref q0), some (.int 1), some (.int x2), some (.ref b), some (.ref u), some (.ref r), some (.ref (A 0)), some (.int x7), some (.ref q8), some (.int x9), some (.int x10), some (.ref z), some (.int 1), some (.int y)] [.int i14] a_y (k + 25 + 161) (n + 150 + 5702) := by
    intro i14 h14
    refine e_istore dL_law_306 (Nat.le_of_ble_eq_true rfl) ?_
    refine e_aload dL_law_308 rfl ?_
    refine e_bipush (v := 9) dL_law_310 (by decide) ?_
    refine st_bel h hz (by decide +kernel) wM_L_131 dL_law_312 (Nat.le_of_ble_eq_true rfl) (Nat.le_trans (Nat.le_of_ble_eq_true rfl) hJ) ?_
    intro w a_w w0 w1 h hz
    have w_w : (9 : Int32).toInt = 9 := by decide +kernel
    rw [w_w] at w1
    have wi : ∀ i : Nat, i ≤ 8 → w.toInt = (i : Int) → (w.toInt - 0).toNat = i := fun i _ hi => by omega
    rcases (show w.toInt = 0 ∨ w.toInt = 1 ∨ w.toInt = 2 ∨ w.toInt = 3 ∨ w.toInt = 4 ∨ w.toInt = 5 ∨ w.toInt = 6 ∨ w.toInt = 7 ∨ w.toInt = 8 by omega) with e | e | e | e | e | e | e | e | e
    · exact e_tableIn (tgt := 360) (off := 45) dL_law_315 (by omega) (by omega) (by rw [wi 0 (by omega) (by omega)]; rfl) (by decide) (e_wide (k0 := k + 25 + 161) (n0 := n + 150 + 5702) (by omega) (by omega) (ev_lc (lw_0 (q0 := q0) (x2 := x2) (pB := z) hub hq8 hl0 hJ h hz hh hI (by omega) hN h7 hN1 hN6 h13 (by omega) h14 (fun fl S2 A2 σ2 n2 m2 a2 z2 p1 p2 p3 p4 p5 p6 p7 => lw_tail hub hq8 hl0 hJ hP hh hI hT hN hN6 eB h0 h9 hdn hk fl S2 A2 σ2 n2 m2 a2 z2 p1 p2 p3 p4 p5 p6 p7)) ⟨rfl, rfl, rfl, rfl, rfl, rfl, rfl, rfl, rfl, rfl, rfl, rfl, rfl, rfl, rfl, trivial⟩))
    · exact e_tableIn (tgt := 360) (off := 45) dL_law_315 (by omega) (by omega) (by rw [wi 1 (by omega) (by omega)]; rfl) (by decide) (e_wide (k0 := k + 25 + 161) (n0 := n + 150 + 5702) (by omega) (by omega) (ev_lc (lw_0 (q0 := q0) (x2 := x2) (pB := z) hub hq8 hl0 hJ h hz hh hI (by omega) hN h7 hN1 hN6 h13 (by omega) h14 (fun fl S2 A2 σ2 n2 m2 a2 z2 p1 p2 p3 p4 p5 p6 p7 => lw_tail hub hq8 hl0 hJ hP hh hI hT hN hN6 eB h0 h9 hdn hk fl S2 A2 σ2 n2 m2 a2 z2 p1 p2 p3 p4 p5 p6 p7)) ⟨rfl, rfl, rfl, rfl, rfl, rfl, rfl, rfl, rfl, rfl, rfl, rfl, rfl, rfl, rfl, trivial⟩))
    · exact e_tableIn (tgt := 440) (off := 125) dL_law_315 (by omega) (by omega) (by rw [wi 2 (by omega) (by omega)]; rfl) (by decide) (e_wide (k0 := k + 25 + 2) (n0 := n + 150 + 12) (by omega) (by omega) (ev_lc (lw_2 (q0 := q0) (x2 := x2) (pB := z) hub hq8 hl0 hJ h hz hh hI (by omega) hN h7 hN1 hN6 h13 (by omega) h14 (fun fl S2 A2 σ2 n2 m2 a2 z2 p1 p2 p3 p4 p5 p6 p7 => lw_tail hub hq8 hl0 hJ hP hh hI hT hN hN6 eB h0 h9 hdn hk fl S2 A2 σ2 n2 m2 a2 z2 p1 p2 p3 p4 p5 p6 p7)) ⟨rfl, rfl, rfl, rfl, rfl, rfl, rfl, rfl, rfl, rfl, rfl, rfl, rfl, rfl, rfl, trivial⟩))
    · exact e_tableIn (tgt := 561) (off := 246) dL_law_315 (by omega) (by omega) (by rw [wi 3 (by omega) (by omega)]; rfl) (by decide) (e_wide (k0 := k + 25 + 2) (n0 := n + 150 + 12) (by omega) (by omega) (ev_lc (lw_3 (q0 := q0) (x2 := x2) (pB := z) hub hq8 hl0 hJ h hz hh hI (by omega) hN h7 hN1 hN6 h13 (by omega) h14 (fun fl S2 A2 σ2 n2 m2 a2 z2 p1 p2 p3 p4 p5 p6 p7 => lw_tail hub hq8 hl0 hJ hP hh hI hT hN hN6 eB h0 h9 hdn hk fl S2 A2 σ2 n2 m2 a2 z2 p1 p2 p3 p4 p5 p6 p7)) ⟨rfl, rfl, rfl, rfl, rfl, rfl, rfl, rfl, rfl, rfl, rfl, rfl, rfl, rfl, rfl, trivial⟩))
    · exact e_tableIn (tgt := 689) (off := 374) dL_law_315 (by omega) (by omega) (by rw [wi 4 (by omega) (by omega)]; rfl) (by decide) (e_wide (k0 := k + 25 + 6) (n0 := n + 150 + 68) (by omega) (by omega) (ev_lc (lw_4 (q0 := q0) (x2 := x2) (pB := z) hub hq8 hl0 hJ h hz hh hI (by omega) hN h7 hN1 hN6 h13 (by omega) h14 (fun fl S2 A2 σ2 n2 m2 a2 z2 p1 p2 p3 p4 p5 p6 p7 => lw_tail hub hq8 hl0 hJ hP hh hI hT hN hN6 eB h0 h9 hdn hk fl S2 A2 σ2 n2 m2 a2 z2 p1 p2 p3 p4 p5 p6 p7)) ⟨rfl, rfl, rfl, rfl, rfl, rfl, rfl, rfl, rfl, rfl, rfl, rfl, rfl, rfl, rfl, trivial⟩))
    · exact e_tableIn (tgt := 854) (off := 539) dL_law_315 (by omega) (by omega) (by rw [wi 5 (by omega) (by omega)]; rfl) (by decide) (e_wide (k0 := k + 25 + 2) (n0 := n + 150 + 12) (by omega) (by omega) (ev_lc (lw_5 (q0 := q0) (x2 := x2) (pB := z) hub hq8 hl0 hJ h hz hh hI (by omega) hN h7 hN1 hN6 h13 (by omega) h14 (fun fl S2 A2 σ2 n2 m2 a2 z2 p1 p2 p3 p4 p5 p6 p7 => lw_tail hub hq8 hl0 hJ hP hh hI hT hN hN6 eB h0 h9 hdn hk fl S2 A2 σ2 n2 m2 a2 z2 p1 p2 p3 p4 p5 p6 p7)) ⟨rfl, rfl, rfl, rfl, rfl, rfl, rfl, rfl, rfl, rfl, rfl, rfl, rfl, rfl, rfl, trivial⟩))
    · exact e_tableIn (tgt := 942) (off := 627) dL_law_315 (by omega) (by omega) (by rw [wi 6 (by omega) (by omega)]; rfl) (by decide) (e_wide (k0 := k + 25 + 2) (n0 := n + 150 + 12) (by omega) (by omega) (ev_lc (lw_6 (q0 := q0) (x2 := x2) (pB := z) hub hq8 hl0 hJ h hz hh hI (by omega) hN h7 hN1 hN6 h13 (by omega) h14 (fun fl S2 A2 σ2 n2 m2 a2 z2 p1 p2 p3 p4 p5 p6 p7 => lw_tail hub hq8 hl0 hJ hP hh hI hT hN hN6 eB h0 h9 hdn hk fl S2 A2 σ2 n2 m2 a2 z2 p1 p2 p3 p4 p5 p6 p7)) ⟨rfl, rfl, rfl, rfl, rfl, rfl, rfl, rfl, rfl, rfl, rfl, rfl, rfl, rfl, rfl, trivial⟩))
    · exact e_tableIn (tgt := 1000) (off := 685) dL_law_315 (by omega) (by omega) (by rw [wi 7 (by omega) (by omega)]; rfl) (by decide) (e_wide (k0 := k + 25 + 1) (n0 := n + 150 + 6) (by omega) (by omega) (ev_lc (lw_7 (q0 := q0) (x2 := x2) (pB := z) hub hq8 hl0 hJ h hz hh hI (by omega) hN h7 hN1 hN6 h13 (by omega) h14 (fun fl S2 A2 σ2 n2 m2 a2 z2 p1 p2 p3 p4 p5 p6 p7 => lw_tail hub hq8 hl0 hJ hP hh hI hT hN hN6 eB h0 h9 hdn hk fl S2 A2 σ2 n2 m2 a2 z2 p1 p2 p3 p4 p5 p6 p7)) ⟨rfl, rfl, rfl, rfl, rfl, rfl, rfl, rfl, rfl, rfl, rfl, rfl, rfl, rfl, rfl, trivial⟩))
    · exact e_tableOut (tgt := 1094) dL_law_315 (Or.inr (by omega)) (by decide) (e_wide (k0 := k + 25 + 5) (n0 := n + 150 + 30) (by omega) (by omega) (ev_lc (lw_8 (q0 := q0) (x2 := x2) (pB := z) hub hq8 hl0 hJ h hz hh hI (by omega) hN h7 hN1 hN6 h13 (by omega) h14 (fun fl S2 A2 σ2 n2 m2 a2 z2 p1 p2 p3 p4 p5 p6 p7 => lw_tail hub hq8 hl0 hJ hP hh hI hT hN hN6 eB h0 h9 hdn hk fl S2 A2 σ2 n2 m2 a2 z2 p1 p2 p3 p4 p5 p6 p7)) ⟨rfl, rfl, rfl, rfl, rfl, rfl, rfl, rfl, rfl, rfl, rfl, rfl, rfl, rfl, rfl, trivial⟩))
  refine e_iload dL_law_294 rfl ?_
  refine e_iload dL_law_296 rfl ?_
  refine e_icmp_ge (tgt := 305) dL_law_298 (by decide) (fun c9 => ?_) (fun c9 => ?_)
  · refine e_iconst (v := 0) dL_law_305 (by decide) ?_
    exact ev_lc (fin 0 (if_neg (by omega)).symm) ⟨rfl, rfl, rfl, rfl, rfl, rfl, rfl, rfl, rfl, rfl, rfl, rfl, rfl, rfl, trivial⟩
  · refine e_iconst (v := 1) dL_law_301 (by decide) ?_
    refine e_goto (tgt := 306) dL_law_302 (by decide) ?_
    exact ev_lc (fin 1 (if_pos (by omega)).symm) ⟨rfl, rfl, rfl, rfl, rfl, rfl, rfl, rfl, rfl, rfl, rfl, rfl, rfl, rfl, trivial⟩
set_option maxRecDepth 20000 in
theorem lp_24 (hub : ¬ (b ≤ u ∧ u < b + 157)) (hq8 : q8 ≠ b + 36) (hl0 : l.stackTraces = false) (hJ : 15 ≤ J.2.2.1) (h7 : x7.toInt = (N : Int)) (hN1 : 1 ≤ N) (hN6 : N ≤ 6) (hk : ∀ (y9 y10 : Int32) (a : ev_H), LH G b u r q8 c0 N 192 y9 a → ev_V G l mL_law J 1208 [some (.ref q0), some (.int 1), some (.int x2), some (.ref b), some (.ref u), some (.ref r), some (.ref c0), some (.int x7), some (.ref q8), some (.int y9), some (.int y10)] [] a k n) : ∀ (q i : Nat) (x9 x10 : Int32) (a : ev_H), q + i = 24 → x10.toInt = (i : Int) → LH G b u r q8 c0 N (8 * (i : Int)) x9 a → ev_V G l mL_law J 262 [some (.ref q0), some (.int 1), some (.int x2), some (.ref b), some (.ref u), some (.ref r), some (.ref c0), some (.int x7), some (.ref q8), some (.int x9), some (.int x10)] [] a (k + 257 * q) (n + 6072 * q) := by
  have w24 : (24 : Int32).toInt = 24 := by decide +kernel
  intro q
  induction q with
  | zero =>
    intro i x9 x10 a hq hx h
    obtain rfl : i = 24 := by omega
    refine e_iload dL_law_262 rfl ?_
    refine e_bipush (v := 24) dL_law_264 (by decide) ?_
    refine e_icmp_ge (tgt := 1208) dL_law_266 (by decide) (fun _ => ev_lc (hk x9 x10 a h) ⟨rfl, rfl, rfl, rfl, rfl, rfl, rfl, rfl, rfl, rfl, rfl, trivial⟩) (fun c9 => absurd c9 (by omega))
  | succ q ih =>
    intro i x9 x10 a hq hx h
    refine e_iload dL_law_262 rfl ?_
    refine e_bipush (v := 24) dL_law_264 (by decide) ?_
    refine e_icmp_ge (tgt := 1208) dL_law_266 (by decide) (fun c9 => absurd c9 (by omega)) (fun _ => ?_)
    refine e_iload_n dL_law_269 rfl rfl ?_
    refine e_if_eq (tgt := 1208) dL_law_270 (by decide) (fun q => absurd q (by decide)) (fun _ => ?_)
    refine e_wide (k0 := k + 257 * q + 25 + 161 + 71) (n0 := n + 6072 * q + 150 + 5702 + 220) (by omega) (by omega) ?_
    exact ev_lc (lw_step (T := 8 * (i : Int)) hub hq8 hl0 hJ h7 hN1 hN6 (by omega) (fun y9 a h2 => ih (i + 1) y9 _ a (by omega) (ar_inc hx (by omega)) (by rw [show (8 : Int) * ((i + 1 : Nat) : Int) = 8 * (i : Int) + 8 by omega]; exact h2)) h) ⟨rfl, rfl, rfl, rfl, rfl, rfl, rfl, rfl, rfl, rfl, rfl, trivial⟩
end LWF
