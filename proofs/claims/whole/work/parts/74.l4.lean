/-! the law: its loop, its start -/
theorem ev_more {G : ev_G} {l : Launch} {M : ev_M} {J : ev_K} {pc k k' n n' : Nat} {L : List (Option Value)} {st : List Value} {a : ev_H} (h1 : k ≤ k') (h2 : n ≤ n') (h : ev_V G l M J pc L st a k n) : ev_V G l M J pc L st a k' n' :=
  fun p e R s d0 m args below meth c C hD H locs cells slots ls hR hS hc hs hl => h p e R s d0 m args below meth c C hD H locs cells slots ls hR hS (by omega) (by omega) hl
section LW4
variable {G : ev_G} {l : Launch} {b : Nat} {J : ev_K}
set_option maxRecDepth 20000 in
set_option maxHeartbeats 1000000 in
theorem lp_law (hJ : 13 ≤ J.2.2.1) (hkd : J.1 = true) (hl0 : l.stackTraces = false) (hN : G.2.2.2.1.2.1 ≤ 3072) (hP : ∀ a, J.2.2.2.2.2.1 (some (.int 1)) a) : ∀ (r : Nat) (x : Int32) (T : Int) (S : SS) (μ : MS) (o : Nat → Int64), 0 ≤ x.toInt → x.toInt ≤ (G.2.2.2.1.2.1 : Int) + 6 → (G.2.2.2.1.2.1 : Int) - x.toInt < 6 * ((r : Int) + 1) → RS T S μ → 0 ≤ T → T + 50 * (r : Int) < 2147000000 → ev_V G l mL_law J 23 (lwL G b x) [] (lwH G b S μ o) (4 * r) (24 * r) := by
  have e6 : (6 : Int32).toInt = 6 := by decide +kernel
  have eN : (Int32.ofNat G.2.2.2.1.2.1).toInt = (G.2.2.2.1.2.1 : Int) := Int32.toInt_ofNat_of_lt (by omega)
  have eS : (Int32.ofNat G.2.2.2.1.2.1 - 6).toInt = (G.2.2.2.1.2.1 : Int) - 6 := by rw [ar_sub (by omega) (by omega)]; omega
  intro r
  induction r with
  | zero =>
    intro x T S μ o hx0 hx1 hr hS hT0 hT
    refine e_iload dL_law_23 rfl ?_
    refine e_aload_n dL_law_25 rfl rfl ?_
    refine e_slen dL_law_26 ?_
    refine e_bipush (v := 6) dL_law_27 (by decide) ?_
    refine e_isub dL_law_29 ?_
    refine e_icmp_gt (tgt := 1444) dL_law_30 (by decide) (fun _ => ?_) (fun q9 => ?_)
    · refine e_iconst (v := 1) dL_law_1444 (by decide) ?_
      exact e_zret rfl (by decide +kernel) dL_law_1445 (hP _)
    · omega
  | succ r ih =>
    intro x T S μ o hx0 hx1 hr hS hT0 hT
    refine e_iload dL_law_23 rfl ?_
    refine e_aload_n dL_law_25 rfl rfl ?_
    refine e_slen dL_law_26 ?_
    refine e_bipush (v := 6) dL_law_27 (by decide) ?_
    refine e_isub dL_law_29 ?_
    refine e_icmp_gt (tgt := 1444) dL_law_30 (by decide) (fun _ => ?_) (fun q9 => ?_)
    · refine e_iconst (v := 1) dL_law_1444 (by decide) ?_
      exact e_zret rfl (by decide +kernel) dL_law_1445 (hP _)
    have hx5 : x.toInt + 5 < (G.2.2.2.1.2.1 : Int) := by omega
    have hx6 : (x + 6).toInt = x.toInt + 6 := by rw [ar_add (by omega) (by omega)]; omega
    have hk : ∀ S' μ' o', RS (T + 50) S' μ' → ev_V G l mL_law J 1438 (lwL G b x) [] (lwH G b S' μ' o') (4 * r) (24 * r) := by
      intro S' μ' o' hS'
      refine e_iinc (v := x + 6) dL_law_1438 rfl rfl (Nat.le_of_ble_eq_true rfl) ?_
      refine e_goto (tgt := 23) dL_law_1441 (by decide) ?_
      exact ev_lc (ih (x + 6) (T + 50) S' μ' o' (by omega) (by omega) (by omega) hS' (by omega) (by omega)) ⟨rfl, rfl, rfl, rfl, rfl, trivial⟩
    refine e_aload_n dL_law_33 rfl rfl ?_
    refine e_iload dL_law_34 rfl ?_
    refine e_sald hx0 (by omega) dL_law_36 ?_
    refine e_bipush (v := 31) dL_law_37 (by decide) ?_
    refine e_iand dL_law_39 ?_
    generalize G.2.2.2.1.2.2 x.toInt.toNat &&& 31 = v
    have hT9 : T < 2147000000 := by omega
    by_cases hv : v.toInt < 0 ∨ 22 < v.toInt
    · exact e_tableOut (tgt := 1438) dL_law_40 hv (by decide) (ev_more (by omega) (by omega) (hk S μ o (hS.up (by omega))))
    have h0 : 0 ≤ v.toInt := by omega
    have h22 : v.toInt < 23 := by omega
    obtain ⟨j, hj⟩ : ∃ j : Nat, v.toInt = (j : Int) := ⟨v.toInt.toNat, by omega⟩
    have hj22 : j < 23 := by omega
    rcases (show j = 0 ∨ j = 1 ∨ j = 2 ∨ j = 3 ∨ j = 4 ∨ j = 5 ∨ j = 6 ∨ j = 7 ∨ j = 8 ∨ j = 9 ∨ j = 10 ∨ j = 11 ∨ j = 12 ∨ j = 13 ∨ j = 14 ∨ j = 15 ∨ j = 16 ∨ j = 17 ∨ j = 18 ∨ j = 19 ∨ j = 20 ∨ j = 21 ∨ j = 22 by omega) with rfl | rfl | rfl | rfl | rfl | rfl | rfl | rfl | rfl | rfl | rfl | rfl | rfl | rfl | rfl | rfl | rfl | rfl | rfl | rfl | rfl | rfl | rfl
    · exact e_tableIn (off := 108) (tgt := 148) dL_law_40 (by omega) (by omega) (by rw [hj]; rfl) (by decide) (ev_more (by omega) (by omega) (lc_append (o := o) hJ hkd hl0 hN hx0 hx5 hS hT0 hT9 hk))
    · exact e_tableIn (off := 181) (tgt := 221) dL_law_40 (by omega) (by omega) (by rw [hj]; rfl) (by decide) (ev_more (by omega) (by omega) (lc_load (o := o) hJ hkd hl0 hN hx0 hx5 hS hT0 hT9 hk))
    · exact e_tableIn (off := 237) (tgt := 277) dL_law_40 (by omega) (by omega) (by rw [hj]; rfl) (by decide) (ev_more (by omega) (by omega) (lc_errorOffset (o := o) hJ hkd hl0 hN hx0 hx5 hS hT0 hT9 hk))
    · exact e_tableIn (off := 250) (tgt := 290) dL_law_40 (by omega) (by omega) (by rw [hj]; rfl) (by decide) (ev_more (by omega) (by omega) (lc_state (o := o) hJ hkd hl0 hN hx0 hx5 hS hT0 hT9 hk))
    · exact e_tableIn (off := 306) (tgt := 346) dL_law_40 (by omega) (by omega) (by rw [hj]; rfl) (by decide) (ev_more (by omega) (by omega) (lc_account (o := o) hJ hkd hl0 hN hx0 hx5 hS hT0 hT9 hk))
    · exact e_tableIn (off := 361) (tgt := 401) dL_law_40 (by omega) (by omega) (by rw [hj]; rfl) (by decide) (ev_more (by omega) (by omega) (lc_mass (o := o) hJ hkd hl0 hN hx0 hx5 hS hT0 hT9 hk))
    · exact e_tableIn (off := 429) (tgt := 469) dL_law_40 (by omega) (by omega) (by rw [hj]; rfl) (by decide) (ev_more (by omega) (by omega) (lc_spring (o := o) hJ hkd hl0 hN hx0 hx5 hS hT0 hT9 hk))
    · exact e_tableIn (off := 497) (tgt := 537) dL_law_40 (by omega) (by omega) (by rw [hj]; rfl) (by decide) (ev_more (by omega) (by omega) (lc_noted (o := o) hJ hkd hl0 hN hx0 hx5 hS hT0 hT9 hk))
    · exact e_tableIn (off := 565) (tgt := 605) dL_law_40 (by omega) (by omega) (by rw [hj]; rfl) (by decide) (ev_more (by omega) (by omega) (lc_waiting (o := o) hJ hkd hl0 hN hx0 hx5 hS hT0 hT9 hk))
    · exact e_tableIn (off := 633) (tgt := 673) dL_law_40 (by omega) (by omega) (by rw [hj]; rfl) (by decide) (ev_more (by omega) (by omega) (lc_foretold (o := o) hJ hkd hl0 hN hx0 hx5 hS hT0 hT9 hk))
    · exact e_tableIn (off := 713) (tgt := 753) dL_law_40 (by omega) (by omega) (by rw [hj]; rfl) (by decide) (ev_more (by omega) (by omega) (lc_period (o := o) hJ hkd hl0 hN hx0 hx5 hS hT0 hT9 hk))
    · exact e_tableIn (off := 781) (tgt := 821) dL_law_40 (by omega) (by omega) (by rw [hj]; rfl) (by decide) (ev_more (by omega) (by omega) (lc_breaksIn (o := o) hJ hkd hl0 hN hx0 hx5 hS hT0 hT9 hk))
    · exact e_tableIn (off := 837) (tgt := 877) dL_law_40 (by omega) (by omega) (by rw [hj]; rfl) (by decide) (ev_more (by omega) (by omega) (lc_pieces (o := o) hJ hkd hl0 hN hx0 hx5 hS hT0 hT9 hk))
    · exact e_tableIn (off := 850) (tgt := 890) dL_law_40 (by omega) (by omega) (by rw [hj]; rfl) (by decide) (ev_more (by omega) (by omega) (lc_centre (o := o) hJ hkd hl0 hN hx0 hx5 hS hT0 hT9 hk))
    · exact e_tableIn (off := 891) (tgt := 931) dL_law_40 (by omega) (by omega) (by rw [hj]; rfl) (by decide) (ev_more (by omega) (by omega) (lc_pass (o := o) hJ hkd hl0 hN hx0 hx5 hS hT0 hT9 hk))
    · exact e_tableIn (off := 947) (tgt := 987) dL_law_40 (by omega) (by omega) (by rw [hj]; rfl) (by decide) (ev_more (by omega) (by omega) (lc_pluck (o := o) hJ hkd hl0 hN hx0 hx5 hS hT0 hT9 hk))
    · exact e_tableIn (off := 1015) (tgt := 1055) dL_law_40 (by omega) (by omega) (by rw [hj]; rfl) (by decide) (ev_more (by omega) (by omega) (lc_strike (o := o) hJ hkd hl0 hN hx0 hx5 hS hT0 hT9 hk))
    · exact e_tableIn (off := 1083) (tgt := 1123) dL_law_40 (by omega) (by omega) (by rw [hj]; rfl) (by decide) (ev_more (by omega) (by omega) (lc_impulse (o := o) hJ hkd hl0 hN hx0 hx5 hS hT0 hT9 hk))
    · exact e_tableIn (off := 1163) (tgt := 1203) dL_law_40 (by omega) (by omega) (by rw [hj]; rfl) (by decide) (ev_more (by omega) (by omega) (lc_stiffen (o := o) hJ hkd hl0 hN hx0 hx5 hS hT0 hT9 hk))
    · exact e_tableIn (off := 1231) (tgt := 1271) dL_law_40 (by omega) (by omega) (by rw [hj]; rfl) (by decide) (ev_more (by omega) (by omega) (lc_mend (o := o) hJ hkd hl0 hN hx0 hx5 hS hT0 hT9 hk))
    · exact e_tableIn (off := 1287) (tgt := 1327) dL_law_40 (by omega) (by omega) (by rw [hj]; rfl) (by decide) (ev_more (by omega) (by omega) (lc_move (o := o) hJ hkd hl0 hN hx0 hx5 hS hT0 hT9 hk))
    · exact e_tableIn (off := 1371) (tgt := 1411) dL_law_40 (by omega) (by omega) (by rw [hj]; rfl) (by decide) (ev_more (by omega) (by omega) (lc_undo (o := o) hJ hkd hl0 hN hx0 hx5 hS hT0 hT9 hk))
    · exact e_tableIn (off := 1384) (tgt := 1424) dL_law_40 (by omega) (by omega) (by rw [hj]; rfl) (by decide) (ev_more (by omega) (by omega) (lc_checksum (o := o) hJ hkd hl0 hN hx0 hx5 hS hT0 hT9 hk))
theorem pk_nil {c : Nat} {h : ev_H} (hz : h.2 = some c) : pk c [] h = h := by
  refine Prod.ext (funext fun q => ?_) hz.symm
  show (if c ≤ q ∧ q < c + 0 then _ else h.1 q) = h.1 q
  rw [if_neg (by omega)]
set_option maxRecDepth 20000 in
set_option maxHeartbeats 1000000 in
theorem ev_law (hJ : 13 ≤ J.2.2.1) (hkd : J.1 = true) (hl0 : l.stackTraces = false) (hN : G.2.2.2.1.2.1 ≤ 3072) (hP : ∀ a, J.2.2.2.2.2.1 (some (.int 1)) a) : ev_V G l mL_law J 0 [some (.ref G.2.2.2.1.1)] [] (fun _ => none, some b) 2300 20000 := by
  refine ev_more (k := 4 * 512 + 1 + 14 + 1 + 156 + 1) (n := 24 * 512 + 1 + 2710 + 18 + 2675 + 7) (by omega) (by omega) ?_
  refine e_new (C := RX6) (T := TX6) (N := 7) (ci := 6) tyX6 tyX6_ok inX6 rfl wL_L_8 wX_X6 wN_X6 dv6_ok (z := b) rfl dL_law_0 ?_
  refine ev_as (ev_new_pk rfl _) ?_
  refine e_dup dL_law_3 rfl ?_
  refine e_invI (mcY := 156) (msY := 2675) (ct_X6_init (c := b) (h := (fun _ => none, some b))) vX6_init wM_L_73 dL_law_4 rfl rfl (Nat.le_of_ble_eq_true rfl) (Nat.le_trans (Nat.le_of_ble_eq_true rfl) hJ) ?_
  rintro _ _ ⟨rfl, rfl⟩
  refine e_astore_n dL_law_7 rfl (Nat.le_of_ble_eq_true rfl) ?_
  refine e_new (C := RX7) (T := TX7) (N := 18) (ci := 7) tyX7 tyX7_ok inX7 rfl wL_L_74 wX_X7 wN_X7 dv7_ok (z := b + 157) rfl dL_law_8 ?_
  refine ev_as (ev_new_pk rfl _) ?_
  refine e_dup dL_law_11 rfl ?_
  refine e_invI (mcY := 14) (msY := 2710) (ct_X7_init (c := b + 157) (h := sy G b S_0 (fun _ => none, some (b + 157)))) vX7_init wM_L_76 dL_law_12 rfl rfl (Nat.le_of_ble_eq_true rfl) (Nat.le_trans (Nat.le_of_ble_eq_true rfl) hJ) ?_
  rintro _ _ ⟨rfl, δ, hδ, rfl⟩
  refine e_astore_n dL_law_15 rfl (Nat.le_of_ble_eq_true rfl) ?_
  refine e_iconst (v := 1) dL_law_16 (by decide) ?_
  refine ev_as (pk_nil (c := b + 172) rfl).symm ?_
  refine pk_nL (N := 1) (by decide +kernel) (by decide) dL_law_17 ?_
  refine e_astore_n dL_law_19 rfl (Nat.le_of_ble_eq_true rfl) ?_
  refine e_iconst (v := 0) dL_law_20 (by decide) ?_
  refine e_istore dL_law_21 (Nat.le_of_ble_eq_true rfl) ?_
  refine ev_sim (a' := lwH G b S_0 (ms_L m_0 0 δ) (fun _ => 0)) (Or.inr rfl) (fun q x hx => ⟨x, ?_, Or.inl rfl⟩) ?_
  · have hx1 : (if b ≤ q ∧ q < b + 157 then some (sy_cell G b S_0 (q - b)) else (if b + 157 ≤ q ∧ q < b + 157 + 15 then some (mo_cell G (b + 157) (ms_L m_0 0 δ) (q - (b + 157))) else (if q = b + 172 then some (.inl (G.2.1 1, 1, .inr (.inl (fun _ => 0)))) else none))) = some x := hx
    show (if b + 172 ≤ q ∧ q < b + 172 + 1 then [(.inl (G.2.1 1, 1, .inr (.inl (fun _ => 0))) : va_E)][q - (b + 172)]? else (if b + 157 ≤ q ∧ q < b + 157 + 15 then some (mo_cell G (b + 157) (ms_L m_0 0 δ) (q - (b + 157))) else (if b ≤ q ∧ q < b + 157 then some (sy_cell G b S_0 (q - b)) else none))) = some x
    by_cases c1 : b ≤ q ∧ q < b + 157
    · rw [if_pos c1] at hx1
      rw [if_neg (by omega), if_neg (by omega), if_pos c1, hx1]
    · rw [if_neg c1] at hx1
      by_cases c2 : b + 157 ≤ q ∧ q < b + 157 + 15
      · rw [if_pos c2] at hx1
        rw [if_neg (by omega), if_pos c2, hx1]
      · rw [if_neg c2] at hx1
        by_cases c3 : q = b + 172
        · rw [if_pos c3] at hx1
          rw [if_pos (by omega), show q - (b + 172) = 0 by omega]
          exact hx1
        · rw [if_neg c3] at hx1
          exact nomatch hx1
  exact ev_lc (lp_law (b := b) hJ hkd hl0 hN hP 512 0 0 S_0 (ms_L m_0 0 δ) (fun _ => 0) (by decide +kernel) (by rw [ar_0]; omega) (by rw [ar_0]; omega) (RS_0 hδ) (by omega) (by omega)) ⟨rfl, rfl, rfl, rfl, rfl, trivial⟩
end LW4
