/-! the law's helpers: each calls one method of the class, and tells by a number what was thrown -/
section LW1
variable {G : ev_G} {l : Launch} {b : Nat} {S : SS} {μ : MS} {o : Nat → Int64} {x y z : Int32}
theorem vL_load : ev_wSH mL_load [(0, 9, 12, 13)] 3 := ⟨⟨wT_L_load, wN_L, wC_L_load⟩, ⟨by decide +kernel, by decide +kernel, by decide +kernel⟩, by decide⟩
theorem vL_state : ev_wSH mL_state [(0, 9, 12, 13)] 3 := ⟨⟨wT_L_state, wN_L, wC_L_state⟩, ⟨by decide +kernel, by decide +kernel, by decide +kernel⟩, by decide⟩
theorem vL_account : ev_wSH mL_account [(0, 8, 11, 13)] 3 := ⟨⟨wT_L_account, wN_L, wC_L_account⟩, ⟨by decide +kernel, by decide +kernel, by decide +kernel⟩, by decide⟩
theorem vL_breaksIn : ev_wSH mL_breaksIn [(0, 9, 12, 13)] 3 := ⟨⟨wT_L_breaksIn, wN_L, wC_L_breaksIn⟩, ⟨by decide +kernel, by decide +kernel, by decide +kernel⟩, by decide⟩
theorem vL_pass : ev_wSH mL_pass [(0, 9, 12, 13)] 3 := ⟨⟨wT_L_pass, wN_L, wC_L_pass⟩, ⟨by decide +kernel, by decide +kernel, by decide +kernel⟩, by decide⟩
theorem vL_mend : ev_wSH mL_mend [(0, 9, 12, 26), (0, 9, 15, 61)] 3 := ⟨⟨wT_L_mend, wN_L, wC_L_mend⟩, ⟨by decide +kernel, by decide +kernel, by decide +kernel⟩, by decide⟩
theorem vL_move : ev_wSH mL_move [(0, 10, 13, 13)] 4 := ⟨⟨wT_L_move, wN_L, wC_L_move⟩, ⟨by decide +kernel, by decide +kernel, by decide +kernel⟩, by decide⟩
theorem vL_mass : ev_wSH mL_mass [(0, 10, 13, 26), (0, 10, 17, 13)] 4 := ⟨⟨wT_L_mass, wN_L, wC_L_mass⟩, ⟨by decide +kernel, by decide +kernel, by decide +kernel⟩, by decide⟩
theorem vL_spring : ev_wSH mL_spring [(0, 10, 13, 26), (0, 10, 17, 13)] 4 := ⟨⟨wT_L_spring, wN_L, wC_L_spring⟩, ⟨by decide +kernel, by decide +kernel, by decide +kernel⟩, by decide⟩
theorem vL_noted : ev_wSH mL_noted [(0, 10, 13, 34), (0, 10, 17, 13)] 4 := ⟨⟨wT_L_noted, wN_L, wC_L_noted⟩, ⟨by decide +kernel, by decide +kernel, by decide +kernel⟩, by decide⟩
theorem vL_waiting : ev_wSH mL_waiting [(0, 10, 13, 34), (0, 10, 17, 13)] 4 := ⟨⟨wT_L_waiting, wN_L, wC_L_waiting⟩, ⟨by decide +kernel, by decide +kernel, by decide +kernel⟩, by decide⟩
theorem vL_foretold : ev_wSH mL_foretold [(0, 12, 15, 26), (0, 12, 19, 13)] 5 := ⟨⟨wT_L_foretold, wN_L, wC_L_foretold⟩, ⟨by decide +kernel, by decide +kernel, by decide +kernel⟩, by decide⟩
theorem vL_period : ev_wSH mL_period [(0, 10, 13, 26), (0, 10, 17, 13)] 4 := ⟨⟨wT_L_period, wN_L, wC_L_period⟩, ⟨by decide +kernel, by decide +kernel, by decide +kernel⟩, by decide⟩
theorem vL_pluck : ev_wSH mL_pluck [(0, 10, 13, 26), (0, 10, 17, 13)] 4 := ⟨⟨wT_L_pluck, wN_L, wC_L_pluck⟩, ⟨by decide +kernel, by decide +kernel, by decide +kernel⟩, by decide⟩
theorem vL_strike : ev_wSH mL_strike [(0, 10, 13, 26), (0, 10, 17, 13)] 4 := ⟨⟨wT_L_strike, wN_L, wC_L_strike⟩, ⟨by decide +kernel, by decide +kernel, by decide +kernel⟩, by decide⟩
theorem vL_stiffen : ev_wSH mL_stiffen [(0, 10, 13, 26), (0, 10, 17, 13)] 4 := ⟨⟨wT_L_stiffen, wN_L, wC_L_stiffen⟩, ⟨by decide +kernel, by decide +kernel, by decide +kernel⟩, by decide⟩
theorem vL_impulse : ev_wSH mL_impulse [(0, 12, 15, 26), (0, 12, 19, 13), (0, 12, 23, 61)] 5 := ⟨⟨wT_L_impulse, wN_L, wC_L_impulse⟩, ⟨by decide +kernel, by decide +kernel, by decide +kernel⟩, by decide⟩
set_option maxRecDepth 20000 in
theorem ct_L_load {PY : Option Value → ev_H → Prop} {XY : String → ev_H → Prop} {dY mcY msY : Nat} (hd : dY ≤ 11) (hM : ev_Ct G l mX6_load dY mcY msY [.ref b, .int x] (lwH G b S μ o) PY XY) (hP : ∀ v a, PY v a → ∃ r : Int32, v = some (.int r) ∧ a.1 (b + 172) = some (.inl (G.2.1 1, 1, .inr (.inl o)))) (hX : ∀ E a, XY E a → E = xA) : ev_Ht G l mL_load [(0, 9, 12, 13)] 12 mcY msY [.ref b, .int x, .ref (b + 172)] (lwH G b S μ o) (fun v a => (∃ (r : Int32) (a0 : ev_H), PY (some (.int r)) a0 ∧ v = some (.int 0) ∧ a = ev_put a0 (b + 172) (.inl (G.2.1 1, 1, .inr (.inl (ev_u o (0 : Int32).toInt.toNat r.toInt64))))) ∨ (XY xA a ∧ v = some (.int 1))) := by
  refine ev_Ht.of (by decide +kernel) (by decide +kernel) (Nat.le_of_ble_eq_true rfl) ?_
  obtain ⟨fs, hb⟩ := lwH_x G b S μ o
  rw [show mcY = 0 + mcY by omega, show msY = 0 + msY by omega]
  refine e_aload_n dL_load_0 rfl rfl ?_
  refine e_iconst (v := 0) dL_load_1 (by decide) ?_
  refine e_aload_n dL_load_2 rfl rfl ?_
  refine e_iload_n dL_load_3 rfl rfl ?_
  refine e_invVC (ci := 6) (as := [.int x]) (rest := [.int 0, .ref (b + 172)]) hM vX6_load wM_L_7 hb rfl dL_load_4 rfl rfl (Nat.le_of_ble_eq_true rfl) (by show dY + 1 ≤ 12; omega) (fun E a1 hx => ?_) (fun v a1 hp => ?_)
  · obtain rfl := hX E a1 hx
    refine ⟨[], [], ⟨0, 9, 12, 13⟩, "java/lang/IllegalArgumentException", rfl, rfl, by decide, wL_L_13, (ev_nw_ok 530 (by decide +kernel) rfl), ?_, fun t => ?_⟩
    · exact fun z9 hz => nomatch hz
    · refine e_astore_n dL_load_12 rfl (Nat.le_of_ble_eq_true rfl) ?_
      refine e_iconst (v := 1) dL_load_13 (by decide) ?_
      exact e_iret rfl dL_load_14 (Or.inr (⟨hx, rfl⟩))
  · obtain ⟨r, rfl, ho⟩ := hP v a1 hp
    refine e_i2l dL_load_7 ?_
    refine e_last (N := 1) (f := o) ho (by decide +kernel) (by decide +kernel) dL_load_8 ?_
    refine e_goto (tgt := 15) dL_load_9 (by decide) ?_
    refine e_iconst (v := 0) dL_load_15 (by decide) ?_
    exact e_iret rfl dL_load_16 (Or.inl ⟨r, a1, hp, rfl, rfl⟩)
set_option maxRecDepth 20000 in
theorem ct_L_state {PY : Option Value → ev_H → Prop} {XY : String → ev_H → Prop} {dY mcY msY : Nat} (hd : dY ≤ 11) (hM : ev_Ct G l mX6_state dY mcY msY [.ref b, .int x] (lwH G b S μ o) PY XY) (hP : ∀ v a, PY v a → ∃ r : Int32, v = some (.int r) ∧ a.1 (b + 172) = some (.inl (G.2.1 1, 1, .inr (.inl o)))) (hX : ∀ E a, XY E a → E = xA) : ev_Ht G l mL_state [(0, 9, 12, 13)] 12 mcY msY [.ref b, .int x, .ref (b + 172)] (lwH G b S μ o) (fun v a => (∃ (r : Int32) (a0 : ev_H), PY (some (.int r)) a0 ∧ v = some (.int 0) ∧ a = ev_put a0 (b + 172) (.inl (G.2.1 1, 1, .inr (.inl (ev_u o (0 : Int32).toInt.toNat r.toInt64))))) ∨ (XY xA a ∧ v = some (.int 1))) := by
  refine ev_Ht.of (by decide +kernel) (by decide +kernel) (Nat.le_of_ble_eq_true rfl) ?_
  obtain ⟨fs, hb⟩ := lwH_x G b S μ o
  rw [show mcY = 0 + mcY by omega, show msY = 0 + msY by omega]
  refine e_aload_n dL_state_0 rfl rfl ?_
  refine e_iconst (v := 0) dL_state_1 (by decide) ?_
  refine e_aload_n dL_state_2 rfl rfl ?_
  refine e_iload_n dL_state_3 rfl rfl ?_
  refine e_invVC (ci := 6) (as := [.int x]) (rest := [.int 0, .ref (b + 172)]) hM vX6_state wM_L_15 hb rfl dL_state_4 rfl rfl (Nat.le_of_ble_eq_true rfl) (by show dY + 1 ≤ 12; omega) (fun E a1 hx => ?_) (fun v a1 hp => ?_)
  · obtain rfl := hX E a1 hx
    refine ⟨[], [], ⟨0, 9, 12, 13⟩, "java/lang/IllegalArgumentException", rfl, rfl, by decide, wL_L_13, (ev_nw_ok 530 (by decide +kernel) rfl), ?_, fun t => ?_⟩
    · exact fun z9 hz => nomatch hz
    · refine e_astore_n dL_state_12 rfl (Nat.le_of_ble_eq_true rfl) ?_
      refine e_iconst (v := 1) dL_state_13 (by decide) ?_
      exact e_iret rfl dL_state_14 (Or.inr (⟨hx, rfl⟩))
  · obtain ⟨r, rfl, ho⟩ := hP v a1 hp
    refine e_i2l dL_state_7 ?_
    refine e_last (N := 1) (f := o) ho (by decide +kernel) (by decide +kernel) dL_state_8 ?_
    refine e_goto (tgt := 15) dL_state_9 (by decide) ?_
    refine e_iconst (v := 0) dL_state_15 (by decide) ?_
    exact e_iret rfl dL_state_16 (Or.inl ⟨r, a1, hp, rfl, rfl⟩)
set_option maxRecDepth 20000 in
theorem ct_L_account {PY : Option Value → ev_H → Prop} {XY : String → ev_H → Prop} {dY mcY msY : Nat} (hd : dY ≤ 11) (hM : ev_Ct G l mX6_account dY mcY msY [.ref b, .int x] (lwH G b S μ o) PY XY) (hP : ∀ v a, PY v a → ∃ r : Int64, v = some (.long r) ∧ a.1 (b + 172) = some (.inl (G.2.1 1, 1, .inr (.inl o)))) (hX : ∀ E a, XY E a → E = xA) : ev_Ht G l mL_account [(0, 8, 11, 13)] 12 mcY msY [.ref b, .int x, .ref (b + 172)] (lwH G b S μ o) (fun v a => (∃ (r : Int64) (a0 : ev_H), PY (some (.long r)) a0 ∧ v = some (.int 0) ∧ a = ev_put a0 (b + 172) (.inl (G.2.1 1, 1, .inr (.inl (ev_u o (0 : Int32).toInt.toNat r))))) ∨ (XY xA a ∧ v = some (.int 1))) := by
  refine ev_Ht.of (by decide +kernel) (by decide +kernel) (Nat.le_of_ble_eq_true rfl) ?_
  obtain ⟨fs, hb⟩ := lwH_x G b S μ o
  rw [show mcY = 0 + mcY by omega, show msY = 0 + msY by omega]
  refine e_aload_n dL_account_0 rfl rfl ?_
  refine e_iconst (v := 0) dL_account_1 (by decide) ?_
  refine e_aload_n dL_account_2 rfl rfl ?_
  refine e_iload_n dL_account_3 rfl rfl ?_
  refine e_invVC (ci := 6) (as := [.int x]) (rest := [.int 0, .ref (b + 172)]) hM vX6_account wM_L_18 hb rfl dL_account_4 rfl rfl (Nat.le_of_ble_eq_true rfl) (by show dY + 1 ≤ 12; omega) (fun E a1 hx => ?_) (fun v a1 hp => ?_)
  · obtain rfl := hX E a1 hx
    refine ⟨[], [], ⟨0, 8, 11, 13⟩, "java/lang/IllegalArgumentException", rfl, rfl, by decide, wL_L_13, (ev_nw_ok 530 (by decide +kernel) rfl), ?_, fun t => ?_⟩
    · exact fun z9 hz => nomatch hz
    · refine e_astore_n dL_account_11 rfl (Nat.le_of_ble_eq_true rfl) ?_
      refine e_iconst (v := 1) dL_account_12 (by decide) ?_
      exact e_iret rfl dL_account_13 (Or.inr (⟨hx, rfl⟩))
  · obtain ⟨r, rfl, ho⟩ := hP v a1 hp
    refine e_last (N := 1) (f := o) ho (by decide +kernel) (by decide +kernel) dL_account_7 ?_
    refine e_goto (tgt := 14) dL_account_8 (by decide) ?_
    refine e_iconst (v := 0) dL_account_14 (by decide) ?_
    exact e_iret rfl dL_account_15 (Or.inl ⟨r, a1, hp, rfl, rfl⟩)
set_option maxRecDepth 20000 in
theorem ct_L_breaksIn {PY : Option Value → ev_H → Prop} {XY : String → ev_H → Prop} {dY mcY msY : Nat} (hd : dY ≤ 11) (hM : ev_Ct G l mX6_breaksIn dY mcY msY [.ref b, .int x] (lwH G b S μ o) PY XY) (hP : ∀ v a, PY v a → ∃ r : Int32, v = some (.int r) ∧ a.1 (b + 172) = some (.inl (G.2.1 1, 1, .inr (.inl o)))) (hX : ∀ E a, XY E a → E = xA) : ev_Ht G l mL_breaksIn [(0, 9, 12, 13)] 12 mcY msY [.ref b, .int x, .ref (b + 172)] (lwH G b S μ o) (fun v a => (∃ (r : Int32) (a0 : ev_H), PY (some (.int r)) a0 ∧ v = some (.int 0) ∧ a = ev_put a0 (b + 172) (.inl (G.2.1 1, 1, .inr (.inl (ev_u o (0 : Int32).toInt.toNat r.toInt64))))) ∨ (XY xA a ∧ v = some (.int 1))) := by
  refine ev_Ht.of (by decide +kernel) (by decide +kernel) (Nat.le_of_ble_eq_true rfl) ?_
  obtain ⟨fs, hb⟩ := lwH_x G b S μ o
  rw [show mcY = 0 + mcY by omega, show msY = 0 + msY by omega]
  refine e_aload_n dL_breaksIn_0 rfl rfl ?_
  refine e_iconst (v := 0) dL_breaksIn_1 (by decide) ?_
  refine e_aload_n dL_breaksIn_2 rfl rfl ?_
  refine e_iload_n dL_breaksIn_3 rfl rfl ?_
  refine e_invVC (ci := 6) (as := [.int x]) (rest := [.int 0, .ref (b + 172)]) hM vX6_breaksIn wM_L_46 hb rfl dL_breaksIn_4 rfl rfl (Nat.le_of_ble_eq_true rfl) (by show dY + 1 ≤ 12; omega) (fun E a1 hx => ?_) (fun v a1 hp => ?_)
  · obtain rfl := hX E a1 hx
    refine ⟨[], [], ⟨0, 9, 12, 13⟩, "java/lang/IllegalArgumentException", rfl, rfl, by decide, wL_L_13, (ev_nw_ok 530 (by decide +kernel) rfl), ?_, fun t => ?_⟩
    · exact fun z9 hz => nomatch hz
    · refine e_astore_n dL_breaksIn_12 rfl (Nat.le_of_ble_eq_true rfl) ?_
      refine e_iconst (v := 1) dL_breaksIn_13 (by decide) ?_
      exact e_iret rfl dL_breaksIn_14 (Or.inr (⟨hx, rfl⟩))
  · obtain ⟨r, rfl, ho⟩ := hP v a1 hp
    refine e_i2l dL_breaksIn_7 ?_
    refine e_last (N := 1) (f := o) ho (by decide +kernel) (by decide +kernel) dL_breaksIn_8 ?_
    refine e_goto (tgt := 15) dL_breaksIn_9 (by decide) ?_
    refine e_iconst (v := 0) dL_breaksIn_15 (by decide) ?_
    exact e_iret rfl dL_breaksIn_16 (Or.inl ⟨r, a1, hp, rfl, rfl⟩)
set_option maxRecDepth 20000 in
theorem ct_L_pass {PY : Option Value → ev_H → Prop} {XY : String → ev_H → Prop} {dY mcY msY : Nat} (hd : dY ≤ 11) (hM : ev_Ct G l mX6_pass dY mcY msY [.ref b, .int x] (lwH G b S μ o) PY XY) (hP : ∀ v a, PY v a → ∃ r : Int32, v = some (.int r) ∧ a.1 (b + 172) = some (.inl (G.2.1 1, 1, .inr (.inl o)))) (hX : ∀ E a, XY E a → E = xA) : ev_Ht G l mL_pass [(0, 9, 12, 13)] 12 mcY msY [.ref b, .int x, .ref (b + 172)] (lwH G b S μ o) (fun v a => (∃ (r : Int32) (a0 : ev_H), PY (some (.int r)) a0 ∧ v = some (.int 0) ∧ a = ev_put a0 (b + 172) (.inl (G.2.1 1, 1, .inr (.inl (ev_u o (0 : Int32).toInt.toNat r.toInt64))))) ∨ (XY xA a ∧ v = some (.int 1))) := by
  refine ev_Ht.of (by decide +kernel) (by decide +kernel) (Nat.le_of_ble_eq_true rfl) ?_
  obtain ⟨fs, hb⟩ := lwH_x G b S μ o
  rw [show mcY = 0 + mcY by omega, show msY = 0 + msY by omega]
  refine e_aload_n dL_pass_0 rfl rfl ?_
  refine e_iconst (v := 0) dL_pass_1 (by decide) ?_
  refine e_aload_n dL_pass_2 rfl rfl ?_
  refine e_iload_n dL_pass_3 rfl rfl ?_
  refine e_invVC (ci := 6) (as := [.int x]) (rest := [.int 0, .ref (b + 172)]) hM vX6_pass wM_L_49 hb rfl dL_pass_4 rfl rfl (Nat.le_of_ble_eq_true rfl) (by show dY + 1 ≤ 12; omega) (fun E a1 hx => ?_) (fun v a1 hp => ?_)
  · obtain rfl := hX E a1 hx
    refine ⟨[], [], ⟨0, 9, 12, 13⟩, "java/lang/IllegalArgumentException", rfl, rfl, by decide, wL_L_13, (ev_nw_ok 530 (by decide +kernel) rfl), ?_, fun t => ?_⟩
    · exact fun z9 hz => nomatch hz
    · refine e_astore_n dL_pass_12 rfl (Nat.le_of_ble_eq_true rfl) ?_
      refine e_iconst (v := 1) dL_pass_13 (by decide) ?_
      exact e_iret rfl dL_pass_14 (Or.inr (⟨hx, rfl⟩))
  · obtain ⟨r, rfl, ho⟩ := hP v a1 hp
    refine e_i2l dL_pass_7 ?_
    refine e_last (N := 1) (f := o) ho (by decide +kernel) (by decide +kernel) dL_pass_8 ?_
    refine e_goto (tgt := 15) dL_pass_9 (by decide) ?_
    refine e_iconst (v := 0) dL_pass_15 (by decide) ?_
    exact e_iret rfl dL_pass_16 (Or.inl ⟨r, a1, hp, rfl, rfl⟩)
set_option maxRecDepth 20000 in
theorem ct_L_mend {PY : Option Value → ev_H → Prop} {XY : String → ev_H → Prop} {dY mcY msY : Nat} (hd : dY ≤ 11) (hM : ev_Ct G l mX6_mend dY mcY msY [.ref b, .int x] (lwH G b S μ o) PY XY) (hP : ∀ v a, PY v a → ∃ r : Int32, v = some (.int r) ∧ a.1 (b + 172) = some (.inl (G.2.1 1, 1, .inr (.inl o)))) (hX : ∀ E a, XY E a → E = xI ∨ E = xS) : ev_Ht G l mL_mend [(0, 9, 12, 26), (0, 9, 15, 61)] 12 mcY msY [.ref b, .int x, .ref (b + 172)] (lwH G b S μ o) (fun v a => (∃ (r : Int32) (a0 : ev_H), PY (some (.int r)) a0 ∧ v = some (.int 0) ∧ a = ev_put a0 (b + 172) (.inl (G.2.1 1, 1, .inr (.inl (ev_u o (0 : Int32).toInt.toNat r.toInt64))))) ∨ (XY xI a ∧ v = some (.int 1)) ∨ (XY xS a ∧ v = some (.int 2))) := by
  refine ev_Ht.of (by decide +kernel) (by decide +kernel) (Nat.le_of_ble_eq_true rfl) ?_
  obtain ⟨fs, hb⟩ := lwH_x G b S μ o
  rw [show mcY = 0 + mcY by omega, show msY = 0 + msY by omega]
  refine e_aload_n dL_mend_0 rfl rfl ?_
  refine e_iconst (v := 0) dL_mend_1 (by decide) ?_
  refine e_aload_n dL_mend_2 rfl rfl ?_
  refine e_iload_n dL_mend_3 rfl rfl ?_
  refine e_invVC (ci := 6) (as := [.int x]) (rest := [.int 0, .ref (b + 172)]) hM vX6_mend wM_L_66 hb rfl dL_mend_4 rfl rfl (Nat.le_of_ble_eq_true rfl) (by show dY + 1 ≤ 12; omega) (fun E a1 hx => ?_) (fun v a1 hp => ?_)
  · rcases hX E a1 hx with rfl | rfl
    · refine ⟨[], [⟨0, 9, 15, 61⟩], ⟨0, 9, 12, 26⟩, "java/lang/IndexOutOfBoundsException", rfl, rfl, by decide, wL_L_26, (ev_nw_ok 860 (by decide +kernel) rfl), ?_, fun t => ?_⟩
      · exact fun z9 hz => nomatch hz
      · refine e_astore_n dL_mend_12 rfl (Nat.le_of_ble_eq_true rfl) ?_
        refine e_iconst (v := 1) dL_mend_13 (by decide) ?_
        exact e_iret rfl dL_mend_14 (Or.inr (Or.inl ⟨hx, rfl⟩))
    · refine ⟨[⟨0, 9, 12, 26⟩], [], ⟨0, 9, 15, 61⟩, "java/lang/IllegalStateException", rfl, rfl, by decide, wL_L_61, (ev_nw_ok 1040 (by decide +kernel) rfl), ?_, fun t => ?_⟩
      · intro z9 hz
        simp only [List.mem_cons, List.not_mem_nil, or_false] at hz
        subst hz
        exact ⟨by decide, "java/lang/IndexOutOfBoundsException", wL_L_26, by decide +kernel⟩
      · refine e_astore_n dL_mend_15 rfl (Nat.le_of_ble_eq_true rfl) ?_
        refine e_iconst (v := 2) dL_mend_16 (by decide) ?_
        exact e_iret rfl dL_mend_17 (Or.inr (Or.inr (⟨hx, rfl⟩)))
  · obtain ⟨r, rfl, ho⟩ := hP v a1 hp
    refine e_i2l dL_mend_7 ?_
    refine e_last (N := 1) (f := o) ho (by decide +kernel) (by decide +kernel) dL_mend_8 ?_
    refine e_goto (tgt := 18) dL_mend_9 (by decide) ?_
    refine e_iconst (v := 0) dL_mend_18 (by decide) ?_
    exact e_iret rfl dL_mend_19 (Or.inl ⟨r, a1, hp, rfl, rfl⟩)
set_option maxRecDepth 20000 in
theorem ct_L_move {PY : Option Value → ev_H → Prop} {XY : String → ev_H → Prop} {dY mcY msY : Nat} (hd : dY ≤ 11) (hM : ev_Ct G l mX6_move dY mcY msY [.ref b, .int x, .int y] (lwH G b S μ o) PY XY) (hP : ∀ v a, PY v a → ∃ r : Int32, v = some (.int r) ∧ a.1 (b + 172) = some (.inl (G.2.1 1, 1, .inr (.inl o)))) (hX : ∀ E a, XY E a → E = xA) : ev_Ht G l mL_move [(0, 10, 13, 13)] 12 mcY msY [.ref b, .int x, .int y, .ref (b + 172)] (lwH G b S μ o) (fun v a => (∃ (r : Int32) (a0 : ev_H), PY (some (.int r)) a0 ∧ v = some (.int 0) ∧ a = ev_put a0 (b + 172) (.inl (G.2.1 1, 1, .inr (.inl (ev_u o (0 : Int32).toInt.toNat r.toInt64))))) ∨ (XY xA a ∧ v = some (.int 1))) := by
  refine ev_Ht.of (by decide +kernel) (by decide +kernel) (Nat.le_of_ble_eq_true rfl) ?_
  obtain ⟨fs, hb⟩ := lwH_x G b S μ o
  rw [show mcY = 0 + mcY by omega, show msY = 0 + msY by omega]
  refine e_aload_n dL_move_0 rfl rfl ?_
  refine e_iconst (v := 0) dL_move_1 (by decide) ?_
  refine e_aload_n dL_move_2 rfl rfl ?_
  refine e_iload_n dL_move_3 rfl rfl ?_
  refine e_iload_n dL_move_4 rfl rfl ?_
  refine e_invVC (ci := 6) (as := [.int x, .int y]) (rest := [.int 0, .ref (b + 172)]) hM vX6_move wM_L_69 hb rfl dL_move_5 rfl rfl (Nat.le_of_ble_eq_true rfl) (by show dY + 1 ≤ 12; omega) (fun E a1 hx => ?_) (fun v a1 hp => ?_)
  · obtain rfl := hX E a1 hx
    refine ⟨[], [], ⟨0, 10, 13, 13⟩, "java/lang/IllegalArgumentException", rfl, rfl, by decide, wL_L_13, (ev_nw_ok 530 (by decide +kernel) rfl), ?_, fun t => ?_⟩
    · exact fun z9 hz => nomatch hz
    · refine e_astore dL_move_13 (Nat.le_of_ble_eq_true rfl) ?_
      refine e_iconst (v := 1) dL_move_15 (by decide) ?_
      exact e_iret rfl dL_move_16 (Or.inr (⟨hx, rfl⟩))
  · obtain ⟨r, rfl, ho⟩ := hP v a1 hp
    refine e_i2l dL_move_8 ?_
    refine e_last (N := 1) (f := o) ho (by decide +kernel) (by decide +kernel) dL_move_9 ?_
    refine e_goto (tgt := 17) dL_move_10 (by decide) ?_
    refine e_iconst (v := 0) dL_move_17 (by decide) ?_
    exact e_iret rfl dL_move_18 (Or.inl ⟨r, a1, hp, rfl, rfl⟩)
set_option maxRecDepth 20000 in
theorem ct_L_mass {PY : Option Value → ev_H → Prop} {XY : String → ev_H → Prop} {dY mcY msY : Nat} (hd : dY ≤ 11) (hM : ev_Ct G l mX6_mass dY mcY msY [.ref b, .int x, .int y] (lwH G b S μ o) PY XY) (hP : ∀ v a, PY v a → ∃ r : Int32, v = some (.int r) ∧ a.1 (b + 172) = some (.inl (G.2.1 1, 1, .inr (.inl o)))) (hX : ∀ E a, XY E a → E = xI ∨ E = xA) : ev_Ht G l mL_mass [(0, 10, 13, 26), (0, 10, 17, 13)] 12 mcY msY [.ref b, .int x, .int y, .ref (b + 172)] (lwH G b S μ o) (fun v a => (∃ (r : Int32) (a0 : ev_H), PY (some (.int r)) a0 ∧ v = some (.int 0) ∧ a = ev_put a0 (b + 172) (.inl (G.2.1 1, 1, .inr (.inl (ev_u o (0 : Int32).toInt.toNat r.toInt64))))) ∨ (XY xI a ∧ v = some (.int 1)) ∨ (XY xA a ∧ v = some (.int 2))) := by
  refine ev_Ht.of (by decide +kernel) (by decide +kernel) (Nat.le_of_ble_eq_true rfl) ?_
  obtain ⟨fs, hb⟩ := lwH_x G b S μ o
  rw [show mcY = 0 + mcY by omega, show msY = 0 + msY by omega]
  refine e_aload_n dL_mass_0 rfl rfl ?_
  refine e_iconst (v := 0) dL_mass_1 (by decide) ?_
  refine e_aload_n dL_mass_2 rfl rfl ?_
  refine e_iload_n dL_mass_3 rfl rfl ?_
  refine e_iload_n dL_mass_4 rfl rfl ?_
  refine e_invVC (ci := 6) (as := [.int x, .int y]) (rest := [.int 0, .ref (b + 172)]) hM vX6_mass wM_L_22 hb rfl dL_mass_5 rfl rfl (Nat.le_of_ble_eq_true rfl) (by show dY + 1 ≤ 12; omega) (fun E a1 hx => ?_) (fun v a1 hp => ?_)
  · rcases hX E a1 hx with rfl | rfl
    · refine ⟨[], [⟨0, 10, 17, 13⟩], ⟨0, 10, 13, 26⟩, "java/lang/IndexOutOfBoundsException", rfl, rfl, by decide, wL_L_26, (ev_nw_ok 860 (by decide +kernel) rfl), ?_, fun t => ?_⟩
      · exact fun z9 hz => nomatch hz
      · refine e_astore dL_mass_13 (Nat.le_of_ble_eq_true rfl) ?_
        refine e_iconst (v := 1) dL_mass_15 (by decide) ?_
        exact e_iret rfl dL_mass_16 (Or.inr (Or.inl ⟨hx, rfl⟩))
    · refine ⟨[⟨0, 10, 13, 26⟩], [], ⟨0, 10, 17, 13⟩, "java/lang/IllegalArgumentException", rfl, rfl, by decide, wL_L_13, (ev_nw_ok 530 (by decide +kernel) rfl), ?_, fun t => ?_⟩
      · intro z9 hz
        simp only [List.mem_cons, List.not_mem_nil, or_false] at hz
        subst hz
        exact ⟨by decide, "java/lang/IndexOutOfBoundsException", wL_L_26, by decide +kernel⟩
      · refine e_astore dL_mass_17 (Nat.le_of_ble_eq_true rfl) ?_
        refine e_iconst (v := 2) dL_mass_19 (by decide) ?_
        exact e_iret rfl dL_mass_20 (Or.inr (Or.inr (⟨hx, rfl⟩)))
  · obtain ⟨r, rfl, ho⟩ := hP v a1 hp
    refine e_i2l dL_mass_8 ?_
    refine e_last (N := 1) (f := o) ho (by decide +kernel) (by decide +kernel) dL_mass_9 ?_
    refine e_goto (tgt := 21) dL_mass_10 (by decide) ?_
    refine e_iconst (v := 0) dL_mass_21 (by decide) ?_
    exact e_iret rfl dL_mass_22 (Or.inl ⟨r, a1, hp, rfl, rfl⟩)
set_option maxRecDepth 20000 in
theorem ct_L_spring {PY : Option Value → ev_H → Prop} {XY : String → ev_H → Prop} {dY mcY msY : Nat} (hd : dY ≤ 11) (hM : ev_Ct G l mX6_spring dY mcY msY [.ref b, .int x, .int y] (lwH G b S μ o) PY XY) (hP : ∀ v a, PY v a → ∃ r : Int32, v = some (.int r) ∧ a.1 (b + 172) = some (.inl (G.2.1 1, 1, .inr (.inl o)))) (hX : ∀ E a, XY E a → E = xI ∨ E = xA) : ev_Ht G l mL_spring [(0, 10, 13, 26), (0, 10, 17, 13)] 12 mcY msY [.ref b, .int x, .int y, .ref (b + 172)] (lwH G b S μ o) (fun v a => (∃ (r : Int32) (a0 : ev_H), PY (some (.int r)) a0 ∧ v = some (.int 0) ∧ a = ev_put a0 (b + 172) (.inl (G.2.1 1, 1, .inr (.inl (ev_u o (0 : Int32).toInt.toNat r.toInt64))))) ∨ (XY xI a ∧ v = some (.int 1)) ∨ (XY xA a ∧ v = some (.int 2))) := by
  refine ev_Ht.of (by decide +kernel) (by decide +kernel) (Nat.le_of_ble_eq_true rfl) ?_
  obtain ⟨fs, hb⟩ := lwH_x G b S μ o
  rw [show mcY = 0 + mcY by omega, show msY = 0 + msY by omega]
  refine e_aload_n dL_spring_0 rfl rfl ?_
  refine e_iconst (v := 0) dL_spring_1 (by decide) ?_
  refine e_aload_n dL_spring_2 rfl rfl ?_
  refine e_iload_n dL_spring_3 rfl rfl ?_
  refine e_iload_n dL_spring_4 rfl rfl ?_
  refine e_invVC (ci := 6) (as := [.int x, .int y]) (rest := [.int 0, .ref (b + 172)]) hM vX6_spring wM_L_28 hb rfl dL_spring_5 rfl rfl (Nat.le_of_ble_eq_true rfl) (by show dY + 1 ≤ 12; omega) (fun E a1 hx => ?_) (fun v a1 hp => ?_)
  · rcases hX E a1 hx with rfl | rfl
    · refine ⟨[], [⟨0, 10, 17, 13⟩], ⟨0, 10, 13, 26⟩, "java/lang/IndexOutOfBoundsException", rfl, rfl, by decide, wL_L_26, (ev_nw_ok 860 (by decide +kernel) rfl), ?_, fun t => ?_⟩
      · exact fun z9 hz => nomatch hz
      · refine e_astore dL_spring_13 (Nat.le_of_ble_eq_true rfl) ?_
        refine e_iconst (v := 1) dL_spring_15 (by decide) ?_
        exact e_iret rfl dL_spring_16 (Or.inr (Or.inl ⟨hx, rfl⟩))
    · refine ⟨[⟨0, 10, 13, 26⟩], [], ⟨0, 10, 17, 13⟩, "java/lang/IllegalArgumentException", rfl, rfl, by decide, wL_L_13, (ev_nw_ok 530 (by decide +kernel) rfl), ?_, fun t => ?_⟩
      · intro z9 hz
        simp only [List.mem_cons, List.not_mem_nil, or_false] at hz
        subst hz
        exact ⟨by decide, "java/lang/IndexOutOfBoundsException", wL_L_26, by decide +kernel⟩
      · refine e_astore dL_spring_17 (Nat.le_of_ble_eq_true rfl) ?_
        refine e_iconst (v := 2) dL_spring_19 (by decide) ?_
        exact e_iret rfl dL_spring_20 (Or.inr (Or.inr (⟨hx, rfl⟩)))
  · obtain ⟨r, rfl, ho⟩ := hP v a1 hp
    refine e_i2l dL_spring_8 ?_
    refine e_last (N := 1) (f := o) ho (by decide +kernel) (by decide +kernel) dL_spring_9 ?_
    refine e_goto (tgt := 21) dL_spring_10 (by decide) ?_
    refine e_iconst (v := 0) dL_spring_21 (by decide) ?_
    exact e_iret rfl dL_spring_22 (Or.inl ⟨r, a1, hp, rfl, rfl⟩)
set_option maxRecDepth 20000 in
theorem ct_L_noted {PY : Option Value → ev_H → Prop} {XY : String → ev_H → Prop} {dY mcY msY : Nat} (hd : dY ≤ 11) (hM : ev_Ct G l mX6_noted dY mcY msY [.ref b, .int x, .int y] (lwH G b S μ o) PY XY) (hP : ∀ v a, PY v a → ∃ r : Int32, v = some (.int r) ∧ a.1 (b + 172) = some (.inl (G.2.1 1, 1, .inr (.inl o)))) (hX : ∀ E a, XY E a → E = xN ∨ E = xA) : ev_Ht G l mL_noted [(0, 10, 13, 34), (0, 10, 17, 13)] 12 mcY msY [.ref b, .int x, .int y, .ref (b + 172)] (lwH G b S μ o) (fun v a => (∃ (r : Int32) (a0 : ev_H), PY (some (.int r)) a0 ∧ v = some (.int 0) ∧ a = ev_put a0 (b + 172) (.inl (G.2.1 1, 1, .inr (.inl (ev_u o (0 : Int32).toInt.toNat r.toInt64))))) ∨ (XY xN a ∧ v = some (.int 1)) ∨ (XY xA a ∧ v = some (.int 2))) := by
  refine ev_Ht.of (by decide +kernel) (by decide +kernel) (Nat.le_of_ble_eq_true rfl) ?_
  obtain ⟨fs, hb⟩ := lwH_x G b S μ o
  rw [show mcY = 0 + mcY by omega, show msY = 0 + msY by omega]
  refine e_aload_n dL_noted_0 rfl rfl ?_
  refine e_iconst (v := 0) dL_noted_1 (by decide) ?_
  refine e_aload_n dL_noted_2 rfl rfl ?_
  refine e_iload_n dL_noted_3 rfl rfl ?_
  refine e_iload_n dL_noted_4 rfl rfl ?_
  refine e_invVC (ci := 6) (as := [.int x, .int y]) (rest := [.int 0, .ref (b + 172)]) hM vX6_noted wM_L_31 hb rfl dL_noted_5 rfl rfl (Nat.le_of_ble_eq_true rfl) (by show dY + 1 ≤ 12; omega) (fun E a1 hx => ?_) (fun v a1 hp => ?_)
  · rcases hX E a1 hx with rfl | rfl
    · refine ⟨[], [⟨0, 10, 17, 13⟩], ⟨0, 10, 13, 34⟩, "java/util/NoSuchElementException", rfl, rfl, by decide, wL_L_34, (ev_nw_ok 899 (by decide +kernel) rfl), ?_, fun t => ?_⟩
      · exact fun z9 hz => nomatch hz
      · refine e_astore dL_noted_13 (Nat.le_of_ble_eq_true rfl) ?_
        refine e_iconst (v := 1) dL_noted_15 (by decide) ?_
        exact e_iret rfl dL_noted_16 (Or.inr (Or.inl ⟨hx, rfl⟩))
    · refine ⟨[⟨0, 10, 13, 34⟩], [], ⟨0, 10, 17, 13⟩, "java/lang/IllegalArgumentException", rfl, rfl, by decide, wL_L_13, (ev_nw_ok 530 (by decide +kernel) rfl), ?_, fun t => ?_⟩
      · intro z9 hz
        simp only [List.mem_cons, List.not_mem_nil, or_false] at hz
        subst hz
        exact ⟨by decide, "java/util/NoSuchElementException", wL_L_34, by decide +kernel⟩
      · refine e_astore dL_noted_17 (Nat.le_of_ble_eq_true rfl) ?_
        refine e_iconst (v := 2) dL_noted_19 (by decide) ?_
        exact e_iret rfl dL_noted_20 (Or.inr (Or.inr (⟨hx, rfl⟩)))
  · obtain ⟨r, rfl, ho⟩ := hP v a1 hp
    refine e_i2l dL_noted_8 ?_
    refine e_last (N := 1) (f := o) ho (by decide +kernel) (by decide +kernel) dL_noted_9 ?_
    refine e_goto (tgt := 21) dL_noted_10 (by decide) ?_
    refine e_iconst (v := 0) dL_noted_21 (by decide) ?_
    exact e_iret rfl dL_noted_22 (Or.inl ⟨r, a1, hp, rfl, rfl⟩)
set_option maxRecDepth 20000 in
theorem ct_L_waiting {PY : Option Value → ev_H → Prop} {XY : String → ev_H → Prop} {dY mcY msY : Nat} (hd : dY ≤ 11) (hM : ev_Ct G l mX6_waiting dY mcY msY [.ref b, .int x, .int y] (lwH G b S μ o) PY XY) (hP : ∀ v a, PY v a → ∃ r : Int32, v = some (.int r) ∧ a.1 (b + 172) = some (.inl (G.2.1 1, 1, .inr (.inl o)))) (hX : ∀ E a, XY E a → E = xN ∨ E = xA) : ev_Ht G l mL_waiting [(0, 10, 13, 34), (0, 10, 17, 13)] 12 mcY msY [.ref b, .int x, .int y, .ref (b + 172)] (lwH G b S μ o) (fun v a => (∃ (r : Int32) (a0 : ev_H), PY (some (.int r)) a0 ∧ v = some (.int 0) ∧ a = ev_put a0 (b + 172) (.inl (G.2.1 1, 1, .inr (.inl (ev_u o (0 : Int32).toInt.toNat r.toInt64))))) ∨ (XY xN a ∧ v = some (.int 1)) ∨ (XY xA a ∧ v = some (.int 2))) := by
  refine ev_Ht.of (by decide +kernel) (by decide +kernel) (Nat.le_of_ble_eq_true rfl) ?_
  obtain ⟨fs, hb⟩ := lwH_x G b S μ o
  rw [show mcY = 0 + mcY by omega, show msY = 0 + msY by omega]
  refine e_aload_n dL_waiting_0 rfl rfl ?_
  refine e_iconst (v := 0) dL_waiting_1 (by decide) ?_
  refine e_aload_n dL_waiting_2 rfl rfl ?_
  refine e_iload_n dL_waiting_3 rfl rfl ?_
  refine e_iload_n dL_waiting_4 rfl rfl ?_
  refine e_invVC (ci := 6) (as := [.int x, .int y]) (rest := [.int 0, .ref (b + 172)]) hM vX6_waiting wM_L_36 hb rfl dL_waiting_5 rfl rfl (Nat.le_of_ble_eq_true rfl) (by show dY + 1 ≤ 12; omega) (fun E a1 hx => ?_) (fun v a1 hp => ?_)
  · rcases hX E a1 hx with rfl | rfl
    · refine ⟨[], [⟨0, 10, 17, 13⟩], ⟨0, 10, 13, 34⟩, "java/util/NoSuchElementException", rfl, rfl, by decide, wL_L_34, (ev_nw_ok 899 (by decide +kernel) rfl), ?_, fun t => ?_⟩
      · exact fun z9 hz => nomatch hz
      · refine e_astore dL_waiting_13 (Nat.le_of_ble_eq_true rfl) ?_
        refine e_iconst (v := 1) dL_waiting_15 (by decide) ?_
        exact e_iret rfl dL_waiting_16 (Or.inr (Or.inl ⟨hx, rfl⟩))
    · refine ⟨[⟨0, 10, 13, 34⟩], [], ⟨0, 10, 17, 13⟩, "java/lang/IllegalArgumentException", rfl, rfl, by decide, wL_L_13, (ev_nw_ok 530 (by decide +kernel) rfl), ?_, fun t => ?_⟩
      · intro z9 hz
        simp only [List.mem_cons, List.not_mem_nil, or_false] at hz
        subst hz
        exact ⟨by decide, "java/util/NoSuchElementException", wL_L_34, by decide +kernel⟩
      · refine e_astore dL_waiting_17 (Nat.le_of_ble_eq_true rfl) ?_
        refine e_iconst (v := 2) dL_waiting_19 (by decide) ?_
        exact e_iret rfl dL_waiting_20 (Or.inr (Or.inr (⟨hx, rfl⟩)))
  · obtain ⟨r, rfl, ho⟩ := hP v a1 hp
    refine e_i2l dL_waiting_8 ?_
    refine e_last (N := 1) (f := o) ho (by decide +kernel) (by decide +kernel) dL_waiting_9 ?_
    refine e_goto (tgt := 21) dL_waiting_10 (by decide) ?_
    refine e_iconst (v := 0) dL_waiting_21 (by decide) ?_
    exact e_iret rfl dL_waiting_22 (Or.inl ⟨r, a1, hp, rfl, rfl⟩)
set_option maxRecDepth 20000 in
theorem ct_L_foretold {PY : Option Value → ev_H → Prop} {XY : String → ev_H → Prop} {dY mcY msY : Nat} (hd : dY ≤ 11) (hM : ev_Ct G l mX6_foretold dY mcY msY [.ref b, .int x, .int y, .int z] (lwH G b S μ o) PY XY) (hP : ∀ v a, PY v a → ∃ r : Int32, v = some (.int r) ∧ a.1 (b + 172) = some (.inl (G.2.1 1, 1, .inr (.inl o)))) (hX : ∀ E a, XY E a → E = xI ∨ E = xA) : ev_Ht G l mL_foretold [(0, 12, 15, 26), (0, 12, 19, 13)] 12 mcY msY [.ref b, .int x, .int y, .int z, .ref (b + 172)] (lwH G b S μ o) (fun v a => (∃ (r : Int32) (a0 : ev_H), PY (some (.int r)) a0 ∧ v = some (.int 0) ∧ a = ev_put a0 (b + 172) (.inl (G.2.1 1, 1, .inr (.inl (ev_u o (0 : Int32).toInt.toNat r.toInt64))))) ∨ (XY xI a ∧ v = some (.int 1)) ∨ (XY xA a ∧ v = some (.int 2))) := by
  refine ev_Ht.of (by decide +kernel) (by decide +kernel) (Nat.le_of_ble_eq_true rfl) ?_
  obtain ⟨fs, hb⟩ := lwH_x G b S μ o
  rw [show mcY = 0 + mcY by omega, show msY = 0 + msY by omega]
  refine e_aload dL_foretold_0 rfl ?_
  refine e_iconst (v := 0) dL_foretold_2 (by decide) ?_
  refine e_aload_n dL_foretold_3 rfl rfl ?_
  refine e_iload_n dL_foretold_4 rfl rfl ?_
  refine e_iload_n dL_foretold_5 rfl rfl ?_
  refine e_iload_n dL_foretold_6 rfl rfl ?_
  refine e_invVC (ci := 6) (as := [.int x, .int y, .int z]) (rest := [.int 0, .ref (b + 172)]) hM vX6_foretold wM_L_39 hb rfl dL_foretold_7 rfl rfl (Nat.le_of_ble_eq_true rfl) (by show dY + 1 ≤ 12; omega) (fun E a1 hx => ?_) (fun v a1 hp => ?_)
  · rcases hX E a1 hx with rfl | rfl
    · refine ⟨[], [⟨0, 12, 19, 13⟩], ⟨0, 12, 15, 26⟩, "java/lang/IndexOutOfBoundsException", rfl, rfl, by decide, wL_L_26, (ev_nw_ok 860 (by decide +kernel) rfl), ?_, fun t => ?_⟩
      · exact fun z9 hz => nomatch hz
      · refine e_astore dL_foretold_15 (Nat.le_of_ble_eq_true rfl) ?_
        refine e_iconst (v := 1) dL_foretold_17 (by decide) ?_
        exact e_iret rfl dL_foretold_18 (Or.inr (Or.inl ⟨hx, rfl⟩))
    · refine ⟨[⟨0, 12, 15, 26⟩], [], ⟨0, 12, 19, 13⟩, "java/lang/IllegalArgumentException", rfl, rfl, by decide, wL_L_13, (ev_nw_ok 530 (by decide +kernel) rfl), ?_, fun t => ?_⟩
      · intro z9 hz
        simp only [List.mem_cons, List.not_mem_nil, or_false] at hz
        subst hz
        exact ⟨by decide, "java/lang/IndexOutOfBoundsException", wL_L_26, by decide +kernel⟩
      · refine e_astore dL_foretold_19 (Nat.le_of_ble_eq_true rfl) ?_
        refine e_iconst (v := 2) dL_foretold_21 (by decide) ?_
        exact e_iret rfl dL_foretold_22 (Or.inr (Or.inr (⟨hx, rfl⟩)))
  · obtain ⟨r, rfl, ho⟩ := hP v a1 hp
    refine e_i2l dL_foretold_10 ?_
    refine e_last (N := 1) (f := o) ho (by decide +kernel) (by decide +kernel) dL_foretold_11 ?_
    refine e_goto (tgt := 23) dL_foretold_12 (by decide) ?_
    refine e_iconst (v := 0) dL_foretold_23 (by decide) ?_
    exact e_iret rfl dL_foretold_24 (Or.inl ⟨r, a1, hp, rfl, rfl⟩)
set_option maxRecDepth 20000 in
theorem ct_L_period {PY : Option Value → ev_H → Prop} {XY : String → ev_H → Prop} {dY mcY msY : Nat} (hd : dY ≤ 11) (hM : ev_Ct G l mX6_period dY mcY msY [.ref b, .int x, .int y] (lwH G b S μ o) PY XY) (hP : ∀ v a, PY v a → ∃ r : Int32, v = some (.int r) ∧ a.1 (b + 172) = some (.inl (G.2.1 1, 1, .inr (.inl o)))) (hX : ∀ E a, XY E a → E = xI ∨ E = xA) : ev_Ht G l mL_period [(0, 10, 13, 26), (0, 10, 17, 13)] 12 mcY msY [.ref b, .int x, .int y, .ref (b + 172)] (lwH G b S μ o) (fun v a => (∃ (r : Int32) (a0 : ev_H), PY (some (.int r)) a0 ∧ v = some (.int 0) ∧ a = ev_put a0 (b + 172) (.inl (G.2.1 1, 1, .inr (.inl (ev_u o (0 : Int32).toInt.toNat r.toInt64))))) ∨ (XY xI a ∧ v = some (.int 1)) ∨ (XY xA a ∧ v = some (.int 2))) := by
  refine ev_Ht.of (by decide +kernel) (by decide +kernel) (Nat.le_of_ble_eq_true rfl) ?_
  obtain ⟨fs, hb⟩ := lwH_x G b S μ o
  rw [show mcY = 0 + mcY by omega, show msY = 0 + msY by omega]
  refine e_aload_n dL_period_0 rfl rfl ?_
  refine e_iconst (v := 0) dL_period_1 (by decide) ?_
  refine e_aload_n dL_period_2 rfl rfl ?_
  refine e_iload_n dL_period_3 rfl rfl ?_
  refine e_iload_n dL_period_4 rfl rfl ?_
  refine e_invVC (ci := 6) (as := [.int x, .int y]) (rest := [.int 0, .ref (b + 172)]) hM vX6_period wM_L_43 hb rfl dL_period_5 rfl rfl (Nat.le_of_ble_eq_true rfl) (by show dY + 1 ≤ 12; omega) (fun E a1 hx => ?_) (fun v a1 hp => ?_)
  · rcases hX E a1 hx with rfl | rfl
    · refine ⟨[], [⟨0, 10, 17, 13⟩], ⟨0, 10, 13, 26⟩, "java/lang/IndexOutOfBoundsException", rfl, rfl, by decide, wL_L_26, (ev_nw_ok 860 (by decide +kernel) rfl), ?_, fun t => ?_⟩
      · exact fun z9 hz => nomatch hz
      · refine e_astore dL_period_13 (Nat.le_of_ble_eq_true rfl) ?_
        refine e_iconst (v := 1) dL_period_15 (by decide) ?_
        exact e_iret rfl dL_period_16 (Or.inr (Or.inl ⟨hx, rfl⟩))
    · refine ⟨[⟨0, 10, 13, 26⟩], [], ⟨0, 10, 17, 13⟩, "java/lang/IllegalArgumentException", rfl, rfl, by decide, wL_L_13, (ev_nw_ok 530 (by decide +kernel) rfl), ?_, fun t => ?_⟩
      · intro z9 hz
        simp only [List.mem_cons, List.not_mem_nil, or_false] at hz
        subst hz
        exact ⟨by decide, "java/lang/IndexOutOfBoundsException", wL_L_26, by decide +kernel⟩
      · refine e_astore dL_period_17 (Nat.le_of_ble_eq_true rfl) ?_
        refine e_iconst (v := 2) dL_period_19 (by decide) ?_
        exact e_iret rfl dL_period_20 (Or.inr (Or.inr (⟨hx, rfl⟩)))
  · obtain ⟨r, rfl, ho⟩ := hP v a1 hp
    refine e_i2l dL_period_8 ?_
    refine e_last (N := 1) (f := o) ho (by decide +kernel) (by decide +kernel) dL_period_9 ?_
    refine e_goto (tgt := 21) dL_period_10 (by decide) ?_
    refine e_iconst (v := 0) dL_period_21 (by decide) ?_
    exact e_iret rfl dL_period_22 (Or.inl ⟨r, a1, hp, rfl, rfl⟩)
set_option maxRecDepth 20000 in
theorem ct_L_pluck {PY : Option Value → ev_H → Prop} {XY : String → ev_H → Prop} {dY mcY msY : Nat} (hd : dY ≤ 11) (hM : ev_Ct G l mX6_pluck dY mcY msY [.ref b, .int x, .int y] (lwH G b S μ o) PY XY) (hP : ∀ v a, PY v a → ∃ r : Int32, v = some (.int r) ∧ a.1 (b + 172) = some (.inl (G.2.1 1, 1, .inr (.inl o)))) (hX : ∀ E a, XY E a → E = xI ∨ E = xA) : ev_Ht G l mL_pluck [(0, 10, 13, 26), (0, 10, 17, 13)] 12 mcY msY [.ref b, .int x, .int y, .ref (b + 172)] (lwH G b S μ o) (fun v a => (∃ (r : Int32) (a0 : ev_H), PY (some (.int r)) a0 ∧ v = some (.int 0) ∧ a = ev_put a0 (b + 172) (.inl (G.2.1 1, 1, .inr (.inl (ev_u o (0 : Int32).toInt.toNat r.toInt64))))) ∨ (XY xI a ∧ v = some (.int 1)) ∨ (XY xA a ∧ v = some (.int 2))) := by
  refine ev_Ht.of (by decide +kernel) (by decide +kernel) (Nat.le_of_ble_eq_true rfl) ?_
  obtain ⟨fs, hb⟩ := lwH_x G b S μ o
  rw [show mcY = 0 + mcY by omega, show msY = 0 + msY by omega]
  refine e_aload_n dL_pluck_0 rfl rfl ?_
  refine e_iconst (v := 0) dL_pluck_1 (by decide) ?_
  refine e_aload_n dL_pluck_2 rfl rfl ?_
  refine e_iload_n dL_pluck_3 rfl rfl ?_
  refine e_iload_n dL_pluck_4 rfl rfl ?_
  refine e_invVC (ci := 6) (as := [.int x, .int y]) (rest := [.int 0, .ref (b + 172)]) hM vX6_pluck wM_L_52 hb rfl dL_pluck_5 rfl rfl (Nat.le_of_ble_eq_true rfl) (by show dY + 1 ≤ 12; omega) (fun E a1 hx => ?_) (fun v a1 hp => ?_)
  · rcases hX E a1 hx with rfl | rfl
    · refine ⟨[], [⟨0, 10, 17, 13⟩], ⟨0, 10, 13, 26⟩, "java/lang/IndexOutOfBoundsException", rfl, rfl, by decide, wL_L_26, (ev_nw_ok 860 (by decide +kernel) rfl), ?_, fun t => ?_⟩
      · exact fun z9 hz => nomatch hz
      · refine e_astore dL_pluck_13 (Nat.le_of_ble_eq_true rfl) ?_
        refine e_iconst (v := 1) dL_pluck_15 (by decide) ?_
        exact e_iret rfl dL_pluck_16 (Or.inr (Or.inl ⟨hx, rfl⟩))
    · refine ⟨[⟨0, 10, 13, 26⟩], [], ⟨0, 10, 17, 13⟩, "java/lang/IllegalArgumentException", rfl, rfl, by decide, wL_L_13, (ev_nw_ok 530 (by decide +kernel) rfl), ?_, fun t => ?_⟩
      · intro z9 hz
        simp only [List.mem_cons, List.not_mem_nil, or_false] at hz
        subst hz
        exact ⟨by decide, "java/lang/IndexOutOfBoundsException", wL_L_26, by decide +kernel⟩
      · refine e_astore dL_pluck_17 (Nat.le_of_ble_eq_true rfl) ?_
        refine e_iconst (v := 2) dL_pluck_19 (by decide) ?_
        exact e_iret rfl dL_pluck_20 (Or.inr (Or.inr (⟨hx, rfl⟩)))
  · obtain ⟨r, rfl, ho⟩ := hP v a1 hp
    refine e_i2l dL_pluck_8 ?_
    refine e_last (N := 1) (f := o) ho (by decide +kernel) (by decide +kernel) dL_pluck_9 ?_
    refine e_goto (tgt := 21) dL_pluck_10 (by decide) ?_
    refine e_iconst (v := 0) dL_pluck_21 (by decide) ?_
    exact e_iret rfl dL_pluck_22 (Or.inl ⟨r, a1, hp, rfl, rfl⟩)
set_option maxRecDepth 20000 in
theorem ct_L_strike {PY : Option Value → ev_H → Prop} {XY : String → ev_H → Prop} {dY mcY msY : Nat} (hd : dY ≤ 11) (hM : ev_Ct G l mX6_strike dY mcY msY [.ref b, .int x, .int y] (lwH G b S μ o) PY XY) (hP : ∀ v a, PY v a → ∃ r : Int32, v = some (.int r) ∧ a.1 (b + 172) = some (.inl (G.2.1 1, 1, .inr (.inl o)))) (hX : ∀ E a, XY E a → E = xI ∨ E = xA) : ev_Ht G l mL_strike [(0, 10, 13, 26), (0, 10, 17, 13)] 12 mcY msY [.ref b, .int x, .int y, .ref (b + 172)] (lwH G b S μ o) (fun v a => (∃ (r : Int32) (a0 : ev_H), PY (some (.int r)) a0 ∧ v = some (.int 0) ∧ a = ev_put a0 (b + 172) (.inl (G.2.1 1, 1, .inr (.inl (ev_u o (0 : Int32).toInt.toNat r.toInt64))))) ∨ (XY xI a ∧ v = some (.int 1)) ∨ (XY xA a ∧ v = some (.int 2))) := by
  refine ev_Ht.of (by decide +kernel) (by decide +kernel) (Nat.le_of_ble_eq_true rfl) ?_
  obtain ⟨fs, hb⟩ := lwH_x G b S μ o
  rw [show mcY = 0 + mcY by omega, show msY = 0 + msY by omega]
  refine e_aload_n dL_strike_0 rfl rfl ?_
  refine e_iconst (v := 0) dL_strike_1 (by decide) ?_
  refine e_aload_n dL_strike_2 rfl rfl ?_
  refine e_iload_n dL_strike_3 rfl rfl ?_
  refine e_iload_n dL_strike_4 rfl rfl ?_
  refine e_invVC (ci := 6) (as := [.int x, .int y]) (rest := [.int 0, .ref (b + 172)]) hM vX6_strike wM_L_55 hb rfl dL_strike_5 rfl rfl (Nat.le_of_ble_eq_true rfl) (by show dY + 1 ≤ 12; omega) (fun E a1 hx => ?_) (fun v a1 hp => ?_)
  · rcases hX E a1 hx with rfl | rfl
    · refine ⟨[], [⟨0, 10, 17, 13⟩], ⟨0, 10, 13, 26⟩, "java/lang/IndexOutOfBoundsException", rfl, rfl, by decide, wL_L_26, (ev_nw_ok 860 (by decide +kernel) rfl), ?_, fun t => ?_⟩
      · exact fun z9 hz => nomatch hz
      · refine e_astore dL_strike_13 (Nat.le_of_ble_eq_true rfl) ?_
        refine e_iconst (v := 1) dL_strike_15 (by decide) ?_
        exact e_iret rfl dL_strike_16 (Or.inr (Or.inl ⟨hx, rfl⟩))
    · refine ⟨[⟨0, 10, 13, 26⟩], [], ⟨0, 10, 17, 13⟩, "java/lang/IllegalArgumentException", rfl, rfl, by decide, wL_L_13, (ev_nw_ok 530 (by decide +kernel) rfl), ?_, fun t => ?_⟩
      · intro z9 hz
        simp only [List.mem_cons, List.not_mem_nil, or_false] at hz
        subst hz
        exact ⟨by decide, "java/lang/IndexOutOfBoundsException", wL_L_26, by decide +kernel⟩
      · refine e_astore dL_strike_17 (Nat.le_of_ble_eq_true rfl) ?_
        refine e_iconst (v := 2) dL_strike_19 (by decide) ?_
        exact e_iret rfl dL_strike_20 (Or.inr (Or.inr (⟨hx, rfl⟩)))
  · obtain ⟨r, rfl, ho⟩ := hP v a1 hp
    refine e_i2l dL_strike_8 ?_
    refine e_last (N := 1) (f := o) ho (by decide +kernel) (by decide +kernel) dL_strike_9 ?_
    refine e_goto (tgt := 21) dL_strike_10 (by decide) ?_
    refine e_iconst (v := 0) dL_strike_21 (by decide) ?_
    exact e_iret rfl dL_strike_22 (Or.inl ⟨r, a1, hp, rfl, rfl⟩)
set_option maxRecDepth 20000 in
theorem ct_L_stiffen {PY : Option Value → ev_H → Prop} {XY : String → ev_H → Prop} {dY mcY msY : Nat} (hd : dY ≤ 11) (hM : ev_Ct G l mX6_stiffen dY mcY msY [.ref b, .int x, .int y] (lwH G b S μ o) PY XY) (hP : ∀ v a, PY v a → ∃ r : Int32, v = some (.int r) ∧ a.1 (b + 172) = some (.inl (G.2.1 1, 1, .inr (.inl o)))) (hX : ∀ E a, XY E a → E = xI ∨ E = xA) : ev_Ht G l mL_stiffen [(0, 10, 13, 26), (0, 10, 17, 13)] 12 mcY msY [.ref b, .int x, .int y, .ref (b + 172)] (lwH G b S μ o) (fun v a => (∃ (r : Int32) (a0 : ev_H), PY (some (.int r)) a0 ∧ v = some (.int 0) ∧ a = ev_put a0 (b + 172) (.inl (G.2.1 1, 1, .inr (.inl (ev_u o (0 : Int32).toInt.toNat r.toInt64))))) ∨ (XY xI a ∧ v = some (.int 1)) ∨ (XY xA a ∧ v = some (.int 2))) := by
  refine ev_Ht.of (by decide +kernel) (by decide +kernel) (Nat.le_of_ble_eq_true rfl) ?_
  obtain ⟨fs, hb⟩ := lwH_x G b S μ o
  rw [show mcY = 0 + mcY by omega, show msY = 0 + msY by omega]
  refine e_aload_n dL_stiffen_0 rfl rfl ?_
  refine e_iconst (v := 0) dL_stiffen_1 (by decide) ?_
  refine e_aload_n dL_stiffen_2 rfl rfl ?_
  refine e_iload_n dL_stiffen_3 rfl rfl ?_
  refine e_iload_n dL_stiffen_4 rfl rfl ?_
  refine e_invVC (ci := 6) (as := [.int x, .int y]) (rest := [.int 0, .ref (b + 172)]) hM vX6_stiffen wM_L_63 hb rfl dL_stiffen_5 rfl rfl (Nat.le_of_ble_eq_true rfl) (by show dY + 1 ≤ 12; omega) (fun E a1 hx => ?_) (fun v a1 hp => ?_)
  · rcases hX E a1 hx with rfl | rfl
    · refine ⟨[], [⟨0, 10, 17, 13⟩], ⟨0, 10, 13, 26⟩, "java/lang/IndexOutOfBoundsException", rfl, rfl, by decide, wL_L_26, (ev_nw_ok 860 (by decide +kernel) rfl), ?_, fun t => ?_⟩
      · exact fun z9 hz => nomatch hz
      · refine e_astore dL_stiffen_13 (Nat.le_of_ble_eq_true rfl) ?_
        refine e_iconst (v := 1) dL_stiffen_15 (by decide) ?_
        exact e_iret rfl dL_stiffen_16 (Or.inr (Or.inl ⟨hx, rfl⟩))
    · refine ⟨[⟨0, 10, 13, 26⟩], [], ⟨0, 10, 17, 13⟩, "java/lang/IllegalArgumentException", rfl, rfl, by decide, wL_L_13, (ev_nw_ok 530 (by decide +kernel) rfl), ?_, fun t => ?_⟩
      · intro z9 hz
        simp only [List.mem_cons, List.not_mem_nil, or_false] at hz
        subst hz
        exact ⟨by decide, "java/lang/IndexOutOfBoundsException", wL_L_26, by decide +kernel⟩
      · refine e_astore dL_stiffen_17 (Nat.le_of_ble_eq_true rfl) ?_
        refine e_iconst (v := 2) dL_stiffen_19 (by decide) ?_
        exact e_iret rfl dL_stiffen_20 (Or.inr (Or.inr (⟨hx, rfl⟩)))
  · obtain ⟨r, rfl, ho⟩ := hP v a1 hp
    refine e_i2l dL_stiffen_8 ?_
    refine e_last (N := 1) (f := o) ho (by decide +kernel) (by decide +kernel) dL_stiffen_9 ?_
    refine e_goto (tgt := 21) dL_stiffen_10 (by decide) ?_
    refine e_iconst (v := 0) dL_stiffen_21 (by decide) ?_
    exact e_iret rfl dL_stiffen_22 (Or.inl ⟨r, a1, hp, rfl, rfl⟩)
set_option maxRecDepth 20000 in
theorem ct_L_impulse {PY : Option Value → ev_H → Prop} {XY : String → ev_H → Prop} {dY mcY msY : Nat} (hd : dY ≤ 11) (hM : ev_Ct G l mX6_impulse dY mcY msY [.ref b, .int x, .int y, .int z] (lwH G b S μ o) PY XY) (hP : ∀ v a, PY v a → ∃ r : Int32, v = some (.int r) ∧ a.1 (b + 172) = some (.inl (G.2.1 1, 1, .inr (.inl o)))) (hX : ∀ E a, XY E a → E = xI ∨ E = xA ∨ E = xS) : ev_Ht G l mL_impulse [(0, 12, 15, 26), (0, 12, 19, 13), (0, 12, 23, 61)] 12 mcY msY [.ref b, .int x, .int y, .int z, .ref (b + 172)] (lwH G b S μ o) (fun v a => (∃ (r : Int32) (a0 : ev_H), PY (some (.int r)) a0 ∧ v = some (.int 0) ∧ a = ev_put a0 (b + 172) (.inl (G.2.1 1, 1, .inr (.inl (ev_u o (0 : Int32).toInt.toNat r.toInt64))))) ∨ (XY xI a ∧ v = some (.int 1)) ∨ (XY xA a ∧ v = some (.int 2)) ∨ (XY xS a ∧ v = some (.int 3))) := by
  refine ev_Ht.of (by decide +kernel) (by decide +kernel) (Nat.le_of_ble_eq_true rfl) ?_
  obtain ⟨fs, hb⟩ := lwH_x G b S μ o
  rw [show mcY = 0 + mcY by omega, show msY = 0 + msY by omega]
  refine e_aload dL_impulse_0 rfl ?_
  refine e_iconst (v := 0) dL_impulse_2 (by decide) ?_
  refine e_aload_n dL_impulse_3 rfl rfl ?_
  refine e_iload_n dL_impulse_4 rfl rfl ?_
  refine e_iload_n dL_impulse_5 rfl rfl ?_
  refine e_iload_n dL_impulse_6 rfl rfl ?_
  refine e_invVC (ci := 6) (as := [.int x, .int y, .int z]) (rest := [.int 0, .ref (b + 172)]) hM vX6_impulse wM_L_58 hb rfl dL_impulse_7 rfl rfl (Nat.le_of_ble_eq_true rfl) (by show dY + 1 ≤ 12; omega) (fun E a1 hx => ?_) (fun v a1 hp => ?_)
  · rcases hX E a1 hx with rfl | rfl | rfl
    · refine ⟨[], [⟨0, 12, 19, 13⟩, ⟨0, 12, 23, 61⟩], ⟨0, 12, 15, 26⟩, "java/lang/IndexOutOfBoundsException", rfl, rfl, by decide, wL_L_26, (ev_nw_ok 860 (by decide +kernel) rfl), ?_, fun t => ?_⟩
      · exact fun z9 hz => nomatch hz
      · refine e_astore dL_impulse_15 (Nat.le_of_ble_eq_true rfl) ?_
        refine e_iconst (v := 1) dL_impulse_17 (by decide) ?_
        exact e_iret rfl dL_impulse_18 (Or.inr (Or.inl ⟨hx, rfl⟩))
    · refine ⟨[⟨0, 12, 15, 26⟩], [⟨0, 12, 23, 61⟩], ⟨0, 12, 19, 13⟩, "java/lang/IllegalArgumentException", rfl, rfl, by decide, wL_L_13, (ev_nw_ok 530 (by decide +kernel) rfl), ?_, fun t => ?_⟩
      · intro z9 hz
        simp only [List.mem_cons, List.not_mem_nil, or_false] at hz
        subst hz
        exact ⟨by decide, "java/lang/IndexOutOfBoundsException", wL_L_26, by decide +kernel⟩
      · refine e_astore dL_impulse_19 (Nat.le_of_ble_eq_true rfl) ?_
        refine e_iconst (v := 2) dL_impulse_21 (by decide) ?_
        exact e_iret rfl dL_impulse_22 (Or.inr (Or.inr (Or.inl ⟨hx, rfl⟩)))
    · refine ⟨[⟨0, 12, 15, 26⟩, ⟨0, 12, 19, 13⟩], [], ⟨0, 12, 23, 61⟩, "java/lang/IllegalStateException", rfl, rfl, by decide, wL_L_61, (ev_nw_ok 1040 (by decide +kernel) rfl), ?_, fun t => ?_⟩
      · intro z9 hz
        simp only [List.mem_cons, List.not_mem_nil, or_false] at hz
        rcases hz with rfl | rfl
        · exact ⟨by decide, "java/lang/IndexOutOfBoundsException", wL_L_26, by decide +kernel⟩
        · exact ⟨by decide, "java/lang/IllegalArgumentException", wL_L_13, by decide +kernel⟩
      · refine e_astore dL_impulse_23 (Nat.le_of_ble_eq_true rfl) ?_
        refine e_iconst (v := 3) dL_impulse_25 (by decide) ?_
        exact e_iret rfl dL_impulse_26 (Or.inr (Or.inr (Or.inr (⟨hx, rfl⟩))))
  · obtain ⟨r, rfl, ho⟩ := hP v a1 hp
    refine e_i2l dL_impulse_10 ?_
    refine e_last (N := 1) (f := o) ho (by decide +kernel) (by decide +kernel) dL_impulse_11 ?_
    refine e_goto (tgt := 27) dL_impulse_12 (by decide) ?_
    refine e_iconst (v := 0) dL_impulse_27 (by decide) ?_
    exact e_iret rfl dL_impulse_28 (Or.inl ⟨r, a1, hp, rfl, rfl⟩)
end LW1
