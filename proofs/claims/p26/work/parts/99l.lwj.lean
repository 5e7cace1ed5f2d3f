/-! the law from its start -/
section LWJ
variable {G : ev_G} {l : Launch} {J : ev_K} {b : Nat}
set_option maxRecDepth 20000 in
theorem lp_law (hl0 : l.stackTraces = false) (hJ : 15 ≤ J.2.2.1) (hLb : G.2.2.2.1.2.1 ≤ 260) (hP : ∀ a, J.2.2.2.2.2.1 (some (.int 1)) a) : ∀ (r i : Nat) (x2 : Int32) (a : ev_H) (z : Nat), r + i = 2 → x2.toInt = (i : Int) → a.2 = some z → ev_V G l mL_law J 4 [some (.ref G.2.2.2.1.1), some (.int 1), some (.int x2)] [] a (6698 * r) (150481 * r) := by
  have hL : (Int32.ofNat G.2.2.2.1.2.1).toInt = (G.2.2.2.1.2.1 : Int) := ar_of (by omega)
  have w2 : (2 : Int32).toInt = 2 := by decide +kernel
  intro r
  induction r with
  | zero =>
    intro i x2 a z hr hx hz
    refine e_iload_n dL_law_4 rfl rfl ?_
    refine e_aload_n dL_law_5 rfl rfl ?_
    refine e_slen dL_law_6 ?_
    refine e_icmp_ge (tgt := 1360) dL_law_7 (by decide) (fun _ => ?_) (fun _ => ?_)
    · refine e_iload_n dL_law_1360 rfl rfl ?_
      exact e_zret (ty := .boolean) rfl rfl dL_law_1361 (hP _)
    · refine e_iload_n dL_law_10 rfl rfl ?_
      refine e_iconst (v := 2) dL_law_11 (by decide) ?_
      refine e_icmp_ge (tgt := 1360) dL_law_12 (by decide) (fun _ => ?_) (fun c9 => absurd c9 (by omega))
      refine e_iload_n dL_law_1360 rfl rfl ?_
      exact e_zret (ty := .boolean) rfl rfl dL_law_1361 (hP _)
  | succ r ih =>
    intro i x2 a z hr hx hz
    refine e_iload_n dL_law_4 rfl rfl ?_
    refine e_aload_n dL_law_5 rfl rfl ?_
    refine e_slen dL_law_6 ?_
    refine e_icmp_ge (tgt := 1360) dL_law_7 (by decide) (fun _ => ?_) (fun c7 => ?_)
    · refine e_iload_n dL_law_1360 rfl rfl ?_
      exact e_zret (ty := .boolean) rfl rfl dL_law_1361 (hP _)
    · refine e_iload_n dL_law_10 rfl rfl ?_
      refine e_iconst (v := 2) dL_law_11 (by decide) ?_
      refine e_icmp_ge (tgt := 1360) dL_law_12 (by decide) (fun c9 => absurd c9 (by omega)) (fun _ => ?_)
      refine e_iload_n dL_law_15 rfl rfl ?_
      refine e_if_eq (tgt := 1360) dL_law_16 (by decide) (fun q => absurd q (by decide)) (fun _ => ?_)
      refine e_wide (k0 := 6698 * r + 6698) (n0 := 150481 * r + 150481) (by omega) (by omega) ?_
      exact ev_lc (lw_it hl0 hJ hLb (by omega) (by omega) hz (fun a2 z2 hz2 => ih (i + 1) _ a2 z2 (by omega) (ar_inc hx (by omega)) hz2)) ⟨rfl, rfl, rfl, trivial⟩
set_option maxRecDepth 20000 in
theorem ev_law (hJ : 15 ≤ J.2.2.1) (hl0 : l.stackTraces = false) (hLb : G.2.2.2.1.2.1 ≤ 260) (hP : ∀ a, J.2.2.2.2.2.1 (some (.int 1)) a) : ev_V G l mL_law J 0 [some (.ref G.2.2.2.1.1)] [] (fun _ => none, some b) 13396 300962 := by
  refine e_wide (k0 := 6698 * 2) (n0 := 150481 * 2) (by decide) (by decide) ?_
  refine e_iconst (v := 1) dL_law_0 (by decide) ?_
  refine e_istore_n dL_law_1 rfl (Nat.le_of_ble_eq_true rfl) ?_
  refine e_iconst (v := 0) dL_law_2 (by decide) ?_
  refine e_istore_n dL_law_3 rfl (Nat.le_of_ble_eq_true rfl) ?_
  exact ev_lc (lp_law hl0 hJ hLb hP 2 0 0 _ b rfl ar_0 rfl) ⟨rfl, rfl, rfl, trivial⟩
end LWJ
