/-! the model notes a pattern -/
section M4
variable {G : ev_G} {l : Launch} {c j w : Nat} {μ : MS} {σ : CS} {h : ev_H} {x y z : Int32} {T : Int}
set_option maxRecDepth 20000 in
theorem lp_mnote {J : ev_K} {k n : Nat} (hJ : 1 ≤ J.2.2.1) (hR : RD σ (μ.2.1 0)) (hv : sInv σ) {p : Int32} (hk : ∀ (i : Nat) (x : Int32), x.toInt = (i : Int) → i ≤ sPn σ → (∀ j, j < i → σ.2.2 10 j ≠ p) → (i = sPn σ ∨ (i < sPn σ ∧ σ.2.2 10 i = p)) → ev_V G l mX7_note J 45 [some (.ref c), some (.int p), some (.int (σ.1 6)), some (.int x)] [] (mo G c μ h) k n) : ∀ (r i : Nat) (x : Int32), r + i = sPn σ → x.toInt = (i : Int) → (∀ j, j < i → σ.2.2 10 j ≠ p) → ev_V G l mX7_note J 16 [some (.ref c), some (.int p), some (.int (σ.1 6)), some (.int x)] [] (mo G c μ h) k n := by
  intro r
  induction r using Nat.strongRecOn with
  | ind r ih =>
    intro i x
    intro hr hx hno
    have hn : x.toInt.toNat = i := ar_nat hx
    have hmn := hv.1.nat
    have hmu : (σ.1 0).toInt = sM σ := rfl
    have z0 := ar_0
    have z1 := ar_1
    have zL : (0 : Int64).toInt = 0 := by decide +kernel
    have zc : (0 : Int32).toInt64 = 0 := by decide +kernel
    have w6 : (6 : Int32).toInt = 6 := by decide +kernel
    have z135 : (135 : Int32).toInt = ((135 : Nat) : Int) := by decide +kernel
    have hpn : (sPn σ : Int) = (σ.1 6).toInt := by have := hv.2.2.2.2; unfold sPn; omega
    have hp32 : sPn σ ≤ 32 := by have := hv.2.2.2.2; omega
    have ea : ((135 : Int32) + 2 * x).toInt = ((135 + 2 * i : Nat) : Int) := ar_ix2 z135 hx (by omega) (by omega)
    refine e_iload_n dX7_note_16 rfl rfl ?_
    refine e_iload_n dX7_note_17 rfl rfl ?_
    refine e_icmp_ge (tgt := 45) dX7_note_18 (by decide) (fun c18 => ?_) (fun c18 => ?_)
    · exact ev_lc (hk i x hx (by omega) hno (Or.inl (by omega))) ⟨rfl, rfl, rfl, rfl, trivial⟩
    · have hi : i < sPn σ := by omega
      have fa : μ.2.1 0 ((135 : Int32) + 2 * x).toInt.toNat = (σ.2.2 10 i).toInt64 := by rw [ar_nat ea]; exact hR.2.2.1 0 i (by decide) hi
      refine e_aload_n dX7_note_21 rfl rfl ?_
      refine mo_g8 wF_X7_17 dX7_note_22 ?_
      refine e_sipush (v := 135) dX7_note_25 (by decide) ?_
      refine e_iconst (v := 2) dX7_note_28 (by decide) ?_
      refine e_iload_n dX7_note_29 rfl rfl ?_
      refine e_imul dX7_note_30 ?_
      refine e_iadd dX7_note_31 ?_
      refine mo_l2 (by rw [ea]; omega) (by rw [ea]; omega) dX7_note_32 ?_
      rw [fa]
      refine e_iload_n dX7_note_33 rfl rfl ?_
      refine e_i2l dX7_note_34 ?_
      refine e_lcmp dX7_note_35 ?_
      refine e_if_eq (tgt := 45) dX7_note_36 (by decide) (fun c36 => ?_) (fun c36 => ?_)
      · exact ev_lc (hk i x hx (by omega) hno (Or.inr ⟨hi, ar_64i (ar_lcmp0.mp c36)⟩)) ⟨rfl, rfl, rfl, rfl, trivial⟩
      · have d36 : σ.2.2 10 i ≠ p := fun q => c36 (ar_lcmp0.mpr (by rw [q]))
        refine e_iinc dX7_note_39 rfl rfl (Nat.le_of_ble_eq_true rfl) ?_
        refine e_goto (tgt := 16) dX7_note_42 (by decide) ?_
        refine ih (r - 1) (by omega) (i + 1) _ (by omega) (ar_inc hx (by omega)) (fun j hj => ?_)
        by_cases e : j = i
        · rw [e]; exact d36
        · exact hno j (by omega)
theorem note_inc {δ : Nat → Int64} {p : Int32} {i : Nat} (hR : RD σ δ) (hv : sInv σ) (ht : RBt T σ) (hT : T < 2147483647) (hno : ∀ j, j < i → σ.2.2 10 j ≠ p) (hor : i = sPn σ ∨ (i < sPn σ ∧ σ.2.2 10 i = p)) (d : ¬ i = sPn σ) : RD (sNote σ p) (ev_u δ (135 + 2 * i + 1) (δ (135 + 2 * i + 1) + 1)) := by
  have hp32 : sPn σ ≤ 32 := by have := hv.2.2.2.2; unfold sPn; omega
  have h2 : i < sPn σ ∧ σ.2.2 10 i = p := hor.elim (fun q => absurd q d) id
  have hti := ht.2.2 i h2.1
  have htt := ht.1
  have z1 := ar_1
  have q2 := RD.incp hR hv h2.1 (σ.2.2 11 i + 1)
  rw [ar_64add (by omega) (by omega), show (σ.2.2 11 i).toInt64 = δ (135 + 2 * i + 1) from (hR.2.2.1 1 i (by decide) h2.1).symm, show (1 : Int32).toInt64 = 1 by decide +kernel] at q2
  rw [sNote_inc hv.2.2.2.2.1 h2.1 hp32 hno h2.2]
  exact q2
theorem note_new {δ : Nat → Int64} {p : Int32} {i : Nat} (hR : RD σ δ) (hv : sInv σ) (hno : ∀ j, j < i → σ.2.2 10 j ≠ p) (d : i = sPn σ) (h32 : i < 32) : RD (sNote σ p) (ev_u (ev_u (ev_u (ev_u δ (135 + 2 * i) p.toInt64) (135 + 2 * i + 1) 0) 6 (ev_u (ev_u δ (135 + 2 * i) p.toInt64) (135 + 2 * i + 1) 0 6 + 1)) (135 + 2 * i + 1) (ev_u (ev_u (ev_u δ (135 + 2 * i) p.toInt64) (135 + 2 * i + 1) 0) 6 (ev_u (ev_u δ (135 + 2 * i) p.toInt64) (135 + 2 * i + 1) 0 6 + 1) (135 + 2 * i + 1) + 1)) := by
  subst d
  have h6 := hv.2.2.2.2
  have z1 := ar_1
  rw [sNote_new h6.1 h32 hno]
  refine RD.newp hR hv h32 ?_ ?_ ?_ ?_
  · rw [ev_u_ne _ _ (by omega), ev_u_self, ev_u_ne _ _ (by omega), ev_u_ne _ _ (by omega), hR.1.2.2.2.2.2.2, ar_64add (by omega) (by omega)]
    congr 1
  · rw [ev_u_ne _ _ (by omega), ev_u_ne _ _ (by omega), ev_u_ne _ _ (by omega), ev_u_self]
  · rw [ev_u_self, ev_u_ne _ _ (by omega), ev_u_self]
    decide +kernel
  · intro q a1 a2 a3
    rw [ev_u_ne _ _ a3, ev_u_ne _ _ a1, ev_u_ne _ _ a3, ev_u_ne _ _ a2]
set_option maxRecDepth 20000 in
theorem ct_X7_note (hR : RD σ (μ.2.1 0)) (hv : sInv σ) (ht : RBt T σ) (hT : T < 2147483647) : ev_Ct G l mX7_note 3 0 0 [.ref c] (mo G c μ h) (fun v a => v = none ∧ ∃ δ : Nat → Int64, RD (sNote σ (sPat σ)) δ ∧ a = mo G c (ms_L μ 0 δ) h) (fun _ _ => False) := by
  refine ev_Ct.of (by decide +kernel) (Nat.le_of_ble_eq_true rfl) ?_
  have hmn := hv.1.nat
  have hmu : (σ.1 0).toInt = sM σ := rfl
  have z0 := ar_0
  have z1 := ar_1
  have zL : (0 : Int64).toInt = 0 := by decide +kernel
  have zc : (0 : Int32).toInt64 = 0 := by decide +kernel
  have w6 : (6 : Int32).toInt = 6 := by decide +kernel
  have z135 : (135 : Int32).toInt = ((135 : Nat) : Int) := by decide +kernel
  have hpn : (sPn σ : Int) = (σ.1 6).toInt := by have := hv.2.2.2.2; unfold sPn; omega
  have hp32 : sPn σ ≤ 32 := by have := hv.2.2.2.2; omega
  have f6 : (μ.2.1 0 (6 : Int32).toInt.toNat).toInt32 = σ.1 6 := by rw [w6]; show (μ.2.1 0 6).toInt32 = _; rw [hR.1.2.2.2.2.2.2, ar_6432]
  have n6 : (6 : Int32).toInt.toNat = 6 := by decide +kernel
  have w32 : (32 : Int32).toInt = 32 := by decide +kernel
  have h6 := hv.2.2.2.2.1
  refine e_aload_n dX7_note_0 rfl rfl ?_
  refine e_invV (mcY := 0) (msY := 0) (ct_X7_patternNow hR hv) vX7_patternNow wM_X7_218 (mo_at G c _ h 0 (by decide)) rfl dX7_note_1 rfl rfl (Nat.le_of_ble_eq_true rfl) (Nat.le_of_ble_eq_true rfl) ?_
  rintro _ _ ⟨rfl, rfl⟩
  refine e_istore_n dX7_note_4 rfl (Nat.le_of_ble_eq_true rfl) ?_
  refine e_aload_n dX7_note_5 rfl rfl ?_
  refine mo_g8 wF_X7_17 dX7_note_6 ?_
  refine e_bipush (v := 6) dX7_note_9 (by decide) ?_
  refine mo_l2 (by omega) (by omega) dX7_note_11 ?_
  refine e_l2i dX7_note_12 ?_
  rw [f6]
  refine e_istore_n dX7_note_13 rfl (Nat.le_of_ble_eq_true rfl) ?_
  refine e_iconst (v := 0) dX7_note_14 (by decide) ?_
  refine e_istore_n dX7_note_15 rfl (Nat.le_of_ble_eq_true rfl) ?_
  refine ev_loc (L' := [some (.ref c), some (.int (sPat σ)), some (.int (σ.1 6)), some (.int 0)]) ⟨rfl, rfl, rfl, rfl, trivial⟩ ?_
  refine lp_mnote (Nat.le_of_ble_eq_true rfl) hR hv (p := sPat σ) (fun i x hx hi hno hor => ?_) (sPn σ) 0 0 (by omega) ar_0 (fun j hj => absurd hj (Nat.not_lt_zero _))
  have ea : ((135 : Int32) + 2 * x).toInt = ((135 + 2 * i : Nat) : Int) := ar_ix2 z135 hx (by omega) (by omega)
  have ea1 : ((135 : Int32) + 2 * x + 1).toInt = ((135 + 2 * i + 1 : Nat) : Int) := by rw [ar_add (by omega) (by omega), z1]; omega
  refine e_iload_n dX7_note_45 rfl rfl ?_
  refine e_bipush (v := 32) dX7_note_46 (by decide) ?_
  refine e_icmp_ne (tgt := 52) dX7_note_48 (by decide) (fun c48 => ?_) (fun c48 => ?_)
  · have d48 : ¬ i = 32 := fun q => c48 (ar_eq (by omega))
    refine e_iload_n dX7_note_52 rfl rfl ?_
    refine e_iload_n dX7_note_53 rfl rfl ?_
    refine e_icmp_ne (tgt := 97) dX7_note_54 (by decide) (fun c54 => ?_) (fun c54 => ?_)
    · have d54 : ¬ i = sPn σ := fun q => c54 (ar_eq (by omega))
      have fb : μ.2.1 0 (135 + 2 * i + 1) = (σ.2.2 11 i).toInt64 := hR.2.2.1 1 i (by decide) (by omega)
      have hti := ht.2.2 i (by omega)
      have htt := ht.1
      refine e_aload_n dX7_note_97 rfl rfl ?_
      refine mo_g8 wF_X7_17 dX7_note_98 ?_
      refine e_sipush (v := 135) dX7_note_101 (by decide) ?_
      refine e_iconst (v := 2) dX7_note_104 (by decide) ?_
      refine e_iload_n dX7_note_105 rfl rfl ?_
      refine e_imul dX7_note_106 ?_
      refine e_iadd dX7_note_107 ?_
      refine e_iconst (v := 1) dX7_note_108 (by decide) ?_
      refine e_iadd dX7_note_109 ?_
      refine e_dup2 dX7_note_110 rfl rfl ?_
      refine mo_l2 (by rw [ea1]; omega) (by rw [ea1]; omega) dX7_note_111 ?_
      refine e_lconst (v := 1) dX7_note_112 (by decide) ?_
      refine e_ladd dX7_note_113 ?_
      refine mo_s2 (by rw [ea1]; omega) (by rw [ea1]; omega) dX7_note_114 ?_
      exact e_vret rfl dX7_note_115 (by
          first
            | exact ⟨rfl, _, note_inc hR hv ht hT hno hor d54, by rw [ar_nat ea1]⟩
            | exact ⟨rfl, _, note_new hR hv hno d54 (by omega), by simp only [ms_L_L, ms_L_get, ar_nat ea, ar_nat ea1, n6]⟩)
    · have d54 : i = sPn σ := by have := congrArg Int32.toInt c54; omega
      refine e_aload_n dX7_note_57 rfl rfl ?_
      refine mo_g8 wF_X7_17 dX7_note_58 ?_
      refine e_sipush (v := 135) dX7_note_61 (by decide) ?_
      refine e_iconst (v := 2) dX7_note_64 (by decide) ?_
      refine e_iload_n dX7_note_65 rfl rfl ?_
      refine e_imul dX7_note_66 ?_
      refine e_iadd dX7_note_67 ?_
      refine e_iload_n dX7_note_68 rfl rfl ?_
      refine e_i2l dX7_note_69 ?_
      refine mo_s2 (by rw [ea]; omega) (by rw [ea]; omega) dX7_note_70 ?_
      refine e_aload_n dX7_note_71 rfl rfl ?_
      refine mo_g8 wF_X7_17 dX7_note_72 ?_
      refine e_sipush (v := 135) dX7_note_75 (by decide) ?_
      refine e_iconst (v := 2) dX7_note_78 (by decide) ?_
      refine e_iload_n dX7_note_79 rfl rfl ?_
      refine e_imul dX7_note_80 ?_
      refine e_iadd dX7_note_81 ?_
      refine e_iconst (v := 1) dX7_note_82 (by decide) ?_
      refine e_iadd dX7_note_83 ?_
      refine e_lconst (v := 0) dX7_note_84 (by decide) ?_
      refine mo_s2 (by rw [ea1]; omega) (by rw [ea1]; omega) dX7_note_85 ?_
      refine e_aload_n dX7_note_86 rfl rfl ?_
      refine mo_g8 wF_X7_17 dX7_note_87 ?_
      refine e_bipush (v := 6) dX7_note_90 (by decide) ?_
      refine e_dup2 dX7_note_92 rfl rfl ?_
      refine mo_l2 (by omega) (by omega) dX7_note_93 ?_
      refine e_lconst (v := 1) dX7_note_94 (by decide) ?_
      refine e_ladd dX7_note_95 ?_
      refine mo_s2 (by omega) (by omega) dX7_note_96 ?_
      refine e_aload_n dX7_note_97 rfl rfl ?_
      refine mo_g8 wF_X7_17 dX7_note_98 ?_
      refine e_sipush (v := 135) dX7_note_101 (by decide) ?_
      refine e_iconst (v := 2) dX7_note_104 (by decide) ?_
      refine e_iload_n dX7_note_105 rfl rfl ?_
      refine e_imul dX7_note_106 ?_
      refine e_iadd dX7_note_107 ?_
      refine e_iconst (v := 1) dX7_note_108 (by decide) ?_
      refine e_iadd dX7_note_109 ?_
      refine e_dup2 dX7_note_110 rfl rfl ?_
      refine mo_l2 (by rw [ea1]; omega) (by rw [ea1]; omega) dX7_note_111 ?_
      refine e_lconst (v := 1) dX7_note_112 (by decide) ?_
      refine e_ladd dX7_note_113 ?_
      refine mo_s2 (by rw [ea1]; omega) (by rw [ea1]; omega) dX7_note_114 ?_
      exact e_vret rfl dX7_note_115 (by
          first
            | exact ⟨rfl, _, note_inc hR hv ht hT hno hor d54, by rw [ar_nat ea1]⟩
            | exact ⟨rfl, _, note_new hR hv hno d54 (by omega), by simp only [ms_L_L, ms_L_get, ar_nat ea, ar_nat ea1, n6]⟩)
  · have d48 : i = 32 := by have := congrArg Int32.toInt c48; omega
    exact e_vret rfl dX7_note_51 (⟨rfl, μ.2.1 0, by rw [sNote_full h6 (by omega) (by intro j hj; exact hno j (by omega))]; exact hR, by rw [ms_L_self]⟩)
end M4
