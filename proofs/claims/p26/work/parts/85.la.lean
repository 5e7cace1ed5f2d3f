/-! the law's chain and the class's answer alike -/
def MOM (σ : CS) : Prop := sAcc σ 0 = sAcc σ 1 + sAcc σ 2 + sAcc σ 3 - sAcc σ 4 - sAcc σ 5
theorem lg_cmp_rf (x : Int64) : lg_cmp x x = 0 := ar_lcmp0.mpr rfl
section LAG
variable {G : ev_G} {l : Launch} {b : Nat} {S : SS} {h : ev_H} {x y z : Int32} {A : Nat → Nat} {nI : Nat} {mI : Nat → TI}
theorem la_account (hl0 : l.stackTraces = false) (hq : h.2 = none) (hv : sInv (S.2.2.2 0)) (c : 0 ≤ x.toInt ∧ x.toInt ≤ 7) : ev_Ct G l mX6_account 7 1 6 [.ref b, .int x] (sy G b S h) (fun v a => v = some (.long (sAcc (S.2.2.2 0) x.toInt.toNat)) ∧ a = sy G b S h) (fun _ _ => False) :=
  (ct_X6_account hl0 hq hv).mono (fun _ _ p => p.1) (fun _ _ p => p.2 c)
set_option maxRecDepth 20000 in
theorem lp_agr {J : ev_K} {k n : Nat} (hJ : 13 ≤ J.2.2.1) (hl0 : l.stackTraces = false) (hq : h.2 = none) (hv : sInv (S.2.2.2 0)) (hb : RBs (S.2.2.2 0)) (hC : LC G (sy G b S h) A (S.2.2.2 0) nI mI) (hI : Int32.ofNat nI = (S.2.2.2 0).1 5) (hk : ev_V G l mL_agrees J 111 [some (.ref b), some (.ref (A 0)), some (.int 1)] [] (sy G b S h) k n) : ∀ (r i : Nat) (x : Int32), r + i = 12 → x.toInt = (i : Int) → ev_V G l mL_agrees J 76 [some (.ref b), some (.ref (A 0)), some (.int 1), some (.int x)] [] (sy G b S h) (k + r) (n + 6 * r) := by
  have w12 : (12 : Int32).toInt = 12 := by decide +kernel
  intro r
  induction r with
  | zero =>
    intro i x hr hx
    refine e_iload_n dL_agrees_76 rfl rfl ?_
    refine e_bipush (v := 12) dL_agrees_77 (by decide) ?_
    refine e_icmp_ge (tgt := 111) dL_agrees_79 (by decide) (fun _ => ev_lc hk ⟨rfl, rfl, rfl, trivial⟩) (fun q => absurd q (by omega))
  | succ r ih =>
    intro i x hr hx
    have hn : x.toInt.toNat = i := ar_nat hx
    refine e_iload_n dL_agrees_76 rfl rfl ?_
    refine e_bipush (v := 12) dL_agrees_77 (by decide) ?_
    refine e_icmp_ge (tgt := 111) dL_agrees_79 (by decide) (fun q => absurd q (by omega)) (fun _ => ?_)
    refine e_iload_n dL_agrees_82 rfl rfl ?_
    refine e_if_eq (tgt := 111) dL_agrees_83 (by decide) (fun q => absurd q (by decide)) (fun _ => ?_)
    refine e_aload_n dL_agrees_86 rfl rfl ?_
    refine e_iload_n dL_agrees_87 rfl rfl ?_
    refine e_wide (k0 := (k + r) + 1) (n0 := (n + 6 * r) + 6) (by omega) (by omega) ?_
    refine e_invSH (lh_state_ok hl0 hq hv (by omega)) vL_state wM_L_220 dL_agrees_88 rfl rfl (Nat.le_of_ble_eq_true rfl) (Nat.le_trans (Nat.le_of_ble_eq_true rfl) hJ) ?_
    intro v c hc
    obtain ⟨rfl, e1⟩ := hc
    rw [e1, hn]
    refine e_aload_n dL_agrees_91 rfl rfl ?_
    refine e_iload_n dL_agrees_92 rfl rfl ?_
    refine e_invV (mcY := 0) (msY := 0) (ct_X7_told hC hv hb hI hx (by omega)) vX7_told wM_L_232 hC.1.1 rfl dL_agrees_93 rfl rfl (Nat.le_of_ble_eq_true rfl) (Nat.le_trans (Nat.le_of_ble_eq_true rfl) hJ) ?_
    intro v c2 hc2
    obtain ⟨rfl, e2⟩ := hc2
    rw [e2]
    refine e_icmp_ne (tgt := 103) dL_agrees_96 (by decide) (fun q => absurd rfl q) (fun _ => ?_)
    refine e_iconst (v := 1) dL_agrees_99 (by decide) ?_
    refine e_goto (tgt := 104) dL_agrees_100 (by decide) ?_
    refine e_istore_n dL_agrees_104 rfl (Nat.le_of_ble_eq_true rfl) ?_
    refine e_iinc dL_agrees_105 rfl rfl (Nat.le_of_ble_eq_true rfl) ?_
    refine e_goto (tgt := 76) dL_agrees_108 (by decide) ?_
    exact ev_lc (ih (i + 1) _ (by omega) (ar_inc hx (by omega))) ⟨rfl, rfl, rfl, rfl, trivial⟩
set_option maxRecDepth 20000 in
theorem ct_L_agrees (hl0 : l.stackTraces = false) (hq : h.2 = none) (hv : sInv (S.2.2.2 0)) (hb : RBs (S.2.2.2 0)) (hC : LC G (sy G b S h) A (S.2.2.2 0) nI mI) (hI : Int32.ofNat nI = (S.2.2.2 0).1 5) (hM : MOM (S.2.2.2 0)) : ev_Ct G l mL_agrees 13 25 150 [.ref b, .ref (A 0)] (sy G b S h) (fun v a => v = some (.int 1) ∧ a = sy G b S h) (fun _ _ => False) := by
  refine ev_Ct.of (by decide +kernel) (Nat.le_of_ble_eq_true rfl) ?_
  have w0 : (0 : Int32).toInt = 0 := by decide +kernel
  have w1 : (1 : Int32).toInt = 1 := by decide +kernel
  have w2 : (2 : Int32).toInt = 2 := by decide +kernel
  have w3 : (3 : Int32).toInt = 3 := by decide +kernel
  have w4 : (4 : Int32).toInt = 4 := by decide +kernel
  have w5 : (5 : Int32).toInt = 5 := by decide +kernel
  have w12 : (12 : Int32).toInt = 12 := by decide +kernel
  have hmn := hv.1.nat
  have hpn := hv.2.2.2.2
  have hls : (Int32.ofNat (sNm (S.2.2.2 0) + 1)).toInt = ((sNm (S.2.2.2 0) + 1 : Nat) : Int) := ar_of (by omega)
  have hmu : ((S.2.2.2 0).1 0).toInt = (sNm (S.2.2.2 0) : Int) := hmn.1.symm
  have hsm : sM (S.2.2.2 0) = (sNm (S.2.2.2 0) : Int) := hmu
  refine e_wide (k0 := (((((((((((((0 + 1) + 1) + 1) + 1) + 1) + 1) + 12)) + 2) + 2) + 2) + 1))) (n0 := (((((((((((((0 + 6) + 6) + 6) + 6) + 6) + 6) + 6 * 12)) + 12) + 12) + 12) + 6))) (by decide) (by decide) ?_
  refine e_aload_n dL_agrees_0 rfl rfl ?_
  refine e_invV (mcY := 0) (msY := 0) (ct_X6_checksum hv) vX6_checksum wM_L_215 (sy_at G b S h 0 (by decide)) rfl dL_agrees_1 rfl rfl (Nat.le_of_ble_eq_true rfl) (Nat.le_of_ble_eq_true rfl) ?_
  intro v c hc
  obtain ⟨rfl, e1⟩ := hc
  rw [e1]
  refine e_aload_n dL_agrees_4 rfl rfl ?_
  refine e_invV (mcY := 0) (msY := 0) (ct_X7_checksum hC hv hb hI) vX7_checksum wM_L_219 hC.1.1 rfl dL_agrees_5 rfl rfl (Nat.le_of_ble_eq_true rfl) (Nat.le_of_ble_eq_true rfl) ?_
  intro v c hc
  obtain ⟨rfl, e1⟩ := hc
  rw [e1]
  refine e_lcmp dL_agrees_8 ?_
  refine e_if_ne (tgt := 72) dL_agrees_9 (by decide) (fun q => absurd (lg_cmp_rf _) q) (fun _ => ?_)
  refine e_aload_n dL_agrees_12 rfl rfl ?_
  refine e_bipush (v := 12) dL_agrees_13 (by decide) ?_
  refine e_invSH (lh_state_A hl0 hq hv (by omega)) vL_state wM_L_220 dL_agrees_15 rfl rfl (Nat.le_of_ble_eq_true rfl) (Nat.le_of_ble_eq_true rfl) ?_
  intro v c hc
  obtain ⟨rfl, e1⟩ := hc
  rw [e1]
  refine e_ldc dL_agrees_18 wK_L_42 ?_
  refine e_icmp_ne (tgt := 72) dL_agrees_20 (by decide) (fun q => absurd rfl q) (fun _ => ?_)
  refine e_aload_n dL_agrees_23 rfl rfl ?_
  refine e_aload_n dL_agrees_24 rfl rfl ?_
  refine lc_g4 hC wF_L_150 dL_agrees_25 ?_
  refine lc_n1 hC hv dL_agrees_28 ?_
  refine e_iconst (v := 0) dL_agrees_29 (by decide) ?_
  refine e_invSH (lh_mass_I hl0 hq hv (by rw [hmu, hsm]; omega)) vL_mass wM_L_222 dL_agrees_30 rfl rfl (Nat.le_of_ble_eq_true rfl) (Nat.le_of_ble_eq_true rfl) ?_
  intro v c hc
  obtain ⟨rfl, e1⟩ := hc
  rw [e1]
  refine e_ldc dL_agrees_33 wK_L_58 ?_
  refine e_icmp_ne (tgt := 72) dL_agrees_35 (by decide) (fun q => absurd rfl q) (fun _ => ?_)
  refine e_aload_n dL_agrees_38 rfl rfl ?_
  refine e_aload_n dL_agrees_39 rfl rfl ?_
  refine lc_g5 hC wF_L_160 dL_agrees_40 ?_
  refine lc_n2 hC dL_agrees_43 ?_
  refine e_iconst (v := 0) dL_agrees_44 (by decide) ?_
  refine e_invSH (lh_spring_I hl0 hq hv (by rw [hls, hsm]; omega)) vL_spring wM_L_225 dL_agrees_45 rfl rfl (Nat.le_of_ble_eq_true rfl) (Nat.le_of_ble_eq_true rfl) ?_
  intro v c hc
  obtain ⟨rfl, e1⟩ := hc
  rw [e1]
  refine e_ldc dL_agrees_48 wK_L_58 ?_
  refine e_icmp_ne (tgt := 72) dL_agrees_50 (by decide) (fun q => absurd rfl q) (fun _ => ?_)
  refine e_aload_n dL_agrees_53 rfl rfl ?_
  refine e_aload_n dL_agrees_54 rfl rfl ?_
  refine lc_g7 hC wF_L_227 dL_agrees_55 ?_
  refine lc_n4 hC hv dL_agrees_58 ?_
  refine e_iconst (v := 0) dL_agrees_59 (by decide) ?_
  refine e_invSH (lh_noted_N hl0 hq hv (by omega)) vL_noted wM_L_230 dL_agrees_60 rfl rfl (Nat.le_of_ble_eq_true rfl) (Nat.le_of_ble_eq_true rfl) ?_
  intro v c hc
  obtain ⟨rfl, e1⟩ := hc
  rw [e1]
  refine e_ldc dL_agrees_63 wK_L_67 ?_
  refine e_icmp_ne (tgt := 72) dL_agrees_65 (by decide) (fun q => absurd rfl q) (fun _ => ?_)
  refine e_iconst (v := 1) dL_agrees_68 (by decide) ?_
  refine e_goto (tgt := 73) dL_agrees_69 (by decide) ?_
  refine e_istore_n dL_agrees_73 rfl (Nat.le_of_ble_eq_true rfl) ?_
  refine e_iconst (v := 0) dL_agrees_74 (by decide) ?_
  refine e_istore_n dL_agrees_75 rfl (Nat.le_of_ble_eq_true rfl) ?_
  refine ev_loc (L' := [some (.ref b), some (.ref (A 0)), some (.int 1), some (.int 0)]) ⟨rfl, rfl, rfl, rfl, trivial⟩ ?_
  refine lp_agr (Nat.le_of_ble_eq_true rfl) hl0 hq hv hb hC hI ?_ 12 0 0 rfl ar_0
  refine e_iload_n dL_agrees_111 rfl rfl ?_
  refine e_if_eq (tgt := 157) dL_agrees_112 (by decide) (fun q => absurd q (by decide)) (fun _ => ?_)
  refine e_aload_n dL_agrees_115 rfl rfl ?_
  refine e_iconst (v := 0) dL_agrees_116 (by decide) ?_
  refine e_invV (la_account hl0 hq hv (by omega)) vX6_account wM_L_46 (sy_at G b S h 0 (by decide)) rfl dL_agrees_117 rfl rfl (Nat.le_of_ble_eq_true rfl) (Nat.le_of_ble_eq_true rfl) ?_
  intro v c hc
  obtain ⟨rfl, e1⟩ := hc
  rw [e1, ar_nat (i := 0) (by omega)]
  refine e_aload_n dL_agrees_120 rfl rfl ?_
  refine e_iconst (v := 1) dL_agrees_121 (by decide) ?_
  refine e_invV (la_account hl0 hq hv (by omega)) vX6_account wM_L_46 (sy_at G b S h 0 (by decide)) rfl dL_agrees_122 rfl rfl (Nat.le_of_ble_eq_true rfl) (Nat.le_of_ble_eq_true rfl) ?_
  intro v c hc
  obtain ⟨rfl, e1⟩ := hc
  rw [e1, ar_nat (i := 1) (by omega)]
  refine e_aload_n dL_agrees_125 rfl rfl ?_
  refine e_iconst (v := 2) dL_agrees_126 (by decide) ?_
  refine e_invV (la_account hl0 hq hv (by omega)) vX6_account wM_L_46 (sy_at G b S h 0 (by decide)) rfl dL_agrees_127 rfl rfl (Nat.le_of_ble_eq_true rfl) (Nat.le_of_ble_eq_true rfl) ?_
  intro v c hc
  obtain ⟨rfl, e1⟩ := hc
  rw [e1, ar_nat (i := 2) (by omega)]
  refine e_ladd dL_agrees_130 ?_
  refine e_aload_n dL_agrees_131 rfl rfl ?_
  refine e_iconst (v := 3) dL_agrees_132 (by decide) ?_
  refine e_invV (la_account hl0 hq hv (by omega)) vX6_account wM_L_46 (sy_at G b S h 0 (by decide)) rfl dL_agrees_133 rfl rfl (Nat.le_of_ble_eq_true rfl) (Nat.le_of_ble_eq_true rfl) ?_
  intro v c hc
  obtain ⟨rfl, e1⟩ := hc
  rw [e1, ar_nat (i := 3) (by omega)]
  refine e_ladd dL_agrees_136 ?_
  refine e_aload_n dL_agrees_137 rfl rfl ?_
  refine e_iconst (v := 4) dL_agrees_138 (by decide) ?_
  refine e_invV (la_account hl0 hq hv (by omega)) vX6_account wM_L_46 (sy_at G b S h 0 (by decide)) rfl dL_agrees_139 rfl rfl (Nat.le_of_ble_eq_true rfl) (Nat.le_of_ble_eq_true rfl) ?_
  intro v c hc
  obtain ⟨rfl, e1⟩ := hc
  rw [e1, ar_nat (i := 4) (by omega)]
  refine e_lsub dL_agrees_142 ?_
  refine e_aload_n dL_agrees_143 rfl rfl ?_
  refine e_iconst (v := 5) dL_agrees_144 (by decide) ?_
  refine e_invV (la_account hl0 hq hv (by omega)) vX6_account wM_L_46 (sy_at G b S h 0 (by decide)) rfl dL_agrees_145 rfl rfl (Nat.le_of_ble_eq_true rfl) (Nat.le_of_ble_eq_true rfl) ?_
  intro v c hc
  obtain ⟨rfl, e1⟩ := hc
  rw [e1, ar_nat (i := 5) (by omega)]
  refine e_lsub dL_agrees_148 ?_
  refine e_lcmp dL_agrees_149 ?_
  refine e_if_ne (tgt := 157) dL_agrees_150 (by decide) (fun q => absurd (ar_lcmp0.mpr hM) q) (fun _ => ?_)
  refine e_iconst (v := 1) dL_agrees_153 (by decide) ?_
  refine e_goto (tgt := 158) dL_agrees_154 (by decide) ?_
  exact e_zret (ty := .boolean) rfl rfl dL_agrees_158 ⟨rfl, rfl⟩
end LAG
