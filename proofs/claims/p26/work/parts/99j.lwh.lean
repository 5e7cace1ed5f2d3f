/-! a new system: what it refuses, two moves and two undos -/
def SI (G : ev_G) (b u r : Nat) (S : SS) (a : ev_H) : Prop := SY G b S a ∧ (∃ fb : Nat → Int32, a.1 u = some (.inl (G.2.1 0, 8, .inl fb)) ∧ ∀ j, j < 6 → fb j = 0) ∧ ∃ s : Int32, a.1 r = some (.inr (9, [.int s]))
section SIR
variable {G : ev_G} {l : Launch} {M : ev_M} {J : ev_K} {pc k n idx np dY mcY msY : Nat} {L : List (Option Value)} {st rest as : List Value} {a : ev_H} {b u r : Nat} {S S' : SS} {val : Int32} {Y : ev_M} {hh : List (Nat × Nat × Nat × Nat)}
theorem SI.cls (h : SI G b u r S a) (hub : ¬ (b ≤ u ∧ u < b + 157)) (S' : SS) (zz : Option Nat) : SI G b u r S' (sy G b S' (a.1, zz)) := by
  obtain ⟨h1, ⟨fb, h2, h3⟩, ⟨s, h4⟩⟩ := h
  exact ⟨SY.of _ _ _ _, ⟨fb, (sy_o G b S' (a.1, zz) hub).trans h2, h3⟩, ⟨s, (sy_o G b S' (a.1, zz) (h1.out h4 kok_9.1 kok_9.2.1)).trans h4⟩⟩
theorem SI.eq0 (h : SI G b u r S a) : (a.1, none) = sy G b S (a.1, none) := SY.eq (a := (a.1, none)) h.1
theorem si_call (h : SI G b u r S a) (hub : ¬ (b ≤ u ∧ u < b + 157)) (hM : ev_Ht G l Y hh dY mcY msY as (sy G b S (a.1, none)) (fun v c => v = some (.int val) ∧ c = sy G b S' (a.1, none))) (hy : ev_wSH Y hh np) (hw : Cond.methodLink M.1.cls idx Y.1 ∈ ev_ws) (hd : decode M.2.1 pc = .ok (.invokestatic idx, 3)) (hst : st = as.reverse ++ rest) (hn : as.length = np) (hcat : (rest.map fun v => v.category).sum ≤ 8) (hdp : dY + 1 ≤ J.2.2.1) (kk : ∀ (a2 : ev_H) (z2 : Nat), SI G b u r S' a2 → a2.2 = some z2 → ev_V G l M J (pc + 3) L (.int val :: rest) a2 k n) : ev_V G l M J pc L st a (k + mcY) (n + msY) := by
  refine e_forget (f := a.1) (z := a.2) ?_
  refine ev_as h.eq0 ?_
  refine e_invSH hM hy hw hd hst hn hcat hdp ?_
  rintro v c ⟨rfl, e⟩
  rw [e]
  refine e_size (f := (sy G b S' (a.1, none)).1) fun z2 _ => ?_
  exact kk _ z2 (h.cls hub S' (some z2)) rfl
theorem si_cls (h : SI G b u r S a) (hub : ¬ (b ≤ u ∧ u < b + 157)) (hM : ev_Ct G l Y dY mcY msY (.ref b :: as) (sy G b S (a.1, none)) (fun v c => v = some (.int val) ∧ c = sy G b S' (a.1, none)) (fun _ _ => False)) (hy : ev_wV Y np) (hw : Cond.methodLink M.1.cls idx Y.1 ∈ ev_ws) (hcls : Y.1.cls = RX6) (hd : decode M.2.1 pc = .ok (.invokevirtual idx, 3)) (hst : st = as.reverse ++ .ref b :: rest) (hn : as.length = np) (hcat : (rest.map fun v => v.category).sum ≤ 8) (hdp : dY + 1 ≤ J.2.2.1) (kk : ∀ (a2 : ev_H) (z2 : Nat), SI G b u r S' a2 → a2.2 = some z2 → ev_V G l M J (pc + 3) L (.int val :: rest) a2 k n) : ev_V G l M J pc L st a (k + mcY) (n + msY) := by
  refine e_forget (f := a.1) (z := a.2) ?_
  refine ev_as h.eq0 ?_
  refine e_invV (T := TX6) (N := 7) (ci := 6) hM hy hw (sy_at G b S (a.1, none) 0 (by decide)) (by rw [hcls]; rfl) hd hst hn hcat hdp ?_
  rintro v c ⟨rfl, e⟩
  rw [e]
  refine e_size (f := (sy G b S' (a.1, none)).1) fun z2 _ => ?_
  exact kk _ z2 (h.cls hub S' (some z2)) rfl
theorem si_agr (h : SI G b u r S a) (hub : ¬ (b ≤ u ∧ u < b + 157)) (hl0 : l.stackTraces = false) {A0 : Nat → Nat} {n0 : Nat} {m0 : Nat → TI} {T : Int} (hC : LC G a A0 (S.2.2.2 0) n0 m0) (hI : IV T (S.2.2.2 0) n0 m0) (hw : Cond.methodLink M.1.cls idx mL_agrees.1 ∈ ev_ws) (hd : decode M.2.1 pc = .ok (.invokestatic idx, 3)) (hcat : (rest.map fun v => v.category).sum ≤ 8) (hdp : 14 ≤ J.2.2.1) (kk : ∀ (a2 : ev_H) (z2 : Nat), SI G b u r S a2 → a2.2 = some z2 → Jvm.Pilot.CSpringChainLaw_law_r6692_339830.fw a a2 b u → ev_V G l M J (pc + 3) L (.int 1 :: rest) a2 k n) : ev_V G l M J pc L (.ref (A0 0) :: .ref b :: rest) a (k + 25) (n + 150) := by
  refine e_forget (f := a.1) (z := a.2) ?_
  have he := h.eq0
  refine ev_as he ?_
  have hC2 : LC G (sy G b S (a.1, none)) A0 (S.2.2.2 0) n0 m0 := by rw [← he]; exact hC
  refine e_invS (ct_L_agrees hl0 rfl hI.1 hI.2.1.1 hC2 hI.nI hI.2.2.1) vL_agrees hw hd (as := [.ref b, .ref (A0 0)]) rfl rfl hcat hdp ?_
  rintro v c ⟨rfl, e⟩
  rw [e]
  refine e_size (f := (sy G b S (a.1, none)).1) fun z2 _ => ?_
  exact kk _ z2 (h.cls hub S (some z2)) rfl (fun q e he hq _ => (sy_o G b S (a.1, some z2) hq).trans he)
end SIR
theorem keep_2 (S : SS) (τ : CS) : (ss_C (sKeep S) 0 τ).1 2 = if (S.1 2).toInt < 8 then S.1 2 + 1 else 8 := rfl
theorem keep_3 (S : SS) (τ : CS) : (ss_C (sKeep S) 0 τ).1 3 = if (S.1 3).toInt + 1 < 8 then S.1 3 + 1 else 0 := rfl
theorem keep_ok {S : SS} (hh : hOk S) (τ : CS) : hOk (ss_C (sKeep S) 0 τ) := by
  obtain ⟨⟨hc0, hc1⟩, hn0, hn1⟩ := hh
  have w8 := ar_8
  refine ⟨?_, ?_⟩
  · rw [keep_2]
    by_cases c : (S.1 2).toInt < 8
    · rw [if_pos c, h_inc8 hc0 hc1]; omega
    · rw [if_neg c, w8]; omega
  · rw [keep_3]
    by_cases c : (S.1 3).toInt + 1 < 8
    · rw [if_pos c, h_inc8 hn0 (by omega)]; omega
    · rw [if_neg c, ar_0]; omega
section LWH
variable {G : ev_G} {l : Launch} {J : ev_K} {k n : Nat} {a : ev_H} {b u r q8 z pB N j : Nat} {K : KPT} {S : SS} {A : Nat → Nat} {nI : Nat} {mI : Nat → TI} {g : Nat → Option Nat} {q0 : Nat} {x2 x7 x9 x10 k13 i14 : Int32}
set_option maxRecDepth 20000 in
theorem lw_fix (hub : ¬ (b ≤ u ∧ u < b + 157)) (hl0 : l.stackTraces = false) (hJ : 15 ≤ J.2.2.1) (h : SI G b u r S_0 a) (hz : a.2 = some z) (hk : ∀ (S : SS) (a : ev_H) (z : Nat), SI G b u r S a → hOk S → S.1 0 = 0 → a.2 = some z → ev_V G l mL_law J 205 [some (.ref q0), some (.int 1), some (.int x2), some (.ref b), some (.ref u), some (.ref r)] [] a k n) : ev_V G l mL_law J 56 [some (.ref q0), some (.int 1), some (.int x2), some (.ref b), some (.ref u), some (.ref r)] [] a (k + 19) (n + 114) := by
  have hv : sInv (S_0.2.2.2 0) := sInv_beg cs_0 (by decide +kernel) (by decide +kernel)
  have hh : hOk S_0 := by unfold hOk; exact ⟨⟨by decide +kernel, by decide +kernel⟩, by decide +kernel, by decide +kernel⟩
  have hsM : sM (S_0.2.2.2 0) = 1 := (by decide +kernel : (1 : Int32).toInt = 1)
  have q2 : S_0.1 2 = 0 := rfl
  have q1 : S_0.1 1 = -1 := rfl
  have q0' : S_0.1 0 = 0 := rfl
  have q3 : (S_0.2.2.2 0).1 3 = 0 := rfl
  have q4 : (S_0.2.2.2 0).2.2 5 0 = 0 := by decide +kernel
  generalize S_0 = S0 at h hv hh hsM q2 q1 q0' q3 q4
  obtain ⟨S1, hS1⟩ : ∃ S1, S1 = ss_C (sKeep S0) 0 (cs_I (S0.2.2.2 0) 3 5) := ⟨_, rfl⟩
  have hh1 : hOk S1 := by rw [hS1]; exact keep_ok hh _
  have hv1 : sInv (S1.2.2.2 0) := by rw [hS1, ss_C_at]; exact hv
  have p3 : (S1.2.2.2 0).1 3 = 5 := by rw [hS1, ss_C_at]; exact ev_u_self (S0.2.2.2 0).1 3 5
  have n1 : S1.1 2 = 1 := by rw [hS1, keep_2, q2]; decide +kernel
  have r1 : S1.1 0 = 0 := by rw [hS1]; exact q0'
  obtain ⟨S2, hS2⟩ : ∃ S2, S2 = ss_C (sKeep S1) 0 (cs_I (S1.2.2.2 0) 3 6) := ⟨_, rfl⟩
  have hh2 : hOk S2 := by rw [hS2]; exact keep_ok hh1 _
  have n2 : S2.1 2 = 2 := by rw [hS2, keep_2, n1]; decide +kernel
  have r2 : S2.1 0 = 0 := by rw [hS2]; exact r1
  have z0 := ar_0
  have z1 := ar_1
  have w2 : (2 : Int32).toInt = 2 := by decide +kernel
  have w5 : (5 : Int32).toInt = 5 := by decide +kernel
  have w6 : (6 : Int32).toInt = 6 := by decide +kernel
  have w51 : (51 : Int32).toInt = 51 := by decide +kernel
  have w1000 : (1000 : Int32).toInt = 1000 := by decide +kernel
  have wbig : (100001 : Int32).toInt = 100001 := by decide +kernel
  refine e_wide (k0 := k + 1 + 1 + 1 + 1 + 2 + 2 + 2 + 4 + 2 + 2) (n0 := n + 6 + 6 + 6 + 6 + 12 + 12 + 12 + 24 + 12 + 12) (by omega) (by omega) ?_
  refine e_aload_n dL_law_56 rfl rfl ?_
  refine si_cls (k := k + 1 + 1 + 1 + 1 + 2 + 2 + 2 + 4 + 2 + 2) (n := n + 6 + 6 + 6 + 6 + 12 + 12 + 12 + 24 + 12 + 12) (mcY := 0) (msY := 0) (val := -1) (S' := S0) h hub (ct_X6_errorOffset.mono (fun v c p => ⟨p.1.trans (by rw [q1]), p.2⟩) (fun _ _ p => p)) vX6_errorOffset wM_L_243 rfl dL_law_57 (as := []) rfl rfl (Nat.le_of_ble_eq_true rfl) (Nat.le_trans (Nat.le_of_ble_eq_true rfl) hJ) ?_
  intro a_u z h hz
  refine e_iconst (v := -1) dL_law_60 (by decide) ?_
  refine e_icmp_ne (tgt := 203) dL_law_61 (by decide) (fun q => absurd (rfl) q) (fun _ => ?_)
  refine e_aload_n dL_law_64 rfl rfl ?_
  refine si_cls (k := k + 1 + 1 + 1 + 1 + 2 + 2 + 2 + 4 + 2 + 2) (n := n + 6 + 6 + 6 + 6 + 12 + 12 + 12 + 24 + 12 + 12) (mcY := 0) (msY := 0) (val := -1) (S' := S0) h hub ((ct_X6_undo hh).mono (fun v c p => p.elim (fun q => q.2) (fun q => absurd q2 q.1)) (fun _ _ p => p)) vX6_undo wM_L_246 rfl dL_law_65 (as := []) rfl rfl (Nat.le_of_ble_eq_true rfl) (Nat.le_trans (Nat.le_of_ble_eq_true rfl) hJ) ?_
  intro a_u z h hz
  refine e_iconst (v := -1) dL_law_68 (by decide) ?_
  refine e_icmp_ne (tgt := 203) dL_law_69 (by decide) (fun q => absurd (rfl) q) (fun _ => ?_)
  refine e_aload_n dL_law_72 rfl rfl ?_
  refine e_iconst (v := 1) dL_law_73 (by decide) ?_
  refine e_iconst (v := 0) dL_law_74 (by decide) ?_
  refine si_call (k := k + 1 + 1 + 1 + 1 + 2 + 2 + 2 + 4 + 2) (n := n + 6 + 6 + 6 + 6 + 12 + 12 + 12 + 24 + 12) h hub (lh_pluck_I (x := 1) (y := 0) hl0 rfl hh hv (by omega)) vL_pluck wM_L_249 dL_law_75 (as := [.ref b, .int 1, .int 0]) rfl rfl (Nat.le_of_ble_eq_true rfl) (Nat.le_trans (Nat.le_of_ble_eq_true rfl) hJ) ?_
  intro a_pluck z h hz
  refine e_ldc dL_law_78 wK_L_58 ?_
  refine e_icmp_ne (tgt := 203) dL_law_80 (by decide) (fun q => absurd (rfl) q) (fun _ => ?_)
  refine e_aload_n dL_law_83 rfl rfl ?_
  refine e_iconst (v := 0) dL_law_84 (by decide) ?_
  refine e_ldc dL_law_85 wK_L_251 ?_
  refine si_call (k := k + 1 + 1 + 1 + 1 + 2 + 2 + 2 + 4) (n := n + 6 + 6 + 6 + 6 + 12 + 12 + 12 + 24) h hub (lh_strike_A (x := 0) (y := 100001) hl0 rfl hh hv (by omega) (by omega)) vL_strike wM_L_252 dL_law_87 (as := [.ref b, .int 0, .int 100001]) rfl rfl (Nat.le_of_ble_eq_true rfl) (Nat.le_trans (Nat.le_of_ble_eq_true rfl) hJ) ?_
  intro a_strike z h hz
  refine e_ldc dL_law_90 wK_L_42 ?_
  refine e_icmp_ne (tgt := 203) dL_law_92 (by decide) (fun q => absurd (rfl) q) (fun _ => ?_)
  refine e_aload_n dL_law_95 rfl rfl ?_
  refine e_iconst (v := 0) dL_law_96 (by decide) ?_
  refine e_iconst (v := 0) dL_law_97 (by decide) ?_
  refine e_iconst (v := 0) dL_law_98 (by decide) ?_
  refine si_call (k := k + 1 + 1 + 1 + 1 + 2 + 2 + 2) (n := n + 6 + 6 + 6 + 6 + 12 + 12 + 12) h hub (lh_impulse_A (x := 0) (y := 0) (z := 0) hl0 rfl hh hv (by omega) (fun q => q.2.2 rfl)) vL_impulse wM_L_254 dL_law_99 (as := [.ref b, .int 0, .int 0, .int 0]) rfl rfl (Nat.le_of_ble_eq_true rfl) (Nat.le_trans (Nat.le_of_ble_eq_true rfl) hJ) ?_
  intro a_impulse z h hz
  refine e_ldc dL_law_102 wK_L_42 ?_
  refine e_icmp_ne (tgt := 203) dL_law_104 (by decide) (fun q => absurd (rfl) q) (fun _ => ?_)
  refine e_aload_n dL_law_107 rfl rfl ?_
  refine e_iconst (v := 2) dL_law_108 (by decide) ?_
  refine e_iconst (v := 0) dL_law_109 (by decide) ?_
  refine si_call (k := k + 1 + 1 + 1 + 1 + 2 + 2) (n := n + 6 + 6 + 6 + 6 + 12 + 12) h hub (lh_stiffen_I (x := 2) (y := 0) hl0 rfl hh hv (by omega)) vL_stiffen wM_L_257 dL_law_110 (as := [.ref b, .int 2, .int 0]) rfl rfl (Nat.le_of_ble_eq_true rfl) (Nat.le_trans (Nat.le_of_ble_eq_true rfl) hJ) ?_
  intro a_stiffen z h hz
  refine e_ldc dL_law_113 wK_L_58 ?_
  refine e_icmp_ne (tgt := 203) dL_law_115 (by decide) (fun q => absurd (rfl) q) (fun _ => ?_)
  refine e_aload_n dL_law_118 rfl rfl ?_
  refine e_iconst (v := 1) dL_law_119 (by decide) ?_
  refine e_sipush (v := 1000) dL_law_120 (by decide) ?_
  refine si_call (k := k + 1 + 1 + 1 + 1 + 2) (n := n + 6 + 6 + 6 + 6 + 12) h hub (lh_stiffen_A (x := 1) (y := 1000) hl0 rfl hh hv (by omega) (by omega)) vL_stiffen wM_L_257 dL_law_123 (as := [.ref b, .int 1, .int 1000]) rfl rfl (Nat.le_of_ble_eq_true rfl) (Nat.le_trans (Nat.le_of_ble_eq_true rfl) hJ) ?_
  intro a_stiffen z h hz
  refine e_ldc dL_law_126 wK_L_42 ?_
  refine e_icmp_ne (tgt := 203) dL_law_128 (by decide) (fun q => absurd (rfl) q) (fun _ => ?_)
  refine e_aload_n dL_law_131 rfl rfl ?_
  refine e_iconst (v := 0) dL_law_132 (by decide) ?_
  refine si_call (k := k + 1 + 1 + 1 + 1) (n := n + 6 + 6 + 6 + 6) h hub (lh_mend_S (x := 0) hl0 rfl hh hv (by omega) (fun q => q (by rw [z0]; exact q4))) vL_mend wM_L_259 dL_law_133 (as := [.ref b, .int 0]) rfl rfl (Nat.le_of_ble_eq_true rfl) (Nat.le_trans (Nat.le_of_ble_eq_true rfl) hJ) ?_
  intro a_mend z h hz
  refine e_ldc dL_law_136 wK_L_95 ?_
  refine e_icmp_ne (tgt := 203) dL_law_138 (by decide) (fun q => absurd (rfl) q) (fun _ => ?_)
  refine e_aload_n dL_law_141 rfl rfl ?_
  refine e_iconst (v := 1) dL_law_142 (by decide) ?_
  refine e_ldc dL_law_143 wK_L_251 ?_
  refine si_call (k := k + 1 + 1 + 1) (n := n + 6 + 6 + 6) h hub (lh_move_A (x := 1) (y := 100001) hl0 rfl hh hv (by omega)) vL_move wM_L_261 dL_law_145 (as := [.ref b, .int 1, .int 100001]) rfl rfl (Nat.le_of_ble_eq_true rfl) (Nat.le_trans (Nat.le_of_ble_eq_true rfl) hJ) ?_
  intro a_move z h hz
  refine e_ldc dL_law_148 wK_L_42 ?_
  refine e_icmp_ne (tgt := 203) dL_law_150 (by decide) (fun q => absurd (rfl) q) (fun _ => ?_)
  refine e_aload_n dL_law_153 rfl rfl ?_
  refine e_bipush (v := 51) dL_law_154 (by decide) ?_
  refine si_call (k := k + 1 + 1) (n := n + 6 + 6) h hub (lh_pass_A (x := 51) hl0 rfl hh hv (by omega)) vL_pass wM_L_264 dL_law_156 (as := [.ref b, .int 51]) rfl rfl (Nat.le_of_ble_eq_true rfl) (Nat.le_trans (Nat.le_of_ble_eq_true rfl) hJ) ?_
  intro a_pass z h hz
  refine e_ldc dL_law_159 wK_L_42 ?_
  refine e_icmp_ne (tgt := 203) dL_law_161 (by decide) (fun q => absurd (rfl) q) (fun _ => ?_)
  refine e_aload_n dL_law_164 rfl rfl ?_
  refine e_iconst (v := 0) dL_law_165 (by decide) ?_
  refine e_iconst (v := 5) dL_law_166 (by decide) ?_
  refine si_call (k := k + 1) (n := n + 6) h hub ((lh_move_ok (x := 0) (y := 5) hl0 rfl hh hv (by omega)).mono (P' := fun v c => v = some (.int 0) ∧ c = sy G b S1 (_, none)) (fun v c q => ⟨q.1.trans (by rw [if_pos rfl, q3]), q.2.trans (by rw [if_pos rfl, hS1])⟩)) vL_move wM_L_261 dL_law_167 (as := [.ref b, .int 0, .int 5]) rfl rfl (Nat.le_of_ble_eq_true rfl) (Nat.le_trans (Nat.le_of_ble_eq_true rfl) hJ) ?_
  intro a_move z h hz
  refine e_if_ne (tgt := 203) dL_law_170 (by decide) (fun q => absurd rfl q) (fun _ => ?_)
  refine e_aload_n dL_law_173 rfl rfl ?_
  refine e_iconst (v := 0) dL_law_174 (by decide) ?_
  refine e_bipush (v := 6) dL_law_175 (by decide) ?_
  refine si_call (k := k) (n := n) h hub ((lh_move_ok (x := 0) (y := 6) hl0 rfl hh1 hv1 (by omega)).mono (P' := fun v c => v = some (.int 5) ∧ c = sy G b S2 (_, none)) (fun v c q => ⟨q.1.trans (by rw [if_pos rfl, p3]), q.2.trans (by rw [if_pos rfl, hS2])⟩)) vL_move wM_L_261 dL_law_177 (as := [.ref b, .int 0, .int 6]) rfl rfl (Nat.le_of_ble_eq_true rfl) (Nat.le_trans (Nat.le_of_ble_eq_true rfl) hJ) ?_
  intro a_move z h hz
  refine e_iconst (v := 5) dL_law_180 (by decide) ?_
  refine e_icmp_ne (tgt := 203) dL_law_181 (by decide) (fun q => absurd (rfl) q) (fun _ => ?_)
  have w2 : (2 : Int32).toInt = 2 := by decide +kernel
  obtain ⟨b1, b2, b3, b4, b5, b6⟩ := hOk_back hh2 (by rw [n2, w2]; decide)
  have n3 : (sBack S2).1 2 = 1 := by
    show S2.1 2 - 1 = 1
    rw [n2]; decide +kernel
  obtain ⟨d1, d2, d3, d4, d5, d6⟩ := hOk_back b1 (by rw [n3, ar_1]; decide)
  refine e_aload_n dL_law_184 rfl rfl ?_
  refine si_cls (k := k) (n := n) (mcY := 0) (msY := 0) (val := 1) (S' := sBack S2) h hub ((ct_X6_undo hh2).mono (fun v c p => p.elim (fun q => absurd (n2.symm.trans q.1) (by decide)) (fun q => ⟨q.2.1.trans (by rw [n2]; rfl), q.2.2⟩)) (fun _ _ p => p)) vX6_undo wM_L_246 rfl dL_law_185 (as := []) rfl rfl (Nat.le_of_ble_eq_true rfl) (Nat.le_trans (Nat.le_of_ble_eq_true rfl) hJ) ?_
  intro a_u z h hz
  refine e_iconst (v := 1) dL_law_188 (by decide) ?_
  refine e_icmp_ne (tgt := 203) dL_law_189 (by decide) (fun q => absurd (rfl) q) (fun _ => ?_)
  refine e_aload_n dL_law_192 rfl rfl ?_
  refine si_cls (k := k) (n := n) (mcY := 0) (msY := 0) (val := 0) (S' := sBack (sBack S2)) h hub ((ct_X6_undo b1).mono (fun v c p => p.elim (fun q => absurd (n3.symm.trans q.1) (by decide)) (fun q => ⟨q.2.1.trans (by rw [n3]; rfl), q.2.2⟩)) (fun _ _ p => p)) vX6_undo wM_L_246 rfl dL_law_193 (as := []) rfl rfl (Nat.le_of_ble_eq_true rfl) (Nat.le_trans (Nat.le_of_ble_eq_true rfl) hJ) ?_
  intro a_u z h hz
  refine e_if_ne (tgt := 203) dL_law_196 (by decide) (fun q => absurd rfl q) (fun _ => ?_)
  refine e_iconst (v := 1) dL_law_199 (by decide) ?_
  refine e_goto (tgt := 204) dL_law_200 (by decide) ?_
  refine e_istore_n dL_law_204 rfl (Nat.le_of_ble_eq_true rfl) ?_
  exact ev_lc (hk _ _ _ h d1 (d4.trans (b4.trans r2)) hz) ⟨rfl, rfl, rfl, rfl, rfl, rfl, trivial⟩
end LWH
