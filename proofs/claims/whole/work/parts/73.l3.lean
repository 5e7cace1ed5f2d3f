/-! the law: the calls that refuse nothing; the text read -/
section LW3
variable {G : ev_G} {l : Launch} {b : Nat} {S : SS} {μ : MS} {o : Nat → Int64} {x : Int32} {J : ev_K} {k n : Nat} {T : Int}
set_option maxRecDepth 20000 in
set_option maxHeartbeats 1000000 in
theorem lc_append (hJ : 13 ≤ J.2.2.1) (hkd : J.1 = true) (hl0 : l.stackTraces = false) (hN : G.2.2.2.1.2.1 ≤ 3072) (hx0 : 0 ≤ x.toInt) (hx5 : x.toInt + 5 < (G.2.2.2.1.2.1 : Int)) (hS : RS T S μ) (hT0 : 0 ≤ T) (hT : T < 2147000000) (hk : ∀ S' μ' o', RS (T + 50) S' μ' → ev_V G l mL_law J 1438 (lwL G b x) [] (lwH G b S' μ' o') k n) : ev_V G l mL_law J 148 (lwL G b x) [] (lwH G b S μ o) (k + 0) (n + 0) := by
  refine e_aload_n dL_law_148 rfl rfl ?_
  refine e_aload_n dL_law_149 rfl rfl ?_
  refine e_iload dL_law_150 rfl ?_
  refine e_iconst (v := 1) dL_law_152 (by decide) ?_
  refine e_iadd dL_law_153 ?_
  refine e_scr hN hx0 hx5 (by decide +kernel) (by decide +kernel) dL_law_154 ?_
  refine e_aload_n dL_law_155 rfl rfl ?_
  refine e_iload dL_law_156 rfl ?_
  refine e_iconst (v := 2) dL_law_158 (by decide) ?_
  refine e_iadd dL_law_159 ?_
  refine e_scr hN hx0 hx5 (by decide +kernel) (by decide +kernel) dL_law_160 ?_
  refine e_aload_n dL_law_161 rfl rfl ?_
  refine e_iload dL_law_162 rfl ?_
  refine e_iconst (v := 3) dL_law_164 (by decide) ?_
  refine e_iadd dL_law_165 ?_
  refine e_scr hN hx0 hx5 (by decide +kernel) (by decide +kernel) dL_law_166 ?_
  refine e_aload_n dL_law_167 rfl rfl ?_
  refine e_iload dL_law_168 rfl ?_
  refine e_iconst (v := 4) dL_law_170 (by decide) ?_
  refine e_iadd dL_law_171 ?_
  refine e_scr hN hx0 hx5 (by decide +kernel) (by decide +kernel) dL_law_172 ?_
  refine e_aload_n dL_law_173 rfl rfl ?_
  refine e_iload dL_law_174 rfl ?_
  refine e_iconst (v := 5) dL_law_176 (by decide) ?_
  refine e_iadd dL_law_177 ?_
  refine e_scr hN hx0 hx5 (by decide +kernel) (by decide +kernel) dL_law_178 ?_
  refine e_invV (mcY := 0) (msY := 0) (ct_X6_append hS.2.2.1.2.1.1 hS.2.2.1.2.1.2) vX6_append wM_L_77 (sy_at G b S (mo G (b + 157) μ (lwO G (b + 172) o)) 0 (by decide)) rfl dL_law_179 rfl rfl (Nat.le_of_ble_eq_true rfl) (Nat.le_trans (Nat.le_of_ble_eq_true rfl) hJ) ?_
  rintro _ _ (⟨c1, rfl, rfl⟩ | ⟨c1, rfl, rfl⟩)
  · skip
    refine ev_as (show _ = lwH G b _ μ o from rfl) ?_
    refine e_aload_n dL_law_182 rfl rfl ?_
    refine e_aload_n dL_law_183 rfl rfl ?_
    refine e_iload dL_law_184 rfl ?_
    refine e_iconst (v := 1) dL_law_186 (by decide) ?_
    refine e_iadd dL_law_187 ?_
    refine e_scr hN hx0 hx5 (by decide +kernel) (by decide +kernel) dL_law_188 ?_
    refine e_aload_n dL_law_189 rfl rfl ?_
    refine e_iload dL_law_190 rfl ?_
    refine e_iconst (v := 2) dL_law_192 (by decide) ?_
    refine e_iadd dL_law_193 ?_
    refine e_scr hN hx0 hx5 (by decide +kernel) (by decide +kernel) dL_law_194 ?_
    refine e_aload_n dL_law_195 rfl rfl ?_
    refine e_iload dL_law_196 rfl ?_
    refine e_iconst (v := 3) dL_law_198 (by decide) ?_
    refine e_iadd dL_law_199 ?_
    refine e_scr hN hx0 hx5 (by decide +kernel) (by decide +kernel) dL_law_200 ?_
    refine e_aload_n dL_law_201 rfl rfl ?_
    refine e_iload dL_law_202 rfl ?_
    refine e_iconst (v := 4) dL_law_204 (by decide) ?_
    refine e_iadd dL_law_205 ?_
    refine e_scr hN hx0 hx5 (by decide +kernel) (by decide +kernel) dL_law_206 ?_
    refine e_aload_n dL_law_207 rfl rfl ?_
    refine e_iload dL_law_208 rfl ?_
    refine e_iconst (v := 5) dL_law_210 (by decide) ?_
    refine e_iadd dL_law_211 ?_
    refine e_scr hN hx0 hx5 (by decide +kernel) (by decide +kernel) dL_law_212 ?_
    refine ev_as (lwH_mo G b _ μ _) ?_
    refine e_invV (mcY := 0) (msY := 0) (ct_X7_append hS) vX7_append wM_L_81 (mo_at G (b + 157) _ _ 0 (by decide)) rfl dL_law_213 rfl rfl (Nat.le_of_ble_eq_true rfl) (Nat.le_trans (Nat.le_of_ble_eq_true rfl) hJ) ?_
    rintro _ _ (⟨m1, rfl, rfl⟩ | ⟨m1, rfl, μ₁, hS1, h0, rfl⟩)
    · skip
      refine e_icmp_eq (tgt := 1438) dL_law_216 (by decide) (fun _ => ?_) (fun q9 => absurd (rfl) q9)
      refine ev_as (lwH_mo G b _ _ _).symm ?_
      exact ev_lc (hk _ _ _ ((hS.int (by decide) 0).up (by omega))) ⟨rfl, rfl, rfl, rfl, rfl, trivial⟩
    · omega
  · skip
    refine ev_as (show _ = lwH G b _ μ o from rfl) ?_
    refine e_aload_n dL_law_182 rfl rfl ?_
    refine e_aload_n dL_law_183 rfl rfl ?_
    refine e_iload dL_law_184 rfl ?_
    refine e_iconst (v := 1) dL_law_186 (by decide) ?_
    refine e_iadd dL_law_187 ?_
    refine e_scr hN hx0 hx5 (by decide +kernel) (by decide +kernel) dL_law_188 ?_
    refine e_aload_n dL_law_189 rfl rfl ?_
    refine e_iload dL_law_190 rfl ?_
    refine e_iconst (v := 2) dL_law_192 (by decide) ?_
    refine e_iadd dL_law_193 ?_
    refine e_scr hN hx0 hx5 (by decide +kernel) (by decide +kernel) dL_law_194 ?_
    refine e_aload_n dL_law_195 rfl rfl ?_
    refine e_iload dL_law_196 rfl ?_
    refine e_iconst (v := 3) dL_law_198 (by decide) ?_
    refine e_iadd dL_law_199 ?_
    refine e_scr hN hx0 hx5 (by decide +kernel) (by decide +kernel) dL_law_200 ?_
    refine e_aload_n dL_law_201 rfl rfl ?_
    refine e_iload dL_law_202 rfl ?_
    refine e_iconst (v := 4) dL_law_204 (by decide) ?_
    refine e_iadd dL_law_205 ?_
    refine e_scr hN hx0 hx5 (by decide +kernel) (by decide +kernel) dL_law_206 ?_
    refine e_aload_n dL_law_207 rfl rfl ?_
    refine e_iload dL_law_208 rfl ?_
    refine e_iconst (v := 5) dL_law_210 (by decide) ?_
    refine e_iadd dL_law_211 ?_
    refine e_scr hN hx0 hx5 (by decide +kernel) (by decide +kernel) dL_law_212 ?_
    refine ev_as (lwH_mo G b _ μ _) ?_
    refine e_invV (mcY := 0) (msY := 0) (ct_X7_append hS) vX7_append wM_L_81 (mo_at G (b + 157) _ _ 0 (by decide)) rfl dL_law_213 rfl rfl (Nat.le_of_ble_eq_true rfl) (Nat.le_trans (Nat.le_of_ble_eq_true rfl) hJ) ?_
    rintro _ _ (⟨m1, rfl, rfl⟩ | ⟨m1, rfl, μ₁, hS1, h0, rfl⟩)
    · omega
    · skip
      refine e_icmp_eq (tgt := 1438) dL_law_216 (by decide) (fun _ => ?_) (fun q9 => absurd (rfl) q9)
      refine ev_as (lwH_mo G b _ _ _).symm ?_
      exact ev_lc (hk _ _ _ (hS1.up (by omega))) ⟨rfl, rfl, rfl, rfl, rfl, trivial⟩
set_option maxRecDepth 20000 in
set_option maxHeartbeats 1000000 in
theorem lc_errorOffset (hJ : 13 ≤ J.2.2.1) (hkd : J.1 = true) (hl0 : l.stackTraces = false) (hN : G.2.2.2.1.2.1 ≤ 3072) (hx0 : 0 ≤ x.toInt) (hx5 : x.toInt + 5 < (G.2.2.2.1.2.1 : Int)) (hS : RS T S μ) (hT0 : 0 ≤ T) (hT : T < 2147000000) (hk : ∀ S' μ' o', RS (T + 50) S' μ' → ev_V G l mL_law J 1438 (lwL G b x) [] (lwH G b S' μ' o') k n) : ev_V G l mL_law J 277 (lwL G b x) [] (lwH G b S μ o) (k + 0) (n + 0) := by
  refine e_aload_n dL_law_277 rfl rfl ?_
  refine e_invV (mcY := 0) (msY := 0) (ct_X6_errorOffset ) vX6_errorOffset wM_L_92 (sy_at G b S (mo G (b + 157) μ (lwO G (b + 172) o)) 0 (by decide)) rfl dL_law_278 rfl rfl (Nat.le_of_ble_eq_true rfl) (Nat.le_trans (Nat.le_of_ble_eq_true rfl) hJ) ?_
  rintro _ _ ⟨rfl, rfl⟩
  refine ev_as (show _ = lwH G b _ μ o from rfl) ?_
  refine e_aload_n dL_law_281 rfl rfl ?_
  refine ev_as (lwH_mo G b _ μ _) ?_
  refine e_invV (mcY := 0) (msY := 0) (ct_X7_errorOffset ) vX7_errorOffset wM_L_95 (mo_at G (b + 157) _ _ 0 (by decide)) rfl dL_law_282 rfl rfl (Nat.le_of_ble_eq_true rfl) (Nat.le_trans (Nat.le_of_ble_eq_true rfl) hJ) ?_
  rintro _ _ ⟨rfl, rfl⟩
  refine e_icmp_eq (tgt := 1438) dL_law_285 (by decide) (fun _ => ?_) (fun q9 => absurd (hS.2.2.2.symm) q9)
  refine ev_as (lwH_mo G b _ _ _).symm ?_
  exact ev_lc (hk _ _ _ ((hS.int (by decide) 0).up (by omega))) ⟨rfl, rfl, rfl, rfl, rfl, trivial⟩
set_option maxRecDepth 20000 in
set_option maxHeartbeats 1000000 in
theorem lc_pieces (hJ : 13 ≤ J.2.2.1) (hkd : J.1 = true) (hl0 : l.stackTraces = false) (hN : G.2.2.2.1.2.1 ≤ 3072) (hx0 : 0 ≤ x.toInt) (hx5 : x.toInt + 5 < (G.2.2.2.1.2.1 : Int)) (hS : RS T S μ) (hT0 : 0 ≤ T) (hT : T < 2147000000) (hk : ∀ S' μ' o', RS (T + 50) S' μ' → ev_V G l mL_law J 1438 (lwL G b x) [] (lwH G b S' μ' o') k n) : ev_V G l mL_law J 877 (lwL G b x) [] (lwH G b S μ o) (k + 0) (n + 0) := by
  refine e_aload_n dL_law_877 rfl rfl ?_
  refine e_invV (mcY := 0) (msY := 0) (ct_X6_pieces hS.1.2.1) vX6_pieces wM_L_125 (sy_at G b S (mo G (b + 157) μ (lwO G (b + 172) o)) 0 (by decide)) rfl dL_law_878 rfl rfl (Nat.le_of_ble_eq_true rfl) (Nat.le_trans (Nat.le_of_ble_eq_true rfl) hJ) ?_
  rintro _ _ ⟨rfl, rfl⟩
  refine ev_as (show _ = lwH G b _ μ o from rfl) ?_
  refine e_aload_n dL_law_881 rfl rfl ?_
  refine ev_as (lwH_mo G b _ μ _) ?_
  refine e_invV (mcY := 0) (msY := 0) (ct_X7_pieces (σ := S.2.2.2 0) hS.1.1 hS.1.2.1 hS.1.2.2.1) vX7_pieces wM_L_128 (mo_at G (b + 157) _ _ 0 (by decide)) rfl dL_law_882 rfl rfl (Nat.le_of_ble_eq_true rfl) (Nat.le_trans (Nat.le_of_ble_eq_true rfl) hJ) ?_
  rintro _ _ ⟨rfl, rfl⟩
  refine e_icmp_eq (tgt := 1438) dL_law_885 (by decide) (fun _ => ?_) (fun q9 => absurd (rfl) q9)
  refine ev_as (lwH_mo G b _ _ _).symm ?_
  exact ev_lc (hk _ _ _ ((hS.int (by decide) 0).up (by omega))) ⟨rfl, rfl, rfl, rfl, rfl, trivial⟩
set_option maxRecDepth 20000 in
set_option maxHeartbeats 1000000 in
theorem lc_undo (hJ : 13 ≤ J.2.2.1) (hkd : J.1 = true) (hl0 : l.stackTraces = false) (hN : G.2.2.2.1.2.1 ≤ 3072) (hx0 : 0 ≤ x.toInt) (hx5 : x.toInt + 5 < (G.2.2.2.1.2.1 : Int)) (hS : RS T S μ) (hT0 : 0 ≤ T) (hT : T < 2147000000) (hk : ∀ S' μ' o', RS (T + 50) S' μ' → ev_V G l mL_law J 1438 (lwL G b x) [] (lwH G b S' μ' o') k n) : ev_V G l mL_law J 1411 (lwL G b x) [] (lwH G b S μ o) (k + 0) (n + 0) := by
  refine e_aload_n dL_law_1411 rfl rfl ?_
  refine e_invV (mcY := 0) (msY := 0) (ct_X6_undo hS.2.1.1) vX6_undo wM_L_156 (sy_at G b S (mo G (b + 157) μ (lwO G (b + 172) o)) 0 (by decide)) rfl dL_law_1412 rfl rfl (Nat.le_of_ble_eq_true rfl) (Nat.le_trans (Nat.le_of_ble_eq_true rfl) hJ) ?_
  rintro _ _ (⟨c1, rfl, rfl⟩ | ⟨c1, rfl, rfl⟩)
  · skip
    refine ev_as (show _ = lwH G b _ μ o from rfl) ?_
    refine e_aload_n dL_law_1415 rfl rfl ?_
    refine ev_as (lwH_mo G b _ μ _) ?_
    refine e_invV (mcY := 0) (msY := 0) (ct_X7_undo hS) vX7_undo wM_L_159 (mo_at G (b + 157) _ _ 0 (by decide)) rfl dL_law_1416 rfl rfl (Nat.le_of_ble_eq_true rfl) (Nat.le_trans (Nat.le_of_ble_eq_true rfl) hJ) ?_
    rintro _ _ (⟨m1, rfl, rfl⟩ | ⟨m1, rfl, μ₁, hS1, h0, rfl⟩)
    · skip
      refine e_icmp_eq (tgt := 1438) dL_law_1419 (by decide) (fun _ => ?_) (fun q9 => absurd (rfl) q9)
      refine ev_as (lwH_mo G b _ _ _).symm ?_
      exact ev_lc (hk _ _ _ ((hS.int (by decide) 0).up (by omega))) ⟨rfl, rfl, rfl, rfl, rfl, trivial⟩
    · exact absurd c1 m1
  · skip
    refine ev_as (show _ = lwH G b _ μ o from rfl) ?_
    refine e_aload_n dL_law_1415 rfl rfl ?_
    refine ev_as (lwH_mo G b _ μ _) ?_
    refine e_invV (mcY := 0) (msY := 0) (ct_X7_undo hS) vX7_undo wM_L_159 (mo_at G (b + 157) _ _ 0 (by decide)) rfl dL_law_1416 rfl rfl (Nat.le_of_ble_eq_true rfl) (Nat.le_trans (Nat.le_of_ble_eq_true rfl) hJ) ?_
    rintro _ _ (⟨m1, rfl, rfl⟩ | ⟨m1, rfl, μ₁, hS1, h0, rfl⟩)
    · exact absurd m1 c1
    · skip
      refine e_icmp_eq (tgt := 1438) dL_law_1419 (by decide) (fun _ => ?_) (fun q9 => absurd (rfl) q9)
      refine ev_as (lwH_mo G b _ _ _).symm ?_
      exact ev_lc (hk _ _ _ (hS1.up (by omega))) ⟨rfl, rfl, rfl, rfl, rfl, trivial⟩
set_option maxRecDepth 20000 in
set_option maxHeartbeats 1000000 in
theorem lc_checksum (hJ : 13 ≤ J.2.2.1) (hkd : J.1 = true) (hl0 : l.stackTraces = false) (hN : G.2.2.2.1.2.1 ≤ 3072) (hx0 : 0 ≤ x.toInt) (hx5 : x.toInt + 5 < (G.2.2.2.1.2.1 : Int)) (hS : RS T S μ) (hT0 : 0 ≤ T) (hT : T < 2147000000) (hk : ∀ S' μ' o', RS (T + 50) S' μ' → ev_V G l mL_law J 1438 (lwL G b x) [] (lwH G b S' μ' o') k n) : ev_V G l mL_law J 1424 (lwL G b x) [] (lwH G b S μ o) (k + 0) (n + 0) := by
  refine e_aload_n dL_law_1424 rfl rfl ?_
  refine e_invV (mcY := 0) (msY := 0) (ct_X6_checksum hS.1.2.1) vX6_checksum wM_L_160 (sy_at G b S (mo G (b + 157) μ (lwO G (b + 172) o)) 0 (by decide)) rfl dL_law_1425 rfl rfl (Nat.le_of_ble_eq_true rfl) (Nat.le_trans (Nat.le_of_ble_eq_true rfl) hJ) ?_
  rintro _ _ ⟨rfl, rfl⟩
  refine ev_as (show _ = lwH G b _ μ o from rfl) ?_
  refine e_aload_n dL_law_1428 rfl rfl ?_
  refine ev_as (lwH_mo G b _ μ _) ?_
  refine e_invV (mcY := 0) (msY := 0) (ct_X7_checksum (σ := S.2.2.2 0) hS.1.1 hS.1.2.1 hS.1.2.2.1) vX7_checksum wM_L_164 (mo_at G (b + 157) _ _ 0 (by decide)) rfl dL_law_1429 rfl rfl (Nat.le_of_ble_eq_true rfl) (Nat.le_trans (Nat.le_of_ble_eq_true rfl) hJ) ?_
  rintro _ _ ⟨rfl, rfl⟩
  refine e_lcmp dL_law_1432 ?_
  refine e_if_eq (tgt := 1438) dL_law_1433 (by decide) (fun _ => ?_) (fun q9 => absurd (lw_cmp rfl) q9)
  refine ev_as (lwH_mo G b _ _ _).symm ?_
  exact ev_lc (hk _ _ _ ((hS.int (by decide) 0).up (by omega))) ⟨rfl, rfl, rfl, rfl, rfl, trivial⟩
theorem lw_al {p q r : UInt64} (h1 : alike64 p r = true) (h2 : alike64 q r = true) : p = q ∨ (isNaN64 p = true ∧ isNaN64 q = true) := by
  simp only [alike64, Bool.or_eq_true, decide_eq_true_eq, Bool.and_eq_true] at h1 h2
  rcases h1 with h1 | ⟨a1, a2⟩
  · rcases h2 with h2 | ⟨b1, b2⟩
    · exact Or.inl (h1.trans h2.symm)
    · exact Or.inr ⟨h1 ▸ b2, b1⟩
  · rcases h2 with h2 | ⟨b1, b2⟩
    · exact Or.inr ⟨a1, h2 ▸ a2⟩
    · exact Or.inr ⟨a1, b1⟩
set_option maxRecDepth 20000 in
set_option maxHeartbeats 1000000 in
theorem lc_centre (hJ : 13 ≤ J.2.2.1) (hkd : J.1 = true) (hl0 : l.stackTraces = false) (hN : G.2.2.2.1.2.1 ≤ 3072) (hx0 : 0 ≤ x.toInt) (hx5 : x.toInt + 5 < (G.2.2.2.1.2.1 : Int)) (hS : RS T S μ) (hT0 : 0 ≤ T) (hT : T < 2147000000) (hk : ∀ S' μ' o', RS (T + 50) S' μ' → ev_V G l mL_law J 1438 (lwL G b x) [] (lwH G b S' μ' o') k n) : ev_V G l mL_law J 890 (lwL G b x) [] (lwH G b S μ o) (k + 0) (n + 0) := by
  refine e_aload_n dL_law_890 rfl rfl ?_
  refine e_invD (mcY := 0) (msY := 0) (ct_X6_centre hS.1.2.1 (wt_pos hS.1.2.1)) vX6_centre wM_L_129 (sy_at G b S (mo G (b + 157) μ (lwO G (b + 172) o)) 0 (by decide)) rfl dL_law_891 rfl rfl (Nat.le_of_ble_eq_true rfl) (Nat.le_trans (Nat.le_of_ble_eq_true rfl) hJ) hkd ?_
  rintro _ _ ⟨⟨r1, rfl, hr1⟩, rfl⟩
  refine ev_as (show _ = lwH G b _ μ o from rfl) ?_
  refine e_dstore dL_law_894 (Nat.le_of_ble_eq_true rfl) ?_
  refine e_aload_n dL_law_896 rfl rfl ?_
  refine ev_as (lwH_mo G b _ μ _) ?_
  refine e_invD (mcY := 0) (msY := 0) (ct_X7_centre (σ := S.2.2.2 0) hS.1.1 hS.1.2.1) vX7_centre wM_L_133 (mo_at G (b + 157) _ _ 0 (by decide)) rfl dL_law_897 rfl rfl (Nat.le_of_ble_eq_true rfl) (Nat.le_trans (Nat.le_of_ble_eq_true rfl) hJ) hkd ?_
  rintro _ _ ⟨⟨r2, rfl, hr2⟩, rfl⟩
  refine e_dstore dL_law_900 (Nat.le_of_ble_eq_true rfl) ?_
  have hd9 : Op.cmpValue (FP.dcmp r1 r2) .l ≠ 0 → Op.cmpValue (FP.dcmp r1 r1) .l ≠ 0 ∧ Op.cmpValue (FP.dcmp r2 r2) .l ≠ 0 := by
    intro h9
    rcases lw_al hr1 hr2 with e9 | ⟨e1, e2⟩
    · rw [e9] at h9 ⊢
      exact ⟨h9, h9⟩
    · exact ⟨lw_nan e1, lw_nan e2⟩
  have hf : ev_V G l mL_law J 928 [some (.ref G.2.2.2.1.1), some (.ref b), some (.ref (b + 157)), some (.ref (b + 172)), some (.int x)] [] (mo G (b + 157) (ms_I μ 0 0) (sy G b S (lwO G (b + 172) o))) k n := by
    refine ev_as (lwH_mo G b _ _ _).symm ?_
    refine e_goto (tgt := 1438) dL_law_928 (by decide) ?_
    exact hk _ _ _ ((hS.int (by decide) 0).up (by omega))
  refine e_dload dL_law_902 rfl ?_
  refine e_dload dL_law_904 rfl ?_
  refine e_dcmp dL_law_906 ?_
  refine e_if_eq (tgt := 928) dL_law_907 (by decide) (fun _ => ev_lc hf ⟨rfl, rfl, rfl, rfl, rfl, trivial⟩) (fun q9 => ?_)
  refine e_dload dL_law_910 rfl ?_
  refine e_dload dL_law_912 rfl ?_
  refine e_dcmp dL_law_914 ?_
  refine e_if_eq (tgt := 926) dL_law_915 (by decide) (fun q8 => absurd q8 (hd9 q9).1) (fun _ => ?_)
  refine e_dload dL_law_918 rfl ?_
  refine e_dload dL_law_920 rfl ?_
  refine e_dcmp dL_law_922 ?_
  exact e_if_ne (tgt := 928) dL_law_923 (by decide) (fun _ => ev_lc hf ⟨rfl, rfl, rfl, rfl, rfl, trivial⟩) (fun q8 => absurd q8 (hd9 q9).2)
set_option maxRecDepth 20000 in
set_option maxHeartbeats 1000000 in
theorem lc_load (hJ : 13 ≤ J.2.2.1) (hkd : J.1 = true) (hl0 : l.stackTraces = false) (hN : G.2.2.2.1.2.1 ≤ 3072) (hx0 : 0 ≤ x.toInt) (hx5 : x.toInt + 5 < (G.2.2.2.1.2.1 : Int)) (hS : RS T S μ) (hT0 : 0 ≤ T) (hT : T < 2147000000) (hk : ∀ S' μ' o', RS (T + 50) S' μ' → ev_V G l mL_law J 1438 (lwL G b x) [] (lwH G b S' μ' o') k n) : ev_V G l mL_law J 221 (lwL G b x) [] (lwH G b S μ o) (k + 1) (n + 6) := by
  refine e_aload_n dL_law_221 rfl rfl ?_
  refine e_aload_n dL_law_222 rfl rfl ?_
  refine e_iload dL_law_223 rfl ?_
  refine e_iconst (v := 1) dL_law_225 (by decide) ?_
  refine e_iadd dL_law_226 ?_
  refine e_scr hN hx0 hx5 (by decide +kernel) (by decide +kernel) dL_law_227 ?_
  refine e_aload_n dL_law_228 rfl rfl ?_
  refine e_invSH (hh := [(0, 9, 12, 13)]) (mcY := 1) (msY := 6) (ct_L_load (S := S) (μ := μ) (o := o) (Nat.le_of_ble_eq_true rfl) (ct_X6_load hl0 rfl hS.2.1.1 hS.2.2.1.2.1.1 hS.2.2.1.2.1.2) ?_ ?_) vL_load wM_L_82 dL_law_229 rfl rfl (Nat.le_of_ble_eq_true rfl) (Nat.le_trans (Nat.le_of_ble_eq_true rfl) hJ) ?_
  · rintro v a ⟨-, ⟨-, rfl, U, -, rfl⟩ | ⟨-, V, -, -, -, rfl, rfl⟩⟩
    · exact ⟨_, rfl, lwH_out G b _ μ o⟩
    · exact ⟨_, rfl, lwH_out G b _ μ o⟩
  · rintro E a ⟨⟨rfl, -⟩, -⟩
    rfl
  rintro _ a1 (⟨r, a0, hp, rfl, rfl⟩ | ⟨hx, rfl⟩)
  · obtain ⟨c1, ⟨c2, hv, U, hU, rfl⟩ | ⟨c2, V, hV, hV1, hV2, hv, rfl⟩⟩ := hp
    · skip
      injection hv with hv
      injection hv with hv
      refine ev_as (lwH_put G b _ μ o _) ?_
      refine e_istore dL_law_232 (Nat.le_of_ble_eq_true rfl) ?_
      refine e_aload_n dL_law_234 rfl rfl ?_
      refine e_aload_n dL_law_235 rfl rfl ?_
      refine e_iload dL_law_236 rfl ?_
      refine e_iconst (v := 1) dL_law_238 (by decide) ?_
      refine e_iadd dL_law_239 ?_
      refine e_scr hN hx0 hx5 (by decide +kernel) (by decide +kernel) dL_law_240 ?_
      refine ev_as (lwH_mo G b _ μ _) ?_
      refine e_invV (mcY := 0) (msY := 0) (ct_X7_load (b := b) hS hT0) vX7_load wM_L_87 (mo_at G (b + 157) _ _ 0 (by decide)) rfl dL_law_241 rfl rfl (Nat.le_of_ble_eq_true rfl) (Nat.le_trans (Nat.le_of_ble_eq_true rfl) hJ) ?_
      rintro _ _ (⟨m1, ⟨m2, rfl, μ₁, hf, h0, rfl⟩ | ⟨m2, rfl, μ₁, hf, h0, rfl⟩⟩ | ⟨m1, rfl, rfl⟩)
      · skip
        refine e_istore dL_law_244 (Nat.le_of_ble_eq_true rfl) ?_
        refine e_aload_n dL_law_246 rfl rfl ?_
        refine e_invV (mcY := 0) (msY := 0) (ct_X7_thrown) vX7_thrown wM_L_88 (mo_at G (b + 157) _ _ 0 (by decide)) rfl dL_law_247 rfl rfl (Nat.le_of_ble_eq_true rfl) (Nat.le_trans (Nat.le_of_ble_eq_true rfl) hJ) ?_
        rintro _ _ ⟨rfl, rfl⟩
        refine e_iload dL_law_250 rfl ?_
        refine e_icmp_eq (tgt := 257) dL_law_252 (by decide) (fun _ => ?_) (fun q9 => absurd (h0) q9)
        refine e_iload dL_law_257 rfl ?_
        refine e_if_ne (tgt := 274) dL_law_259 (by decide) (fun q9 => absurd rfl q9) (fun _ => ?_)
        refine ev_as (lwH_mo G b _ _ _).symm ?_
        refine e_aload_n dL_law_262 rfl rfl ?_
        refine e_iconst (v := 0) dL_law_263 (by decide) ?_
        refine e_lald (N := 1) (lwH_out G b _ _ _) (by decide +kernel) (by decide +kernel) dL_law_264 ?_
        refine e_iload dL_law_265 rfl ?_
        refine e_i2l dL_law_267 ?_
        refine e_lcmp dL_law_268 ?_
        refine e_if_eq (tgt := 274) dL_law_269 (by decide) (fun _ => ?_) (fun q9 => absurd (lw_cmp ((ev_u_self _ _ _).trans (congrArg Int32.toInt64 hv))) q9)
        refine e_goto (tgt := 1438) dL_law_274 (by decide) ?_
        exact ev_lc (hk _ _ _ ((hf U hU).up (by omega))) ⟨rfl, rfl, rfl, rfl, rfl, trivial⟩
      · exact absurd m2 c2
      · exact absurd c1 m1
    · skip
      injection hv with hv
      injection hv with hv
      refine ev_as (lwH_put G b _ μ o _) ?_
      refine e_istore dL_law_232 (Nat.le_of_ble_eq_true rfl) ?_
      refine e_aload_n dL_law_234 rfl rfl ?_
      refine e_aload_n dL_law_235 rfl rfl ?_
      refine e_iload dL_law_236 rfl ?_
      refine e_iconst (v := 1) dL_law_238 (by decide) ?_
      refine e_iadd dL_law_239 ?_
      refine e_scr hN hx0 hx5 (by decide +kernel) (by decide +kernel) dL_law_240 ?_
      refine ev_as (lwH_mo G b _ μ _) ?_
      refine e_invV (mcY := 0) (msY := 0) (ct_X7_load (b := b) hS hT0) vX7_load wM_L_87 (mo_at G (b + 157) _ _ 0 (by decide)) rfl dL_law_241 rfl rfl (Nat.le_of_ble_eq_true rfl) (Nat.le_trans (Nat.le_of_ble_eq_true rfl) hJ) ?_
      rintro _ _ (⟨m1, ⟨m2, rfl, μ₁, hf, h0, rfl⟩ | ⟨m2, rfl, μ₁, hf, h0, rfl⟩⟩ | ⟨m1, rfl, rfl⟩)
      · exact absurd c2 m2
      · skip
        refine e_istore dL_law_244 (Nat.le_of_ble_eq_true rfl) ?_
        refine e_aload_n dL_law_246 rfl rfl ?_
        refine e_invV (mcY := 0) (msY := 0) (ct_X7_thrown) vX7_thrown wM_L_88 (mo_at G (b + 157) _ _ 0 (by decide)) rfl dL_law_247 rfl rfl (Nat.le_of_ble_eq_true rfl) (Nat.le_trans (Nat.le_of_ble_eq_true rfl) hJ) ?_
        rintro _ _ ⟨rfl, rfl⟩
        refine e_iload dL_law_250 rfl ?_
        refine e_icmp_eq (tgt := 257) dL_law_252 (by decide) (fun _ => ?_) (fun q9 => absurd (h0) q9)
        refine e_iload dL_law_257 rfl ?_
        refine e_if_ne (tgt := 274) dL_law_259 (by decide) (fun q9 => absurd rfl q9) (fun _ => ?_)
        refine ev_as (lwH_mo G b _ _ _).symm ?_
        refine e_aload_n dL_law_262 rfl rfl ?_
        refine e_iconst (v := 0) dL_law_263 (by decide) ?_
        refine e_lald (N := 1) (lwH_out G b _ _ _) (by decide +kernel) (by decide +kernel) dL_law_264 ?_
        refine e_iload dL_law_265 rfl ?_
        refine e_i2l dL_law_267 ?_
        refine e_lcmp dL_law_268 ?_
        refine e_if_eq (tgt := 274) dL_law_269 (by decide) (fun _ => ?_) (fun q9 => absurd (lw_cmp ((ev_u_self _ _ _).trans (congrArg Int32.toInt64 (hv.trans (by rw [sKeep_1, hV1]))))) q9)
        refine e_goto (tgt := 1438) dL_law_274 (by decide) ?_
        exact ev_lc (hk _ _ _ ((hf V hV hV1).up (by omega))) ⟨rfl, rfl, rfl, rfl, rfl, trivial⟩
      · exact absurd c1 m1
  · obtain ⟨⟨-, rfl⟩, d1⟩ := hx
    refine e_istore dL_law_232 (Nat.le_of_ble_eq_true rfl) ?_
    refine e_aload_n dL_law_234 rfl rfl ?_
    refine e_aload_n dL_law_235 rfl rfl ?_
    refine e_iload dL_law_236 rfl ?_
    refine e_iconst (v := 1) dL_law_238 (by decide) ?_
    refine e_iadd dL_law_239 ?_
    refine e_scr hN hx0 hx5 (by decide +kernel) (by decide +kernel) dL_law_240 ?_
    refine ev_as (lwH_mo G b _ μ _) ?_
    refine e_invV (mcY := 0) (msY := 0) (ct_X7_load (b := b) hS hT0) vX7_load wM_L_87 (mo_at G (b + 157) _ _ 0 (by decide)) rfl dL_law_241 rfl rfl (Nat.le_of_ble_eq_true rfl) (Nat.le_trans (Nat.le_of_ble_eq_true rfl) hJ) ?_
    rintro _ _ (⟨m1, -⟩ | ⟨m1, rfl, rfl⟩)
    · exact absurd m1 d1
    · skip
      refine e_istore dL_law_244 (Nat.le_of_ble_eq_true rfl) ?_
      refine e_aload_n dL_law_246 rfl rfl ?_
      refine e_invV (mcY := 0) (msY := 0) (ct_X7_thrown) vX7_thrown wM_L_88 (mo_at G (b + 157) _ _ 0 (by decide)) rfl dL_law_247 rfl rfl (Nat.le_of_ble_eq_true rfl) (Nat.le_trans (Nat.le_of_ble_eq_true rfl) hJ) ?_
      rintro _ _ ⟨rfl, rfl⟩
      refine e_iload dL_law_250 rfl ?_
      refine e_icmp_eq (tgt := 257) dL_law_252 (by decide) (fun _ => ?_) (fun q9 => absurd (ev_u_self μ.1 0 (1 : Int32)) q9)
      refine e_iload dL_law_257 rfl ?_
      refine e_if_ne (tgt := 274) dL_law_259 (by decide) (fun _ => ?_) (fun q9 => absurd q9 (by decide))
      refine ev_as (lwH_mo G b _ _ _).symm ?_
      refine e_goto (tgt := 1438) dL_law_274 (by decide) ?_
      exact ev_lc (hk _ _ _ ((hS.int (by decide) 1).up (by omega))) ⟨rfl, rfl, rfl, rfl, rfl, trivial⟩
end LW3
