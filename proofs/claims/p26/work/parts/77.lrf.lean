/-! the checksum of the law's chain -/
section LRF
variable {G : ev_G} {l : Launch} {a : ev_H} {A : Nat → Nat} {σ : CS} {nI : Nat} {mI : Nat → TI} {j w : Nat} {x y u : Int32} {z : Int64}
set_option maxRecDepth 20000 in
theorem lp_ck1 {J : ev_K} {k n : Nat} (hJ : 3 ≤ J.2.2.1) (hC : LC G a A σ nI mI) (hv : sInv σ) (hb : RBs σ) (hI : Int32.ofNat nI = σ.1 5) (hk : ∀ z : Int64, z = ckA (0) (fun w => (sTell σ w).toInt64) 12 → ev_V G l mX7_checksum J 29 [some (.ref (A 0)), some (.long z), none] [] a k n) : ∀ (r i : Nat) (x : Int32) (z : Int64), r + i = 12 → x.toInt = (i : Int) → z = ckA (0) (fun w => (sTell σ w).toInt64) i → ev_V G l mX7_checksum J 4 [some (.ref (A 0)), some (.long z), none, some (.int x)] [] a k n := by
  intro r
  induction r using Nat.strongRecOn with
  | ind r ih =>
    intro i x z hr hx hz
    have hn : x.toInt.toNat = i := ar_nat hx
    have hmn := hv.1.nat
    have hmu : (σ.1 0).toInt = (sNm σ : Int) := hmn.1.symm
    have hmu2 : (σ.1 0).toInt = sM σ := rfl
    have z0 := ar_0
    have z1 := ar_1
    have w12 : (12 : Int32).toInt = 12 := by decide +kernel
    have w8 : (8 : Int32).toInt = 8 := by decide +kernel
    have w4 : (4 : Int32).toInt = 4 := by decide +kernel
    have w5 : (5 : Int32).toInt = 5 := by decide +kernel
    refine e_iload_n dX7_checksum_4 rfl rfl ?_
    refine e_bipush (v := 12) dX7_checksum_5 (by decide) ?_
    refine e_icmp_ge (tgt := 29) dX7_checksum_7 (by decide) (fun c7 => ?_) (fun c7 => ?_)
    · obtain rfl : i = 12 := by omega
      exact ev_lc (hk z hz) ⟨rfl, rfl, trivial⟩
    · have hi : i < 12 := by omega
      refine e_ldc2 dX7_checksum_10 wK_X7_140 ?_
      refine e_lload_n dX7_checksum_13 rfl rfl ?_
      refine e_lmul dX7_checksum_14 ?_
      refine e_aload_n dX7_checksum_15 rfl rfl ?_
      refine e_iload_n dX7_checksum_16 rfl rfl ?_
      refine e_invV (mcY := 0) (msY := 0) (ct_X7_told hC hv hb hI hx hi) vX7_told wM_X7_142 hC.1.1 rfl dX7_checksum_17 rfl rfl (Nat.le_of_ble_eq_true rfl) (Nat.le_trans (Nat.le_of_ble_eq_true rfl) hJ) ?_
      rintro _ _ ⟨rfl, rfl⟩
      refine e_i2l dX7_checksum_20 ?_
      refine e_ladd dX7_checksum_21 ?_
      refine e_lstore_n dX7_checksum_22 rfl (Nat.le_of_ble_eq_true rfl) ?_
      refine e_iinc dX7_checksum_23 rfl rfl (Nat.le_of_ble_eq_true rfl) ?_
      refine e_goto (tgt := 4) dX7_checksum_26 (by decide) ?_
      exact ev_lc (ih (r - 1) (by omega) (i + 1) _ _ (by omega) (ar_inc hx (by omega)) (ar_jj hz)) ⟨rfl, rfl, rfl, trivial⟩
set_option maxRecDepth 20000 in
theorem lp_ck2 {J : ev_K} {k n : Nat} (hJ : 3 ≤ J.2.2.1) (hC : LC G a A σ nI mI) (hv : sInv σ) (hb : RBs σ) (hI : Int32.ofNat nI = σ.1 5) (hk : ∀ z : Int64, z = ckA (ck1 σ) (fun w => sAcc σ w) 8 → ev_V G l mX7_checksum J 55 [some (.ref (A 0)), some (.long z), none] [] a k n) : ∀ (r i : Nat) (x : Int32) (z : Int64), r + i = 8 → x.toInt = (i : Int) → z = ckA (ck1 σ) (fun w => sAcc σ w) i → ev_V G l mX7_checksum J 31 [some (.ref (A 0)), some (.long z), none, some (.int x)] [] a k n := by
  intro r
  induction r using Nat.strongRecOn with
  | ind r ih =>
    intro i x z hr hx hz
    have hn : x.toInt.toNat = i := ar_nat hx
    have hmn := hv.1.nat
    have hmu : (σ.1 0).toInt = (sNm σ : Int) := hmn.1.symm
    have hmu2 : (σ.1 0).toInt = sM σ := rfl
    have z0 := ar_0
    have z1 := ar_1
    have w12 : (12 : Int32).toInt = 12 := by decide +kernel
    have w8 : (8 : Int32).toInt = 8 := by decide +kernel
    have w4 : (4 : Int32).toInt = 4 := by decide +kernel
    have w5 : (5 : Int32).toInt = 5 := by decide +kernel
    refine e_iload_n dX7_checksum_31 rfl rfl ?_
    refine e_bipush (v := 8) dX7_checksum_32 (by decide) ?_
    refine e_icmp_ge (tgt := 55) dX7_checksum_34 (by decide) (fun c34 => ?_) (fun c34 => ?_)
    · obtain rfl : i = 8 := by omega
      exact ev_lc (hk z hz) ⟨rfl, rfl, trivial⟩
    · have hi : i < 8 := by omega
      refine e_ldc2 dX7_checksum_37 wK_X7_140 ?_
      refine e_lload_n dX7_checksum_40 rfl rfl ?_
      refine e_lmul dX7_checksum_41 ?_
      refine e_aload_n dX7_checksum_42 rfl rfl ?_
      refine e_iload_n dX7_checksum_43 rfl rfl ?_
      refine e_invV (mcY := 0) (msY := 0) (ct_X7_account hC hv hb hx hi) vX7_account wM_X7_146 hC.1.1 rfl dX7_checksum_44 rfl rfl (Nat.le_of_ble_eq_true rfl) (Nat.le_trans (Nat.le_of_ble_eq_true rfl) hJ) ?_
      rintro _ _ ⟨rfl, rfl⟩
      refine e_ladd dX7_checksum_47 ?_
      refine e_lstore_n dX7_checksum_48 rfl (Nat.le_of_ble_eq_true rfl) ?_
      refine e_iinc dX7_checksum_49 rfl rfl (Nat.le_of_ble_eq_true rfl) ?_
      refine e_goto (tgt := 31) dX7_checksum_52 (by decide) ?_
      exact ev_lc (ih (r - 1) (by omega) (i + 1) _ _ (by omega) (ar_inc hx (by omega)) (ar_jj hz)) ⟨rfl, rfl, rfl, trivial⟩
set_option maxRecDepth 20000 in
theorem lp_ck3i {J : ev_K} {k n : Nat} (hJ : 3 ≤ J.2.2.1) (hC : LC G a A σ nI mI) (hv : sInv σ) (hb : RBs σ) (hI : Int32.ofNat nI = σ.1 5) {q : Nat} {xq : Int32} (hxq : xq.toInt = (q : Int)) (hq : q < sNm σ) {zq : Int64} (hk : ∀ z : Int64, z = ckA zq ((fun j w => (sTellM σ j w).toInt64) q) 4 → ev_V G l mX7_checksum J 96 [some (.ref (A 0)), some (.long z), none, some (.int xq)] [] a k n) : ∀ (r i : Nat) (x : Int32) (z : Int64), r + i = 4 → x.toInt = (i : Int) → z = ckA zq ((fun j w => (sTellM σ j w).toInt64) q) i → ev_V G l mX7_checksum J 69 [some (.ref (A 0)), some (.long z), none, some (.int xq), some (.int x)] [] a k n := by
  intro r
  induction r using Nat.strongRecOn with
  | ind r ih =>
    intro i x z hr hx hz
    have hn : x.toInt.toNat = i := ar_nat hx
    have hmn := hv.1.nat
    have hmu : (σ.1 0).toInt = (sNm σ : Int) := hmn.1.symm
    have hmu2 : (σ.1 0).toInt = sM σ := rfl
    have z0 := ar_0
    have z1 := ar_1
    have w12 : (12 : Int32).toInt = 12 := by decide +kernel
    have w8 : (8 : Int32).toInt = 8 := by decide +kernel
    have w4 : (4 : Int32).toInt = 4 := by decide +kernel
    have w5 : (5 : Int32).toInt = 5 := by decide +kernel
    refine e_iload dX7_checksum_69 rfl ?_
    refine e_iconst (v := 4) dX7_checksum_71 (by decide) ?_
    refine e_icmp_ge (tgt := 96) dX7_checksum_72 (by decide) (fun c72 => ?_) (fun c72 => ?_)
    · obtain rfl : i = 4 := by omega
      exact ev_lc (hk z hz) ⟨rfl, rfl, rfl, trivial⟩
    · have hi : i < 4 := by omega
      refine e_ldc2 dX7_checksum_75 wK_X7_140 ?_
      refine e_lload_n dX7_checksum_78 rfl rfl ?_
      refine e_lmul dX7_checksum_79 ?_
      refine e_aload_n dX7_checksum_80 rfl rfl ?_
      refine e_iload_n dX7_checksum_81 rfl rfl ?_
      refine e_iload dX7_checksum_82 rfl ?_
      refine e_invV (mcY := 0) (msY := 0) (ct_X7_of_ hC hv hxq hq hx hi) vX7_of_ wM_X7_149 hC.1.1 rfl dX7_checksum_84 rfl rfl (Nat.le_of_ble_eq_true rfl) (Nat.le_trans (Nat.le_of_ble_eq_true rfl) hJ) ?_
      rintro _ _ ⟨rfl, rfl⟩
      refine e_i2l dX7_checksum_87 ?_
      refine e_ladd dX7_checksum_88 ?_
      refine e_lstore_n dX7_checksum_89 rfl (Nat.le_of_ble_eq_true rfl) ?_
      refine e_iinc dX7_checksum_90 rfl rfl (Nat.le_of_ble_eq_true rfl) ?_
      refine e_goto (tgt := 69) dX7_checksum_93 (by decide) ?_
      exact ev_lc (ih (r - 1) (by omega) (i + 1) _ _ (by omega) (ar_inc hx (by omega)) (ar_jj hz)) ⟨rfl, rfl, rfl, rfl, trivial⟩
set_option maxRecDepth 20000 in
theorem lp_ck3o {J : ev_K} {k n : Nat} (hJ : 3 ≤ J.2.2.1) (hC : LC G a A σ nI mI) (hv : sInv σ) (hb : RBs σ) (hI : Int32.ofNat nI = σ.1 5) (hk : ∀ z : Int64, z = ckB (ck2 σ) (fun j w => (sTellM σ j w).toInt64) 4 (sNm σ) → ev_V G l mX7_checksum J 102 [some (.ref (A 0)), some (.long z), none] [] a k n) : ∀ (r i : Nat) (x : Int32) (z : Int64), r + i = sNm σ → x.toInt = (i : Int) → z = ckB (ck2 σ) (fun j w => (sTellM σ j w).toInt64) 4 i → ev_V G l mX7_checksum J 57 [some (.ref (A 0)), some (.long z), none, some (.int x)] [] a k n := by
  intro r
  induction r using Nat.strongRecOn with
  | ind r ih =>
    intro i x z hr hx hz
    have hn : x.toInt.toNat = i := ar_nat hx
    have hmn := hv.1.nat
    have hmu : (σ.1 0).toInt = (sNm σ : Int) := hmn.1.symm
    have hmu2 : (σ.1 0).toInt = sM σ := rfl
    have z0 := ar_0
    have z1 := ar_1
    have hM : (Int32.ofNat (sNm σ + 1)).toInt = ((sNm σ + 1 : Nat) : Int) := ar_of (by omega)
    refine e_iload_n dX7_checksum_57 rfl rfl ?_
    refine e_aload_n dX7_checksum_58 rfl rfl ?_
    refine lc_g4 hC wF_X7_10 dX7_checksum_59 ?_
    refine lc_n1 hC hv dX7_checksum_62 ?_
    refine e_icmp_ge (tgt := 102) dX7_checksum_63 (by decide) (fun c63 => ?_) (fun c63 => ?_)
    · obtain rfl : i = sNm σ := by omega
      exact ev_lc (hk z hz) ⟨rfl, rfl, trivial⟩
    · have hi : i < sNm σ := by omega
      refine e_iconst (v := 0) dX7_checksum_66 (by decide) ?_
      refine e_istore dX7_checksum_67 (Nat.le_of_ble_eq_true rfl) ?_
      refine lp_ck3i hJ hC hv hb hI hx hi (fun z2 hz2 => ?_) 4 0 _ _ (by omega) ar_0 rfl
      refine e_iinc dX7_checksum_96 rfl rfl (Nat.le_of_ble_eq_true rfl) ?_
      refine e_goto (tgt := 57) dX7_checksum_99 (by decide) ?_
      exact ev_lc (ih (r - 1) (by omega) (i + 1) _ _ (by omega) (ar_inc hx (by omega)) (by rw [hz2, hz]; rfl)) ⟨rfl, rfl, rfl, trivial⟩
set_option maxRecDepth 20000 in
theorem lp_ck4i {J : ev_K} {k n : Nat} (hJ : 3 ≤ J.2.2.1) (hC : LC G a A σ nI mI) (hv : sInv σ) (hb : RBs σ) (hI : Int32.ofNat nI = σ.1 5) {q : Nat} {xq : Int32} (hxq : xq.toInt = (q : Int)) (hq : q < sNm σ + 1) {zq : Int64} (hk : ∀ z : Int64, z = ckA zq ((fun j w => (sTellS σ j w).toInt64) q) 5 → ev_V G l mX7_checksum J 143 [some (.ref (A 0)), some (.long z), none, some (.int xq)] [] a k n) : ∀ (r i : Nat) (x : Int32) (z : Int64), r + i = 5 → x.toInt = (i : Int) → z = ckA zq ((fun j w => (sTellS σ j w).toInt64) q) i → ev_V G l mX7_checksum J 116 [some (.ref (A 0)), some (.long z), none, some (.int xq), some (.int x)] [] a k n := by
  intro r
  induction r using Nat.strongRecOn with
  | ind r ih =>
    intro i x z hr hx hz
    have hn : x.toInt.toNat = i := ar_nat hx
    have hmn := hv.1.nat
    have hmu : (σ.1 0).toInt = (sNm σ : Int) := hmn.1.symm
    have hmu2 : (σ.1 0).toInt = sM σ := rfl
    have z0 := ar_0
    have z1 := ar_1
    have w12 : (12 : Int32).toInt = 12 := by decide +kernel
    have w8 : (8 : Int32).toInt = 8 := by decide +kernel
    have w4 : (4 : Int32).toInt = 4 := by decide +kernel
    have w5 : (5 : Int32).toInt = 5 := by decide +kernel
    refine e_iload dX7_checksum_116 rfl ?_
    refine e_iconst (v := 5) dX7_checksum_118 (by decide) ?_
    refine e_icmp_ge (tgt := 143) dX7_checksum_119 (by decide) (fun c119 => ?_) (fun c119 => ?_)
    · obtain rfl : i = 5 := by omega
      exact ev_lc (hk z hz) ⟨rfl, rfl, rfl, trivial⟩
    · have hi : i < 5 := by omega
      refine e_ldc2 dX7_checksum_122 wK_X7_140 ?_
      refine e_lload_n dX7_checksum_125 rfl rfl ?_
      refine e_lmul dX7_checksum_126 ?_
      refine e_aload_n dX7_checksum_127 rfl rfl ?_
      refine e_iload_n dX7_checksum_128 rfl rfl ?_
      refine e_iload dX7_checksum_129 rfl ?_
      refine e_invV (mcY := 0) (msY := 0) (ct_X7_ofSpring hC hv hb hxq hq hx hi) vX7_ofSpring wM_X7_152 hC.1.1 rfl dX7_checksum_131 rfl rfl (Nat.le_of_ble_eq_true rfl) (Nat.le_trans (Nat.le_of_ble_eq_true rfl) hJ) ?_
      rintro _ _ ⟨rfl, rfl⟩
      refine e_i2l dX7_checksum_134 ?_
      refine e_ladd dX7_checksum_135 ?_
      refine e_lstore_n dX7_checksum_136 rfl (Nat.le_of_ble_eq_true rfl) ?_
      refine e_iinc dX7_checksum_137 rfl rfl (Nat.le_of_ble_eq_true rfl) ?_
      refine e_goto (tgt := 116) dX7_checksum_140 (by decide) ?_
      exact ev_lc (ih (r - 1) (by omega) (i + 1) _ _ (by omega) (ar_inc hx (by omega)) (ar_jj hz)) ⟨rfl, rfl, rfl, rfl, trivial⟩
set_option maxRecDepth 20000 in
theorem lp_ck4o {J : ev_K} {k n : Nat} (hJ : 3 ≤ J.2.2.1) (hC : LC G a A σ nI mI) (hv : sInv σ) (hb : RBs σ) (hI : Int32.ofNat nI = σ.1 5) (hk : ∀ z : Int64, z = ckB (ck3 σ) (fun j w => (sTellS σ j w).toInt64) 5 (sNm σ + 1) → ev_V G l mX7_checksum J 149 [some (.ref (A 0)), some (.long z), none] [] a k n) : ∀ (r i : Nat) (x : Int32) (z : Int64), r + i = sNm σ + 1 → x.toInt = (i : Int) → z = ckB (ck3 σ) (fun j w => (sTellS σ j w).toInt64) 5 i → ev_V G l mX7_checksum J 104 [some (.ref (A 0)), some (.long z), none, some (.int x)] [] a k n := by
  intro r
  induction r using Nat.strongRecOn with
  | ind r ih =>
    intro i x z hr hx hz
    have hn : x.toInt.toNat = i := ar_nat hx
    have hmn := hv.1.nat
    have hmu : (σ.1 0).toInt = (sNm σ : Int) := hmn.1.symm
    have hmu2 : (σ.1 0).toInt = sM σ := rfl
    have z0 := ar_0
    have z1 := ar_1
    have hM : (Int32.ofNat (sNm σ + 1)).toInt = ((sNm σ + 1 : Nat) : Int) := ar_of (by omega)
    refine e_iload_n dX7_checksum_104 rfl rfl ?_
    refine e_aload_n dX7_checksum_105 rfl rfl ?_
    refine lc_g5 hC wF_X7_19 dX7_checksum_106 ?_
    refine lc_n2 hC dX7_checksum_109 ?_
    refine e_icmp_ge (tgt := 149) dX7_checksum_110 (by decide) (fun c110 => ?_) (fun c110 => ?_)
    · obtain rfl : i = sNm σ + 1 := by omega
      exact ev_lc (hk z hz) ⟨rfl, rfl, trivial⟩
    · have hi : i < sNm σ + 1 := by omega
      refine e_iconst (v := 0) dX7_checksum_113 (by decide) ?_
      refine e_istore dX7_checksum_114 (Nat.le_of_ble_eq_true rfl) ?_
      refine lp_ck4i hJ hC hv hb hI hx hi (fun z2 hz2 => ?_) 5 0 _ _ (by omega) ar_0 rfl
      refine e_iinc dX7_checksum_143 rfl rfl (Nat.le_of_ble_eq_true rfl) ?_
      refine e_goto (tgt := 104) dX7_checksum_146 (by decide) ?_
      exact ev_lc (ih (r - 1) (by omega) (i + 1) _ _ (by omega) (ar_inc hx (by omega)) (by rw [hz2, hz]; rfl)) ⟨rfl, rfl, rfl, trivial⟩
set_option maxRecDepth 20000 in
theorem lp_ck5 {J : ev_K} {k n : Nat} (hJ : 3 ≤ J.2.2.1) (hC : LC G a A σ nI mI) (hv : sInv σ) (hb : RBs σ) (hI : Int32.ofNat nI = σ.1 5) (hk : ∀ z : Int64, z = sCk σ → ev_V G l mX7_checksum J 202 [none, some (.long z)] [] a k n) : ∀ (r i : Nat) (x : Int32) (z : Int64), r + i = sPn σ → x.toInt = (i : Int) → z = ckB (ck4 σ) (fun k w => (sNo σ k w).toInt64) 2 i → ev_V G l mX7_checksum J 161 [some (.ref (A 0)), some (.long z), none, some (.ref (A 4)), some (.int (σ.1 6)), some (.int x)] [] a k n := by
  intro r
  induction r using Nat.strongRecOn with
  | ind r ih =>
    intro i x z hr hx hz
    have hn : x.toInt.toNat = i := ar_nat hx
    have hmn := hv.1.nat
    have hmu : (σ.1 0).toInt = (sNm σ : Int) := hmn.1.symm
    have hmu2 : (σ.1 0).toInt = sM σ := rfl
    have z0 := ar_0
    have z1 := ar_1
    have hpn := hv.2.2.2.2
    have hpe : (σ.1 6).toInt = (sPn σ : Int) := by unfold sPn; omega
    refine e_iload dX7_checksum_161 rfl ?_
    refine e_iload dX7_checksum_163 rfl ?_
    refine e_icmp_ge (tgt := 202) dX7_checksum_165 (by decide) (fun c165 => ?_) (fun c165 => ?_)
    · obtain rfl : i = sPn σ := by omega
      exact ev_lc (hk z hz) ⟨rfl, trivial⟩
    · have hi : i < sPn σ := by omega
      refine e_aload_n dX7_checksum_168 rfl rfl ?_
      refine e_iload dX7_checksum_169 rfl ?_
      refine lc_q4 hC hx hi dX7_checksum_171 ?_
      refine e_astore dX7_checksum_172 (Nat.le_of_ble_eq_true rfl) ?_
      refine e_ldc2 dX7_checksum_174 wK_X7_140 ?_
      refine e_ldc2 dX7_checksum_177 wK_X7_140 ?_
      refine e_lload_n dX7_checksum_180 rfl rfl ?_
      refine e_lmul dX7_checksum_181 ?_
      refine e_aload dX7_checksum_182 rfl ?_
      refine e_iconst (v := 0) dX7_checksum_184 (by decide) ?_
      refine lc_p hC hi ar_0 (by decide) dX7_checksum_185 ?_
      refine e_i2l dX7_checksum_186 ?_
      refine e_ladd dX7_checksum_187 ?_
      refine e_lmul dX7_checksum_188 ?_
      refine e_aload dX7_checksum_189 rfl ?_
      refine e_iconst (v := 1) dX7_checksum_191 (by decide) ?_
      refine lc_p hC hi ar_1 (by decide) dX7_checksum_192 ?_
      refine e_i2l dX7_checksum_193 ?_
      refine e_ladd dX7_checksum_194 ?_
      refine e_lstore_n dX7_checksum_195 rfl (Nat.le_of_ble_eq_true rfl) ?_
      refine e_iinc dX7_checksum_196 rfl rfl (Nat.le_of_ble_eq_true rfl) ?_
      refine e_goto (tgt := 161) dX7_checksum_199 (by decide) ?_
      exact ev_lc (ih (r - 1) (by omega) (i + 1) _ _ (by omega) (ar_inc hx (by omega)) (by rw [hz]; rfl)) ⟨rfl, rfl, rfl, rfl, rfl, trivial⟩
set_option maxRecDepth 20000 in
theorem ct_X7_checksum (hC : LC G a A σ nI mI) (hv : sInv σ) (hb : RBs σ) (hI : Int32.ofNat nI = σ.1 5) : ev_Ct G l mX7_checksum 3 0 0 [.ref (A 0)] a (fun v b => v = some (.long (sCk σ)) ∧ b = a) (fun _ _ => False) := by
  refine ev_Ct.of (by decide +kernel) (Nat.le_of_ble_eq_true rfl) ?_
  have hmn := hv.1.nat
  have hmu : (σ.1 0).toInt = (sNm σ : Int) := hmn.1.symm
  have hmu2 : (σ.1 0).toInt = sM σ := rfl
  have z0 := ar_0
  have z1 := ar_1
  refine e_lconst (v := 0) dX7_checksum_0 (by decide) ?_
  refine e_lstore_n dX7_checksum_1 rfl (Nat.le_of_ble_eq_true rfl) ?_
  refine e_iconst (v := 0) dX7_checksum_2 (by decide) ?_
  refine e_istore_n dX7_checksum_3 rfl (Nat.le_of_ble_eq_true rfl) ?_
  refine ev_loc (L' := [some (.ref (A 0)), some (.long 0), none, some (.int 0)]) ⟨rfl, rfl, rfl, trivial⟩ ?_
  refine lp_ck1 (Nat.le_of_ble_eq_true rfl) hC hv hb hI (fun z1 h1 => ?_) 12 0 _ _ (by omega) ar_0 rfl
  refine e_iconst (v := 0) dX7_checksum_29 (by decide) ?_
  refine e_istore_n dX7_checksum_30 rfl (Nat.le_of_ble_eq_true rfl) ?_
  refine ev_loc (L' := [some (.ref (A 0)), some (.long z1), none, some (.int 0)]) ⟨rfl, rfl, rfl, trivial⟩ ?_
  refine lp_ck2 (Nat.le_of_ble_eq_true rfl) hC hv hb hI (fun z2 h2 => ?_) 8 0 _ _ (by omega) ar_0 h1
  refine e_iconst (v := 0) dX7_checksum_55 (by decide) ?_
  refine e_istore_n dX7_checksum_56 rfl (Nat.le_of_ble_eq_true rfl) ?_
  refine ev_loc (L' := [some (.ref (A 0)), some (.long z2), none, some (.int 0)]) ⟨rfl, rfl, rfl, trivial⟩ ?_
  refine lp_ck3o (Nat.le_of_ble_eq_true rfl) hC hv hb hI (fun z3 h3 => ?_) (sNm σ) 0 _ _ (by omega) ar_0 h2
  refine e_iconst (v := 0) dX7_checksum_102 (by decide) ?_
  refine e_istore_n dX7_checksum_103 rfl (Nat.le_of_ble_eq_true rfl) ?_
  refine ev_loc (L' := [some (.ref (A 0)), some (.long z3), none, some (.int 0)]) ⟨rfl, rfl, rfl, trivial⟩ ?_
  refine lp_ck4o (Nat.le_of_ble_eq_true rfl) hC hv hb hI (fun z4 h4 => ?_) (sNm σ + 1) 0 _ _ (by omega) ar_0 h3
  refine e_aload_n dX7_checksum_149 rfl rfl ?_
  refine lc_g7 hC wF_X7_29 dX7_checksum_150 ?_
  refine e_astore_n dX7_checksum_153 rfl (Nat.le_of_ble_eq_true rfl) ?_
  refine e_aload_n dX7_checksum_154 rfl rfl ?_
  refine lc_n4 hC hv dX7_checksum_155 ?_
  refine e_istore dX7_checksum_156 (Nat.le_of_ble_eq_true rfl) ?_
  refine e_iconst (v := 0) dX7_checksum_158 (by decide) ?_
  refine e_istore dX7_checksum_159 (Nat.le_of_ble_eq_true rfl) ?_
  refine ev_loc (L' := [some (.ref (A 0)), some (.long z4), none, some (.ref (A 4)), some (.int (σ.1 6)), some (.int 0)]) ⟨rfl, rfl, rfl, rfl, rfl, trivial⟩ ?_
  refine lp_ck5 (Nat.le_of_ble_eq_true rfl) hC hv hb hI (fun z5 h5 => ?_) (sPn σ) 0 _ _ (by omega) ar_0 h4
  subst h5
  refine e_lload_n dX7_checksum_202 rfl rfl ?_
  exact e_lret rfl dX7_checksum_203 (⟨rfl, rfl⟩)
end LRF
