/-! the checksum, append -/
section Y5
variable {G : ev_G} {l : Launch} {b : Nat} {S : SS} {h : ev_H} {x y z w u : Int32}
theorem ar_jj {i : Nat} {z w : Int64} {f : Nat → Int64} (h : z = ckA w f i) : 31 * z + f i = ckA w f (i + 1) := by rw [h]; rfl
set_option maxRecDepth 20000 in
theorem lp_ckA {J : ev_K} {k n : Nat} (hJ : 7 ≤ J.2.2.1) (hv : sInv (S.2.2.2 0)) (hk : ev_V G l mX6_checksum J 32 [some (.ref b), some (.long (ckA (0) (fun w => (sTell (S.2.2.2 0) w).toInt64) 12))] [] (sy G b S h) k n) : ∀ (r i : Nat) (x : Int32) (z : Int64), r + i = 12 → x.toInt = (i : Int) → z = ckA (0) (fun w => (sTell (S.2.2.2 0) w).toInt64) i → ev_V G l mX6_checksum J 4 [some (.ref b), some (.long z), none, some (.int x)] [] (sy G b S h) k n := by
  intro r
  induction r using Nat.strongRecOn with
  | ind r ih =>
    intro i x z
    intro hr hx hz
    have hn : x.toInt.toNat = i := ar_nat hx
    have w11 : (11 : Int32).toInt = 11 := by decide +kernel
    refine e_iload_n dX6_checksum_4 rfl rfl ?_
    refine e_bipush (v := 11) dX6_checksum_5 (by decide) ?_
    refine e_icmp_gt (tgt := 32) dX6_checksum_7 (by decide) (fun c7 => ?_) (fun c7 => ?_)
    · have hi : i = 12 := by omega
      subst hi
      subst hz
      exact ev_lc hk ⟨rfl, rfl, trivial⟩
    · refine e_ldc2 dX6_checksum_10 wK_X6_202 ?_
      refine e_lload_n dX6_checksum_13 rfl rfl ?_
      refine e_lmul dX6_checksum_14 ?_
      refine e_aload_n dX6_checksum_15 rfl rfl ?_
      refine sy_g6_2 wF_X6_23 dX6_checksum_16 ?_
      refine e_iload_n dX6_checksum_19 rfl rfl ?_
      refine ev_as (sy_as G b _ h 0 (by decide)) ?_
      refine e_invV (mcY := 0) (msY := 0) (ct_X0_tellState (c := sc b 0) (σ := S.2.2.2 0) hv.1 (by omega) (by omega)) vX0_tellState wM_X6_70 (ch_at G (sc b 0) _ (sy G b _ h) 0 (by decide)) rfl dX6_checksum_20 rfl rfl (Nat.le_of_ble_eq_true rfl) (Nat.le_trans (Nat.le_of_ble_eq_true rfl) hJ) ?_
      rintro _ _ ⟨rfl, rfl⟩
      refine ev_as (sy_as G b _ h 0 (by decide)).symm ?_
      refine e_i2l dX6_checksum_23 ?_
      refine e_ladd dX6_checksum_24 ?_
      refine e_lstore_n dX6_checksum_25 rfl (Nat.le_of_ble_eq_true rfl) ?_
      refine e_iinc dX6_checksum_26 rfl rfl (Nat.le_of_ble_eq_true rfl) ?_
      refine e_goto (tgt := 4) dX6_checksum_29 (by decide) ?_
      exact ev_lc (ih (r - 1) (by omega) (i + 1) _ _ (by omega) (ar_inc hx (by omega)) (by first | (rw [hn]; exact ar_jj hz) | exact ar_jj hz)) ⟨rfl, rfl, rfl, trivial⟩
set_option maxRecDepth 20000 in
theorem lp_ckB {J : ev_K} {k n : Nat} (hJ : 7 ≤ J.2.2.1) (hv : sInv (S.2.2.2 0)) (hk : ev_V G l mX6_checksum J 61 [some (.ref b), some (.long (ckA (ck1 (S.2.2.2 0)) (fun w => sAcc (S.2.2.2 0) w) 8))] [] (sy G b S h) k n) : ∀ (r i : Nat) (x : Int32) (z : Int64), r + i = 8 → x.toInt = (i : Int) → z = ckA (ck1 (S.2.2.2 0)) (fun w => sAcc (S.2.2.2 0) w) i → ev_V G l mX6_checksum J 34 [some (.ref b), some (.long z), none, some (.int x)] [] (sy G b S h) k n := by
  intro r
  induction r using Nat.strongRecOn with
  | ind r ih =>
    intro i x z
    intro hr hx hz
    have hn : x.toInt.toNat = i := ar_nat hx
    have w7 : (7 : Int32).toInt = 7 := by decide +kernel
    refine e_iload_n dX6_checksum_34 rfl rfl ?_
    refine e_bipush (v := 7) dX6_checksum_35 (by decide) ?_
    refine e_icmp_gt (tgt := 61) dX6_checksum_37 (by decide) (fun c37 => ?_) (fun c37 => ?_)
    · have hi : i = 8 := by omega
      subst hi
      subst hz
      exact ev_lc hk ⟨rfl, rfl, trivial⟩
    · refine e_ldc2 dX6_checksum_40 wK_X6_202 ?_
      refine e_lload_n dX6_checksum_43 rfl rfl ?_
      refine e_lmul dX6_checksum_44 ?_
      refine e_aload_n dX6_checksum_45 rfl rfl ?_
      refine sy_g6_2 wF_X6_23 dX6_checksum_46 ?_
      refine e_iload_n dX6_checksum_49 rfl rfl ?_
      refine ev_as (sy_as G b _ h 0 (by decide)) ?_
      refine e_invV (mcY := 0) (msY := 0) (ct_X0_tellAccount (c := sc b 0) (σ := S.2.2.2 0) hv.1 hv.2.1 (by omega) (by omega)) vX0_tellAccount wM_X6_74 (ch_at G (sc b 0) _ (sy G b _ h) 0 (by decide)) rfl dX6_checksum_50 rfl rfl (Nat.le_of_ble_eq_true rfl) (Nat.le_trans (Nat.le_of_ble_eq_true rfl) hJ) ?_
      rintro _ _ ⟨rfl, rfl⟩
      refine ev_as (sy_as G b _ h 0 (by decide)).symm ?_
      refine e_ladd dX6_checksum_53 ?_
      refine e_lstore_n dX6_checksum_54 rfl (Nat.le_of_ble_eq_true rfl) ?_
      refine e_iinc dX6_checksum_55 rfl rfl (Nat.le_of_ble_eq_true rfl) ?_
      refine e_goto (tgt := 34) dX6_checksum_58 (by decide) ?_
      exact ev_lc (ih (r - 1) (by omega) (i + 1) _ _ (by omega) (ar_inc hx (by omega)) (by first | (rw [hn]; exact ar_jj hz) | exact ar_jj hz)) ⟨rfl, rfl, rfl, trivial⟩
set_option maxRecDepth 20000 in
theorem lp_ckCi {J : ev_K} {k n : Nat} (hJ : 7 ≤ J.2.2.1) (hv : sInv (S.2.2.2 0)) (y : Int32) (y0 : 0 ≤ y.toInt) (y1 : y.toInt < sM (S.2.2.2 0)) (z0 : Int64) (hk : ev_V G l mX6_checksum J 107 [some (.ref b), some (.long (ckA z0 ((fun j w => (sTellM (S.2.2.2 0) j w).toInt64) y.toInt.toNat) 4)), none, some (.int y)] [] (sy G b S h) k n) : ∀ (r i : Nat) (x : Int32) (z : Int64), r + i = 4 → x.toInt = (i : Int) → z = ckA z0 ((fun j w => (sTellM (S.2.2.2 0) j w).toInt64) y.toInt.toNat) i → ev_V G l mX6_checksum J 77 [some (.ref b), some (.long z), none, some (.int y), some (.int x)] [] (sy G b S h) k n := by
  intro r
  induction r using Nat.strongRecOn with
  | ind r ih =>
    intro i x z
    intro hr hx hz
    have hn : x.toInt.toNat = i := ar_nat hx
    have w3 : (3 : Int32).toInt = 3 := by decide +kernel
    refine e_iload dX6_checksum_77 rfl ?_
    refine e_iconst (v := 3) dX6_checksum_79 (by decide) ?_
    refine e_icmp_gt (tgt := 107) dX6_checksum_80 (by decide) (fun c80 => ?_) (fun c80 => ?_)
    · have hi : i = 4 := by omega
      subst hi
      subst hz
      exact ev_lc hk ⟨rfl, rfl, rfl, trivial⟩
    · refine e_ldc2 dX6_checksum_83 wK_X6_202 ?_
      refine e_lload_n dX6_checksum_86 rfl rfl ?_
      refine e_lmul dX6_checksum_87 ?_
      refine e_aload_n dX6_checksum_88 rfl rfl ?_
      refine sy_g6_2 wF_X6_23 dX6_checksum_89 ?_
      refine e_iload_n dX6_checksum_92 rfl rfl ?_
      refine e_iload dX6_checksum_93 rfl ?_
      refine ev_as (sy_as G b _ h 0 (by decide)) ?_
      refine e_invV (mcY := 0) (msY := 0) (ct_X0_tellMass (c := sc b 0) (σ := S.2.2.2 0) y0 y1 hv.1 hv.2.1 (by omega) (by omega)) vX0_tellMass wM_X6_81 (ch_at G (sc b 0) _ (sy G b _ h) 0 (by decide)) rfl dX6_checksum_95 rfl rfl (Nat.le_of_ble_eq_true rfl) (Nat.le_trans (Nat.le_of_ble_eq_true rfl) hJ) ?_
      rintro _ _ ⟨rfl, rfl⟩
      refine ev_as (sy_as G b _ h 0 (by decide)).symm ?_
      refine e_i2l dX6_checksum_98 ?_
      refine e_ladd dX6_checksum_99 ?_
      refine e_lstore_n dX6_checksum_100 rfl (Nat.le_of_ble_eq_true rfl) ?_
      refine e_iinc dX6_checksum_101 rfl rfl (Nat.le_of_ble_eq_true rfl) ?_
      refine e_goto (tgt := 77) dX6_checksum_104 (by decide) ?_
      exact ev_lc (ih (r - 1) (by omega) (i + 1) _ _ (by omega) (ar_inc hx (by omega)) (by first | (rw [hn]; exact ar_jj hz) | exact ar_jj hz)) ⟨rfl, rfl, rfl, rfl, trivial⟩
set_option maxRecDepth 20000 in
theorem lp_ckCo {J : ev_K} {k n : Nat} (hJ : 7 ≤ J.2.2.1) (hv : sInv (S.2.2.2 0)) (hk : ev_V G l mX6_checksum J 113 [some (.ref b), some (.long (ckB (ck2 (S.2.2.2 0)) (fun j w => (sTellM (S.2.2.2 0) j w).toInt64) 4 (sNm (S.2.2.2 0))))] [] (sy G b S h) k n) : ∀ (r i : Nat) (x : Int32) (z : Int64), r + i = sNm (S.2.2.2 0) → x.toInt = (i : Int) → z = ckB (ck2 (S.2.2.2 0)) (fun j w => (sTellM (S.2.2.2 0) j w).toInt64) 4 i → ev_V G l mX6_checksum J 63 [some (.ref b), some (.long z), none, some (.int x)] [] (sy G b S h) k n := by
  intro r
  induction r using Nat.strongRecOn with
  | ind r ih =>
    intro i x z
    intro hr hx hz
    have hn : x.toInt.toNat = i := ar_nat hx
    have hM3 : sM (S.2.2.2 0) = ((S.2.2.2 0).1 0).toInt := rfl
    have hM : (sNm (S.2.2.2 0) : Int) = sM (S.2.2.2 0) := by have := hv.1.1; have e : sNm (S.2.2.2 0) = ((S.2.2.2 0).1 0).toInt.toNat := rfl; omega
    have hM2 : sM (S.2.2.2 0) ≤ 12 := hv.1.2
    refine e_iload_n dX6_checksum_63 rfl rfl ?_
    refine e_aload_n dX6_checksum_64 rfl rfl ?_
    refine sy_g6_2 wF_X6_23 dX6_checksum_65 ?_
    refine ev_as (sy_as G b _ h 0 (by decide)) (ch_g0_0 (c := sc b 0) wF_X6_67 dX6_checksum_68 (ev_as (sy_as G b _ h 0 (by decide)).symm ?_))
    refine e_icmp_ge (tgt := 113) dX6_checksum_71 (by decide) (fun c71 => ?_) (fun c71 => ?_)
    · have hi : i = sNm (S.2.2.2 0) := by omega
      subst hi
      subst hz
      exact ev_lc hk ⟨rfl, rfl, trivial⟩
    · refine e_iconst (v := 0) dX6_checksum_74 (by decide) ?_
      refine e_istore dX6_checksum_75 (Nat.le_of_ble_eq_true rfl) ?_
      refine ev_loc (L' := [some (.ref b), some (.long z), none, some (.int x), some (.int 0)]) ⟨rfl, rfl, rfl, rfl, trivial⟩ ?_
      refine lp_ckCi hJ hv x (by omega) (by omega) z ?_ 4 0 _ _ (by omega) ar_0 rfl
      refine e_iinc dX6_checksum_107 rfl rfl (Nat.le_of_ble_eq_true rfl) ?_
      refine e_goto (tgt := 63) dX6_checksum_110 (by decide) ?_
      exact ev_lc (ih (r - 1) (by omega) (i + 1) _ _ (by omega) (ar_inc hx (by omega)) (by rw [hz, hn]; rfl)) ⟨rfl, rfl, rfl, trivial⟩
set_option maxRecDepth 20000 in
theorem lp_ckDi {J : ev_K} {k n : Nat} (hJ : 7 ≤ J.2.2.1) (hv : sInv (S.2.2.2 0)) (y : Int32) (y0 : 0 ≤ y.toInt) (y1 : y.toInt ≤ sM (S.2.2.2 0)) (z0 : Int64) (hk : ev_V G l mX6_checksum J 159 [some (.ref b), some (.long (ckA z0 ((fun j w => (sTellS (S.2.2.2 0) j w).toInt64) y.toInt.toNat) 5)), none, some (.int y)] [] (sy G b S h) k n) : ∀ (r i : Nat) (x : Int32) (z : Int64), r + i = 5 → x.toInt = (i : Int) → z = ckA z0 ((fun j w => (sTellS (S.2.2.2 0) j w).toInt64) y.toInt.toNat) i → ev_V G l mX6_checksum J 129 [some (.ref b), some (.long z), none, some (.int y), some (.int x)] [] (sy G b S h) k n := by
  intro r
  induction r using Nat.strongRecOn with
  | ind r ih =>
    intro i x z
    intro hr hx hz
    have hn : x.toInt.toNat = i := ar_nat hx
    have w4 : (4 : Int32).toInt = 4 := by decide +kernel
    refine e_iload dX6_checksum_129 rfl ?_
    refine e_iconst (v := 4) dX6_checksum_131 (by decide) ?_
    refine e_icmp_gt (tgt := 159) dX6_checksum_132 (by decide) (fun c132 => ?_) (fun c132 => ?_)
    · have hi : i = 5 := by omega
      subst hi
      subst hz
      exact ev_lc hk ⟨rfl, rfl, rfl, trivial⟩
    · refine e_ldc2 dX6_checksum_135 wK_X6_202 ?_
      refine e_lload_n dX6_checksum_138 rfl rfl ?_
      refine e_lmul dX6_checksum_139 ?_
      refine e_aload_n dX6_checksum_140 rfl rfl ?_
      refine sy_g6_2 wF_X6_23 dX6_checksum_141 ?_
      refine e_iload_n dX6_checksum_144 rfl rfl ?_
      refine e_iload dX6_checksum_145 rfl ?_
      refine ev_as (sy_as G b _ h 0 (by decide)) ?_
      refine e_invV (mcY := 0) (msY := 0) (ct_X0_tellSpring (c := sc b 0) (σ := S.2.2.2 0) y0 y1 hv.1 (by omega) (by omega)) vX0_tellSpring wM_X6_88 (ch_at G (sc b 0) _ (sy G b _ h) 0 (by decide)) rfl dX6_checksum_147 rfl rfl (Nat.le_of_ble_eq_true rfl) (Nat.le_trans (Nat.le_of_ble_eq_true rfl) hJ) ?_
      rintro _ _ ⟨rfl, rfl⟩
      refine ev_as (sy_as G b _ h 0 (by decide)).symm ?_
      refine e_i2l dX6_checksum_150 ?_
      refine e_ladd dX6_checksum_151 ?_
      refine e_lstore_n dX6_checksum_152 rfl (Nat.le_of_ble_eq_true rfl) ?_
      refine e_iinc dX6_checksum_153 rfl rfl (Nat.le_of_ble_eq_true rfl) ?_
      refine e_goto (tgt := 129) dX6_checksum_156 (by decide) ?_
      exact ev_lc (ih (r - 1) (by omega) (i + 1) _ _ (by omega) (ar_inc hx (by omega)) (by first | (rw [hn]; exact ar_jj hz) | exact ar_jj hz)) ⟨rfl, rfl, rfl, rfl, trivial⟩
set_option maxRecDepth 20000 in
theorem lp_ckDo {J : ev_K} {k n : Nat} (hJ : 7 ≤ J.2.2.1) (hv : sInv (S.2.2.2 0)) (hk : ev_V G l mX6_checksum J 165 [some (.ref b), some (.long (ckB (ck3 (S.2.2.2 0)) (fun j w => (sTellS (S.2.2.2 0) j w).toInt64) 5 (sNm (S.2.2.2 0) + 1)))] [] (sy G b S h) k n) : ∀ (r i : Nat) (x : Int32) (z : Int64), r + i = sNm (S.2.2.2 0) + 1 → x.toInt = (i : Int) → z = ckB (ck3 (S.2.2.2 0)) (fun j w => (sTellS (S.2.2.2 0) j w).toInt64) 5 i → ev_V G l mX6_checksum J 115 [some (.ref b), some (.long z), none, some (.int x)] [] (sy G b S h) k n := by
  intro r
  induction r using Nat.strongRecOn with
  | ind r ih =>
    intro i x z
    intro hr hx hz
    have hn : x.toInt.toNat = i := ar_nat hx
    have hM3 : sM (S.2.2.2 0) = ((S.2.2.2 0).1 0).toInt := rfl
    have hM : (sNm (S.2.2.2 0) : Int) = sM (S.2.2.2 0) := by have := hv.1.1; have e : sNm (S.2.2.2 0) = ((S.2.2.2 0).1 0).toInt.toNat := rfl; omega
    have hM2 : sM (S.2.2.2 0) ≤ 12 := hv.1.2
    refine e_iload_n dX6_checksum_115 rfl rfl ?_
    refine e_aload_n dX6_checksum_116 rfl rfl ?_
    refine sy_g6_2 wF_X6_23 dX6_checksum_117 ?_
    refine ev_as (sy_as G b _ h 0 (by decide)) (ch_g0_0 (c := sc b 0) wF_X6_67 dX6_checksum_120 (ev_as (sy_as G b _ h 0 (by decide)).symm ?_))
    refine e_icmp_gt (tgt := 165) dX6_checksum_123 (by decide) (fun c123 => ?_) (fun c123 => ?_)
    · have hi : i = sNm (S.2.2.2 0) + 1 := by omega
      subst hi
      subst hz
      exact ev_lc hk ⟨rfl, rfl, trivial⟩
    · refine e_iconst (v := 0) dX6_checksum_126 (by decide) ?_
      refine e_istore dX6_checksum_127 (Nat.le_of_ble_eq_true rfl) ?_
      refine ev_loc (L' := [some (.ref b), some (.long z), none, some (.int x), some (.int 0)]) ⟨rfl, rfl, rfl, rfl, trivial⟩ ?_
      refine lp_ckDi hJ hv x (by omega) (by omega) z ?_ 5 0 _ _ (by omega) ar_0 rfl
      refine e_iinc dX6_checksum_159 rfl rfl (Nat.le_of_ble_eq_true rfl) ?_
      refine e_goto (tgt := 115) dX6_checksum_162 (by decide) ?_
      exact ev_lc (ih (r - 1) (by omega) (i + 1) _ _ (by omega) (ar_inc hx (by omega)) (by rw [hz, hn]; rfl)) ⟨rfl, rfl, rfl, trivial⟩
set_option maxRecDepth 20000 in
theorem lp_ckEi {J : ev_K} {k n : Nat} (hJ : 7 ≤ J.2.2.1) (hv : sInv (S.2.2.2 0)) (y : Int32) (y0 : 0 ≤ y.toInt) (y1 : y.toInt < 32) (z0 : Int64) (hk : ev_V G l mX6_checksum J 217 [some (.ref b), some (.long (ckA z0 ((fun k w => (sNo (S.2.2.2 0) k w).toInt64) y.toInt.toNat) 2)), none, some (.int y)] [] (sy G b S h) k n) : ∀ (r i : Nat) (x : Int32) (z : Int64), r + i = 2 → x.toInt = (i : Int) → z = ckA z0 ((fun k w => (sNo (S.2.2.2 0) k w).toInt64) y.toInt.toNat) i → ev_V G l mX6_checksum J 184 [some (.ref b), some (.long z), none, some (.int y), some (.int x)] [] (sy G b S h) k n := by
  intro r
  induction r using Nat.strongRecOn with
  | ind r ih =>
    intro i x z
    intro hr hx hz
    have hn : x.toInt.toNat = i := ar_nat hx
    have w1 : (1 : Int32).toInt = 1 := by decide +kernel
    refine e_iload dX6_checksum_184 rfl ?_
    refine e_iconst (v := 1) dX6_checksum_186 (by decide) ?_
    refine e_icmp_gt (tgt := 217) dX6_checksum_187 (by decide) (fun c187 => ?_) (fun c187 => ?_)
    · have hi : i = 2 := by omega
      subst hi
      subst hz
      exact ev_lc hk ⟨rfl, rfl, rfl, trivial⟩
    · refine e_ldc2 dX6_checksum_190 wK_X6_202 ?_
      refine e_lload_n dX6_checksum_193 rfl rfl ?_
      refine e_lmul dX6_checksum_194 ?_
      refine e_aload_n dX6_checksum_195 rfl rfl ?_
      refine sy_g6_2 wF_X6_23 dX6_checksum_196 ?_
      refine ev_as (sy_as G b _ h 0 (by decide)) (ch_g0_7 (c := sc b 0) wF_X6_91 dX6_checksum_199 (ev_as (sy_as G b _ h 0 (by decide)).symm ?_))
      refine e_iload_n dX6_checksum_202 rfl rfl ?_
      refine e_iload dX6_checksum_203 rfl ?_
      refine ev_as (sy_as G b _ h 0 (by decide)) ?_
      refine e_invV (mcY := 0) (msY := 0) (ct_X4_tell (c := sc b 0) (σ := S.2.2.2 0) y0 y1) vX4_tell wM_X6_104 (ch_at G (sc b 0) _ (sy G b _ h) 12 (by decide)) rfl dX6_checksum_205 rfl rfl (Nat.le_of_ble_eq_true rfl) (Nat.le_trans (Nat.le_of_ble_eq_true rfl) hJ) ?_
      rintro _ _ ⟨rfl, rfl⟩
      refine ev_as (sy_as G b _ h 0 (by decide)).symm ?_
      have e9 : (if x = 0 then (S.2.2.2 0).2.2 10 y.toInt.toNat else (S.2.2.2 0).2.2 11 y.toInt.toNat) = sNo (S.2.2.2 0) y.toInt.toNat i := by
        unfold sNo
        by_cases c : i = 0
        · rw [if_pos c, if_pos (ar_eq (by rw [hx, c]; exact ar_0.symm))]
        · rw [if_neg c, if_neg (fun c2 => c (by rw [c2, ar_0] at hx; omega))]
      rw [e9]
      refine e_i2l dX6_checksum_208 ?_
      refine e_ladd dX6_checksum_209 ?_
      refine e_lstore_n dX6_checksum_210 rfl (Nat.le_of_ble_eq_true rfl) ?_
      refine e_iinc dX6_checksum_211 rfl rfl (Nat.le_of_ble_eq_true rfl) ?_
      refine e_goto (tgt := 184) dX6_checksum_214 (by decide) ?_
      exact ev_lc (ih (r - 1) (by omega) (i + 1) _ _ (by omega) (ar_inc hx (by omega)) (by first | (rw [hn]; exact ar_jj hz) | exact ar_jj hz)) ⟨rfl, rfl, rfl, rfl, trivial⟩
set_option maxRecDepth 20000 in
theorem lp_ckEo {J : ev_K} {k n : Nat} (hJ : 7 ≤ J.2.2.1) (hv : sInv (S.2.2.2 0)) (hk : ev_V G l mX6_checksum J 223 [some (.ref b), some (.long (ckB (ck4 (S.2.2.2 0)) (fun k w => (sNo (S.2.2.2 0) k w).toInt64) 2 (sPn (S.2.2.2 0))))] [] (sy G b S h) k n) : ∀ (r i : Nat) (x : Int32) (z : Int64), r + i = sPn (S.2.2.2 0) → x.toInt = (i : Int) → z = ckB (ck4 (S.2.2.2 0)) (fun k w => (sNo (S.2.2.2 0) k w).toInt64) 2 i → ev_V G l mX6_checksum J 167 [some (.ref b), some (.long z), none, some (.int x)] [] (sy G b S h) k n := by
  intro r
  induction r using Nat.strongRecOn with
  | ind r ih =>
    intro i x z
    intro hr hx hz
    have hn : x.toInt.toNat = i := ar_nat hx
    have hM : (sPn (S.2.2.2 0) : Int) = ((S.2.2.2 0).1 6).toInt := by have := hv.2.2.2.2; unfold sPn; omega
    have hM2 : ((S.2.2.2 0).1 6).toInt ≤ 32 := by have := hv.2.2.2.2; omega
    refine e_iload_n dX6_checksum_167 rfl rfl ?_
    refine e_aload_n dX6_checksum_168 rfl rfl ?_
    refine sy_g6_2 wF_X6_23 dX6_checksum_169 ?_
    refine ev_as (sy_as G b _ h 0 (by decide)) (ch_g0_7 (c := sc b 0) wF_X6_91 dX6_checksum_172 (ev_as (sy_as G b _ h 0 (by decide)).symm ?_))
    refine ev_as (sy_as G b _ h 0 (by decide)) (ch_g4_0 (c := sc b 0) wF_X6_95 dX6_checksum_175 (ev_as (sy_as G b _ h 0 (by decide)).symm ?_))
    refine e_icmp_ge (tgt := 223) dX6_checksum_178 (by decide) (fun c178 => ?_) (fun c178 => ?_)
    · have hi : i = sPn (S.2.2.2 0) := by omega
      subst hi
      subst hz
      exact ev_lc hk ⟨rfl, rfl, trivial⟩
    · refine e_iconst (v := 0) dX6_checksum_181 (by decide) ?_
      refine e_istore dX6_checksum_182 (Nat.le_of_ble_eq_true rfl) ?_
      refine ev_loc (L' := [some (.ref b), some (.long z), none, some (.int x), some (.int 0)]) ⟨rfl, rfl, rfl, rfl, trivial⟩ ?_
      refine lp_ckEi hJ hv x (by omega) (by omega) z ?_ 2 0 _ _ (by omega) ar_0 rfl
      refine e_iinc dX6_checksum_217 rfl rfl (Nat.le_of_ble_eq_true rfl) ?_
      refine e_goto (tgt := 167) dX6_checksum_220 (by decide) ?_
      exact ev_lc (ih (r - 1) (by omega) (i + 1) _ _ (by omega) (ar_inc hx (by omega)) (by rw [hz, hn]; rfl)) ⟨rfl, rfl, rfl, trivial⟩
set_option maxRecDepth 20000 in
theorem ct_X6_checksum (hv : sInv (S.2.2.2 0)) : ev_Ct G l mX6_checksum 8 0 0 [.ref b] (sy G b S h) (fun v a => v = some (.long (sCk (S.2.2.2 0))) ∧ a = sy G b S h) (fun _ _ => False) := by
  refine ev_Ct.of (by decide +kernel) (Nat.le_of_ble_eq_true rfl) ?_
  refine e_lconst (v := 0) dX6_checksum_0 (by decide) ?_
  refine e_lstore_n dX6_checksum_1 rfl (Nat.le_of_ble_eq_true rfl) ?_
  refine e_iconst (v := 0) dX6_checksum_2 (by decide) ?_
  refine e_istore_n dX6_checksum_3 rfl (Nat.le_of_ble_eq_true rfl) ?_
  refine ev_loc (L' := [some (.ref b), some (.long (0)), none, some (.int 0)]) ⟨rfl, rfl, rfl, trivial⟩ ?_
  refine lp_ckA (Nat.le_of_ble_eq_true rfl) hv ?_ (12) 0 _ _ (by omega) ar_0 rfl
  refine e_iconst (v := 0) dX6_checksum_32 (by decide) ?_
  refine e_istore_n dX6_checksum_33 rfl (Nat.le_of_ble_eq_true rfl) ?_
  refine ev_loc (L' := [some (.ref b), some (.long (ck1 (S.2.2.2 0))), none, some (.int 0)]) ⟨rfl, rfl, rfl, trivial⟩ ?_
  refine lp_ckB (Nat.le_of_ble_eq_true rfl) hv ?_ (8) 0 _ _ (by omega) ar_0 rfl
  refine e_iconst (v := 0) dX6_checksum_61 (by decide) ?_
  refine e_istore_n dX6_checksum_62 rfl (Nat.le_of_ble_eq_true rfl) ?_
  refine ev_loc (L' := [some (.ref b), some (.long (ck2 (S.2.2.2 0))), none, some (.int 0)]) ⟨rfl, rfl, rfl, trivial⟩ ?_
  refine lp_ckCo (Nat.le_of_ble_eq_true rfl) hv ?_ (sNm (S.2.2.2 0)) 0 _ _ (by omega) ar_0 rfl
  refine e_iconst (v := 0) dX6_checksum_113 (by decide) ?_
  refine e_istore_n dX6_checksum_114 rfl (Nat.le_of_ble_eq_true rfl) ?_
  refine ev_loc (L' := [some (.ref b), some (.long (ck3 (S.2.2.2 0))), none, some (.int 0)]) ⟨rfl, rfl, rfl, trivial⟩ ?_
  refine lp_ckDo (Nat.le_of_ble_eq_true rfl) hv ?_ (sNm (S.2.2.2 0) + 1) 0 _ _ (by omega) ar_0 rfl
  refine e_iconst (v := 0) dX6_checksum_165 (by decide) ?_
  refine e_istore_n dX6_checksum_166 rfl (Nat.le_of_ble_eq_true rfl) ?_
  refine ev_loc (L' := [some (.ref b), some (.long (ck4 (S.2.2.2 0))), none, some (.int 0)]) ⟨rfl, rfl, rfl, trivial⟩ ?_
  refine lp_ckEo (Nat.le_of_ble_eq_true rfl) hv ?_ (sPn (S.2.2.2 0)) 0 _ _ (by omega) ar_0 rfl
  refine e_lload_n dX6_checksum_223 rfl rfl ?_
  exact e_lret rfl dX6_checksum_224 (⟨rfl, rfl⟩)
def sAB (S : SS) (v : Int32) : SS := ss_I (ss_R S 0 (ev_u (S.2.1 0) (S.1 0).toInt.toNat (vp_nar .byte v.toInt8.toInt32))) 0 (S.1 0 + 1)
def sAW (S : SS) (v : Int32) : SS := sAB (sAB (sAB (sAB S (v >>> ((24 : Int32) &&& 31))) (v >>> ((16 : Int32) &&& 31))) (v >>> ((8 : Int32) &&& 31))) (v >>> ((0 : Int32) &&& 31))
theorem sAB_0 (S : SS) (v : Int32) : (sAB S v).1 0 = S.1 0 + 1 := by
  show ev_u S.1 0 (S.1 0 + 1) 0 = _
  exact ev_u_self _ _ _
theorem sAB_i {S : SS} (v : Int32) {q : Int} (h0 : (S.1 0).toInt = q) (h1 : 0 ≤ q) (h2 : q < 500) : ((sAB S v).1 0).toInt = q + 1 := by
  rw [sAB_0]
  have := ar_inc (x := S.1 0) (i := q.toNat) (by omega) (by omega)
  have w1 := ar_i1
  rw [← w1, this]; omega
theorem sAW_i {S : SS} (v : Int32) {q : Int} (h0 : (S.1 0).toInt = q) (h1 : 0 ≤ q) (h2 : q < 497) : ((sAW S v).1 0).toInt = q + 4 := by
  have a1 := sAB_i (v >>> ((24 : Int32) &&& 31)) h0 h1 (by omega)
  have a2 := sAB_i (v >>> ((16 : Int32) &&& 31)) a1 (by omega) (by omega)
  have a3 := sAB_i (v >>> ((8 : Int32) &&& 31)) a2 (by omega) (by omega)
  have a4 := sAB_i (v >>> ((0 : Int32) &&& 31)) a3 (by omega) (by omega)
  show ((sAB _ _).1 0).toInt = _
  rw [a4]; omega
set_option maxRecDepth 20000 in
theorem lp_aw {J : ev_K} {k n : Nat} (hJ : 3 ≤ J.2.2.1) (x0 : 0 ≤ x.toInt) (s0 : 0 ≤ (S.1 0).toInt) (s1 : (S.1 0).toInt < 500) (hy : x + Int32.ofInt (-8) = y) (hk : ev_V G l mX6_appendWord J 3 [some (.ref b), some (.int w), some (.int y)] [] (sy G b (sAB S (w >>> (x &&& 31))) h) k n) : ev_V G l mX6_appendWord J 3 [some (.ref b), some (.int w), some (.int x)] [] (sy G b S h) k n := by
  subst hy
  have w500 : (500 : Int32).toInt = 500 := by decide +kernel
  refine e_iload_n dX6_appendWord_3 rfl rfl ?_
  refine e_if_lt (tgt := 55) dX6_appendWord_4 (by decide) (fun c4 => ?_) (fun c4 => ?_)
  · omega
  · refine e_aload_n dX6_appendWord_7 rfl rfl ?_
    refine sy_g6_5 wF_X6_37 dX6_appendWord_8 ?_
    refine e_if_lt (tgt := 49) dX6_appendWord_11 (by decide) (fun c11 => ?_) (fun c11 => ?_)
    · omega
    · refine e_aload_n dX6_appendWord_14 rfl rfl ?_
      refine sy_g6_5 wF_X6_37 dX6_appendWord_15 ?_
      refine e_aload_n dX6_appendWord_18 rfl rfl ?_
      refine sy_g6_0 wF_X6_9 dX6_appendWord_19 ?_
      refine sy_n1 (v := 500) (by decide +kernel) dX6_appendWord_22 ?_
      refine e_icmp_ge (tgt := 49) dX6_appendWord_23 (by decide) (fun c23 => ?_) (fun c23 => ?_)
      · omega
      · refine e_aload_n dX6_appendWord_26 rfl rfl ?_
        refine sy_g6_0 wF_X6_9 dX6_appendWord_27 ?_
        refine e_aload_n dX6_appendWord_30 rfl rfl ?_
        refine sy_g6_5 wF_X6_37 dX6_appendWord_31 ?_
        refine e_iload_n dX6_appendWord_34 rfl rfl ?_
        refine e_iload_n dX6_appendWord_35 rfl rfl ?_
        refine e_ishr dX6_appendWord_36 ?_
        refine e_i2b dX6_appendWord_37 ?_
        refine sy_s1 (by omega) (by omega) dX6_appendWord_38 ?_
        refine e_aload_n dX6_appendWord_39 rfl rfl ?_
        refine e_dup dX6_appendWord_40 rfl ?_
        refine sy_g6_5 wF_X6_37 dX6_appendWord_41 ?_
        refine e_iconst (v := 1) dX6_appendWord_44 (by decide) ?_
        refine e_iadd dX6_appendWord_45 ?_
        refine sy_p6_5 wF_X6_37 dX6_appendWord_46 ?_
        refine e_iinc dX6_appendWord_49 rfl rfl (Nat.le_of_ble_eq_true rfl) ?_
        refine e_goto (tgt := 3) dX6_appendWord_52 (by decide) ?_
        exact ev_lc hk ⟨rfl, rfl, rfl, trivial⟩
set_option maxRecDepth 20000 in
theorem ct_X6_appendWord (s0 : 0 ≤ (S.1 0).toInt) (s1 : (S.1 0).toInt ≤ 496) : ev_Ct G l mX6_appendWord 4 0 0 [.ref b, .int x] (sy G b S h) (fun v a => v = none ∧ a = sy G b (sAW S x) h) (fun _ _ => False) := by
  refine ev_Ct.of (by decide +kernel) (Nat.le_of_ble_eq_true rfl) ?_
  refine e_bipush (v := 24) dX6_appendWord_0 (by decide) ?_
  refine e_istore_n dX6_appendWord_2 rfl (Nat.le_of_ble_eq_true rfl) ?_
  have a1 := sAB_i (x >>> ((24 : Int32) &&& 31)) (S := S) rfl s0 (by omega)
  have a2 := sAB_i (x >>> ((16 : Int32) &&& 31)) a1 (by omega) (by omega)
  have a3 := sAB_i (x >>> ((8 : Int32) &&& 31)) a2 (by omega) (by omega)
  refine ev_loc (L' := [some (.ref b), some (.int x), some (.int 24)]) ⟨rfl, rfl, rfl, trivial⟩ ?_
  refine lp_aw (y := 16) (Nat.le_of_ble_eq_true rfl) (by decide +kernel) s0 (by omega) (by decide +kernel) ?_
  refine lp_aw (y := 8) (Nat.le_of_ble_eq_true rfl) (by decide +kernel) (by omega) (by omega) (by decide +kernel) ?_
  refine lp_aw (y := 0) (Nat.le_of_ble_eq_true rfl) (by decide +kernel) (by omega) (by omega) (by decide +kernel) ?_
  refine lp_aw (y := -8) (Nat.le_of_ble_eq_true rfl) (by decide +kernel) (by omega) (by omega) (by decide +kernel) ?_
  refine e_iload_n dX6_appendWord_3 rfl rfl ?_
  refine e_if_lt (tgt := 55) dX6_appendWord_4 (by decide) (fun c4 => ?_) (fun c4 => ?_)
  · exact e_vret rfl dX6_appendWord_55 (⟨rfl, rfl⟩)
  · exact absurd c4 (by decide +kernel)
set_option maxRecDepth 20000 in
theorem ct_X6_append (s0 : 0 ≤ (S.1 0).toInt) (s1 : (S.1 0).toInt ≤ 500) : ev_Ct G l mX6_append 5 0 0 [.ref b, .int x, .int y, .int z, .int w, .int u] (sy G b S h) (fun v a => (480 < (S.1 0).toInt ∧ v = some (.int (-1)) ∧ a = sy G b S h) ∨ ((S.1 0).toInt ≤ 480 ∧ v = some (.int ((sAW (sAW (sAW (sAW (sAW S x) y) z) w) u).1 0)) ∧ a = sy G b (sAW (sAW (sAW (sAW (sAW S x) y) z) w) u) h)) (fun _ _ => False) := by
  refine ev_Ct.of (by decide +kernel) (Nat.le_of_ble_eq_true rfl) ?_
  have w480 : (480 : Int32).toInt = 480 := by decide +kernel
  refine e_aload_n dX6_append_0 rfl rfl ?_
  refine sy_g6_5 wF_X6_37 dX6_append_1 ?_
  refine e_sipush (v := 480) dX6_append_4 (by decide) ?_
  refine e_icmp_le (tgt := 12) dX6_append_7 (by decide) (fun c7 => ?_) (fun c7 => ?_)
  · have a1 := sAW_i x (S := S) rfl s0 (by omega)
    have a2 := sAW_i y a1 (by omega) (by omega)
    have a3 := sAW_i z a2 (by omega) (by omega)
    have a4 := sAW_i w a3 (by omega) (by omega)
    refine e_aload_n dX6_append_12 rfl rfl ?_
    refine e_iload_n dX6_append_13 rfl rfl ?_
    refine e_invV (mcY := 0) (msY := 0) (ct_X6_appendWord (by omega) (by omega)) vX6_appendWord wM_X6_44 (sy_at G b _ h 0 (by decide)) rfl dX6_append_14 rfl rfl (Nat.le_of_ble_eq_true rfl) (Nat.le_of_ble_eq_true rfl) ?_
    rintro _ _ ⟨rfl, rfl⟩
    refine e_aload_n dX6_append_17 rfl rfl ?_
    refine e_iload_n dX6_append_18 rfl rfl ?_
    refine e_invV (mcY := 0) (msY := 0) (ct_X6_appendWord (by omega) (by omega)) vX6_appendWord wM_X6_44 (sy_at G b _ h 0 (by decide)) rfl dX6_append_19 rfl rfl (Nat.le_of_ble_eq_true rfl) (Nat.le_of_ble_eq_true rfl) ?_
    rintro _ _ ⟨rfl, rfl⟩
    refine e_aload_n dX6_append_22 rfl rfl ?_
    refine e_iload_n dX6_append_23 rfl rfl ?_
    refine e_invV (mcY := 0) (msY := 0) (ct_X6_appendWord (by omega) (by omega)) vX6_appendWord wM_X6_44 (sy_at G b _ h 0 (by decide)) rfl dX6_append_24 rfl rfl (Nat.le_of_ble_eq_true rfl) (Nat.le_of_ble_eq_true rfl) ?_
    rintro _ _ ⟨rfl, rfl⟩
    refine e_aload_n dX6_append_27 rfl rfl ?_
    refine e_iload dX6_append_28 rfl ?_
    refine e_invV (mcY := 0) (msY := 0) (ct_X6_appendWord (by omega) (by omega)) vX6_appendWord wM_X6_44 (sy_at G b _ h 0 (by decide)) rfl dX6_append_30 rfl rfl (Nat.le_of_ble_eq_true rfl) (Nat.le_of_ble_eq_true rfl) ?_
    rintro _ _ ⟨rfl, rfl⟩
    refine e_aload_n dX6_append_33 rfl rfl ?_
    refine e_iload dX6_append_34 rfl ?_
    refine e_invV (mcY := 0) (msY := 0) (ct_X6_appendWord (by omega) (by omega)) vX6_appendWord wM_X6_44 (sy_at G b _ h 0 (by decide)) rfl dX6_append_36 rfl rfl (Nat.le_of_ble_eq_true rfl) (Nat.le_of_ble_eq_true rfl) ?_
    rintro _ _ ⟨rfl, rfl⟩
    refine e_aload_n dX6_append_39 rfl rfl ?_
    refine sy_g6_5 wF_X6_37 dX6_append_40 ?_
    exact e_iret rfl dX6_append_43 (Or.inr ⟨by omega, rfl, rfl⟩)
  · refine e_iconst (v := (-1)) dX6_append_10 (by decide) ?_
    exact e_iret rfl dX6_append_11 (Or.inl ⟨by omega, rfl, rfl⟩)
end Y5
