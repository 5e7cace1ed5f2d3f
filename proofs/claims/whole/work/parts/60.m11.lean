/-! the model's buffer -/
theorem ar_b255 (v : Int32) : (vp_nar .byte v.toInt8.toInt32) &&& 255 = v &&& 255 := by
  have e : vp_nar .byte v.toInt8.toInt32 = v.toInt8.toInt32.toInt8.toInt32 := rfl
  have q : ∀ i, i < 32 → (255#32).getLsbD i = decide (i < 8) := by decide +kernel
  rw [e, show v.toInt8.toInt32.toInt8 = v.toInt8 from by rw [Int8.toInt8_toInt32]]
  rw [← Int32.toBitVec_inj, Int32.toBitVec_and, Int32.toBitVec_and]
  apply BitVec.eq_of_getLsbD_eq
  intro i hi
  rw [BitVec.getLsbD_and, BitVec.getLsbD_and, show (255 : Int32).toBitVec = 255#32 from rfl, q i hi]
  by_cases c : i < 8
  · rw [decide_eq_true c, Bool.and_true, Bool.and_true]
    show (v.toInt8.toInt32.toBitVec).getLsbD i = _
    rw [Int8.toBitVec_toInt32, BitVec.getLsbD_signExtend, decide_eq_true hi, Bool.true_and, if_pos c, Int32.toBitVec_toInt8, BitVec.getLsbD_signExtend, decide_eq_true c, Bool.true_and, if_pos hi]
  · rw [decide_eq_false c, Bool.and_false, Bool.and_false]
/-- the twenty bytes -/
def bl5 (x y z w u : Int32) : List Int32 := [x >>> ((24 : Int32) &&& 31), x >>> ((16 : Int32) &&& 31), x >>> ((8 : Int32) &&& 31), x >>> ((0 : Int32) &&& 31), y >>> ((24 : Int32) &&& 31), y >>> ((16 : Int32) &&& 31), y >>> ((8 : Int32) &&& 31), y >>> ((0 : Int32) &&& 31), z >>> ((24 : Int32) &&& 31), z >>> ((16 : Int32) &&& 31), z >>> ((8 : Int32) &&& 31), z >>> ((0 : Int32) &&& 31), w >>> ((24 : Int32) &&& 31), w >>> ((16 : Int32) &&& 31), w >>> ((8 : Int32) &&& 31), w >>> ((0 : Int32) &&& 31), u >>> ((24 : Int32) &&& 31), u >>> ((16 : Int32) &&& 31), u >>> ((8 : Int32) &&& 31), u >>> ((0 : Int32) &&& 31)]
def wd5 (x y z w u : Int32) (k : Nat) : Int32 := if k < 4 then x else if k < 8 then y else if k < 12 then z else if k < 16 then w else u
def byt (x y z w u : Int32) (k : Nat) : Int32 := wd5 x y z w u k >>> ((24 - 8 * (Int32.ofNat k - Int32.ofNat k / 4 * 4)) &&& 31)
theorem byt_bl (x y z w u : Int32) : ∀ k, k < 20 → (bl5 x y z w u)[k]? = some (byt x y z w u k) := by
  intro k hk
  have hs : ∀ k, k < 20 → (24 - 8 * (Int32.ofNat k - Int32.ofNat k / 4 * 4) : Int32) &&& 31 = (if k % 4 = 0 then (24 : Int32) &&& 31 else if k % 4 = 1 then (16 : Int32) &&& 31 else if k % 4 = 2 then (8 : Int32) &&& 31 else (0 : Int32) &&& 31) := by decide +kernel
  unfold byt
  rw [hs k hk]
  rcases (show k = 0 ∨ k = 1 ∨ k = 2 ∨ k = 3 ∨ k = 4 ∨ k = 5 ∨ k = 6 ∨ k = 7 ∨ k = 8 ∨ k = 9 ∨ k = 10 ∨ k = 11 ∨ k = 12 ∨ k = 13 ∨ k = 14 ∨ k = 15 ∨ k = 16 ∨ k = 17 ∨ k = 18 ∨ k = 19 by omega) with rfl | rfl | rfl | rfl | rfl | rfl | rfl | rfl | rfl | rfl | rfl | rfl | rfl | rfl | rfl | rfl | rfl | rfl | rfl | rfl <;> rfl
theorem sAW_fold (S : SS) (x y z w u : Int32) : sAW (sAW (sAW (sAW (sAW S x) y) z) w) u = (bl5 x y z w u).foldl sAB S := by
  unfold sAW bl5
  simp only [List.foldl_cons, List.foldl_nil]
theorem sAB_fold : ∀ (l : List Int32) (S : SS), 0 ≤ (S.1 0).toInt → (S.1 0).toInt + (l.length : Int) ≤ 500 →
    ((l.foldl sAB S).1 0).toInt = (S.1 0).toInt + (l.length : Int) ∧ (∀ k, k ≠ 0 → (l.foldl sAB S).1 k = S.1 k) ∧ (l.foldl sAB S).2.2 = S.2.2 ∧ (∀ p, p < (S.1 0).toInt.toNat → (l.foldl sAB S).2.1 0 p = S.2.1 0 p) ∧ (∀ i v, l[i]? = some v → (l.foldl sAB S).2.1 0 ((S.1 0).toInt.toNat + i) = vp_nar .byte v.toInt8.toInt32)
  | [], S, _, _ => ⟨by show (S.1 0).toInt = (S.1 0).toInt + ((0 : Nat) : Int); omega, fun _ _ => rfl, rfl, fun _ _ => rfl, fun i v h => by simp at h⟩
  | a :: l, S, h0, h1 => by
    rw [List.length_cons] at h1 ⊢
    have e0 : ((sAB S a).1 0).toInt = (S.1 0).toInt + 1 := sAB_i a rfl h0 (by omega)
    obtain ⟨g1, g2, g3, g4, g5⟩ := sAB_fold l (sAB S a) (by omega) (by omega)
    have er : (sAB S a).2.1 0 = ev_u (S.2.1 0) (S.1 0).toInt.toNat (vp_nar .byte a.toInt8.toInt32) := rfl
    have en : ((sAB S a).1 0).toInt.toNat = (S.1 0).toInt.toNat + 1 := by omega
    refine ⟨?_, fun k hk => ?_, ?_, fun p hp => ?_, fun i v hv => ?_⟩
    · show ((l.foldl sAB (sAB S a)).1 0).toInt = _
      rw [g1, e0]; omega
    · show (l.foldl sAB (sAB S a)).1 k = _
      rw [g2 k hk]; exact ev_u_ne _ _ hk
    · show (l.foldl sAB (sAB S a)).2.2 = _
      rw [g3]; rfl
    · show (l.foldl sAB (sAB S a)).2.1 0 p = _
      rw [g4 p (by omega), er, ev_u_ne _ _ (by omega)]
    · show (l.foldl sAB (sAB S a)).2.1 0 _ = _
      cases i with
      | zero =>
        rw [List.getElem?_cons_zero] at hv
        cases hv
        rw [g4 _ (by omega), er, Nat.add_zero, ev_u_self]
      | succ i =>
        rw [List.getElem?_cons_succ] at hv
        have := g5 i v hv
        rw [en, show (S.1 0).toInt.toNat + 1 + i = (S.1 0).toInt.toNat + (i + 1) by omega] at this
        exact this
section M11
variable {G : ev_G} {l : Launch} {c j : Nat} {μ : MS} {S : SS} {h : ev_H} {x y z w u : Int32} {T : Int}
set_option maxRecDepth 20000 in
theorem lp_mapp {J : ev_K} {k n : Nat} (hJ : 1 ≤ J.2.2.1) {x1 x2 x3 x4 x5 : Int32} {n0 : Nat} (hn0 : n0 ≤ 480) (hk : ∀ ν : MS, (ν.1 1).toInt = ((n0 + 20 : Nat) : Int) → (∀ k, k ≠ 1 → ν.1 k = μ.1 k) → ν.2.1 = μ.2.1 → (∀ p, p < n0 → ν.2.2 p = μ.2.2 p) → (∀ p, p < 20 → ν.2.2 (n0 + p) = byt x1 x2 x3 x4 x5 p &&& 255) → ev_V G l mX7_append J 120 [some (.ref c)] [] (mo G c ν h) k n) : ∀ (r i : Nat) (x : Int32) (ν : MS), r + i = 20 → x.toInt = (i : Int) → (ν.1 1).toInt = ((n0 + i : Nat) : Int) → (∀ k, k ≠ 1 → ν.1 k = μ.1 k) → ν.2.1 = μ.2.1 → (∀ p, p < n0 → ν.2.2 p = μ.2.2 p) → (∀ p, p < i → ν.2.2 (n0 + p) = byt x1 x2 x3 x4 x5 p &&& 255) → ev_V G l mX7_append J 23 [some (.ref c), some (.int x1), some (.int x2), some (.int x3), some (.int x4), some (.int x5), some (.int x)] [] (mo G c ν h) k n := by
  intro r
  induction r using Nat.strongRecOn with
  | ind r ih =>
    intro i x ν
    intro hr hx e1 e2 e3 e4 e5
    have hn : x.toInt.toNat = i := ar_nat hx
    have w20 : (20 : Int32).toInt = 20 := by decide +kernel
    have w4 : (4 : Int32).toInt = 4 := by decide +kernel
    have w8 : (8 : Int32).toInt = 8 := by decide +kernel
    have w12 : (12 : Int32).toInt = 12 := by decide +kernel
    have w16 : (16 : Int32).toInt = 16 := by decide +kernel
    have z1 := ar_1
    have hxo : i < 20 → x = Int32.ofNat i := fun q => ar_eq (by rw [hx, Int32.toInt_ofNat_of_lt (by omega)])
    refine e_iload dX7_append_23 rfl ?_
    refine e_bipush (v := 20) dX7_append_25 (by decide) ?_
    refine e_icmp_ge (tgt := 120) dX7_append_27 (by decide) (fun c27 => ?_) (fun c27 => ?_)
    · obtain rfl : i = 20 := by omega
      exact ev_lc (hk ν e1 e2 e3 e4 e5) ⟨rfl, trivial⟩
    · have hxo := hxo (by omega)
      refine e_iload dX7_append_30 rfl ?_
      refine e_iconst (v := 4) dX7_append_32 (by decide) ?_
      refine e_icmp_ge (tgt := 40) dX7_append_33 (by decide) (fun c33 => ?_) (fun c33 => ?_)
      · refine e_iload dX7_append_40 rfl ?_
        refine e_bipush (v := 8) dX7_append_42 (by decide) ?_
        refine e_icmp_ge (tgt := 51) dX7_append_44 (by decide) (fun c44 => ?_) (fun c44 => ?_)
        · refine e_iload dX7_append_51 rfl ?_
          refine e_bipush (v := 12) dX7_append_53 (by decide) ?_
          refine e_icmp_ge (tgt := 62) dX7_append_55 (by decide) (fun c55 => ?_) (fun c55 => ?_)
          · refine e_iload dX7_append_62 rfl ?_
            refine e_bipush (v := 16) dX7_append_64 (by decide) ?_
            refine e_icmp_ge (tgt := 74) dX7_append_66 (by decide) (fun c66 => ?_) (fun c66 => ?_)
            · refine e_iload dX7_append_74 rfl ?_
              refine e_istore dX7_append_76 (Nat.le_of_ble_eq_true rfl) ?_
              refine e_aload_n dX7_append_78 rfl rfl ?_
              refine mo_g1 wF_X7_9 dX7_append_79 ?_
              refine e_aload_n dX7_append_82 rfl rfl ?_
              refine mo_g2 wF_X7_46 dX7_append_83 ?_
              refine e_iload dX7_append_86 rfl ?_
              refine e_bipush (v := 24) dX7_append_88 (by decide) ?_
              refine e_bipush (v := 8) dX7_append_90 (by decide) ?_
              refine e_iload dX7_append_92 rfl ?_
              refine e_iconst (v := 4) dX7_append_94 (by decide) ?_
              refine e_irem dX7_append_95 (by decide) ?_
              refine e_imul dX7_append_96 ?_
              refine e_isub dX7_append_97 ?_
              refine e_ishr dX7_append_98 ?_
              refine e_sipush (v := 255) dX7_append_99 (by decide) ?_
              refine e_iand dX7_append_102 ?_
              refine mo_s1 (by omega) (by omega) dX7_append_103 ?_
              refine e_aload_n dX7_append_104 rfl rfl ?_
              refine e_dup dX7_append_105 rfl ?_
              refine mo_g2 wF_X7_46 dX7_append_106 ?_
              refine e_iconst (v := 1) dX7_append_109 (by decide) ?_
              refine e_iadd dX7_append_110 ?_
              refine mo_p2 wF_X7_46 dX7_append_111 ?_
              refine e_iinc dX7_append_114 rfl rfl (Nat.le_of_ble_eq_true rfl) ?_
              refine e_goto (tgt := 23) dX7_append_117 (by decide) ?_
              refine ev_loc (L' := [some (.ref c), some (.int x1), some (.int x2), some (.int x3), some (.int x4), some (.int x5), some (.int _)]) ⟨rfl, rfl, rfl, rfl, rfl, rfl, rfl, trivial⟩ (ih (r - 1) (by omega) (i + 1) _ _ (by omega) (ar_inc hx (by omega)) ?_ (fun k hk => ?_) e3 (fun p hp => ?_) (fun p hp => ?_))
              · show (ev_u ν.1 1 (ν.1 1 + 1) 1).toInt = _
                rw [ev_u_self, ar_add (by omega) (by omega), z1, e1]; omega
              · show ev_u ν.1 1 (ν.1 1 + 1) k = _
                rw [ev_u_ne _ _ hk]; exact e2 k hk
              · show ev_u ν.2.2 (ν.1 1).toInt.toNat _ p = _
                rw [ev_u_ne _ _ (by omega)]; exact e4 p hp
              · show ev_u ν.2.2 (ν.1 1).toInt.toNat _ (n0 + p) = _
                by_cases e : p = i
                · rw [e, show (ν.1 1).toInt.toNat = n0 + i by omega, ev_u_self]
                  unfold byt wd5
                  rw [← hxo]
                  first
                    | (rw [if_pos (by omega)]; done)
                    | (rw [if_neg (by omega), if_pos (by omega)]; done)
                    | (rw [if_neg (by omega), if_neg (by omega), if_pos (by omega)]; done)
                    | (rw [if_neg (by omega), if_neg (by omega), if_neg (by omega), if_pos (by omega)]; done)
                    | (rw [if_neg (by omega), if_neg (by omega), if_neg (by omega), if_neg (by omega)]; done)
                · rw [ev_u_ne _ _ (by omega)]; exact e5 p (by omega)
            · refine e_iload dX7_append_69 rfl ?_
              refine e_goto (tgt := 76) dX7_append_71 (by decide) ?_
              refine e_istore dX7_append_76 (Nat.le_of_ble_eq_true rfl) ?_
              refine e_aload_n dX7_append_78 rfl rfl ?_
              refine mo_g1 wF_X7_9 dX7_append_79 ?_
              refine e_aload_n dX7_append_82 rfl rfl ?_
              refine mo_g2 wF_X7_46 dX7_append_83 ?_
              refine e_iload dX7_append_86 rfl ?_
              refine e_bipush (v := 24) dX7_append_88 (by decide) ?_
              refine e_bipush (v := 8) dX7_append_90 (by decide) ?_
              refine e_iload dX7_append_92 rfl ?_
              refine e_iconst (v := 4) dX7_append_94 (by decide) ?_
              refine e_irem dX7_append_95 (by decide) ?_
              refine e_imul dX7_append_96 ?_
              refine e_isub dX7_append_97 ?_
              refine e_ishr dX7_append_98 ?_
              refine e_sipush (v := 255) dX7_append_99 (by decide) ?_
              refine e_iand dX7_append_102 ?_
              refine mo_s1 (by omega) (by omega) dX7_append_103 ?_
              refine e_aload_n dX7_append_104 rfl rfl ?_
              refine e_dup dX7_append_105 rfl ?_
              refine mo_g2 wF_X7_46 dX7_append_106 ?_
              refine e_iconst (v := 1) dX7_append_109 (by decide) ?_
              refine e_iadd dX7_append_110 ?_
              refine mo_p2 wF_X7_46 dX7_append_111 ?_
              refine e_iinc dX7_append_114 rfl rfl (Nat.le_of_ble_eq_true rfl) ?_
              refine e_goto (tgt := 23) dX7_append_117 (by decide) ?_
              refine ev_loc (L' := [some (.ref c), some (.int x1), some (.int x2), some (.int x3), some (.int x4), some (.int x5), some (.int _)]) ⟨rfl, rfl, rfl, rfl, rfl, rfl, rfl, trivial⟩ (ih (r - 1) (by omega) (i + 1) _ _ (by omega) (ar_inc hx (by omega)) ?_ (fun k hk => ?_) e3 (fun p hp => ?_) (fun p hp => ?_))
              · show (ev_u ν.1 1 (ν.1 1 + 1) 1).toInt = _
                rw [ev_u_self, ar_add (by omega) (by omega), z1, e1]; omega
              · show ev_u ν.1 1 (ν.1 1 + 1) k = _
                rw [ev_u_ne _ _ hk]; exact e2 k hk
              · show ev_u ν.2.2 (ν.1 1).toInt.toNat _ p = _
                rw [ev_u_ne _ _ (by omega)]; exact e4 p hp
              · show ev_u ν.2.2 (ν.1 1).toInt.toNat _ (n0 + p) = _
                by_cases e : p = i
                · rw [e, show (ν.1 1).toInt.toNat = n0 + i by omega, ev_u_self]
                  unfold byt wd5
                  rw [← hxo]
                  first
                    | (rw [if_pos (by omega)]; done)
                    | (rw [if_neg (by omega), if_pos (by omega)]; done)
                    | (rw [if_neg (by omega), if_neg (by omega), if_pos (by omega)]; done)
                    | (rw [if_neg (by omega), if_neg (by omega), if_neg (by omega), if_pos (by omega)]; done)
                    | (rw [if_neg (by omega), if_neg (by omega), if_neg (by omega), if_neg (by omega)]; done)
                · rw [ev_u_ne _ _ (by omega)]; exact e5 p (by omega)
          · refine e_iload_n dX7_append_58 rfl rfl ?_
            refine e_goto (tgt := 76) dX7_append_59 (by decide) ?_
            refine e_istore dX7_append_76 (Nat.le_of_ble_eq_true rfl) ?_
            refine e_aload_n dX7_append_78 rfl rfl ?_
            refine mo_g1 wF_X7_9 dX7_append_79 ?_
            refine e_aload_n dX7_append_82 rfl rfl ?_
            refine mo_g2 wF_X7_46 dX7_append_83 ?_
            refine e_iload dX7_append_86 rfl ?_
            refine e_bipush (v := 24) dX7_append_88 (by decide) ?_
            refine e_bipush (v := 8) dX7_append_90 (by decide) ?_
            refine e_iload dX7_append_92 rfl ?_
            refine e_iconst (v := 4) dX7_append_94 (by decide) ?_
            refine e_irem dX7_append_95 (by decide) ?_
            refine e_imul dX7_append_96 ?_
            refine e_isub dX7_append_97 ?_
            refine e_ishr dX7_append_98 ?_
            refine e_sipush (v := 255) dX7_append_99 (by decide) ?_
            refine e_iand dX7_append_102 ?_
            refine mo_s1 (by omega) (by omega) dX7_append_103 ?_
            refine e_aload_n dX7_append_104 rfl rfl ?_
            refine e_dup dX7_append_105 rfl ?_
            refine mo_g2 wF_X7_46 dX7_append_106 ?_
            refine e_iconst (v := 1) dX7_append_109 (by decide) ?_
            refine e_iadd dX7_append_110 ?_
            refine mo_p2 wF_X7_46 dX7_append_111 ?_
            refine e_iinc dX7_append_114 rfl rfl (Nat.le_of_ble_eq_true rfl) ?_
            refine e_goto (tgt := 23) dX7_append_117 (by decide) ?_
            refine ev_loc (L' := [some (.ref c), some (.int x1), some (.int x2), some (.int x3), some (.int x4), some (.int x5), some (.int _)]) ⟨rfl, rfl, rfl, rfl, rfl, rfl, rfl, trivial⟩ (ih (r - 1) (by omega) (i + 1) _ _ (by omega) (ar_inc hx (by omega)) ?_ (fun k hk => ?_) e3 (fun p hp => ?_) (fun p hp => ?_))
            · show (ev_u ν.1 1 (ν.1 1 + 1) 1).toInt = _
              rw [ev_u_self, ar_add (by omega) (by omega), z1, e1]; omega
            · show ev_u ν.1 1 (ν.1 1 + 1) k = _
              rw [ev_u_ne _ _ hk]; exact e2 k hk
            · show ev_u ν.2.2 (ν.1 1).toInt.toNat _ p = _
              rw [ev_u_ne _ _ (by omega)]; exact e4 p hp
            · show ev_u ν.2.2 (ν.1 1).toInt.toNat _ (n0 + p) = _
              by_cases e : p = i
              · rw [e, show (ν.1 1).toInt.toNat = n0 + i by omega, ev_u_self]
                unfold byt wd5
                rw [← hxo]
                first
                  | (rw [if_pos (by omega)]; done)
                  | (rw [if_neg (by omega), if_pos (by omega)]; done)
                  | (rw [if_neg (by omega), if_neg (by omega), if_pos (by omega)]; done)
                  | (rw [if_neg (by omega), if_neg (by omega), if_neg (by omega), if_pos (by omega)]; done)
                  | (rw [if_neg (by omega), if_neg (by omega), if_neg (by omega), if_neg (by omega)]; done)
              · rw [ev_u_ne _ _ (by omega)]; exact e5 p (by omega)
        · refine e_iload_n dX7_append_47 rfl rfl ?_
          refine e_goto (tgt := 76) dX7_append_48 (by decide) ?_
          refine e_istore dX7_append_76 (Nat.le_of_ble_eq_true rfl) ?_
          refine e_aload_n dX7_append_78 rfl rfl ?_
          refine mo_g1 wF_X7_9 dX7_append_79 ?_
          refine e_aload_n dX7_append_82 rfl rfl ?_
          refine mo_g2 wF_X7_46 dX7_append_83 ?_
          refine e_iload dX7_append_86 rfl ?_
          refine e_bipush (v := 24) dX7_append_88 (by decide) ?_
          refine e_bipush (v := 8) dX7_append_90 (by decide) ?_
          refine e_iload dX7_append_92 rfl ?_
          refine e_iconst (v := 4) dX7_append_94 (by decide) ?_
          refine e_irem dX7_append_95 (by decide) ?_
          refine e_imul dX7_append_96 ?_
          refine e_isub dX7_append_97 ?_
          refine e_ishr dX7_append_98 ?_
          refine e_sipush (v := 255) dX7_append_99 (by decide) ?_
          refine e_iand dX7_append_102 ?_
          refine mo_s1 (by omega) (by omega) dX7_append_103 ?_
          refine e_aload_n dX7_append_104 rfl rfl ?_
          refine e_dup dX7_append_105 rfl ?_
          refine mo_g2 wF_X7_46 dX7_append_106 ?_
          refine e_iconst (v := 1) dX7_append_109 (by decide) ?_
          refine e_iadd dX7_append_110 ?_
          refine mo_p2 wF_X7_46 dX7_append_111 ?_
          refine e_iinc dX7_append_114 rfl rfl (Nat.le_of_ble_eq_true rfl) ?_
          refine e_goto (tgt := 23) dX7_append_117 (by decide) ?_
          refine ev_loc (L' := [some (.ref c), some (.int x1), some (.int x2), some (.int x3), some (.int x4), some (.int x5), some (.int _)]) ⟨rfl, rfl, rfl, rfl, rfl, rfl, rfl, trivial⟩ (ih (r - 1) (by omega) (i + 1) _ _ (by omega) (ar_inc hx (by omega)) ?_ (fun k hk => ?_) e3 (fun p hp => ?_) (fun p hp => ?_))
          · show (ev_u ν.1 1 (ν.1 1 + 1) 1).toInt = _
            rw [ev_u_self, ar_add (by omega) (by omega), z1, e1]; omega
          · show ev_u ν.1 1 (ν.1 1 + 1) k = _
            rw [ev_u_ne _ _ hk]; exact e2 k hk
          · show ev_u ν.2.2 (ν.1 1).toInt.toNat _ p = _
            rw [ev_u_ne _ _ (by omega)]; exact e4 p hp
          · show ev_u ν.2.2 (ν.1 1).toInt.toNat _ (n0 + p) = _
            by_cases e : p = i
            · rw [e, show (ν.1 1).toInt.toNat = n0 + i by omega, ev_u_self]
              unfold byt wd5
              rw [← hxo]
              first
                | (rw [if_pos (by omega)]; done)
                | (rw [if_neg (by omega), if_pos (by omega)]; done)
                | (rw [if_neg (by omega), if_neg (by omega), if_pos (by omega)]; done)
                | (rw [if_neg (by omega), if_neg (by omega), if_neg (by omega), if_pos (by omega)]; done)
                | (rw [if_neg (by omega), if_neg (by omega), if_neg (by omega), if_neg (by omega)]; done)
            · rw [ev_u_ne _ _ (by omega)]; exact e5 p (by omega)
      · refine e_iload_n dX7_append_36 rfl rfl ?_
        refine e_goto (tgt := 76) dX7_append_37 (by decide) ?_
        refine e_istore dX7_append_76 (Nat.le_of_ble_eq_true rfl) ?_
        refine e_aload_n dX7_append_78 rfl rfl ?_
        refine mo_g1 wF_X7_9 dX7_append_79 ?_
        refine e_aload_n dX7_append_82 rfl rfl ?_
        refine mo_g2 wF_X7_46 dX7_append_83 ?_
        refine e_iload dX7_append_86 rfl ?_
        refine e_bipush (v := 24) dX7_append_88 (by decide) ?_
        refine e_bipush (v := 8) dX7_append_90 (by decide) ?_
        refine e_iload dX7_append_92 rfl ?_
        refine e_iconst (v := 4) dX7_append_94 (by decide) ?_
        refine e_irem dX7_append_95 (by decide) ?_
        refine e_imul dX7_append_96 ?_
        refine e_isub dX7_append_97 ?_
        refine e_ishr dX7_append_98 ?_
        refine e_sipush (v := 255) dX7_append_99 (by decide) ?_
        refine e_iand dX7_append_102 ?_
        refine mo_s1 (by omega) (by omega) dX7_append_103 ?_
        refine e_aload_n dX7_append_104 rfl rfl ?_
        refine e_dup dX7_append_105 rfl ?_
        refine mo_g2 wF_X7_46 dX7_append_106 ?_
        refine e_iconst (v := 1) dX7_append_109 (by decide) ?_
        refine e_iadd dX7_append_110 ?_
        refine mo_p2 wF_X7_46 dX7_append_111 ?_
        refine e_iinc dX7_append_114 rfl rfl (Nat.le_of_ble_eq_true rfl) ?_
        refine e_goto (tgt := 23) dX7_append_117 (by decide) ?_
        refine ev_loc (L' := [some (.ref c), some (.int x1), some (.int x2), some (.int x3), some (.int x4), some (.int x5), some (.int _)]) ⟨rfl, rfl, rfl, rfl, rfl, rfl, rfl, trivial⟩ (ih (r - 1) (by omega) (i + 1) _ _ (by omega) (ar_inc hx (by omega)) ?_ (fun k hk => ?_) e3 (fun p hp => ?_) (fun p hp => ?_))
        · show (ev_u ν.1 1 (ν.1 1 + 1) 1).toInt = _
          rw [ev_u_self, ar_add (by omega) (by omega), z1, e1]; omega
        · show ev_u ν.1 1 (ν.1 1 + 1) k = _
          rw [ev_u_ne _ _ hk]; exact e2 k hk
        · show ev_u ν.2.2 (ν.1 1).toInt.toNat _ p = _
          rw [ev_u_ne _ _ (by omega)]; exact e4 p hp
        · show ev_u ν.2.2 (ν.1 1).toInt.toNat _ (n0 + p) = _
          by_cases e : p = i
          · rw [e, show (ν.1 1).toInt.toNat = n0 + i by omega, ev_u_self]
            unfold byt wd5
            rw [← hxo]
            first
              | (rw [if_pos (by omega)]; done)
              | (rw [if_neg (by omega), if_pos (by omega)]; done)
              | (rw [if_neg (by omega), if_neg (by omega), if_pos (by omega)]; done)
              | (rw [if_neg (by omega), if_neg (by omega), if_neg (by omega), if_pos (by omega)]; done)
              | (rw [if_neg (by omega), if_neg (by omega), if_neg (by omega), if_neg (by omega)]; done)
          · rw [ev_u_ne _ _ (by omega)]; exact e5 p (by omega)
set_option maxRecDepth 20000 in
theorem ct_X7_append (hS : RS T S μ) : ev_Ct G l mX7_append 1 0 0 [.ref c, .int x, .int y, .int z, .int w, .int u] (mo G c μ h) (fun v a => (480 < (S.1 0).toInt ∧ v = some (.int (-1)) ∧ a = mo G c (ms_I μ 0 0) h) ∨ ((S.1 0).toInt ≤ 480 ∧ v = some (.int ((sAW (sAW (sAW (sAW (sAW S x) y) z) w) u).1 0)) ∧ ∃ μ₁ : MS, RS (T) (sAW (sAW (sAW (sAW (sAW S x) y) z) w) u) μ₁ ∧ μ₁.1 0 = 0 ∧ a = mo G c μ₁ h)) (fun _ _ => False) := by
  refine ev_Ct.of (by decide +kernel) (Nat.le_of_ble_eq_true rfl) ?_
  have hB := hS.2.2.1
  have w20 : (20 : Int32).toInt = 20 := by decide +kernel
  have w500 : (500 : Int32).toInt = 500 := by decide +kernel
  have e1 : (ms_I μ 0 0).1 1 = S.1 0 := (ms_I_ne _ _ (by decide)).trans hB.1
  have hb1 := hB.2.1
  have e2 : ((ms_I μ 0 0).1 1 + 20).toInt = (S.1 0).toInt + 20 := by rw [e1, ar_add (by omega) (by omega), w20]
  refine e_aload_n dX7_append_0 rfl rfl ?_
  refine e_iconst (v := 0) dX7_append_1 (by decide) ?_
  refine mo_p0 wF_X7_39 dX7_append_2 ?_
  refine e_aload_n dX7_append_5 rfl rfl ?_
  refine mo_g2 wF_X7_46 dX7_append_6 ?_
  refine e_bipush (v := 20) dX7_append_9 (by decide) ?_
  refine e_iadd dX7_append_11 ?_
  refine e_sipush (v := 500) dX7_append_12 (by decide) ?_
  refine e_icmp_le (tgt := 20) dX7_append_15 (by decide) (fun c15 => ?_) (fun c15 => ?_)
  · refine e_iconst (v := 0) dX7_append_20 (by decide) ?_
    refine e_istore dX7_append_21 (Nat.le_of_ble_eq_true rfl) ?_
    refine ev_loc (L' := [some (.ref c), some (.int x), some (.int y), some (.int z), some (.int w), some (.int u), some (.int 0)]) ⟨rfl, rfl, rfl, rfl, rfl, rfl, rfl, trivial⟩ ?_
    refine lp_mapp (μ := ms_I μ 0 0) (Nat.le_refl _) (n0 := (S.1 0).toInt.toNat) (by omega) (fun ν g1 g2 g3 g4 g5 => ?_) 20 0 0 _ (by omega) ar_0 (by rw [e1]; omega) (fun _ _ => rfl) rfl (fun _ _ => rfl) (fun p hp => absurd hp (Nat.not_lt_zero _))
    have hf := sAB_fold (bl5 x y z w u) S hb1.1 (by show (S.1 0).toInt + ((20 : Nat) : Int) ≤ 500; omega)
    rw [← sAW_fold] at hf
    obtain ⟨f1, f2, f3, f4, f5⟩ := hf
    change ((sAW (sAW (sAW (sAW (sAW S x) y) z) w) u).1 0).toInt = (S.1 0).toInt + ((20 : Nat) : Int) at f1
    generalize sAW (sAW (sAW (sAW (sAW S x) y) z) w) u = U at f1 f2 f3 f4 f5 ⊢
    have hU0 : ν.1 1 = U.1 0 := ar_eq (by rw [g1, f1]; omega)
    have hC : U.2.2.2 = S.2.2.2 := congrArg (fun q : (Nat → Option Nat) × (Nat → CS) => q.2) f3
    have hr : ∀ i, ν.2.1 i = μ.2.1 i := fun i => congrFun g3 i
    refine e_aload_n dX7_append_120 rfl rfl ?_
    refine mo_g2 wF_X7_46 dX7_append_121 ?_
    exact e_iret rfl dX7_append_124 (by
        refine Or.inr ⟨by omega, by rw [hU0], ν, ⟨?_, ⟨?_, ?_, ?_⟩, ⟨hU0, by rw [f1]; omega, ?_⟩, ?_⟩, ?_, rfl⟩
        · rw [hC, hr]; exact hS.1
        · unfold hOk; rw [f2 2 (by decide), f2 3 (by decide)]; exact hS.2.1.1
        · rw [g2 7 (by decide), f2 2 (by decide)]; exact (ms_I_ne _ _ (by decide)).trans hS.2.1.2.1
        · rw [f2 2 (by decide), f2 3 (by decide), hC, g3]; exact hS.2.1.2.2
        · intro k hk
          rw [f1] at hk
          by_cases q : k < (S.1 0).toInt.toNat
          · rw [g4 k q, f4 k q]; exact hB.2.2 k q
          · have q2 := g5 (k - (S.1 0).toInt.toNat) (by omega)
            have q3 := f5 (k - (S.1 0).toInt.toNat) _ (byt_bl x y z w u _ (by omega))
            rw [show (S.1 0).toInt.toNat + (k - (S.1 0).toInt.toNat) = k by omega] at q2 q3
            rw [q2, q3, ar_b255]
        · rw [g2 6 (by decide), f2 1 (by decide)]; exact (ms_I_ne _ _ (by decide)).trans hS.2.2.2
        · rw [g2 0 (by decide)]; exact ms_I_get _ _ _)
  · exact e_iconst (v := (-1)) dX7_append_18 (by decide) (e_iret rfl dX7_append_19 (Or.inl ⟨by omega, rfl, rfl⟩))
end M11
