/-! load -/
def lf (S U : SS) (e : Int32) : Prop := U.1 0 = 0 ∧ U.1 1 = e ∧ U.1 2 = S.1 2 ∧ U.1 3 = S.1 3 ∧ ∀ i, i ≠ 1 → U.2.2.2 i = S.2.2.2 i
section RD10
variable {G : ev_G} {l : Launch} {b : Nat} {S : SS} {h : ev_H} {x y z w : Int32}
set_option maxRecDepth 20000 in
theorem ct_X6_load (hl0 : l.stackTraces = false) (hq : h.2 = none) (hh : hOk S) (s0 : 0 ≤ (S.1 0).toInt) (s1 : (S.1 0).toInt ≤ 500) : ev_Ct G l mX6_load 11 1 6 [.ref b, .int x] (sy G b S h) (fun v a => (0 ≤ x.toInt ∧ x.toInt ≤ (S.1 0).toInt) ∧ (((pAll b S x.toInt.toNat).1 ≠ 0 ∧ v = some (.int (Int32.ofInt (-((pAll b S x.toInt.toNat).1 : Int)))) ∧ ∃ U, lf S U (Int32.ofNat (pAll b S x.toInt.toNat).2.1) ∧ a = sy G b U h) ∨ ((pAll b S x.toInt.toNat).1 = 0 ∧ ∃ V, lf S V (-1) ∧ V.2.2.2 1 = (pAll b S x.toInt.toNat).2.2.2.2.2 1 ∧ sInv (V.2.2.2 1) ∧ v = some (.int (((sKeep V).2.2.2 1).1 0)) ∧ a = sy G b (ss_C (sKeep V) 0 (sBec ((sKeep V).2.2.2 0) ((sKeep V).2.2.2 1))) h))) (fun E a => (E = xA ∧ a = sy G b S h) ∧ ¬ (0 ≤ x.toInt ∧ x.toInt ≤ (S.1 0).toInt)) := by
  refine ev_Ct.of (by decide +kernel) (Nat.le_of_ble_eq_true rfl) ?_
  have z0 := ar_0
  refine e_iload_n dX6_load_0 rfl rfl ?_
  refine e_iconst (v := 0) dX6_load_1 (by decide) ?_
  refine e_aload_n dX6_load_2 rfl rfl ?_
  refine sy_g6_5 wF_X6_37 dX6_load_3 ?_
  refine e_invSX (mcY := 1) (msY := 6) (ct_X6_requireWithin hl0 (q := sy G b S h) hq) vX6_requireWithin wM_X6_48 dX6_load_6 rfl rfl (Nat.le_of_ble_eq_true rfl) (Nat.le_of_ble_eq_true rfl) rfl rfl (fun E c q => ⟨q.1, by have := q.2; omega⟩) ?_
  rintro _ _ ⟨⟨rfl, rfl⟩, g1, g2⟩
  refine e_aload_n dX6_load_9 rfl rfl ?_
  refine sy_g6_1 wF_X6_16 dX6_load_10 ?_
  refine e_aload_n dX6_load_13 rfl rfl ?_
  refine sy_g6_0 wF_X6_9 dX6_load_14 ?_
  refine e_iload_n dX6_load_17 rfl rfl ?_
  refine e_aload_n dX6_load_18 rfl rfl ?_
  refine sy_g6_3 wF_X6_27 dX6_load_19 ?_
  have hn : x.toInt.toNat ≤ 500 := by omega
  have hx : x = Int32.ofNat x.toInt.toNat := ar_ofE (by omega) (by omega)
  refine e_invV (mcY := 0) (msY := 0) (ct_X5_readSetup (n := x.toInt.toNat) hn hx) vX5_readSetup wM_X6_52 (sy_at G b _ h 2 (by decide)) rfl dX6_load_22 rfl rfl (Nat.le_of_ble_eq_true rfl) (Nat.le_of_ble_eq_true rfl) ?_
  rintro c a hc
  rcases hc with ⟨d0, rfl, ⟨w, rfl⟩, d1, d2⟩ | ⟨d0, rfl, ⟨U, rfl, f1, f2, f3, f4, f5, f6⟩⟩
  · refine e_istore_n dX6_load_25 rfl (Nat.le_of_ble_eq_true rfl) ?_
    refine e_aload_n dX6_load_26 rfl rfl ?_
    refine e_iconst (v := 0) dX6_load_27 (by decide) ?_
    refine sy_p6_5 wF_X6_37 dX6_load_28 ?_
    refine e_aload_n dX6_load_31 rfl rfl ?_
    refine e_aload_n dX6_load_32 rfl rfl ?_
    refine sy_g6_1 wF_X6_16 dX6_load_33 ?_
    refine sy_g5_1 wF_X6_56 dX6_load_36 ?_
    refine sy_p6_6 wF_X6_41 dX6_load_39 ?_
    refine e_iload_n dX6_load_42 rfl rfl ?_
    refine e_if_ne (tgt := 54) dX6_load_43 (by decide) (fun i43 => ?_) (fun i43 => ?_)
    · refine e_aload_n dX6_load_54 rfl rfl ?_
      refine sy_g6_4 wF_X6_33 dX6_load_55 ?_
      refine e_aload_n dX6_load_58 rfl rfl ?_
      refine sy_g6_2 wF_X6_23 dX6_load_59 ?_
      have hlf : lf S (ss_I (ss_I (rS (pAll b S x.toInt.toNat).2.2 (pAll b S x.toInt.toNat).2.1 w) 0 0) 1 ((pAll b S x.toInt.toNat).2.2.1 5)) (-1) := ⟨rfl, d1.1 5 (by decide), d1.1 2 (by decide), d1.1 3 (by decide), fun i hi => d1.2.2.2 i hi⟩
      have hhV : hOk (ss_I (ss_I (rS (pAll b S x.toInt.toNat).2.2 (pAll b S x.toInt.toNat).2.1 w) 0 0) 1 ((pAll b S x.toInt.toNat).2.2.1 5)) := by
        unfold hOk
        rw [hlf.2.2.1, hlf.2.2.2.1]
        exact hh
      change ev_V G l _ _ _ _ _ (sy G b (ss_I (ss_I (rS (pAll b S x.toInt.toNat).2.2 (pAll b S x.toInt.toNat).2.1 w) 0 0) 1 ((pAll b S x.toInt.toNat).2.2.1 5)) h) _ _
      generalize hV : ss_I (ss_I (rS (pAll b S x.toInt.toNat).2.2 (pAll b S x.toInt.toNat).2.1 w) 0 0) 1 ((pAll b S x.toInt.toNat).2.2.1 5) = V at *
      refine e_invV (mcY := 0) (msY := 0) (ct_X1_keep hhV) vX1_keep wM_X6_60 (sy_at G b _ h 35 (by decide)) rfl dX6_load_62 rfl rfl (Nat.le_of_ble_eq_true rfl) (Nat.le_of_ble_eq_true rfl) ?_
      rintro _ _ ⟨rfl, rfl⟩
      refine e_aload_n dX6_load_65 rfl rfl ?_
      refine sy_g6_2 wF_X6_23 dX6_load_66 ?_
      refine e_aload_n dX6_load_69 rfl rfl ?_
      refine sy_g6_3 wF_X6_27 dX6_load_70 ?_
      refine ev_as (sy_as2 G b _ h 0 1 (by decide) (by decide)) ?_
      refine e_invV (mcY := 0) (msY := 0) (ct_X0_become (c := sc b 0) (e := sc b 1) (sc_apart b 0 1 (by decide) (by decide) (by decide))) vX0_become wM_X6_64 (ch_at G (sc b 0) _ (ch G (sc b 1) _ (sy G b _ h)) 0 (by decide)) rfl dX6_load_73 rfl rfl (Nat.le_of_ble_eq_true rfl) (Nat.le_of_ble_eq_true rfl) ?_
      rintro _ _ ⟨rfl, rfl⟩
      refine ev_as (sy_ch2 G b _ h 0 1 _ (by decide) (by decide)) ?_
      refine e_aload_n dX6_load_76 rfl rfl ?_
      refine sy_g6_2 wF_X6_23 dX6_load_77 ?_
      refine ev_as (sy_as G b _ h 0 (by decide)) (ch_g0_0 (c := sc b 0) wF_X6_67 dX6_load_80 (ev_as (sy_as G b _ h 0 (by decide)).symm ?_))
      exact e_iret rfl dX6_load_83 (⟨⟨by omega, by omega⟩, Or.inr (by exact ⟨d0, V, hlf, by rw [← hV]; rfl, by rw [← hV]; exact d2, rfl, rfl⟩)⟩)
    · first | exact absurd i43 (by decide) | exact absurd rfl i43
  · refine e_istore_n dX6_load_25 rfl (Nat.le_of_ble_eq_true rfl) ?_
    refine e_aload_n dX6_load_26 rfl rfl ?_
    refine e_iconst (v := 0) dX6_load_27 (by decide) ?_
    refine sy_p6_5 wF_X6_37 dX6_load_28 ?_
    refine e_aload_n dX6_load_31 rfl rfl ?_
    refine e_aload_n dX6_load_32 rfl rfl ?_
    refine sy_g6_1 wF_X6_16 dX6_load_33 ?_
    refine sy_g5_1 wF_X6_56 dX6_load_36 ?_
    refine sy_p6_6 wF_X6_41 dX6_load_39 ?_
    refine e_iload_n dX6_load_42 rfl rfl ?_
    refine e_if_ne (tgt := 54) dX6_load_43 (by decide) (fun i43 => ?_) (fun i43 => ?_)
    · first | exact absurd i43 (by decide) | exact absurd rfl i43
    · refine e_aload_n dX6_load_46 rfl rfl ?_
      refine sy_g6_1 wF_X6_16 dX6_load_47 ?_
      refine sy_g5_0 wF_X6_57 dX6_load_50 ?_
      exact e_iret rfl dX6_load_53 (⟨⟨by omega, by omega⟩, Or.inl (by exact ⟨d0, by rw [← f1]; rfl, ss_I (ss_I U 0 0) 1 (U.1 5), ⟨rfl, f2, f3 2 (by decide), f3 3 (by decide), f6⟩, rfl⟩)⟩)
end RD10
