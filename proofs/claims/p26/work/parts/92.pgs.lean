/-! each statement moves the reader's state -/
theorem oi (x : Int32) : Int32.ofInt x.toInt = x := Int32.ofInt_toInt x
section PGS
variable {D0 D : CS} {T : List Nat} {c np ns : Nat} {dt x y z : Int32}
theorem PG.masses (h : PG D0 T c D dt np ns) (hc : c < 500) (hx : 1 ≤ x.toInt ∧ x.toInt ≤ 99) : PG D0 (T ++ (txtN 3 ++ (nmW x ++ [59]))) (c + 1) (cs_A D 0 (fillTo 12 (fun _ => x) (D.2.2 0))) dt np ns := by
  refine h.step hc (by rw [List.length_append]; have : 1 ≤ (txtN 3).length := (by decide +kernel); omega) (fun B n p pl st ht hn zp zs => stm_masses ht hn hx) (fun Z z1 z2 z3 z4 => ⟨rfl, ?_, z2, z3, z4⟩)
  show cs_A (Z.2.2.2 1) 0 (fillTo 12 (fun _ => Int32.ofInt x.toInt) ((Z.2.2.2 1).2.2 0)) = _
  rw [z1, oi]
theorem PG.springs (h : PG D0 T c D dt np ns) (hc : c < 500) (hx : 0 ≤ x.toInt ∧ x.toInt ≤ 999) : PG D0 (T ++ (txtN 6 ++ (nmW x ++ [59]))) (c + 1) (cs_A D 3 (fillTo 13 (fun _ => x) (D.2.2 3))) dt np ns := by
  refine h.step hc (by rw [List.length_append]; have : 1 ≤ (txtN 6).length := (by decide +kernel); omega) (fun B n p pl st ht hn zp zs => stm_springs ht hn hx) (fun Z z1 z2 z3 z4 => ⟨rfl, ?_, z2, z3, z4⟩)
  show cs_A (Z.2.2.2 1) 3 (fillTo 13 (fun _ => Int32.ofInt x.toInt) ((Z.2.2.2 1).2.2 3)) = _
  rw [z1, oi]
theorem PG.damp (h : PG D0 T c D dt np ns) (hc : c < 500) (hdt : dt = 0) (hx : 0 ≤ x.toInt ∧ x.toInt ≤ 999) : PG D0 (T ++ (txtN 7 ++ (nmW x ++ [59]))) (c + 1) (cs_I D 2 x) 1 np ns := by
  refine h.step hc (by rw [List.length_append]; have : 1 ≤ (txtN 7).length := (by decide +kernel); omega) (fun B n p pl st ht hn zp zs => stm_damp ht hn hdt hx) (fun Z z1 z2 z3 z4 => ⟨rfl, ?_, rfl, z3, z4⟩)
  show cs_I (Z.2.2.2 1) 2 (Int32.ofInt x.toInt) = _
  rw [z1, oi]
theorem PG.mass (h : PG D0 T c D dt np ns) (hc : c < 500) (hM : sM D ≤ 12) (hx : 0 ≤ x.toInt ∧ x.toInt < sM D) (hy : 1 ≤ y.toInt ∧ y.toInt ≤ 99) : PG D0 (T ++ (txtN 2 ++ (nmW x ++ (nmW y ++ [59])))) (c + 1) (cs_A D 0 (ev_u (D.2.2 0) x.toInt.toNat y)) dt np ns := by
  refine h.step hc (by rw [List.length_append]; have : 1 ≤ (txtN 2).length := (by decide +kernel); omega) (fun B n p pl st ht hn zp zs => stm_mass ht hn hM hx hy) (fun Z z1 z2 z3 z4 => ⟨rfl, ?_, z2, z3, z4⟩)
  show cs_A (Z.2.2.2 1) 0 (ev_u ((Z.2.2.2 1).2.2 0) x.toInt.toNat (Int32.ofInt y.toInt)) = _
  rw [z1, oi]
theorem PG.spring (h : PG D0 T c D dt np ns) (hc : c < 500) (hM : sM D ≤ 12) (hx : 0 ≤ x.toInt ∧ x.toInt ≤ sM D) (hy : 0 ≤ y.toInt ∧ y.toInt ≤ 999) : PG D0 (T ++ (txtN 4 ++ (nmW x ++ (nmW y ++ [59])))) (c + 1) (cs_A (cs_A D 3 (ev_u (D.2.2 3) x.toInt.toNat y)) 4 (ev_u (D.2.2 4) x.toInt.toNat 0)) dt np ns := by
  refine h.step hc (by rw [List.length_append]; have : 1 ≤ (txtN 4).length := (by decide +kernel); omega) (fun B n p pl st ht hn zp zs => stm_spring ht hn hM hx hy) (fun Z z1 z2 z3 z4 => ⟨rfl, ?_, z2, z3, z4⟩)
  show cs_A (cs_A (Z.2.2.2 1) 3 (ev_u ((Z.2.2.2 1).2.2 3) x.toInt.toNat (Int32.ofInt y.toInt))) 4 (ev_u ((Z.2.2.2 1).2.2 4) x.toInt.toNat (Int32.ofInt 0)) = _
  rw [z1, oi]
  rfl
theorem PG.springl (h : PG D0 T c D dt np ns) (hc : c < 500) (hM : sM D ≤ 12) (hx : 0 ≤ x.toInt ∧ x.toInt ≤ sM D) (hy : 0 ≤ y.toInt ∧ y.toInt ≤ 999) (hz : 0 ≤ z.toInt ∧ z.toInt ≤ 99999) : PG D0 (T ++ (txtN 4 ++ (nmW x ++ (nmW y ++ (txtN 24 ++ (nmW z ++ [59])))))) (c + 1) (cs_A (cs_A D 3 (ev_u (D.2.2 3) x.toInt.toNat y)) 4 (ev_u (D.2.2 4) x.toInt.toNat z)) dt np ns := by
  refine h.step hc (by rw [List.length_append]; have : 1 ≤ (txtN 4).length := (by decide +kernel); omega) (fun B n p pl st ht hn zp zs => stm_springl ht hn hM hx hy hz) (fun Z z1 z2 z3 z4 => ⟨rfl, ?_, z2, z3, z4⟩)
  show cs_A (cs_A (Z.2.2.2 1) 3 (ev_u ((Z.2.2.2 1).2.2 3) x.toInt.toNat (Int32.ofInt y.toInt))) 4 (ev_u ((Z.2.2.2 1).2.2 4) x.toInt.toNat (Int32.ofInt z.toInt)) = _
  rw [z1, oi, oi]
theorem PG.pluck (h : PG D0 T c D dt np ns) (hc : c < 500) (hM : sM D ≤ 12) (hx : 0 ≤ x.toInt ∧ x.toInt < sM D) (hy : -10000 ≤ y.toInt ∧ y.toInt ≤ 10000) (hnp : np ≤ x.toInt.toNat) : PG D0 (T ++ (txtN 8 ++ (nmW x ++ (nmW y ++ [59])))) (c + 1) (cs_A D 1 (ev_u (D.2.2 1) x.toInt.toNat y)) dt (x.toInt.toNat + 1) ns := by
  refine h.step hc (by rw [List.length_append]; have : 1 ≤ (txtN 8).length := (by decide +kernel); omega) (fun B n p pl st ht hn zp zs => stm_pluck ht hn hM hx (zp _ hnp (by omega)) hy) (fun Z z1 z2 z3 z4 => ⟨rfl, ?_, z2, fun k hk1 hk2 => (ev_u_ne _ _ (show k ≠ x.toInt.toNat by omega)).trans (z3 k (by omega) hk2), z4⟩)
  show cs_A (Z.2.2.2 1) 1 (ev_u ((Z.2.2.2 1).2.2 1) x.toInt.toNat (Int32.ofInt y.toInt)) = _
  rw [z1, oi]
theorem PG.strike (h : PG D0 T c D dt np ns) (hc : c < 500) (hM : sM D ≤ 12) (hx : 0 ≤ x.toInt ∧ x.toInt < sM D) (hy : -99999 ≤ y.toInt ∧ y.toInt ≤ 99999) (hns : ns ≤ x.toInt.toNat) : PG D0 (T ++ (txtN 9 ++ (nmW x ++ (nmW y ++ [59])))) (c + 1) (sHit D x.toInt.toNat y) dt np (x.toInt.toNat + 1) := by
  refine h.step hc (by rw [List.length_append]; have : 1 ≤ (txtN 9).length := (by decide +kernel); omega) (fun B n p pl st ht hn zp zs => stm_strike ht hn hM hx (zs _ hns (by omega)) hy) (fun Z z1 z2 z3 z4 => ⟨rfl, ?_, z2, z3, fun k hk1 hk2 => (ev_u_ne _ _ (show k ≠ x.toInt.toNat by omega)).trans (z4 k (by omega) hk2)⟩)
  show sHit (Z.2.2.2 1) x.toInt.toNat (Int32.ofInt y.toInt) = _
  rw [z1, oi]
theorem PG.left (h : PG D0 T c D dt np ns) (hc : c < 500) (hx : -99999 ≤ x.toInt ∧ x.toInt ≤ 99999) : PG D0 (T ++ (txtN 25 ++ (nmW x ++ [59]))) (c + 1) (cs_I D 3 x) dt np ns := by
  refine h.step hc (by rw [List.length_append]; have : 1 ≤ (txtN 25).length := (by decide +kernel); omega) (fun B n p pl st ht hn zp zs => stm_end ht hn hx) (fun Z z1 z2 z3 z4 => ⟨rfl, ?_, z2, z3, z4⟩)
  show cs_I (Z.2.2.2 1) 3 (Int32.ofInt x.toInt) = _
  rw [z1, oi]
theorem PG.imp (h : PG D0 T c D dt np ns) (hc : c < 500) (hM : sM D ≤ 12) (hI : (D.1 5).toInt < 16) (hx : 0 ≤ x.toInt ∧ x.toInt ≤ 9999) (hy : 0 ≤ y.toInt ∧ y.toInt < sM D) (hz : -9999 ≤ z.toInt ∧ z.toInt ≤ 9999) (hz0 : z.toInt ≠ 0) : PG D0 (T ++ (txtN 13 ++ (nmW x ++ (nmW y ++ (nmW z ++ [59]))))) (c + 1) (sIns D x y z) dt np ns := by
  refine h.step hc (by rw [List.length_append]; have : 1 ≤ (txtN 13).length := (by decide +kernel); omega) (fun B n p pl st ht hn zp zs => stm_imp ht hn hI hM hx hy hz hz0) (fun Z z1 z2 z3 z4 => ⟨rfl, ?_, z2, z3, z4⟩)
  show sIns (Z.2.2.2 1) (Int32.ofInt x.toInt) (Int32.ofInt y.toInt) (Int32.ofInt z.toInt) = _
  rw [z1, oi, oi, oi]
theorem PG.up {np' ns' : Nat} (h : PG D0 T c D dt np ns) (h1 : np ≤ np') (h2 : ns ≤ ns') : PG D0 T c D dt np' ns' := by
  intro b S n hS hb
  obtain ⟨Z, z1, z2, z3, z4, z5, z6⟩ := h b S n hS hb
  exact ⟨Z, z1, z2, z3, z4, fun k hk1 hk2 => z5 k (by omega) hk2, fun k hk1 hk2 => z6 k (by omega) hk2⟩
theorem hit_0 {j : Nat} (h0 : D.2.2 2 j = 0) (h1 : -100000 ≤ y.toInt) (h2 : y.toInt ≤ 100000) : sHit D j y = cs_J (cs_A D 2 (ev_u (D.2.2 2) j y)) 2 (D.2.1 2 + y.toInt64) := by
  have w : (100000000 : Int32).toInt = 100000000 := by decide +kernel
  have w0 : (0 : Int32).toInt64 = 0 := by decide +kernel
  have e : sLim ((0 : Int32).toInt64 + y.toInt64) 100000000 = y := ar_eq (by rw [w0, Int64.zero_add, sLim_to (by rw [w]; decide), w, ar_64, if_neg (by omega), if_neg (by omega)])
  unfold sHit
  rw [h0, e, Int32.sub_zero]
theorem vis_ins {t m s : Int32} : vis D (sIns D t m s) := by
  refine ⟨fun k _ h5 => sIns_1 D t m s h5, fun _ _ => rfl, fun w k hw _ => ?_, fun w k h3 hw _ => ?_, fun w k h10 hw _ => ?_⟩
  · rw [sIns_2 D t m s (by omega) (by omega) (by omega)]
  · rw [sIns_2 D t m s (by omega) (by omega) (by omega)]
  · rw [sIns_2 D t m s (by omega) (by omega) (by omega)]
end PGS
