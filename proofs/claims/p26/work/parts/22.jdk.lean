/-! the texts: length and charAt -/
def sB (j i : Nat) : Int32 := (ev_byt.getD j []).getD i 0
theorem sB_all (p : Int32 → Bool) (h0 : p 0 = true) (h : ev_byt.all (fun l => l.all p) = true) (j i : Nat) : p (sB j i) = true := by
  have h1 : ∀ l : List Int32, l.all p = true → p (l.getD i 0) = true := by
    intro l hl
    rw [List.getD_eq_getElem?_getD]
    cases hg : l[i]? with
    | none => exact h0
    | some x => exact List.all_eq_true.mp hl x (List.mem_of_getElem? hg)
  have h3 : (ev_byt.getD j []).all p = true := by
    rw [List.getD_eq_getElem?_getD]
    cases hg : ev_byt[j]? with
    | none => rfl
    | some l => exact List.all_eq_true.mp h l (List.mem_of_getElem? hg)
  exact h1 _ h3
theorem sB_and (j i : Nat) : (sB j i) &&& 255 = sB j i := eq_of_beq (sB_all (fun b => b &&& 255 == b) (by decide +kernel) (by decide +kernel) j i)
theorem sB_c (j i : Nat) : ((sB j i).toUInt32 % 65536).toInt32 = sB j i := eq_of_beq (sB_all (fun b => (b.toUInt32 % 65536).toInt32 == b) (by decide +kernel) (by decide +kernel) j i)
theorem sB_rng (j i : Nat) : 0 ≤ (sB j i).toInt ∧ (sB j i).toInt ≤ 127 := of_decide_eq_true (sB_all (fun b => decide (0 ≤ b.toInt ∧ b.toInt ≤ 127)) (by decide +kernel) (by decide +kernel) j i)
theorem ev_len_le (j : Nat) : ev_len.getD j 0 ≤ 24 := by
  rw [List.getD_eq_getElem?_getD]
  cases hg : ev_len[j]? with
  | none => exact Nat.zero_le _
  | some x => exact of_decide_eq_true (List.all_eq_true.mp (show ev_len.all (fun q => decide (q ≤ 24)) = true by decide +kernel) x (List.mem_of_getElem? hg))
section JD
variable {G : ev_G} {l : Launch} {M : ev_M} {J : ev_K} {pc k n : Nat} {L : List (Option Value)} {st rest : List Value} {a : ev_H} {Y : ev_M} {dY mcY msY idx np q : Nat} {as : List Value} {PY : Option Value → ev_H → Prop} {j : Nat} {x y : Int32}
theorem e_i2c (hd : decode M.2.1 pc = .ok (.i2c, 1)) (h : ev_V G l M J (pc + 1) L (.int (x.toUInt32 % 65536).toInt32 :: st) a k n) : ev_V G l M J pc L (.int x :: st) a k n :=
  fun p e R s d0 m args below meth c C hD H locs cells slots ls hR hS hc hs hl => lv_i2c C.1 C.2.1 hd rfl (h p e R s d0 m args below meth c C hD H locs cells slots ls hR hS hc hs hl)
theorem e_getsC (hw : Cond.fieldLink M.1.cls idx "java/lang/String" "COMPACT_STRINGS" "Z" ∈ ev_ws) (hd : decode M.2.1 pc = .ok (.getstatic idx, 3)) (h : ev_V G l M J (pc + 3) L (.int 1 :: st) a k n) : ev_V G l M J pc L st a k n :=
  fun p e R s d0 m args below meth c C hD H locs cells slots ls hR hS hc hs hl => va_gets C.1 C.2.1 C.2.2.2.2.2.2.2.2.1.2.2.1.2.2.1 hS C.2.2.2.1 (C.2.2.2.2.1 _ hw) (fun _ q => q) hd (h p e R s d0 m args below meth c C hD H locs cells slots ls hR hS hc hs hl)
theorem e_getsF (hw : Cond.fieldLink M.1.cls idx "jdk/internal/util/Preconditions" "SIOOBE_FORMATTER" "Ljava/util/function/BiFunction;" ∈ ev_ws) (hd : decode M.2.1 pc = .ok (.getstatic idx, 3)) (h0 : ev_V G l M J (pc + 3) L (.null :: st) a k n) (h1 : ∀ t, ev_V G l M J (pc + 3) L (.ref t :: st) a k n) : ev_V G l M J pc L st a k n := by
  intro p e R s d0 m args below meth c C hD H locs cells slots ls hR hS hc hs hl
  rcases C.2.2.2.2.2.2.2.2.1.2.2.1.2.2.2 with hZ | ⟨t, hZ⟩
  · exact va_gets C.1 C.2.1 hZ hS C.2.2.2.1 (C.2.2.2.2.1 _ hw) (fun _ q => q) hd (h0 p e R s d0 m args below meth c C hD H locs cells slots ls hR hS hc hs hl)
  · exact va_gets C.1 C.2.1 hZ hS C.2.2.2.1 (C.2.2.2.2.1 _ hw) (fun _ q => q) hd (h1 t p e R s d0 m args below meth c C hD H locs cells slots ls hR hS hc hs hl)
theorem e_getKc (hj : j < 26) (hw : Cond.fieldLink M.1.cls idx "java/lang/String" "coder" "B" ∈ ev_ws) (hd : decode M.2.1 pc = .ok (.getfield idx, 3)) (h : ev_V G l M J (pc + 3) L (.int 0 :: st) a k n) : ev_V G l M J pc L (.ref (ev_Ks G j) :: st) a k n :=
  fun p e R s d0 m args below meth c C hD H locs cells slots ls hR hS hc hs hl => vk_getf C.1 C.2.1 (C.2.2.2.2.2.2.2.2.1.2.2.1.1 j hj).2.1 hS C.2.2.2.1 (C.2.2.2.2.1 _ hw) (fun _ q => q) hd (h p e R s d0 m args below meth c C hD H locs cells slots ls hR hS hc hs hl)
theorem e_getKv (hj : j < 26) (hw : Cond.fieldLink M.1.cls idx "java/lang/String" "value" "[B" ∈ ev_ws) (hd : decode M.2.1 pc = .ok (.getfield idx, 3)) (h : ev_V G l M J (pc + 3) L (.ref (ev_Vs G j) :: st) a k n) : ev_V G l M J pc L (.ref (ev_Ks G j) :: st) a k n :=
  fun p e R s d0 m args below meth c C hD H locs cells slots ls hR hS hc hs hl => vk_getf C.1 C.2.1 (C.2.2.2.2.2.2.2.2.1.2.2.1.1 j hj).2.2.1 hS C.2.2.2.1 (C.2.2.2.2.1 _ hw) (fun _ q => q) hd (h p e R s d0 m args below meth c C hD H locs cells slots ls hR hS hc hs hl)
theorem e_lenV (hj : j < 26) (hd : decode M.2.1 pc = .ok (.arraylength, 1)) (h : ev_V G l M J (pc + 1) L (.int (Int32.ofNat (ev_len.getD j 0)) :: st) a k n) : ev_V G l M J pc L (.ref (ev_Vs G j) :: st) a k n :=
  fun p e R s d0 m args below meth c C hD H locs cells slots ls hR hS hc hs hl => va_tlen C.1 C.2.1 (C.2.2.2.2.2.2.2.2.1.2.2.1.1 j hj).2.2.2 hS rfl hd (h p e R s d0 m args below meth c C hD H locs cells slots ls hR hS hc hs hl)
theorem e_baldV (hj : j < 26) (h0 : 0 ≤ x.toInt) (h1 : x.toInt < (ev_len.getD j 0 : Nat)) (hd : decode M.2.1 pc = .ok (.baload, 1)) (h : ev_V G l M J (pc + 1) L (.int (sB j x.toInt.toNat) :: st) a k n) : ev_V G l M J pc L (.int x :: .ref (ev_Vs G j) :: st) a k n :=
  fun p e R s d0 m args below meth c C hD H locs cells slots ls hR hS hc hs hl => va_tb C.1 C.2.1 (C.2.2.2.2.2.2.2.2.1.2.2.1.1 j hj).2.2.2 hS (ev_in h0 h1) rfl hd (h p e R s d0 m args below meth c C hD H locs cells slots ls hR hS hc hs hl)
theorem e_invK (hM : ev_Ct G l Y dY mcY msY (.ref (ev_Ks G j) :: as) a PY (fun _ _ => False)) (hy : ev_wV Y np) (hw : Cond.methodLink M.1.cls idx Y.1 ∈ ev_ws) (hj : j < 26) (hcl : Y.1.cls = "java/lang/String") (hd : decode M.2.1 pc = .ok (.invokevirtual idx, 3)) (hst : st = as.reverse ++ .ref (ev_Ks G j) :: rest) (hn : as.length = np) (hcat : (rest.map fun v => v.category).sum ≤ 8) (hdp : dY + 1 ≤ J.2.2.1) (kk : ∀ v b, PY v b → ev_V G l M J (pc + 3) L (v.toList ++ rest) b k n) : ev_V G l M J pc L st a (k + mcY) (n + msY) := by
  intro p e R s d0 m args below meth c C hD H locs cells slots ls hR hS hc hs hl
  subst hst
  obtain ⟨hx, hb, hml, hown, hts, hret, hlk, hK, hE, hini, hhh, ⟨hr1, hr2, hr3, hr4⟩, hfl⟩ := id C
  have hmL := hy.2.2
  have hRm : (ev_rm dY mcY msY).frames + 1 ≤ R.frames ∧ 8 + (Y.2.2.1 + 11) + (ev_rm dY mcY msY).locals ≤ R.locals := ⟨by show dY + 1 ≤ _; omega, by show 8 + (Y.2.2.1 + 11) + 36 * dY ≤ _; omega⟩
  exact ev_back (s := s.setDrawn d0) (va_runV ⟨hx, hb, hml, hown, hts⟩ hM.met (cwV np hts (ev_gV hy hw) rfl rfl rfl ⟨rfl, hy.2.1⟩ hRm) ⟨ev_pre_blind, by rw [hcl]; exact va_Orecv (hE.2.2.1.1 j hj).1 hS, ev_pre hK hE hR hS⟩ rfl hn hl.1 rfl (lv_room hcat) hd ⟨by omega, by omega⟩) hS (fun v b H1 locs1 hp hR1 hS1 => kk v b hp p e R s d0 m args below meth c C hD H1 locs1 _ _ ls hR1 hS1 (by omega) (by omega) hl)
/-- a reference or null on the stack -/
theorem ct_J3_checkIndex (x0 : 0 ≤ x.toInt) (x1 : x.toInt < y.toInt) (w : Value) (hw : w.category = 1) (hsl : ev_ar [.int x, .int y, w] = [some (.int x), some (.int y), some w]) (hsl2 : (lg_sl [.int x, .int y, w]).length ≤ 3) : ev_Ct G l mJ3_checkIndex_8e157 0 0 0 [.int x, .int y, w] a (fun v b => v = some (.int x) ∧ b = a) (fun _ _ => False) := by
  refine ev_Ct.of (by decide +kernel) hsl2 ?_
  rw [hsl]
  refine e_iload_n dJ3_checkIndex_8e157_0 rfl rfl ?_
  refine e_if_lt (tgt := 9) dJ3_checkIndex_8e157_1 (by decide) (fun c1 => by have z0 := ar_0; omega) (fun c1 => ?_)
  refine e_iload_n dJ3_checkIndex_8e157_4 rfl rfl ?_
  refine e_iload_n dJ3_checkIndex_8e157_5 rfl rfl ?_
  refine e_icmp_lt (tgt := 16) dJ3_checkIndex_8e157_6 (by decide) (fun c6 => ?_) (fun c6 => by omega)
  refine e_iload_n dJ3_checkIndex_8e157_16 rfl rfl ?_
  exact e_iret rfl dJ3_checkIndex_8e157_17 (⟨rfl, rfl⟩)
theorem ct_J0_checkIndex (x0 : 0 ≤ x.toInt) (x1 : x.toInt < y.toInt) : ev_Ct G l mJ0_checkIndex_df160 1 0 0 [.int x, .int y] a (fun v b => v = none ∧ b = a) (fun _ _ => False) := by
  refine ev_Ct.of (by decide +kernel) (Nat.le_of_ble_eq_true rfl) ?_
  refine e_iload_n dJ0_checkIndex_df160_0 rfl rfl ?_
  refine e_iload_n dJ0_checkIndex_df160_1 rfl rfl ?_
  refine e_getsF wF_J0_1053 dJ0_checkIndex_df160_2 ?_ (fun t => ?_)
  · refine e_invS (mcY := 0) (msY := 0) (ct_J3_checkIndex x0 x1 .null rfl rfl (Nat.le_of_ble_eq_true rfl)) vJ3_checkIndex_8e157 wM_J0_1059 dJ0_checkIndex_df160_5 rfl rfl (Nat.le_of_ble_eq_true rfl) (Nat.le_of_ble_eq_true rfl) ?_
    rintro _ _ ⟨rfl, rfl⟩
    refine e_pop dJ0_checkIndex_df160_8 rfl ?_
    exact e_vret rfl dJ0_checkIndex_df160_9 ⟨rfl, rfl⟩
  · refine e_invS (mcY := 0) (msY := 0) (ct_J3_checkIndex x0 x1 (.ref t) rfl rfl (Nat.le_of_ble_eq_true rfl)) vJ3_checkIndex_8e157 wM_J0_1059 dJ0_checkIndex_df160_5 rfl rfl (Nat.le_of_ble_eq_true rfl) (Nat.le_of_ble_eq_true rfl) ?_
    rintro _ _ ⟨rfl, rfl⟩
    refine e_pop dJ0_checkIndex_df160_8 rfl ?_
    exact e_vret rfl dJ0_checkIndex_df160_9 ⟨rfl, rfl⟩
theorem ct_J1_charAt (hj : j < 26) (x0 : 0 ≤ x.toInt) (x1 : x.toInt < (ev_len.getD j 0 : Nat)) : ev_Ct G l mJ1_charAt_3b067 2 0 0 [.ref (ev_Vs G j), .int x] a (fun v b => v = some (.int (sB j x.toInt.toNat)) ∧ b = a) (fun _ _ => False) := by
  refine ev_Ct.of (by decide +kernel) (Nat.le_of_ble_eq_true rfl) ?_
  refine e_iload_n dJ1_charAt_3b067_0 rfl rfl ?_
  refine e_aload_n dJ1_charAt_3b067_1 rfl rfl ?_
  refine e_lenV hj dJ1_charAt_3b067_2 ?_
  have hl := ev_len_le j
  refine e_invS (mcY := 0) (msY := 0) (ct_J0_checkIndex x0 (by rw [Int32.toInt_ofNat_of_lt (by omega)]; exact x1)) vJ0_checkIndex_df160 wM_J1_9 dJ1_charAt_3b067_3 rfl rfl (Nat.le_of_ble_eq_true rfl) (Nat.le_of_ble_eq_true rfl) ?_
  rintro _ _ ⟨rfl, rfl⟩
  refine e_aload_n dJ1_charAt_3b067_6 rfl rfl ?_
  refine e_iload_n dJ1_charAt_3b067_7 rfl rfl ?_
  refine e_baldV hj x0 x1 dJ1_charAt_3b067_8 ?_
  refine e_sipush (v := 255) dJ1_charAt_3b067_9 (by decide) ?_
  refine e_iand dJ1_charAt_3b067_12 ?_
  rw [sB_and]
  refine e_i2c dJ1_charAt_3b067_13 ?_
  rw [sB_c]
  exact e_zret (ty := .char) rfl (congrArg Value.int (sB_c j _)) dJ1_charAt_3b067_14 (⟨rfl, rfl⟩)
theorem ct_J0_isLatin1 (hj : j < 26) : ev_Ct G l mJ0_isLatin1_aae02 0 0 0 [.ref (ev_Ks G j)] a (fun v b => v = some (.int 1) ∧ b = a) (fun _ _ => False) := by
  refine ev_Ct.of (by decide +kernel) (Nat.le_of_ble_eq_true rfl) ?_
  refine e_getsC wF_J0_38 dJ0_isLatin1_aae02_0 ?_
  refine e_if_eq (tgt := 17) dJ0_isLatin1_aae02_3 (by decide) (fun c3 => absurd c3 (by decide)) (fun c3 => ?_)
  refine e_aload_n dJ0_isLatin1_aae02_6 rfl rfl ?_
  refine e_getKc hj wF_J0_15 dJ0_isLatin1_aae02_7 ?_
  refine e_if_ne (tgt := 17) dJ0_isLatin1_aae02_10 (by decide) (fun c3 => absurd rfl c3) (fun c3 => ?_)
  refine e_iconst (v := 1) dJ0_isLatin1_aae02_13 (by decide) ?_
  refine e_goto (tgt := 18) dJ0_isLatin1_aae02_14 (by decide) ?_
  exact e_zret (ty := .boolean) rfl rfl dJ0_isLatin1_aae02_18 (⟨rfl, rfl⟩)
theorem ct_J0_coder (hj : j < 26) : ev_Ct G l mJ0_coder_7d493 0 0 0 [.ref (ev_Ks G j)] a (fun v b => v = some (.int 0) ∧ b = a) (fun _ _ => False) := by
  refine ev_Ct.of (by decide +kernel) (Nat.le_of_ble_eq_true rfl) ?_
  refine e_getsC wF_J0_38 dJ0_coder_7d493_0 ?_
  refine e_if_eq (tgt := 13) dJ0_coder_7d493_3 (by decide) (fun c3 => absurd c3 (by decide)) (fun c3 => ?_)
  refine e_aload_n dJ0_coder_7d493_6 rfl rfl ?_
  refine e_getKc hj wF_J0_15 dJ0_coder_7d493_7 ?_
  refine e_goto (tgt := 14) dJ0_coder_7d493_10 (by decide) ?_
  exact e_zret (ty := .byte) rfl rfl dJ0_coder_7d493_14 (⟨rfl, rfl⟩)
theorem ct_J0_length (hj : j < 26) : ev_Ct G l mJ0_length_8abf5 1 0 0 [.ref (ev_Ks G j)] a (fun v b => v = some (.int (Int32.ofNat (ev_len.getD j 0))) ∧ b = a) (fun _ _ => False) := by
  refine ev_Ct.of (by decide +kernel) (Nat.le_of_ble_eq_true rfl) ?_
  refine e_aload_n dJ0_length_8abf5_0 rfl rfl ?_
  refine e_getKv hj wF_J0_9 dJ0_length_8abf5_1 ?_
  refine e_lenV hj dJ0_length_8abf5_4 ?_
  refine e_aload_n dJ0_length_8abf5_5 rfl rfl ?_
  refine e_invK (mcY := 0) (msY := 0) (ct_J0_coder hj) vJ0_coder_7d493 wM_J0_335 hj rfl dJ0_length_8abf5_6 rfl rfl (Nat.le_of_ble_eq_true rfl) (Nat.le_of_ble_eq_true rfl) ?_
  rintro _ _ ⟨rfl, rfl⟩
  refine e_ishr dJ0_length_8abf5_9 ?_
  have e : ∀ z : Int32, z >>> ((0 : Int32) &&& 31) = z := fun z => by rw [show (0 : Int32) &&& 31 = 0 from by decide]; exact Int32.shiftRight_zero
  rw [e]
  exact e_iret rfl dJ0_length_8abf5_10 ⟨rfl, rfl⟩
theorem ct_J0_charAt (hj : j < 26) (x0 : 0 ≤ x.toInt) (x1 : x.toInt < (ev_len.getD j 0 : Nat)) : ev_Ct G l mJ0_charAt_5068e 3 0 0 [.ref (ev_Ks G j), .int x] a (fun v b => v = some (.int (sB j x.toInt.toNat)) ∧ b = a) (fun _ _ => False) := by
  refine ev_Ct.of (by decide +kernel) (Nat.le_of_ble_eq_true rfl) ?_
  refine e_aload_n dJ0_charAt_5068e_0 rfl rfl ?_
  refine e_invK (mcY := 0) (msY := 0) (ct_J0_isLatin1 hj) vJ0_isLatin1_aae02 wM_J0_492 hj rfl dJ0_charAt_5068e_1 rfl rfl (Nat.le_of_ble_eq_true rfl) (Nat.le_of_ble_eq_true rfl) ?_
  rintro _ _ ⟨rfl, rfl⟩
  refine e_if_eq (tgt := 16) dJ0_charAt_5068e_4 (by decide) (fun c3 => absurd c3 (by decide)) (fun c3 => ?_)
  refine e_aload_n dJ0_charAt_5068e_7 rfl rfl ?_
  refine e_getKv hj wF_J0_9 dJ0_charAt_5068e_8 ?_
  refine e_iload_n dJ0_charAt_5068e_11 rfl rfl ?_
  refine e_invS (mcY := 0) (msY := 0) (ct_J1_charAt hj x0 x1) vJ1_charAt_3b067 wM_J0_495 dJ0_charAt_5068e_12 rfl rfl (Nat.le_of_ble_eq_true rfl) (Nat.le_of_ble_eq_true rfl) ?_
  rintro _ _ ⟨rfl, rfl⟩
  exact e_zret (ty := .char) rfl (congrArg Value.int (sB_c j _)) dJ0_charAt_5068e_15 (⟨rfl, rfl⟩)
end JD
