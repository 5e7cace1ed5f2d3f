/-! the constructor of SpringChainModel -/
def muO (G : ev_G) (z : Nat) : va_E := .inl (G.2.1 5, 8, .inr (.inr (.inr (.inr (fun k => some (z + 1 + k))))))
def muI (G : ev_G) : va_E := .inl (G.2.1 1, 199, .inr (.inl (fun _ => 0)))
def mulH (G : ev_G) (a : ev_H) (z : Nat) : ev_H := (fun q => if q = z then some (muO G z) else if z < q ∧ q < z + 9 then some (muI G) else a.1 q, some (z + 9))
theorem mu_outer (c : ClassId) (N h0 : Nat) : ∀ i, Jvm.Free.Multi.outerC c N h0 i = arrV c N (fun j => if j < i then .ref (h0 + 1 + j) else .null)
  | 0 => by
    show ({ cls := c, slots := Array.replicate N .null, vm := .none } : Cell) = _
    rw [arrV_new]
    rfl
  | i + 1 => by
    show (Jvm.Free.Multi.outerC c N h0 i).setSlot i (.ref (h0 + 1 + i)) = _
    rw [mu_outer c N h0 i, arrV_store]
    congr 1
    funext j
    show (if j = i then Value.ref (h0 + 1 + i) else if j < i then Value.ref (h0 + 1 + j) else Value.null) = (if j < i + 1 then Value.ref (h0 + 1 + j) else Value.null)
    by_cases c1 : j = i
    · rw [if_pos c1, if_pos (by omega), c1]
    · rw [if_neg c1]
      by_cases c2 : j < i
      · rw [if_pos c2, if_pos (by omega)]
      · rw [if_neg c2, if_neg (by omega)]
theorem mu_row (c : ClassId) (N h0 : Nat) : Jvm.Free.Multi.outerC c N h0 N = vp_cell c (N, .inr (.inr (.inr (.inr (fun k => some (h0 + 1 + k)))))) := by
  rw [mu_outer, vp_cell_q]
  have : (fun j : Fin N => if j.val < N then Value.ref (h0 + 1 + j.val) else Value.null) = (fun j : Fin N => va_rf (some (h0 + 1 + j.val))) := funext fun j => by rw [if_pos j.isLt]; rfl
  show ({ cls := c, slots := Array.ofFn (n := N) fun j => if j.val < N then Value.ref (h0 + 1 + j.val) else Value.null, vm := .none } : Cell) = ({ cls := c, slots := Array.ofFn (n := N) fun j => va_rf (some (h0 + 1 + j.val)), vm := .none } : Cell)
  rw [this]
section MUL
variable {G : ev_G} {l : Launch} {M : ev_M} {J : ev_K} {pc k n : Nat} {L : List (Option Value)} {st : List Value} {a : ev_H}
theorem e_multi {idx z : Nat} (hw : Cond.classLink M.1.cls idx "[[J" ∈ ev_ws) (hz : a.2 = some z) (hd : decode M.2.1 pc = .ok (.multianewarray idx 2, 4)) (h : ev_V G l M J (pc + 4) L (.ref z :: st) (mulH G a z) k n) : ev_V G l M J pc L (.int 199 :: .int 8 :: st) a (k + 9) (n + 1600) := by
  intro p e R s d0 m args below meth c C9 hD H locs cells slots ls hR hS hc hs hl
  obtain ⟨hx, hb, hml, hown, hts, hret, hlk, hK, hE, hini, hhh, ⟨hr1, hr2, hr3, hr4⟩, hfl⟩ := id C9
  have hsz := hR.2.1 z hz
  subst hsz
  intro T hT X
  have q4 : cells + (1 + 8) ≤ R.cells := by omega
  have q5 : slots + (8 + 8 * 199) ≤ R.slots := Nat.le_trans (Nat.add_le_add_left (Nat.le_add_left 1600 n) slots) (Nat.le_trans hs hr4)
  have q1 : 8 * 4 ≤ 536870912 := by omega
  have q2 : 199 * componentBytes .long ≤ 536870912 := by decide +kernel
  have q3 : 199 ≤ 536870912 := by omega
  have e8 : (8 : Int32).toNatClampNeg = 8 := by decide +kernel
  have e199 : (199 : Int32).toNatClampNeg = 199 := by decide +kernel
  obtain ⟨vm₁, cA, comp, hW, hfA, hfC, hO, hI, X1, step⟩ := X.multianewarray2F hx (own := M.1.cls) (index := idx) (ty := .long) hown (hts _ hw) (hE.2.1.2.2.1) (hts _ wA_long) (g := F0 m pc ls (.int 199 :: .int 8 :: st)) rfl (by rw [hb]; exact hd) (n := 8) (k := 199) rfl (by decide +kernel) (by decide +kernel) (by rw [e8]; exact q1) (by rw [e199]; exact q2) (by rw [e199]; exact q3) (by decide +kernel) (by decide +kernel) (by rw [e8]; exact q4) (by rw [e8, e199]; exact q5)
  rw [e8, e199] at X1 step
  have c5 : cA = G.2.1 5 := by
    have h1 : s.vm.findClass ("[" ++ (FieldType.array .long).toString) = some (G.2.1 5) := (hK.2 5 _ rfl).2
    exact Option.some.inj (hfA.symm.trans h1)
  have c1 : comp = G.2.1 1 := by
    have h1 : s.vm.findClass ("[" ++ (FieldType.long).toString) = some (G.2.1 1) := (hK.2 1 _ rfl).2
    exact Option.some.inj (hfC.symm.trans h1)
  subst c5 c1
  obtain ⟨f1, f2, f3, f4⟩ := Jvm.Free.Multi.fill_facts (T.setVm vm₁) (G.2.1 5) (G.2.1 1) 8 199 (defaultValue .long) 8
  have f5 := Jvm.Free.Multi.fill_inner (T.setVm vm₁) (G.2.1 5) (G.2.1 1) 8 199 (defaultValue .long) 8
  have f6 := fun (q : Addr) (hq : q < H.size) => Jvm.Free.Multi.fill_old (T.setVm vm₁) (G.2.1 5) (G.2.1 1) 8 199 (defaultValue .long) (a := q) (by show q < T.heap.size; rw [hT]; exact hq) 8
  have hTv : (T.setVm vm₁).heap = H := hT
  rw [hTv] at f1 f2 f5 f6
  generalize hT2 : Jvm.Free.Multi.fill (T.setVm vm₁) (G.2.1 5) (G.2.1 1) 8 199 (defaultValue .long) 8 = T2 at X1 step f1 f2 f3 f4 f5 f6
  have z1 : T2.heap.size = H.size + 9 := by rw [f1]
  have r1 : ev_R G (mulH G a H.size) T2.heap := by
    refine ⟨fun q x hq => ?_, fun n9 hn => ?_, by have := hR.2.2; omega⟩
    · have hq1 : (if q = H.size then some (muO G H.size) else if H.size < q ∧ q < H.size + 9 then some (muI G) else a.1 q) = some x := hq
      have hfl1 := hR.2.2
      by_cases c1 : q = H.size
      · rw [if_pos c1] at hq1
        subst c1
        refine ⟨hR.2.2, ?_⟩
        rw [← Option.some.inj hq1]
        show T2.heap[H.size]? = some (vp_cell _ _)
        rw [f2, mu_row]
      · rw [if_neg c1] at hq1
        by_cases c2 : H.size < q ∧ q < H.size + 9
        · rw [if_pos c2] at hq1
          refine ⟨by omega, ?_⟩
          rw [← Option.some.inj hq1]
          show T2.heap[q]? = some (vp_cell _ _)
          have h5 := f5 (q - (H.size + 1)) (by omega)
          rw [show H.size + 1 + (q - (H.size + 1)) = q by omega] at h5
          rw [h5]
          show some ({ cls := G.2.1 1, slots := Array.replicate 199 (.long 0), vm := .none } : Cell) = _
          rw [arrV_new]
          rfl
        · rw [if_neg c2] at hq1
          exact ⟨(hR.1 q x hq1).1, (hR.1 q x hq1).2.kept (f6 q (hR.lt hq1))⟩
    · rw [← Option.some.inj (show some (H.size + 9) = some n9 from hn), z1]
  have r2 : va_S (ev_A G) s.heap T2.heap locs := ⟨by have := hS.1; omega, fun q h1 h2 => (f6 q (Nat.lt_of_lt_of_le h1 hS.1)).trans (hS.2.1 q h1 h2), hS.2.2⟩
  obtain ⟨t, a1, b1⟩ := h p e R s d0 m args below meth c C9 hD T2.heap locs (cells + 9) (slots + 1600) ls r1 r2 (by omega) (by omega) hl T2 rfl X1
  refine ⟨t, step t ?_, b1⟩
  rw [hT]
  exact a1
end MUL
theorem mul_pk (G : ev_G) (c : Nat) (es : List va_E) (h : ev_H) (he : es.length = 5) : mulH G (pk c es h) (c + 5) = pk c (es ++ (muO G (c + 5) :: List.replicate 8 (muI G))) h := by
  have e14 : (es ++ (muO G (c + 5) :: List.replicate 8 (muI G))).length = 14 := by rw [List.length_append, he]; rfl
  refine Prod.ext (funext fun q => ?_) (by show some (c + 5 + 9) = some (c + (es ++ (muO G (c + 5) :: List.replicate 8 (muI G))).length); rw [e14])
  show (if q = c + 5 then some (muO G (c + 5)) else if c + 5 < q ∧ q < c + 5 + 9 then some (muI G) else if c ≤ q ∧ q < c + es.length then es[q - c]? else h.1 q) = (if c ≤ q ∧ q < c + (es ++ (muO G (c + 5) :: List.replicate 8 (muI G))).length then (es ++ (muO G (c + 5) :: List.replicate 8 (muI G)))[q - c]? else h.1 q)
  rw [e14, he]
  by_cases c0 : c ≤ q ∧ q < c + 14
  · rw [if_pos c0]
    by_cases c1 : q < c + 5
    · rw [if_neg (by omega), if_neg (by omega), if_pos (by omega), List.getElem?_append_left (by omega)]
    · rw [List.getElem?_append_right (by omega), he]
      by_cases c2 : q = c + 5
      · rw [if_pos c2, show q - c - 5 = 0 by omega]; rfl
      · rw [if_neg c2, if_pos (by omega)]
        obtain ⟨w, hw⟩ : ∃ w, q - c - 5 = w + 1 := ⟨q - c - 6, by omega⟩
        rw [hw, List.getElem?_cons_succ, List.getElem?_replicate, if_pos (by omega)]
  · rw [if_neg c0, if_neg (by omega), if_neg (by omega), if_neg (by omega)]
def m_0 : MS := (fun i => if i = 6 then -1 else 0, fun _ _ => 0, fun _ => 0)
def x7e (G : ev_G) (c : Nat) : List va_E := (List.range 15).map (fun j => mo_cell G c m_0 j)
theorem pk_mo (G : ev_G) (c : Nat) (μ : MS) (h : ev_H) : pk c ((List.range 15).map (fun j => mo_cell G c μ j)) h = mo G c μ (h.1, some (c + 15)) := by
  refine Prod.ext (funext fun q => ?_) rfl
  show (if c ≤ q ∧ q < c + ((List.range 15).map (fun j => mo_cell G c μ j)).length then ((List.range 15).map (fun j => mo_cell G c μ j))[q - c]? else h.1 q) = (if c ≤ q ∧ q < c + 15 then some (mo_cell G c μ (q - c)) else h.1 q)
  rw [List.length_map, List.length_range]
  by_cases c1 : c ≤ q ∧ q < c + 15
  · rw [if_pos c1, if_pos c1, List.getElem?_map, List.getElem?_range (by omega)]
    rfl
  · rw [if_neg c1, if_neg c1]
section X7C
variable {G : ev_G} {l : Launch} {c : Nat} {h : ev_H}
set_option maxRecDepth 20000 in
theorem ct_X7_init : ev_Ct G l mX7_init 2 14 2710 [.ref c] (pk c [.inr (7, dv7)] h) (fun v a => v = none ∧ ∃ δ : Nat → Int64, (∀ p, p < 199 → δ p = layF (1 : Int32).toInt64 1 2 p) ∧ a = mo G c (ms_L m_0 0 δ) (h.1, some (c + 15))) (fun _ _ => False) := by
  refine ev_Ct.of (by decide +kernel) (Nat.le_of_ble_eq_true rfl) ?_
  refine e_aload_n dX7_init_0 rfl rfl ?_
  refine e_objInit wM_X7_3 wI_Object_init wC_Object_init (by decide) (Nat.le_of_ble_eq_true rfl) dX7_init_1 ?_
  refine e_aload_n dX7_init_4 rfl rfl ?_
  refine e_sipush (v := 500) dX7_init_5 (by decide) ?_
  refine pk_nI (N := 500) (by decide +kernel) (by decide) dX7_init_8 ?_
  refine pk_p7_1 (j := 0) (by exact ⟨rfl, rfl⟩) rfl rfl wF_X7_9 dX7_init_10 ?_
  refine e_aload_n dX7_init_13 rfl rfl ?_
  refine e_iconst (v := (-1)) dX7_init_14 (by decide) ?_
  refine pk_p7_7 (j := 0) rfl rfl wF_X7_13 dX7_init_15 ?_
  refine e_aload_n dX7_init_18 rfl rfl ?_
  refine e_sipush (v := 199) dX7_init_19 (by decide) ?_
  refine pk_nL (N := 199) (by decide +kernel) (by decide) dX7_init_22 ?_
  refine pk_p7_8 (j := 0) (by exact ⟨rfl, rfl⟩) rfl rfl wF_X7_17 dX7_init_24 ?_
  refine e_aload_n dX7_init_27 rfl rfl ?_
  refine e_sipush (v := 199) dX7_init_28 (by decide) ?_
  refine pk_nL (N := 199) (by decide +kernel) (by decide) dX7_init_31 ?_
  refine pk_p7_9 (j := 0) (by exact ⟨rfl, rfl⟩) rfl rfl wF_X7_21 dX7_init_33 ?_
  refine e_aload_n dX7_init_36 rfl rfl ?_
  refine e_sipush (v := 199) dX7_init_37 (by decide) ?_
  refine pk_nL (N := 199) (by decide +kernel) (by decide) dX7_init_40 ?_
  refine pk_p7_10 (j := 0) (by exact ⟨rfl, rfl⟩) rfl rfl wF_X7_24 dX7_init_42 ?_
  refine e_aload_n dX7_init_45 rfl rfl ?_
  refine e_bipush (v := 8) dX7_init_46 (by decide) ?_
  refine e_sipush (v := 199) dX7_init_48 (by decide) ?_
  refine e_multi (z := c + 5) wL_X7_27 rfl dX7_init_51 ?_
  refine ev_as (mul_pk G c _ h rfl) ?_
  refine pk_p7_11 (j := 0) (by exact ⟨rfl, rfl⟩) rfl rfl wF_X7_29 dX7_init_55 ?_
  refine e_aload_n dX7_init_58 rfl rfl ?_
  refine e_bipush (v := 13) dX7_init_59 (by decide) ?_
  refine pk_nL (N := 13) (by decide +kernel) (by decide) dX7_init_61 ?_
  refine pk_p7_17 (j := 0) (by exact ⟨rfl, rfl⟩) rfl rfl wF_X7_32 dX7_init_63 ?_
  refine ev_as (show _ = mo G c m_0 (h.1, some (c + 15)) from pk_mo G c m_0 h) ?_
  refine e_aload_n dX7_init_66 rfl rfl ?_
  refine mo_g8 wF_X7_17 dX7_init_67 ?_
  refine e_iconst (v := 1) dX7_init_70 (by decide) ?_
  refine e_invS (mcY := 0) (msY := 0) (ct_X7_layChain (q := 0) (by decide) (N := 1) (by decide +kernel) (by decide)) vX7_layChain wM_X7_35 dX7_init_71 rfl rfl (Nat.le_of_ble_eq_true rfl) (Nat.le_of_ble_eq_true rfl) ?_
  rintro _ _ ⟨rfl, δ, hδ, rfl⟩
  exact e_vret rfl dX7_init_74 (⟨rfl, δ, hδ, rfl⟩)
end X7C
theorem RS_0 {δ : Nat → Int64} (hδ : ∀ p, p < 199 → δ p = layF (1 : Int32).toInt64 1 2 p) : RS 0 S_0 (ms_L m_0 0 δ) := by
  refine ⟨KR.beg (Int.le_refl 0) cs_0 (by decide +kernel) (by decide) (by decide) hδ, ?_, ?_, rfl⟩
  · have z0 := ar_0
    refine ⟨⟨⟨?_, ?_⟩, ?_, ?_⟩, rfl, fun t ht => ?_⟩
    · show 0 ≤ (0 : Int32).toInt; omega
    · show (0 : Int32).toInt ≤ 8; omega
    · show 0 ≤ (0 : Int32).toInt; omega
    · show (0 : Int32).toInt < 8; omega
    · have h1 : t < (0 : Int32).toInt.toNat := ht
      omega
  · have z0 := ar_0
    refine ⟨rfl, ⟨?_, ?_⟩, fun k hk => ?_⟩
    · show 0 ≤ (0 : Int32).toInt; omega
    · show (0 : Int32).toInt ≤ 500; omega
    · have h1 : k < (0 : Int32).toInt.toNat := hk
      omega
