/-! constructors -/
section CTR
variable {G : ev_G} {l : Launch} {c : Nat} {h : ev_H}
set_option maxRecDepth 20000 in
def cl_X3_init (G : ev_G) (c : Nat) : List va_E := [.inr (3, [.long 0, .long 0, .long 0, .long 0, .long 0])]
set_option maxRecDepth 20000 in
theorem ct_X3_init : ev_Ct G l mX3_init 1 0 0 [.ref c] (pk c [.inr (3, dv3)] h) (fun v a => v = none ∧ a = pk c (cl_X3_init G c) h) (fun _ _ => False) := by
  refine ev_Ct.of (by decide +kernel) (Nat.le_of_ble_eq_true rfl) ?_
  refine e_aload_n dX3_init_0 rfl rfl ?_
  refine e_objInit wM_X3_1 wI_Object_init wC_Object_init (by decide) (Nat.le_of_ble_eq_true rfl) dX3_init_1 ?_
  exact e_vret rfl dX3_init_4 (⟨rfl, rfl⟩)
set_option maxRecDepth 20000 in
def cl_X2_init (G : ev_G) (c : Nat) : List va_E := [.inr (2, [.int 0, .ref (c + 1), .ref (c + 2), .ref (c + 3)]), .inl (G.2.1 0, 16, .inl (fun _ => 0)), .inl (G.2.1 0, 16, .inl (fun _ => 0)), .inl (G.2.1 0, 16, .inl (fun _ => 0))]
set_option maxRecDepth 20000 in
theorem ct_X2_init : ev_Ct G l mX2_init 1 3 48 [.ref c] (pk c [.inr (2, dv2)] h) (fun v a => v = none ∧ a = pk c (cl_X2_init G c) h) (fun _ _ => False) := by
  refine ev_Ct.of (by decide +kernel) (Nat.le_of_ble_eq_true rfl) ?_
  refine e_aload_n dX2_init_0 rfl rfl ?_
  refine e_objInit wM_X2_3 wI_Object_init wC_Object_init (by decide) (Nat.le_of_ble_eq_true rfl) dX2_init_1 ?_
  refine e_aload_n dX2_init_4 rfl rfl ?_
  refine e_bipush (v := 16) dX2_init_5 (by decide) ?_
  refine pk_nI (N := 16) (by decide +kernel) (by decide) dX2_init_7 ?_
  refine pk_p2_1 (j := 0) (by exact ⟨rfl, rfl⟩) rfl rfl wF_X2_9 dX2_init_9 ?_
  refine e_aload_n dX2_init_12 rfl rfl ?_
  refine e_bipush (v := 16) dX2_init_13 (by decide) ?_
  refine pk_nI (N := 16) (by decide +kernel) (by decide) dX2_init_15 ?_
  refine pk_p2_2 (j := 0) (by exact ⟨rfl, rfl⟩) rfl rfl wF_X2_15 dX2_init_17 ?_
  refine e_aload_n dX2_init_20 rfl rfl ?_
  refine e_bipush (v := 16) dX2_init_21 (by decide) ?_
  refine pk_nI (N := 16) (by decide +kernel) (by decide) dX2_init_23 ?_
  refine pk_p2_3 (j := 0) (by exact ⟨rfl, rfl⟩) rfl rfl wF_X2_18 dX2_init_25 ?_
  refine e_aload_n dX2_init_28 rfl rfl ?_
  refine e_iconst (v := 0) dX2_init_29 (by decide) ?_
  refine pk_p2_0 (j := 0) rfl rfl wF_X2_21 dX2_init_30 ?_
  exact e_vret rfl dX2_init_33 (⟨rfl, rfl⟩)
set_option maxRecDepth 20000 in
def cl_X4_init (G : ev_G) (c : Nat) : List va_E := [.inr (4, [.int 0, .ref (c + 1), .ref (c + 2)]), .inl (G.2.1 0, 32, .inl (fun _ => 0)), .inl (G.2.1 0, 32, .inl (fun _ => 0))]
set_option maxRecDepth 20000 in
theorem ct_X4_init : ev_Ct G l mX4_init 1 2 64 [.ref c] (pk c [.inr (4, dv4)] h) (fun v a => v = none ∧ a = pk c (cl_X4_init G c) h) (fun _ _ => False) := by
  refine ev_Ct.of (by decide +kernel) (Nat.le_of_ble_eq_true rfl) ?_
  refine e_aload_n dX4_init_0 rfl rfl ?_
  refine e_objInit wM_X4_3 wI_Object_init wC_Object_init (by decide) (Nat.le_of_ble_eq_true rfl) dX4_init_1 ?_
  refine e_aload_n dX4_init_4 rfl rfl ?_
  refine e_bipush (v := 32) dX4_init_5 (by decide) ?_
  refine pk_nI (N := 32) (by decide +kernel) (by decide) dX4_init_7 ?_
  refine pk_p4_1 (j := 0) (by exact ⟨rfl, rfl⟩) rfl rfl wF_X4_9 dX4_init_9 ?_
  refine e_aload_n dX4_init_12 rfl rfl ?_
  refine e_bipush (v := 32) dX4_init_13 (by decide) ?_
  refine pk_nI (N := 32) (by decide +kernel) (by decide) dX4_init_15 ?_
  refine pk_p4_2 (j := 0) (by exact ⟨rfl, rfl⟩) rfl rfl wF_X4_15 dX4_init_17 ?_
  refine e_aload_n dX4_init_20 rfl rfl ?_
  refine e_iconst (v := 0) dX4_init_21 (by decide) ?_
  refine pk_p4_0 (j := 0) rfl rfl wF_X4_18 dX4_init_22 ?_
  exact e_vret rfl dX4_init_25 (⟨rfl, rfl⟩)
set_option maxRecDepth 20000 in
def cl_X5_init (G : ev_G) (c : Nat) : List va_E := [.inr (5, [.int 0, .int (-1), .null, .int 0, .int 0, .int 0, .null, .int 0, .ref (c + 1), .ref (c + 2)]), .inl (G.2.1 3, 12, .inl (fun _ => 0)), .inl (G.2.1 3, 12, .inl (fun _ => 0))]
set_option maxRecDepth 20000 in
theorem ct_X5_init : ev_Ct G l mX5_init 1 2 24 [.ref c] (pk c [.inr (5, dv5)] h) (fun v a => v = none ∧ a = pk c (cl_X5_init G c) h) (fun _ _ => False) := by
  refine ev_Ct.of (by decide +kernel) (Nat.le_of_ble_eq_true rfl) ?_
  refine e_aload_n dX5_init_0 rfl rfl ?_
  refine e_objInit wM_X5_3 wI_Object_init wC_Object_init (by decide) (Nat.le_of_ble_eq_true rfl) dX5_init_1 ?_
  refine e_aload_n dX5_init_4 rfl rfl ?_
  refine e_bipush (v := 12) dX5_init_5 (by decide) ?_
  refine pk_nZ (N := 12) (by decide +kernel) (by decide) dX5_init_7 ?_
  refine pk_p5_8 (j := 0) (by exact ⟨rfl, rfl⟩) rfl rfl wF_X5_9 dX5_init_9 ?_
  refine e_aload_n dX5_init_12 rfl rfl ?_
  refine e_bipush (v := 12) dX5_init_13 (by decide) ?_
  refine pk_nZ (N := 12) (by decide +kernel) (by decide) dX5_init_15 ?_
  refine pk_p5_9 (j := 0) (by exact ⟨rfl, rfl⟩) rfl rfl wF_X5_15 dX5_init_17 ?_
  refine e_aload_n dX5_init_20 rfl rfl ?_
  refine e_iconst (v := (-1)) dX5_init_21 (by decide) ?_
  refine pk_p5_1 (j := 0) rfl rfl wF_X5_18 dX5_init_22 ?_
  exact e_vret rfl dX5_init_25 (⟨rfl, rfl⟩)
theorem pk_ch (G : ev_G) (c : Nat) (σ : CS) (h : ev_H) : pk c ((List.range 15).map (fun j => ch_cell G c σ j)) h = ch G c σ (h.1, some (c + 15)) := by
  refine Prod.ext (funext fun q => ?_) rfl
  show (if c ≤ q ∧ q < c + ((List.range 15).map (fun j => ch_cell G c σ j)).length then ((List.range 15).map (fun j => ch_cell G c σ j))[q - c]? else h.1 q) = (if c ≤ q ∧ q < c + 15 then some (ch_cell G c σ (q - c)) else h.1 q)
  rw [List.length_map, List.length_range]
  by_cases c1 : c ≤ q ∧ q < c + 15
  · rw [if_pos c1, if_pos c1, List.getElem?_map, List.getElem?_range (by omega)]
    rfl
  · rw [if_neg c1, if_neg c1]
def cs_0 : CS := (fun _ => 0, fun _ => 0, fun _ _ => 0)
set_option maxRecDepth 20000 in
def cl0 (G : ev_G) (c : Nat) : List va_E := [.inr (0, [.int 0, .int 0, .int 0, .int 0, .int 0, .ref (c + 7), .ref (c + 8), .ref (c + 12), .ref (c + 1), .ref (c + 2), .ref (c + 3), .ref (c + 4), .ref (c + 5), .ref (c + 6)]), .inl (G.2.1 0, 12, .inl (fun _ => 0)), .inl (G.2.1 0, 12, .inl (fun _ => 0)), .inl (G.2.1 0, 12, .inl (fun _ => 0)), .inl (G.2.1 0, 13, .inl (fun _ => 0)), .inl (G.2.1 0, 13, .inl (fun _ => 0)), .inl (G.2.1 3, 13, .inl (fun _ => 0)), .inr (3, [.long 0, .long 0, .long 0, .long 0, .long 0]), .inr (2, [.int 0, .ref (c + 9), .ref (c + 10), .ref (c + 11)]), .inl (G.2.1 0, 16, .inl (fun _ => 0)), .inl (G.2.1 0, 16, .inl (fun _ => 0)), .inl (G.2.1 0, 16, .inl (fun _ => 0)), .inr (4, [.int 0, .ref (c + 13), .ref (c + 14)]), .inl (G.2.1 0, 32, .inl (fun _ => 0)), .inl (G.2.1 0, 32, .inl (fun _ => 0))]
set_option maxRecDepth 20000 in
theorem ct_X0_init : ev_Ct G l mX0_init 3 14 199 [.ref c] (pk c [.inr (0, dv0)] h) (fun v a => v = none ∧ a = ch G c (sBeg cs_0 1) (h.1, some (c + 15))) (fun _ _ => False) := by
  refine ev_Ct.of (by decide +kernel) (Nat.le_of_ble_eq_true rfl) ?_
  refine e_aload_n dX0_init_0 rfl rfl ?_
  refine e_objInit wM_X0_3 wI_Object_init wC_Object_init (by decide) (Nat.le_of_ble_eq_true rfl) dX0_init_1 ?_
  refine e_aload_n dX0_init_4 rfl rfl ?_
  refine e_bipush (v := 12) dX0_init_5 (by decide) ?_
  refine pk_nI (N := 12) (by decide +kernel) (by decide) dX0_init_7 ?_
  refine pk_p0_8 (j := 0) (by exact ⟨rfl, rfl⟩) rfl rfl wF_X0_9 dX0_init_9 ?_
  refine e_aload_n dX0_init_12 rfl rfl ?_
  refine e_bipush (v := 12) dX0_init_13 (by decide) ?_
  refine pk_nI (N := 12) (by decide +kernel) (by decide) dX0_init_15 ?_
  refine pk_p0_9 (j := 0) (by exact ⟨rfl, rfl⟩) rfl rfl wF_X0_15 dX0_init_17 ?_
  refine e_aload_n dX0_init_20 rfl rfl ?_
  refine e_bipush (v := 12) dX0_init_21 (by decide) ?_
  refine pk_nI (N := 12) (by decide +kernel) (by decide) dX0_init_23 ?_
  refine pk_p0_10 (j := 0) (by exact ⟨rfl, rfl⟩) rfl rfl wF_X0_18 dX0_init_25 ?_
  refine e_aload_n dX0_init_28 rfl rfl ?_
  refine e_bipush (v := 13) dX0_init_29 (by decide) ?_
  refine pk_nI (N := 13) (by decide +kernel) (by decide) dX0_init_31 ?_
  refine pk_p0_11 (j := 0) (by exact ⟨rfl, rfl⟩) rfl rfl wF_X0_21 dX0_init_33 ?_
  refine e_aload_n dX0_init_36 rfl rfl ?_
  refine e_bipush (v := 13) dX0_init_37 (by decide) ?_
  refine pk_nI (N := 13) (by decide +kernel) (by decide) dX0_init_39 ?_
  refine pk_p0_12 (j := 0) (by exact ⟨rfl, rfl⟩) rfl rfl wF_X0_24 dX0_init_41 ?_
  refine e_aload_n dX0_init_44 rfl rfl ?_
  refine e_bipush (v := 13) dX0_init_45 (by decide) ?_
  refine pk_nZ (N := 13) (by decide +kernel) (by decide) dX0_init_47 ?_
  refine pk_p0_13 (j := 0) (by exact ⟨rfl, rfl⟩) rfl rfl wF_X0_27 dX0_init_49 ?_
  refine e_aload_n dX0_init_52 rfl rfl ?_
  refine pk_o3 wL_X0_31 dX0_init_53 ?_
  refine e_dup dX0_init_56 rfl ?_
  refine ev_as (show _ = pk (c + 7) [.inr (3, dv3)] (pk c [.inr (0, [.int 0, .int 0, .int 0, .int 0, .int 0, .null, .null, .null, .ref (c + 1), .ref (c + 2), .ref (c + 3), .ref (c + 4), .ref (c + 5), .ref (c + 6)]), .inl (G.2.1 0, 12, .inl (fun _ => 0)), .inl (G.2.1 0, 12, .inl (fun _ => 0)), .inl (G.2.1 0, 12, .inl (fun _ => 0)), .inl (G.2.1 0, 13, .inl (fun _ => 0)), .inl (G.2.1 0, 13, .inl (fun _ => 0)), .inl (G.2.1 3, 13, .inl (fun _ => 0))] h) from (pk_split c [.inr (0, [.int 0, .int 0, .int 0, .int 0, .int 0, .null, .null, .null, .ref (c + 1), .ref (c + 2), .ref (c + 3), .ref (c + 4), .ref (c + 5), .ref (c + 6)]), .inl (G.2.1 0, 12, .inl (fun _ => 0)), .inl (G.2.1 0, 12, .inl (fun _ => 0)), .inl (G.2.1 0, 12, .inl (fun _ => 0)), .inl (G.2.1 0, 13, .inl (fun _ => 0)), .inl (G.2.1 0, 13, .inl (fun _ => 0)), .inl (G.2.1 3, 13, .inl (fun _ => 0))] [.inr (3, dv3)] h).symm) ?_
  refine e_invO (host := "SpringChain") (mcY := 0) (msY := 0) (ct_X3_init (c := c + 7) (h := pk c [.inr (0, [.int 0, .int 0, .int 0, .int 0, .int 0, .null, .null, .null, .ref (c + 1), .ref (c + 2), .ref (c + 3), .ref (c + 4), .ref (c + 5), .ref (c + 6)]), .inl (G.2.1 0, 12, .inl (fun _ => 0)), .inl (G.2.1 0, 12, .inl (fun _ => 0)), .inl (G.2.1 0, 12, .inl (fun _ => 0)), .inl (G.2.1 0, 13, .inl (fun _ => 0)), .inl (G.2.1 0, 13, .inl (fun _ => 0)), .inl (G.2.1 3, 13, .inl (fun _ => 0))] h)) vX3_init (ev_nw_ok 124 (by decide +kernel) rfl) dX0_init_57 rfl rfl (Nat.le_of_ble_eq_true rfl) (Nat.le_of_ble_eq_true rfl) ?_
  rintro _ _ ⟨rfl, rfl⟩
  refine ev_as (pk_split c [.inr (0, [.int 0, .int 0, .int 0, .int 0, .int 0, .null, .null, .null, .ref (c + 1), .ref (c + 2), .ref (c + 3), .ref (c + 4), .ref (c + 5), .ref (c + 6)]), .inl (G.2.1 0, 12, .inl (fun _ => 0)), .inl (G.2.1 0, 12, .inl (fun _ => 0)), .inl (G.2.1 0, 12, .inl (fun _ => 0)), .inl (G.2.1 0, 13, .inl (fun _ => 0)), .inl (G.2.1 0, 13, .inl (fun _ => 0)), .inl (G.2.1 3, 13, .inl (fun _ => 0))] (cl_X3_init G (c + 7)) h) ?_
  refine pk_p0_5 (j := 0) (by exact ⟨rfl, rfl⟩) rfl rfl wF_X0_34 dX0_init_60 ?_
  refine e_aload_n dX0_init_63 rfl rfl ?_
  refine pk_o2 wL_X0_38 dX0_init_64 ?_
  refine e_dup dX0_init_67 rfl ?_
  refine ev_as (show _ = pk (c + 8) [.inr (2, dv2)] (pk c [.inr (0, [.int 0, .int 0, .int 0, .int 0, .int 0, .ref (c + 7), .null, .null, .ref (c + 1), .ref (c + 2), .ref (c + 3), .ref (c + 4), .ref (c + 5), .ref (c + 6)]), .inl (G.2.1 0, 12, .inl (fun _ => 0)), .inl (G.2.1 0, 12, .inl (fun _ => 0)), .inl (G.2.1 0, 12, .inl (fun _ => 0)), .inl (G.2.1 0, 13, .inl (fun _ => 0)), .inl (G.2.1 0, 13, .inl (fun _ => 0)), .inl (G.2.1 3, 13, .inl (fun _ => 0)), .inr (3, [.long 0, .long 0, .long 0, .long 0, .long 0])] h) from (pk_split c [.inr (0, [.int 0, .int 0, .int 0, .int 0, .int 0, .ref (c + 7), .null, .null, .ref (c + 1), .ref (c + 2), .ref (c + 3), .ref (c + 4), .ref (c + 5), .ref (c + 6)]), .inl (G.2.1 0, 12, .inl (fun _ => 0)), .inl (G.2.1 0, 12, .inl (fun _ => 0)), .inl (G.2.1 0, 12, .inl (fun _ => 0)), .inl (G.2.1 0, 13, .inl (fun _ => 0)), .inl (G.2.1 0, 13, .inl (fun _ => 0)), .inl (G.2.1 3, 13, .inl (fun _ => 0)), .inr (3, [.long 0, .long 0, .long 0, .long 0, .long 0])] [.inr (2, dv2)] h).symm) ?_
  refine e_invI (mcY := 3) (msY := 48) (ct_X2_init (c := c + 8) (h := pk c [.inr (0, [.int 0, .int 0, .int 0, .int 0, .int 0, .ref (c + 7), .null, .null, .ref (c + 1), .ref (c + 2), .ref (c + 3), .ref (c + 4), .ref (c + 5), .ref (c + 6)]), .inl (G.2.1 0, 12, .inl (fun _ => 0)), .inl (G.2.1 0, 12, .inl (fun _ => 0)), .inl (G.2.1 0, 12, .inl (fun _ => 0)), .inl (G.2.1 0, 13, .inl (fun _ => 0)), .inl (G.2.1 0, 13, .inl (fun _ => 0)), .inl (G.2.1 3, 13, .inl (fun _ => 0)), .inr (3, [.long 0, .long 0, .long 0, .long 0, .long 0])] h)) vX2_init wM_X0_40 dX0_init_68 rfl rfl (Nat.le_of_ble_eq_true rfl) (Nat.le_of_ble_eq_true rfl) ?_
  rintro _ _ ⟨rfl, rfl⟩
  refine ev_as (pk_split c [.inr (0, [.int 0, .int 0, .int 0, .int 0, .int 0, .ref (c + 7), .null, .null, .ref (c + 1), .ref (c + 2), .ref (c + 3), .ref (c + 4), .ref (c + 5), .ref (c + 6)]), .inl (G.2.1 0, 12, .inl (fun _ => 0)), .inl (G.2.1 0, 12, .inl (fun _ => 0)), .inl (G.2.1 0, 12, .inl (fun _ => 0)), .inl (G.2.1 0, 13, .inl (fun _ => 0)), .inl (G.2.1 0, 13, .inl (fun _ => 0)), .inl (G.2.1 3, 13, .inl (fun _ => 0)), .inr (3, [.long 0, .long 0, .long 0, .long 0, .long 0])] (cl_X2_init G (c + 8)) h) ?_
  refine pk_p0_6 (j := 0) (by exact ⟨rfl, rfl⟩) rfl rfl wF_X0_41 dX0_init_71 ?_
  refine e_aload_n dX0_init_74 rfl rfl ?_
  refine pk_o4 wL_X0_45 dX0_init_75 ?_
  refine e_dup dX0_init_78 rfl ?_
  refine ev_as (show _ = pk (c + 12) [.inr (4, dv4)] (pk c [.inr (0, [.int 0, .int 0, .int 0, .int 0, .int 0, .ref (c + 7), .ref (c + 8), .null, .ref (c + 1), .ref (c + 2), .ref (c + 3), .ref (c + 4), .ref (c + 5), .ref (c + 6)]), .inl (G.2.1 0, 12, .inl (fun _ => 0)), .inl (G.2.1 0, 12, .inl (fun _ => 0)), .inl (G.2.1 0, 12, .inl (fun _ => 0)), .inl (G.2.1 0, 13, .inl (fun _ => 0)), .inl (G.2.1 0, 13, .inl (fun _ => 0)), .inl (G.2.1 3, 13, .inl (fun _ => 0)), .inr (3, [.long 0, .long 0, .long 0, .long 0, .long 0]), .inr (2, [.int 0, .ref (c + 9), .ref (c + 10), .ref (c + 11)]), .inl (G.2.1 0, 16, .inl (fun _ => 0)), .inl (G.2.1 0, 16, .inl (fun _ => 0)), .inl (G.2.1 0, 16, .inl (fun _ => 0))] h) from (pk_split c [.inr (0, [.int 0, .int 0, .int 0, .int 0, .int 0, .ref (c + 7), .ref (c + 8), .null, .ref (c + 1), .ref (c + 2), .ref (c + 3), .ref (c + 4), .ref (c + 5), .ref (c + 6)]), .inl (G.2.1 0, 12, .inl (fun _ => 0)), .inl (G.2.1 0, 12, .inl (fun _ => 0)), .inl (G.2.1 0, 12, .inl (fun _ => 0)), .inl (G.2.1 0, 13, .inl (fun _ => 0)), .inl (G.2.1 0, 13, .inl (fun _ => 0)), .inl (G.2.1 3, 13, .inl (fun _ => 0)), .inr (3, [.long 0, .long 0, .long 0, .long 0, .long 0]), .inr (2, [.int 0, .ref (c + 9), .ref (c + 10), .ref (c + 11)]), .inl (G.2.1 0, 16, .inl (fun _ => 0)), .inl (G.2.1 0, 16, .inl (fun _ => 0)), .inl (G.2.1 0, 16, .inl (fun _ => 0))] [.inr (4, dv4)] h).symm) ?_
  refine e_invI (mcY := 2) (msY := 64) (ct_X4_init (c := c + 12) (h := pk c [.inr (0, [.int 0, .int 0, .int 0, .int 0, .int 0, .ref (c + 7), .ref (c + 8), .null, .ref (c + 1), .ref (c + 2), .ref (c + 3), .ref (c + 4), .ref (c + 5), .ref (c + 6)]), .inl (G.2.1 0, 12, .inl (fun _ => 0)), .inl (G.2.1 0, 12, .inl (fun _ => 0)), .inl (G.2.1 0, 12, .inl (fun _ => 0)), .inl (G.2.1 0, 13, .inl (fun _ => 0)), .inl (G.2.1 0, 13, .inl (fun _ => 0)), .inl (G.2.1 3, 13, .inl (fun _ => 0)), .inr (3, [.long 0, .long 0, .long 0, .long 0, .long 0]), .inr (2, [.int 0, .ref (c + 9), .ref (c + 10), .ref (c + 11)]), .inl (G.2.1 0, 16, .inl (fun _ => 0)), .inl (G.2.1 0, 16, .inl (fun _ => 0)), .inl (G.2.1 0, 16, .inl (fun _ => 0))] h)) vX4_init wM_X0_47 dX0_init_79 rfl rfl (Nat.le_of_ble_eq_true rfl) (Nat.le_of_ble_eq_true rfl) ?_
  rintro _ _ ⟨rfl, rfl⟩
  refine ev_as (pk_split c [.inr (0, [.int 0, .int 0, .int 0, .int 0, .int 0, .ref (c + 7), .ref (c + 8), .null, .ref (c + 1), .ref (c + 2), .ref (c + 3), .ref (c + 4), .ref (c + 5), .ref (c + 6)]), .inl (G.2.1 0, 12, .inl (fun _ => 0)), .inl (G.2.1 0, 12, .inl (fun _ => 0)), .inl (G.2.1 0, 12, .inl (fun _ => 0)), .inl (G.2.1 0, 13, .inl (fun _ => 0)), .inl (G.2.1 0, 13, .inl (fun _ => 0)), .inl (G.2.1 3, 13, .inl (fun _ => 0)), .inr (3, [.long 0, .long 0, .long 0, .long 0, .long 0]), .inr (2, [.int 0, .ref (c + 9), .ref (c + 10), .ref (c + 11)]), .inl (G.2.1 0, 16, .inl (fun _ => 0)), .inl (G.2.1 0, 16, .inl (fun _ => 0)), .inl (G.2.1 0, 16, .inl (fun _ => 0))] (cl_X4_init G (c + 12)) h) ?_
  refine pk_p0_7 (j := 0) (by exact ⟨rfl, rfl⟩) rfl rfl wF_X0_48 dX0_init_82 ?_
  refine ev_as (show _ = ch G c cs_0 (h.1, some (c + 15)) from pk_ch G c cs_0 h) ?_
  refine e_aload_n dX0_init_85 rfl rfl ?_
  refine e_iconst (v := 1) dX0_init_86 (by decide) ?_
  refine e_invV (mcY := 0) (msY := 0) (ct_X0_begin (by decide +kernel) (by decide +kernel)) vX0_begin wM_X0_52 (ch_at G c _ _ 0 (by decide)) rfl dX0_init_87 rfl rfl (Nat.le_of_ble_eq_true rfl) (Nat.le_of_ble_eq_true rfl) ?_
  rintro _ _ ⟨rfl, rfl⟩
  exact e_vret rfl dX0_init_90 (⟨rfl, rfl⟩)
end CTR
