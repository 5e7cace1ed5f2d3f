/-! constructors -/
section CTR
variable {G : ev_G} {l : Launch} {c : Nat} {h : ev_H}
set_option maxRecDepth 20000 in
def cl_X3_init (G : ev_G) (c : Nat) : List va_E := [.inr (3, [.long 0, .long 0, .long 0, .long 0, .long 0])]
set_option maxRecDepth 20000 in
theorem ct_X3_init : ev_Ct G l mX3_init 1 0 0 [.ref c] (pk c [.inr (3, dv3)] h) (fun v a => v = none ∧ a = pk c (cl_X3_init G c) h) (fun _ _ => False) := by
  refine ev_Ct.of (by decide +kernel) (Nat.le_of_ble_eq_true rfl) ?_
  refine e_aload_n dX3_init_0 rfl rfl ?_
  refine e_objInit wM_X3_1 wI_Object_init wC_Object_init (by decide) (Nat.le_of_ble_eq_true rfl) dX3_init_1 ?_
  exact e_vret rfl dX3_init_4 (⟨rfl, rfl⟩)
set_option maxRecDepth 20000 in
def cl_X2_init (G : ev_G) (c : Nat) : List va_E := [.inr (2, [.int 0, .ref (c + 1), .ref (c + 2), .ref (c + 3)]), .inl (G.2.1 0, 16, .inl (fun _ => 0)), .inl (G.2.1 0, 16, .inl (fun _ => 0)), .inl (G.2.1 0, 16, .inl (fun _ => 0))]
set_option maxRecDepth 20000 in
theorem ct_X2_init : ev_Ct G l mX2_init 1 3 48 [.ref c] (pk c [.inr (2, dv2)] h) (fun v a => v = none ∧ a = pk c (cl_X2_init G c) h) (fun _ _ => False) := by
  refine ev_Ct.of (by decide +kernel) (Nat.le_of_ble_eq_true rfl) ?_
  refine e_aload_n dX2_init_0 rfl rfl ?_
  refine e_objInit wM_X2_3 wI_Object_init wC_Object_init (by decide) (Nat.le_of_ble_eq_true rfl) dX2_init_1 ?_
  refine e_aload_n dX2_init_4 rfl rfl ?_
  refine e_bipush (v := 16) dX2_init_5 (by decide) ?_
  refine pk_nI (N := 16) (by decide +kernel) (by decide) dX2_init_7 ?_
  refine pk_p2_1 (j := 0) (by exact ⟨rfl, rfl⟩) rfl rfl wF_X2_9 dX2_init_9 ?_
  refine e_aload_n dX2_init_12 rfl rfl ?_
  refine e_bipush (v := 16) dX2_init_13 (by decide) ?_
  refine pk_nI (N := 16) (by decide +kernel) (by decide) dX2_init_15 ?_
  refine pk_p2_2 (j := 0) (by exact ⟨rfl, rfl⟩) rfl rfl wF_X2_15 dX2_init_17 ?_
  refine e_aload_n dX2_init_20 rfl rfl ?_
  refine e_bipush (v := 16) dX2_init_21 (by decide) ?_
  refine pk_nI (N := 16) (by decide +kernel) (by decide) dX2_init_23 ?_
  refine pk_p2_3 (j := 0) (by exact ⟨rfl, rfl⟩) rfl rfl wF_X2_18 dX2_init_25 ?_
  refine e_aload_n dX2_init_28 rfl rfl ?_
  refine e_iconst (v := 0) dX2_init_29 (by decide) ?_
  refine pk_p2_0 (j := 0) rfl rfl wF_X2_21 dX2_init_30 ?_
  exact e_vret rfl dX2_init_33 (⟨rfl, rfl⟩)
set_option maxRecDepth 20000 in
def cl_X4_init (G : ev_G) (c : Nat) : List va_E := [.inr (4, [.int 0, .ref (c + 1), .ref (c + 2)]), .inl (G.2.1 0, 32, .inl (fun _ => 0)), .inl (G.2.1 0, 32, .inl (fun _ => 0))]
set_option maxRecDepth 20000 in
theorem ct_X4_init : ev_Ct G l mX4_init 1 2 64 [.ref c] (pk c [.inr (4, dv4)] h) (fun v a => v = none ∧ a = pk c (cl_X4_init G c) h) (fun _ _ => False) := by
  refine ev_Ct.of (by decide +kernel) (Nat.le_of_ble_eq_true rfl) ?_
  refine e_aload_n dX4_init_0 rfl rfl ?_
  refine e_objInit wM_X4_3 wI_Object_init wC_Object_init (by decide) (Nat.le_of_ble_eq_true rfl) dX4_init_1 ?_
  refine e_aload_n dX4_init_4 rfl rfl ?_
  refine e_bipush (v := 32) dX4_init_5 (by decide) ?_
  refine pk_nI (N := 32) (by decide +kernel) (by decide) dX4_init_7 ?_
  refine pk_p4_1 (j := 0) (by exact ⟨rfl, rfl⟩) rfl rfl wF_X4_9 dX4_init_9 ?_
  refine e_aload_n dX4_init_12 rfl rfl ?_
  refine e_bipush (v := 32) dX4_init_13 (by decide) ?_
  refine pk_nI (N := 32) (by decide +kernel) (by decide) dX4_init_15 ?_
  refine pk_p4_2 (j := 0) (by exact ⟨rfl, rfl⟩) rfl rfl wF_X4_15 dX4_init_17 ?_
  refine e_aload_n dX4_init_20 rfl rfl ?_
  refine e_iconst (v := 0) dX4_init_21 (by decide) ?_
  refine pk_p4_0 (j := 0) rfl rfl wF_X4_18 dX4_init_22 ?_
  exact e_vret rfl dX4_init_25 (⟨rfl, rfl⟩)
set_option maxRecDepth 20000 in
def cl_X5_init (G : ev_G) (c : Nat) : List va_E := [.inr (5, [.int 0, .int (-1), .null, .int 0, .int 0, .int 0, .null, .int 0, .ref (c + 1), .ref (c + 2)]), .inl (G.2.1 3, 12, .inl (fun _ => 0)), .inl (G.2.1 3, 12, .inl (fun _ => 0))]
set_option maxRecDepth 20000 in
theorem ct_X5_init : ev_Ct G l mX5_init 1 2 24 [.ref c] (pk c [.inr (5, dv5)] h) (fun v a => v = none ∧ a = pk c (cl_X5_init G c) h) (fun _ _ => False) := by
  refine ev_Ct.of (by decide +kernel) (Nat.le_of_ble_eq_true rfl) ?_
  refine e_aload_n dX5_init_0 rfl rfl ?_
  refine e_objInit wM_X5_3 wI_Object_init wC_Object_init (by decide) (Nat.le_of_ble_eq_true rfl) dX5_init_1 ?_
  refine e_aload_n dX5_init_4 rfl rfl ?_
  refine e_bipush (v := 12) dX5_init_5 (by decide) ?_
  refine pk_nZ (N := 12) (by decide +kernel) (by decide) dX5_init_7 ?_
  refine pk_p5_8 (j := 0) (by exact ⟨rfl, rfl⟩) rfl rfl wF_X5_9 dX5_init_9 ?_
  refine e_aload_n dX5_init_12 rfl rfl ?_
  refine e_bipush (v := 12) dX5_init_13 (by decide) ?_
  refine pk_nZ (N := 12) (by decide +kernel) (by decide) dX5_init_15 ?_
  refine pk_p5_9 (j := 0) (by exact ⟨rfl, rfl⟩) rfl rfl wF_X5_15 dX5_init_17 ?_
  refine e_aload_n dX5_init_20 rfl rfl ?_
  refine e_iconst (v := (-1)) dX5_init_21 (by decide) ?_
  refine pk_p5_1 (j := 0) rfl rfl wF_X5_18 dX5_init_22 ?_
  exact e_vret rfl dX5_init_25 (⟨rfl, rfl⟩)
end CTR
