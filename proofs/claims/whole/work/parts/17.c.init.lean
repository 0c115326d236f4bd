/-! constructors -/
theorem ar_byte : Cond.arrayClass .byte ∈ ks_tbl := ks_mem (by decide +kernel) (by decide +kernel)
theorem ar_bool : Cond.arrayClass .boolean ∈ ks_tbl := ks_mem (by decide +kernel) (by decide +kernel)
theorem ar_int : Cond.arrayClass .int ∈ ks_tbl := ks_mem (by decide +kernel) (by decide +kernel)
theorem ar_long : Cond.arrayClass .long ∈ ks_tbl := ks_mem (by decide +kernel) (by decide +kernel)
theorem oi_inst : Cond.instanceMethod Lib.objectInit ∈ ks_tbl := ks_mem (by decide +kernel) (by decide +kernel)
theorem oi_code : Cond.code Lib.objectInit ⟨#[0xb1]⟩ 1 none ∈ ks_tbl := ks_mem (by decide +kernel) (by decide +kernel)
theorem kc_zb : ks_by (fun _ => 0) = fun _ => (0 : Int32) := funext fun _ => rfl
theorem kc_hb (c : ClassId) (n : Nat) : vp_cell c (n, .inl (ks_by (fun _ => 0))) = arrV c n (fun _ => defaultValue .byte) := by rw [vp_cell_i, kc_zb]; rfl
theorem kc_hz (c : ClassId) (n : Nat) : vp_cell c (n, .inl (ks_bo (fun _ => false))) = arrV c n (fun _ => defaultValue .boolean) := by rw [vp_cell_i]; rfl
theorem kc_hi (c : ClassId) (n : Nat) : vp_cell c (n, .inl (ks_in (fun _ => 0))) = arrV c n (fun _ => defaultValue .int) := by rw [vp_cell_i]; rfl
theorem kc_hl (c : ClassId) (n : Nat) : vp_cell c (n, .inr (.inl (fun _ => 0))) = arrV c n (fun _ => defaultValue .long) := by rw [vp_cell_l]; rfl
theorem kc_hm (c : ClassId) (n : Nat) : Jvm.Free.Multi.innerC c n (defaultValue .byte) = vp_cell c (n, .inl (ks_by (fun _ => 0))) := by
  rw [kc_hb, ← arrV_new]; rfl
theorem kc_sv (q : Nat) : (fun i => if i < 5 then some (q + 1 + i) else none) = ks_sv (q + 1) (q + 1 + 1) (q + 1 + 2) (q + 1 + 3) (q + 1 + 4) := by
  funext i
  unfold ks_sv
  by_cases h : i < 5
  · rw [if_pos h]
    rcases (by omega : i = 0 ∨ i = 1 ∨ i = 2 ∨ i = 3 ∨ i = 4) with rfl | rfl | rfl | rfl | rfl <;> rfl
  · rw [if_neg h, if_neg (by omega), if_neg (by omega), if_neg (by omega), if_neg (by omega), if_neg (by omega)]
theorem is_Row : Cond.instantiable R_Row 2 ∈ ks_tbl := ks_mem (by decide +kernel) (by decide +kernel)
theorem ini_Row : Cond.initialized R_Row ∈ ks_tbl := ks_mem (by decide +kernel) (by decide +kernel)
theorem hd_Row : ∀ j, j < 2 → defaultValue (t_Row j) = vp_V [.null, .int 0] j := fun j hj => by
  rcases (by omega : j = 0 ∨ j = 1) with rfl | rfl <;> rfl
theorem is_Pages : Cond.instantiable R_Pages 2 ∈ ks_tbl := ks_mem (by decide +kernel) (by decide +kernel)
theorem ini_Pages : Cond.initialized R_Pages ∈ ks_tbl := ks_mem (by decide +kernel) (by decide +kernel)
theorem hd_Pages : ∀ j, j < 2 → defaultValue (t_Pages j) = vp_V [.null, .null] j := fun j hj => by
  rcases (by omega : j = 0 ∨ j = 1) with rfl | rfl <;> rfl
theorem is_Disk : Cond.instantiable R_Disk 7 ∈ ks_tbl := ks_mem (by decide +kernel) (by decide +kernel)
theorem ini_Disk : Cond.initialized R_Disk ∈ ks_tbl := ks_mem (by decide +kernel) (by decide +kernel)
theorem hd_Disk : ∀ j, j < 7 → defaultValue (t_Disk j) = vp_V [.null, .null, .null, .int 0, .int 0, .int 0, .int 0] j := fun j hj => by
  rcases (by omega : j = 0 ∨ j = 1 ∨ j = 2 ∨ j = 3 ∨ j = 4 ∨ j = 5 ∨ j = 6) with rfl | rfl | rfl | rfl | rfl | rfl | rfl <;> rfl
theorem is_Marks : Cond.instantiable R_Marks 2 ∈ ks_tbl := ks_mem (by decide +kernel) (by decide +kernel)
theorem ini_Marks : Cond.initialized R_Marks ∈ ks_tbl := ks_mem (by decide +kernel) (by decide +kernel)
theorem hd_Marks : ∀ j, j < 2 → defaultValue (t_Marks j) = vp_V [.null, .int 0] j := fun j hj => by
  rcases (by omega : j = 0 ∨ j = 1) with rfl | rfl <;> rfl
theorem is_Chains : Cond.instantiable R_Chains 3 ∈ ks_tbl := ks_mem (by decide +kernel) (by decide +kernel)
theorem ini_Chains : Cond.initialized R_Chains ∈ ks_tbl := ks_mem (by decide +kernel) (by decide +kernel)
theorem hd_Chains : ∀ j, j < 3 → defaultValue (t_Chains j) = vp_V [.null, .int 0, .int 0] j := fun j hj => by
  rcases (by omega : j = 0 ∨ j = 1 ∨ j = 2) with rfl | rfl | rfl <;> rfl
theorem is_Nodes : Cond.instantiable R_Nodes 2 ∈ ks_tbl := ks_mem (by decide +kernel) (by decide +kernel)
theorem ini_Nodes : Cond.initialized R_Nodes ∈ ks_tbl := ks_mem (by decide +kernel) (by decide +kernel)
theorem hd_Nodes : ∀ j, j < 2 → defaultValue (t_Nodes j) = vp_V [.null, .null] j := fun j hj => by
  rcases (by omega : j = 0 ∨ j = 1) with rfl | rfl <;> rfl
theorem is_Trees : Cond.instantiable R_Trees 6 ∈ ks_tbl := ks_mem (by decide +kernel) (by decide +kernel)
theorem ini_Trees : Cond.initialized R_Trees ∈ ks_tbl := ks_mem (by decide +kernel) (by decide +kernel)
theorem hd_Trees : ∀ j, j < 6 → defaultValue (t_Trees j) = vp_V [.null, .null, .null, .null, .null, .int 0] j := fun j hj => by
  rcases (by omega : j = 0 ∨ j = 1 ∨ j = 2 ∨ j = 3 ∨ j = 4 ∨ j = 5) with rfl | rfl | rfl | rfl | rfl | rfl <;> rfl
theorem is_Checker : Cond.instantiable R_Checker 9 ∈ ks_tbl := ks_mem (by decide +kernel) (by decide +kernel)
theorem ini_Checker : Cond.initialized R_Checker ∈ ks_tbl := ks_mem (by decide +kernel) (by decide +kernel)
theorem hd_Checker : ∀ j, j < 9 → defaultValue (t_Checker j) = vp_V [.null, .null, .null, .null, .null, .null, .int 0, .int 0, .int 0] j := fun j hj => by
  rcases (by omega : j = 0 ∨ j = 1 ∨ j = 2 ∨ j = 3 ∨ j = 4 ∨ j = 5 ∨ j = 6 ∨ j = 7 ∨ j = 8) with rfl | rfl | rfl | rfl | rfl | rfl | rfl | rfl | rfl <;> rfl
theorem is_Store : Cond.instantiable R_Store 13 ∈ ks_tbl := ks_mem (by decide +kernel) (by decide +kernel)
theorem ini_Store : Cond.initialized R_Store ∈ ks_tbl := ks_mem (by decide +kernel) (by decide +kernel)
theorem hd_Store : ∀ j, j < 13 → defaultValue (t_Store j) = vp_V [.null, .null, .null, .null, .null, .null, .null, .null, .null, .null, .int 0, .int 0, .int 0] j := fun j hj => by
  rcases (by omega : j = 0 ∨ j = 1 ∨ j = 2 ∨ j = 3 ∨ j = 4 ∨ j = 5 ∨ j = 6 ∨ j = 7 ∨ j = 8 ∨ j = 9 ∨ j = 10 ∨ j = 11 ∨ j = 12) with rfl | rfl | rfl | rfl | rfl | rfl | rfl | rfl | rfl | rfl | rfl | rfl | rfl <;> rfl
theorem is_Model : Cond.instantiable R_Model 26 ∈ ks_tbl := ks_mem (by decide +kernel) (by decide +kernel)
theorem ini_Model : Cond.initialized R_Model ∈ ks_tbl := ks_mem (by decide +kernel) (by decide +kernel)
theorem hd_Model : ∀ j, j < 26 → defaultValue (t_Model j) = vp_V [.null, .null, .null, .null, .null, .null, .int 0, .int 0, .null, .null, .null, .null, .null, .null, .null, .int 0, .int 0, .int 0, .int 0, .int 0, .int 0, .int 0, .int 0, .int 0, .int 0, .int 0] j := fun j hj => by
  rcases (by omega : j = 0 ∨ j = 1 ∨ j = 2 ∨ j = 3 ∨ j = 4 ∨ j = 5 ∨ j = 6 ∨ j = 7 ∨ j = 8 ∨ j = 9 ∨ j = 10 ∨ j = 11 ∨ j = 12 ∨ j = 13 ∨ j = 14 ∨ j = 15 ∨ j = 16 ∨ j = 17 ∨ j = 18 ∨ j = 19 ∨ j = 20 ∨ j = 21 ∨ j = 22 ∨ j = 23 ∨ j = 24 ∨ j = 25) with rfl | rfl | rfl | rfl | rfl | rfl | rfl | rfl | rfl | rfl | rfl | rfl | rfl | rfl | rfl | rfl | rfl | rfl | rfl | rfl | rfl | rfl | rfl | rfl | rfl | rfl <;> rfl
set_option maxRecDepth 100000 in
set_option maxHeartbeats 4000000 in
theorem i_Row (l : Launch) (D : va_G) (K : Nat → ClassId) (h0 : Nat) : kc_M l D (ks_T K) { frames := 1, cells := 1, slots := 8448, locals := 12 } y_Row_init b_Row_init 1 [.ref h0] [(h0, .inr (0, [.null, .int 0]))] (fun w => ∃ (q1 : Nat), w = [(h0, .inr (0, [.ref q1, .int (nI 0)])), (q1, .inl (K 0, 8448, .inl (ks_by (fun _ => 0))))]) := by
  refine kc_M.of 0 (by decide) rfl (Nat.le_of_ble_eq_true rfl) (fun E C I Y Z => ?_)
  refine ks_aload_n rfl rfl C d_Row_init_0 ?_
  refine kc_obj C lk_Row_3 oi_inst oi_code ⟨by decide, by decide⟩ d_Row_init_1 ?_
  refine ks_aload_n rfl rfl C d_Row_init_4 ?_
  refine ks_sipush (a := 8448) rfl C d_Row_init_5 ?_
  refine kc_newa (atype := .byte) (a0 := (8448, .inl (ks_by (fun _ => 0)))) C 0 rfl rfl (fun _ _ h => h) ar_byte (fun c => kc_hb c 8448) (by decide) (by decide) ⟨by decide, by decide⟩ d_Row_init_8 (fun q1 => ?_)
  refine kc_putF (k := 0) (ws' := [(h0, .inr (0, [.ref q1, .int 0])), (q1, .inl (K 0, 8448, .inl (ks_by (fun _ => 0))))]) C I 0 0 t_Row ty_Row nm_Row in_Row rfl (by decide) fk_Row_9 rfl rfl rfl rfl rfl rfl (Nat.le_of_ble_eq_true rfl) rfl d_Row_init_10 ?_
  refine ks_aload_n rfl rfl C d_Row_init_13 ?_
  refine ks_iconst (a := 0) rfl C d_Row_init_14 ?_
  refine ks_put (k := 1) (ws' := [(h0, .inr (0, [.ref q1, .int (nI 0)])), (q1, .inl (K 0, 8448, .inl (ks_by (fun _ => 0))))]) C 0 0 t_Row ty_Row nm_Row in_Row rfl (by decide) fk_Row_15 rfl rfl rfl rfl rfl (Nat.le_of_ble_eq_true rfl) rfl d_Row_init_15 ?_
  refine ks_ord (ws' := [(h0, .inr (0, [.ref q1, .int (nI 0)])), (q1, .inl (K 0, 8448, .inl (ks_by (fun _ => 0))))]) [0, 1] rfl rfl ?_
  exact ks_vret C Z rfl d_Row_init_18 rfl rfl ⟨rfl, q1, rfl⟩
set_option maxRecDepth 100000 in
set_option maxHeartbeats 4000000 in
theorem i_Disk (l : Launch) (D : va_G) (K : Nat → ClassId) (h0 : Nat) : kc_M l D (ks_T K) { frames := 1, cells := 3, slots := 179554, locals := 12 } y_Disk_init b_Disk_init 1 [.ref h0] [(h0, .inr (2, [.null, .null, .null, .int 0, .int 0, .int 0, .int 0]))] (fun w => ∃ (q1 q2 q3 : Nat), w = [(h0, .inr (2, [.ref q1, .ref q2, .ref q3, .int (nI 0), .int (nI 4), .int (nI 0), .int (nI 0)])), (q1, .inl (K 0, 87040, .inl (ks_by (fun _ => 0)))), (q2, .inl (K 0, 92480, .inl (ks_by (fun _ => 0)))), (q3, .inl (K 0, 34, .inl (ks_by (fun _ => 0))))]) := by
  refine kc_M.of 0 (by decide) rfl (Nat.le_of_ble_eq_true rfl) (fun E C I Y Z => ?_)
  refine ks_aload_n rfl rfl C d_Disk_init_0 ?_
  refine kc_obj C lk_Disk_3 oi_inst oi_code ⟨by decide, by decide⟩ d_Disk_init_1 ?_
  refine ks_aload_n rfl rfl C d_Disk_init_4 ?_
  refine ks_ldc (a := 87040) ck_Disk_9 C d_Disk_init_5 ?_
  refine kc_newa (atype := .byte) (a0 := (87040, .inl (ks_by (fun _ => 0)))) C 0 rfl rfl (fun _ _ h => h) ar_byte (fun c => kc_hb c 87040) (by decide) (by decide) ⟨by decide, by decide⟩ d_Disk_init_7 (fun q1 => ?_)
  refine kc_putF (k := 0) (ws' := [(h0, .inr (2, [.ref q1, .null, .null, .int 0, .int 0, .int 0, .int 0])), (q1, .inl (K 0, 87040, .inl (ks_by (fun _ => 0))))]) C I 0 2 t_Disk ty_Disk nm_Disk in_Disk rfl (by decide) fk_Disk_10 rfl rfl rfl rfl rfl rfl (Nat.le_of_ble_eq_true rfl) rfl d_Disk_init_9 ?_
  refine ks_aload_n rfl rfl C d_Disk_init_12 ?_
  refine ks_ldc (a := 92480) ck_Disk_16 C d_Disk_init_13 ?_
  refine kc_newa (atype := .byte) (a0 := (92480, .inl (ks_by (fun _ => 0)))) C 0 rfl rfl (fun _ _ h => h) ar_byte (fun c => kc_hb c 92480) (by decide) (by decide) ⟨by decide, by decide⟩ d_Disk_init_15 (fun q2 => ?_)
  refine kc_putF (k := 1) (ws' := [(h0, .inr (2, [.ref q1, .ref q2, .null, .int 0, .int 0, .int 0, .int 0])), (q1, .inl (K 0, 87040, .inl (ks_by (fun _ => 0)))), (q2, .inl (K 0, 92480, .inl (ks_by (fun _ => 0))))]) C I 0 2 t_Disk ty_Disk nm_Disk in_Disk rfl (by decide) fk_Disk_17 rfl rfl rfl rfl rfl rfl (Nat.le_of_ble_eq_true rfl) rfl d_Disk_init_17 ?_
  refine ks_aload_n rfl rfl C d_Disk_init_20 ?_
  refine ks_bipush (a := 34) rfl C d_Disk_init_21 ?_
  refine kc_newa (atype := .byte) (a0 := (34, .inl (ks_by (fun _ => 0)))) C 0 rfl rfl (fun _ _ h => h) ar_byte (fun c => kc_hb c 34) (by decide) (by decide) ⟨by decide, by decide⟩ d_Disk_init_23 (fun q3 => ?_)
  refine kc_putF (k := 2) (ws' := [(h0, .inr (2, [.ref q1, .ref q2, .ref q3, .int 0, .int 0, .int 0, .int 0])), (q1, .inl (K 0, 87040, .inl (ks_by (fun _ => 0)))), (q2, .inl (K 0, 92480, .inl (ks_by (fun _ => 0)))), (q3, .inl (K 0, 34, .inl (ks_by (fun _ => 0))))]) C I 0 2 t_Disk ty_Disk nm_Disk in_Disk rfl (by decide) fk_Disk_20 rfl rfl rfl rfl rfl rfl (Nat.le_of_ble_eq_true rfl) rfl d_Disk_init_25 ?_
  refine ks_aload_n rfl rfl C d_Disk_init_28 ?_
  refine ks_iconst (a := 0) rfl C d_Disk_init_29 ?_
  refine ks_put (k := 3) (ws' := [(h0, .inr (2, [.ref q1, .ref q2, .ref q3, .int (nI 0), .int 0, .int 0, .int 0])), (q1, .inl (K 0, 87040, .inl (ks_by (fun _ => 0)))), (q2, .inl (K 0, 92480, .inl (ks_by (fun _ => 0)))), (q3, .inl (K 0, 34, .inl (ks_by (fun _ => 0))))]) C 0 2 t_Disk ty_Disk nm_Disk in_Disk rfl (by decide) fk_Disk_23 rfl rfl rfl rfl rfl (Nat.le_of_ble_eq_true rfl) rfl d_Disk_init_30 ?_
  refine ks_aload_n rfl rfl C d_Disk_init_33 ?_
  refine ks_iconst (a := 4) rfl C d_Disk_init_34 ?_
  refine ks_put (k := 4) (ws' := [(h0, .inr (2, [.ref q1, .ref q2, .ref q3, .int (nI 0), .int (nI 4), .int 0, .int 0])), (q1, .inl (K 0, 87040, .inl (ks_by (fun _ => 0)))), (q2, .inl (K 0, 92480, .inl (ks_by (fun _ => 0)))), (q3, .inl (K 0, 34, .inl (ks_by (fun _ => 0))))]) C 0 2 t_Disk ty_Disk nm_Disk in_Disk rfl (by decide) fk_Disk_27 rfl rfl rfl rfl rfl (Nat.le_of_ble_eq_true rfl) rfl d_Disk_init_35 ?_
  refine ks_aload_n rfl rfl C d_Disk_init_38 ?_
  refine ks_iconst (a := 0) rfl C d_Disk_init_39 ?_
  refine ks_put (k := 5) (ws' := [(h0, .inr (2, [.ref q1, .ref q2, .ref q3, .int (nI 0), .int (nI 4), .int (nI 0), .int 0])), (q1, .inl (K 0, 87040, .inl (ks_by (fun _ => 0)))), (q2, .inl (K 0, 92480, .inl (ks_by (fun _ => 0)))), (q3, .inl (K 0, 34, .inl (ks_by (fun _ => 0))))]) C 0 2 t_Disk ty_Disk nm_Disk in_Disk rfl (by decide) fk_Disk_30 rfl rfl rfl rfl rfl (Nat.le_of_ble_eq_true rfl) rfl d_Disk_init_40 ?_
  refine ks_aload_n rfl rfl C d_Disk_init_43 ?_
  refine ks_iconst (a := 0) rfl C d_Disk_init_44 ?_
  refine ks_put (k := 6) (ws' := [(h0, .inr (2, [.ref q1, .ref q2, .ref q3, .int (nI 0), .int (nI 4), .int (nI 0), .int (nI 0)])), (q1, .inl (K 0, 87040, .inl (ks_by (fun _ => 0)))), (q2, .inl (K 0, 92480, .inl (ks_by (fun _ => 0)))), (q3, .inl (K 0, 34, .inl (ks_by (fun _ => 0))))]) C 0 2 t_Disk ty_Disk nm_Disk in_Disk rfl (by decide) fk_Disk_33 rfl rfl rfl rfl rfl (Nat.le_of_ble_eq_true rfl) rfl d_Disk_init_45 ?_
  refine ks_ord (ws' := [(h0, .inr (2, [.ref q1, .ref q2, .ref q3, .int (nI 0), .int (nI 4), .int (nI 0), .int (nI 0)])), (q1, .inl (K 0, 87040, .inl (ks_by (fun _ => 0)))), (q2, .inl (K 0, 92480, .inl (ks_by (fun _ => 0)))), (q3, .inl (K 0, 34, .inl (ks_by (fun _ => 0))))]) [0, 1, 2, 3] rfl rfl ?_
  exact ks_vret C Z rfl d_Disk_init_48 rfl rfl ⟨rfl, q1, q2, q3, rfl⟩
set_option maxRecDepth 100000 in
set_option maxHeartbeats 4000000 in
theorem i_Pages (l : Launch) (D : va_G) (K : Nat → ClassId) (h0 : Nat) : kc_M l D (ks_T K) { frames := 1, cells := 2, slots := 89760, locals := 12 } y_Pages_init b_Pages_init 1 [.ref h0] [(h0, .inr (1, [.null, .null]))] (fun w => ∃ (q1 q2 : Nat), w = [(h0, .inr (1, [.ref q1, .ref q2])), (q1, .inl (K 0, 87040, .inl (ks_by (fun _ => 0)))), (q2, .inl (K 1, 2720, .inl (ks_bo (fun _ => false))))]) := by
  refine kc_M.of 0 (by decide) rfl (Nat.le_of_ble_eq_true rfl) (fun E C I Y Z => ?_)
  refine ks_aload_n rfl rfl C d_Pages_init_0 ?_
  refine kc_obj C lk_Pages_3 oi_inst oi_code ⟨by decide, by decide⟩ d_Pages_init_1 ?_
  refine ks_aload_n rfl rfl C d_Pages_init_4 ?_
  refine ks_ldc (a := 87040) ck_Pages_9 C d_Pages_init_5 ?_
  refine kc_newa (atype := .byte) (a0 := (87040, .inl (ks_by (fun _ => 0)))) C 0 rfl rfl (fun _ _ h => h) ar_byte (fun c => kc_hb c 87040) (by decide) (by decide) ⟨by decide, by decide⟩ d_Pages_init_7 (fun q1 => ?_)
  refine kc_putF (k := 0) (ws' := [(h0, .inr (1, [.ref q1, .null])), (q1, .inl (K 0, 87040, .inl (ks_by (fun _ => 0))))]) C I 0 1 t_Pages ty_Pages nm_Pages in_Pages rfl (by decide) fk_Pages_10 rfl rfl rfl rfl rfl rfl (Nat.le_of_ble_eq_true rfl) rfl d_Pages_init_9 ?_
  refine ks_aload_n rfl rfl C d_Pages_init_12 ?_
  refine ks_sipush (a := 2720) rfl C d_Pages_init_13 ?_
  refine kc_newa (atype := .boolean) (a0 := (2720, .inl (ks_bo (fun _ => false)))) C 1 rfl rfl (fun _ _ h => h) ar_bool (fun c => kc_hz c 2720) (by decide) (by decide) ⟨by decide, by decide⟩ d_Pages_init_16 (fun q2 => ?_)
  refine kc_putF (k := 1) (ws' := [(h0, .inr (1, [.ref q1, .ref q2])), (q1, .inl (K 0, 87040, .inl (ks_by (fun _ => 0)))), (q2, .inl (K 1, 2720, .inl (ks_bo (fun _ => false))))]) C I 0 1 t_Pages ty_Pages nm_Pages in_Pages rfl (by decide) fk_Pages_16 rfl rfl rfl rfl rfl rfl (Nat.le_of_ble_eq_true rfl) rfl d_Pages_init_18 ?_
  refine ks_ord (ws' := [(h0, .inr (1, [.ref q1, .ref q2])), (q1, .inl (K 0, 87040, .inl (ks_by (fun _ => 0)))), (q2, .inl (K 1, 2720, .inl (ks_bo (fun _ => false))))]) [0, 1, 2] rfl rfl ?_
  exact ks_vret C Z rfl d_Pages_init_21 rfl rfl ⟨rfl, q1, q2, rfl⟩
set_option maxRecDepth 100000 in
set_option maxHeartbeats 4000000 in
theorem i_Marks (l : Launch) (D : va_G) (K : Nat → ClassId) (h0 : Nat) : kc_M l D (ks_T K) { frames := 1, cells := 6, slots := 435205, locals := 12 } y_Marks_init b_Marks_init 1 [.ref h0] [(h0, .inr (3, [.null, .int 0]))] (fun w => ∃ (q1 : Nat), w = [(h0, .inr (3, [.ref q1, .int (nI 0)])), (q1, .inl (K 4, 5, .inr (.inr (.inr (.inr (ks_sv (q1 + 1) (q1 + 1 + 1) (q1 + 1 + 2) (q1 + 1 + 3) (q1 + 1 + 4))))))), (q1 + 1, .inl (K 0, 87040, .inl (ks_by (fun _ => 0)))), (q1 + 1 + 1, .inl (K 0, 87040, .inl (ks_by (fun _ => 0)))), (q1 + 1 + 2, .inl (K 0, 87040, .inl (ks_by (fun _ => 0)))), (q1 + 1 + 3, .inl (K 0, 87040, .inl (ks_by (fun _ => 0)))), (q1 + 1 + 4, .inl (K 0, 87040, .inl (ks_by (fun _ => 0))))]) := by
  refine kc_M.of 0 (by decide) rfl (Nat.le_of_ble_eq_true rfl) (fun E C I Y Z => ?_)
  refine ks_aload_n rfl rfl C d_Marks_init_0 ?_
  refine kc_obj C lk_Marks_3 oi_inst oi_code ⟨by decide, by decide⟩ d_Marks_init_1 ?_
  refine ks_aload_n rfl rfl C d_Marks_init_4 ?_
  refine ks_iconst (a := 5) rfl C d_Marks_init_5 ?_
  refine ks_ldc (a := 87040) ck_Marks_9 C d_Marks_init_6 ?_
  refine kc_mna (n := 5) (k := 87040) (z := (87040, .inl (ks_by (fun _ => 0)))) C Y 4 0 rfl rfl kk_Marks_10 ar_byte (by decide) (by decide) (fun c => kc_hm c 87040) ⟨by decide, by decide⟩ d_Marks_init_8 (fun q1 => ?_)
  refine ks_ws (ws' := [(h0, .inr (3, [.null, .int 0])), (q1, .inl (K 4, 5, .inr (.inr (.inr (.inr (ks_sv (q1 + 1) (q1 + 1 + 1) (q1 + 1 + 2) (q1 + 1 + 3) (q1 + 1 + 4))))))), (q1 + 1, .inl (K 0, 87040, .inl (ks_by (fun _ => 0)))), (q1 + 1 + 1, .inl (K 0, 87040, .inl (ks_by (fun _ => 0)))), (q1 + 1 + 2, .inl (K 0, 87040, .inl (ks_by (fun _ => 0)))), (q1 + 1 + 3, .inl (K 0, 87040, .inl (ks_by (fun _ => 0)))), (q1 + 1 + 4, .inl (K 0, 87040, .inl (ks_by (fun _ => 0))))]) (by rw [kc_sv]; rfl) ?_
  refine kc_putF (k := 0) (ws' := [(h0, .inr (3, [.ref q1, .int 0])), (q1, .inl (K 4, 5, .inr (.inr (.inr (.inr (ks_sv (q1 + 1) (q1 + 1 + 1) (q1 + 1 + 2) (q1 + 1 + 3) (q1 + 1 + 4))))))), (q1 + 1, .inl (K 0, 87040, .inl (ks_by (fun _ => 0)))), (q1 + 1 + 1, .inl (K 0, 87040, .inl (ks_by (fun _ => 0)))), (q1 + 1 + 2, .inl (K 0, 87040, .inl (ks_by (fun _ => 0)))), (q1 + 1 + 3, .inl (K 0, 87040, .inl (ks_by (fun _ => 0)))), (q1 + 1 + 4, .inl (K 0, 87040, .inl (ks_by (fun _ => 0))))]) C I 0 3 t_Marks ty_Marks nm_Marks in_Marks rfl (by decide) fk_Marks_12 rfl rfl rfl rfl rfl rfl (Nat.le_of_ble_eq_true rfl) rfl d_Marks_init_12 ?_
  refine ks_aload_n rfl rfl C d_Marks_init_15 ?_
  refine ks_iconst (a := 0) rfl C d_Marks_init_16 ?_
  refine ks_put (k := 1) (ws' := [(h0, .inr (3, [.ref q1, .int (nI 0)])), (q1, .inl (K 4, 5, .inr (.inr (.inr (.inr (ks_sv (q1 + 1) (q1 + 1 + 1) (q1 + 1 + 2) (q1 + 1 + 3) (q1 + 1 + 4))))))), (q1 + 1, .inl (K 0, 87040, .inl (ks_by (fun _ => 0)))), (q1 + 1 + 1, .inl (K 0, 87040, .inl (ks_by (fun _ => 0)))), (q1 + 1 + 2, .inl (K 0, 87040, .inl (ks_by (fun _ => 0)))), (q1 + 1 + 3, .inl (K 0, 87040, .inl (ks_by (fun _ => 0)))), (q1 + 1 + 4, .inl (K 0, 87040, .inl (ks_by (fun _ => 0))))]) C 0 3 t_Marks ty_Marks nm_Marks in_Marks rfl (by decide) fk_Marks_17 rfl rfl rfl rfl rfl (Nat.le_of_ble_eq_true rfl) rfl d_Marks_init_17 ?_
  refine ks_ord (ws' := [(h0, .inr (3, [.ref q1, .int (nI 0)])), (q1, .inl (K 4, 5, .inr (.inr (.inr (.inr (ks_sv (q1 + 1) (q1 + 1 + 1) (q1 + 1 + 2) (q1 + 1 + 3) (q1 + 1 + 4))))))), (q1 + 1, .inl (K 0, 87040, .inl (ks_by (fun _ => 0)))), (q1 + 1 + 1, .inl (K 0, 87040, .inl (ks_by (fun _ => 0)))), (q1 + 1 + 2, .inl (K 0, 87040, .inl (ks_by (fun _ => 0)))), (q1 + 1 + 3, .inl (K 0, 87040, .inl (ks_by (fun _ => 0)))), (q1 + 1 + 4, .inl (K 0, 87040, .inl (ks_by (fun _ => 0))))]) [0, 1, 2, 3, 4, 5, 6] rfl rfl ?_
  exact ks_vret C Z rfl d_Marks_init_20 rfl rfl ⟨rfl, q1, rfl⟩
set_option maxRecDepth 100000 in
set_option maxHeartbeats 4000000 in
theorem i_Nodes (l : Launch) (D : va_G) (K : Nat → ClassId) (h0 x0 : Nat) : kc_M l D (ks_T K) { frames := 1, cells := 1, slots := 28, locals := 12 } y_Nodes_init b_Nodes_init 2 [.ref h0, .ref x0] [(h0, .inr (5, [.null, .null]))] (fun w => ∃ (q1 : Nat), w = [(h0, .inr (5, [.ref x0, .ref q1])), (q1, .inl (K 2, 28, .inl (ks_in (fun _ => 0))))]) := by
  refine kc_M.of 0 (by decide) rfl (Nat.le_of_ble_eq_true rfl) (fun E C I Y Z => ?_)
  refine ks_aload_n rfl rfl C d_Nodes_init_0 ?_
  refine kc_obj C lk_Nodes_5 oi_inst oi_code ⟨by decide, by decide⟩ d_Nodes_init_1 ?_
  refine ks_aload_n rfl rfl C d_Nodes_init_4 ?_
  refine ks_bipush (a := 28) rfl C d_Nodes_init_5 ?_
  refine kc_newa (atype := .int) (a0 := (28, .inl (ks_in (fun _ => 0)))) C 2 rfl rfl (fun _ _ h => h) ar_int (fun c => kc_hi c 28) (by decide) (by decide) ⟨by decide, by decide⟩ d_Nodes_init_7 (fun q1 => ?_)
  refine kc_putF (k := 1) (ws' := [(h0, .inr (5, [.null, .ref q1])), (q1, .inl (K 2, 28, .inl (ks_in (fun _ => 0))))]) C I 0 5 t_Nodes ty_Nodes nm_Nodes in_Nodes rfl (by decide) fk_Nodes_11 rfl rfl rfl rfl rfl rfl (Nat.le_of_ble_eq_true rfl) rfl d_Nodes_init_9 ?_
  refine ks_aload_n rfl rfl C d_Nodes_init_12 ?_
  refine ks_aload_n rfl rfl C d_Nodes_init_13 ?_
  refine kc_putF (k := 0) (ws' := [(h0, .inr (5, [.ref x0, .ref q1])), (q1, .inl (K 2, 28, .inl (ks_in (fun _ => 0))))]) C I 0 5 t_Nodes ty_Nodes nm_Nodes in_Nodes rfl (by decide) fk_Nodes_15 rfl rfl rfl rfl rfl rfl (Nat.le_of_ble_eq_true rfl) rfl d_Nodes_init_14 ?_
  refine ks_ord (ws' := [(h0, .inr (5, [.ref x0, .ref q1])), (q1, .inl (K 2, 28, .inl (ks_in (fun _ => 0))))]) [0, 1] rfl rfl ?_
  exact ks_vret C Z rfl d_Nodes_init_17 rfl rfl ⟨rfl, q1, rfl⟩
set_option maxRecDepth 100000 in
set_option maxHeartbeats 4000000 in
theorem i_Chains (l : Launch) (D : va_G) (K : Nat → ClassId) (h0 x0 : Nat) : kc_M l D (ks_T K) { frames := 1, cells := 0, slots := 0, locals := 12 } y_Chains_init b_Chains_init 2 [.ref h0, .ref x0] [(h0, .inr (4, [.null, .int 0, .int 0]))] (fun w => w = [(h0, .inr (4, [.ref x0, .int (nI 0), .int (nI 0)]))]) := by
  refine kc_M.of 0 (by decide) rfl (Nat.le_of_ble_eq_true rfl) (fun E C I Y Z => ?_)
  refine ks_aload_n rfl rfl C d_Chains_init_0 ?_
  refine kc_obj C lk_Chains_3 oi_inst oi_code ⟨by decide, by decide⟩ d_Chains_init_1 ?_
  refine ks_aload_n rfl rfl C d_Chains_init_4 ?_
  refine ks_iconst (a := 0) rfl C d_Chains_init_5 ?_
  refine ks_put (k := 1) (ws' := [(h0, .inr (4, [.null, .int (nI 0), .int 0]))]) C 0 4 t_Chains ty_Chains nm_Chains in_Chains rfl (by decide) fk_Chains_9 rfl rfl rfl rfl rfl (Nat.le_of_ble_eq_true rfl) rfl d_Chains_init_6 ?_
  refine ks_aload_n rfl rfl C d_Chains_init_9 ?_
  refine ks_iconst (a := 0) rfl C d_Chains_init_10 ?_
  refine ks_put (k := 2) (ws' := [(h0, .inr (4, [.null, .int (nI 0), .int (nI 0)]))]) C 0 4 t_Chains ty_Chains nm_Chains in_Chains rfl (by decide) fk_Chains_15 rfl rfl rfl rfl rfl (Nat.le_of_ble_eq_true rfl) rfl d_Chains_init_11 ?_
  refine ks_aload_n rfl rfl C d_Chains_init_14 ?_
  refine ks_aload_n rfl rfl C d_Chains_init_15 ?_
  refine kc_putF (k := 0) (ws' := [(h0, .inr (4, [.ref x0, .int (nI 0), .int (nI 0)]))]) C I 0 4 t_Chains ty_Chains nm_Chains in_Chains rfl (by decide) fk_Chains_18 rfl rfl rfl rfl rfl rfl (Nat.le_of_ble_eq_true rfl) rfl d_Chains_init_16 ?_
  refine ks_ord (ws' := [(h0, .inr (4, [.ref x0, .int (nI 0), .int (nI 0)]))]) [0] rfl rfl ?_
  exact ks_vret C Z rfl d_Chains_init_19 rfl rfl ⟨rfl, rfl⟩
set_option maxRecDepth 100000 in
set_option maxHeartbeats 4000000 in
theorem i_Trees (l : Launch) (D : va_G) (K : Nat → ClassId) (h0 x0 n0 c0 : Nat) : kc_M l D (ks_T K) { frames := 1, cells := 2, slots := 12, locals := 12 } y_Trees_init b_Trees_init 4 [.ref h0, .ref x0, .ref n0, .ref c0] [(h0, .inr (6, [.null, .null, .null, .null, .null, .int 0]))] (fun w => ∃ (q1 q2 : Nat), w = [(h0, .inr (6, [.ref x0, .ref n0, .ref c0, .ref q1, .ref q2, .int (nI 0)])), (q1, .inl (K 2, 6, .inl (ks_in (fun _ => 0)))), (q2, .inl (K 2, 6, .inl (ks_in (fun _ => 0))))]) := by
  refine kc_M.of 0 (by decide) rfl (Nat.le_of_ble_eq_true rfl) (fun E C I Y Z => ?_)
  refine ks_aload_n rfl rfl C d_Trees_init_0 ?_
  refine kc_obj C lk_Trees_3 oi_inst oi_code ⟨by decide, by decide⟩ d_Trees_init_1 ?_
  refine ks_aload_n rfl rfl C d_Trees_init_4 ?_
  refine ks_bipush (a := 6) rfl C d_Trees_init_5 ?_
  refine kc_newa (atype := .int) (a0 := (6, .inl (ks_in (fun _ => 0)))) C 2 rfl rfl (fun _ _ h => h) ar_int (fun c => kc_hi c 6) (by decide) (by decide) ⟨by decide, by decide⟩ d_Trees_init_7 (fun q1 => ?_)
  refine kc_putF (k := 3) (ws' := [(h0, .inr (6, [.null, .null, .null, .ref q1, .null, .int 0])), (q1, .inl (K 2, 6, .inl (ks_in (fun _ => 0))))]) C I 0 6 t_Trees ty_Trees nm_Trees in_Trees rfl (by decide) fk_Trees_11 rfl rfl rfl rfl rfl rfl (Nat.le_of_ble_eq_true rfl) rfl d_Trees_init_9 ?_
  refine ks_aload_n rfl rfl C d_Trees_init_12 ?_
  refine ks_bipush (a := 6) rfl C d_Trees_init_13 ?_
  refine kc_newa (atype := .int) (a0 := (6, .inl (ks_in (fun _ => 0)))) C 2 rfl rfl (fun _ _ h => h) ar_int (fun c => kc_hi c 6) (by decide) (by decide) ⟨by decide, by decide⟩ d_Trees_init_15 (fun q2 => ?_)
  refine kc_putF (k := 4) (ws' := [(h0, .inr (6, [.null, .null, .null, .ref q1, .ref q2, .int 0])), (q1, .inl (K 2, 6, .inl (ks_in (fun _ => 0)))), (q2, .inl (K 2, 6, .inl (ks_in (fun _ => 0))))]) C I 0 6 t_Trees ty_Trees nm_Trees in_Trees rfl (by decide) fk_Trees_17 rfl rfl rfl rfl rfl rfl (Nat.le_of_ble_eq_true rfl) rfl d_Trees_init_17 ?_
  refine ks_aload_n rfl rfl C d_Trees_init_20 ?_
  refine ks_iconst (a := 0) rfl C d_Trees_init_21 ?_
  refine ks_put (k := 5) (ws' := [(h0, .inr (6, [.null, .null, .null, .ref q1, .ref q2, .int (nI 0)])), (q1, .inl (K 2, 6, .inl (ks_in (fun _ => 0)))), (q2, .inl (K 2, 6, .inl (ks_in (fun _ => 0))))]) C 0 6 t_Trees ty_Trees nm_Trees in_Trees rfl (by decide) fk_Trees_20 rfl rfl rfl rfl rfl (Nat.le_of_ble_eq_true rfl) rfl d_Trees_init_22 ?_
  refine ks_aload_n rfl rfl C d_Trees_init_25 ?_
  refine ks_aload_n rfl rfl C d_Trees_init_26 ?_
  refine kc_putF (k := 0) (ws' := [(h0, .inr (6, [.ref x0, .null, .null, .ref q1, .ref q2, .int (nI 0)])), (q1, .inl (K 2, 6, .inl (ks_in (fun _ => 0)))), (q2, .inl (K 2, 6, .inl (ks_in (fun _ => 0))))]) C I 0 6 t_Trees ty_Trees nm_Trees in_Trees rfl (by decide) fk_Trees_24 rfl rfl rfl rfl rfl rfl (Nat.le_of_ble_eq_true rfl) rfl d_Trees_init_27 ?_
  refine ks_aload_n rfl rfl C d_Trees_init_30 ?_
  refine ks_aload_n rfl rfl C d_Trees_init_31 ?_
  refine kc_putF (k := 1) (ws' := [(h0, .inr (6, [.ref x0, .ref n0, .null, .ref q1, .ref q2, .int (nI 0)])), (q1, .inl (K 2, 6, .inl (ks_in (fun _ => 0)))), (q2, .inl (K 2, 6, .inl (ks_in (fun _ => 0))))]) C I 0 6 t_Trees ty_Trees nm_Trees in_Trees rfl (by decide) fk_Trees_28 rfl rfl rfl rfl rfl rfl (Nat.le_of_ble_eq_true rfl) rfl d_Trees_init_32 ?_
  refine ks_aload_n rfl rfl C d_Trees_init_35 ?_
  refine ks_aload_n rfl rfl C d_Trees_init_36 ?_
  refine kc_putF (k := 2) (ws' := [(h0, .inr (6, [.ref x0, .ref n0, .ref c0, .ref q1, .ref q2, .int (nI 0)])), (q1, .inl (K 2, 6, .inl (ks_in (fun _ => 0)))), (q2, .inl (K 2, 6, .inl (ks_in (fun _ => 0))))]) C I 0 6 t_Trees ty_Trees nm_Trees in_Trees rfl (by decide) fk_Trees_32 rfl rfl rfl rfl rfl rfl (Nat.le_of_ble_eq_true rfl) rfl d_Trees_init_37 ?_
  refine ks_ord (ws' := [(h0, .inr (6, [.ref x0, .ref n0, .ref c0, .ref q1, .ref q2, .int (nI 0)])), (q1, .inl (K 2, 6, .inl (ks_in (fun _ => 0)))), (q2, .inl (K 2, 6, .inl (ks_in (fun _ => 0))))]) [0, 1, 2] rfl rfl ?_
  exact ks_vret C Z rfl d_Trees_init_40 rfl rfl ⟨rfl, q1, q2, rfl⟩
set_option maxRecDepth 100000 in
set_option maxHeartbeats 4000000 in
theorem i_Checker (l : Launch) (D : va_G) (K : Nat → ClassId) (h0 x0 n0 c0 t0 : Nat) : kc_M l D (ks_T K) { frames := 2, cells := 3, slots := 11170, locals := 32 } y_Checker_init b_Checker_init 5 [.ref h0, .ref x0, .ref n0, .ref c0, .ref t0] [(h0, .inr (7, [.null, .null, .null, .null, .null, .null, .int 0, .int 0, .int 0]))] (fun w => ∃ (q1 q2 q2_1 : Nat), w = [(h0, .inr (7, [.ref x0, .ref n0, .ref c0, .ref t0, .ref q1, .ref q2, .int (nI 0), .int (nI 0), .int (nI 0)])), (q1, .inl (K 1, 2720, .inl (ks_bo (fun _ => false)))), (q2, .inr (0, [.ref q2_1, .int (nI 0)])), (q2_1, .inl (K 0, 8448, .inl (ks_by (fun _ => 0))))]) := by
  refine kc_M.of 0 (by decide) rfl (Nat.le_of_ble_eq_true rfl) (fun E C I Y Z => ?_)
  refine ks_aload_n rfl rfl C d_Checker_init_0 ?_
  refine kc_obj C lk_Checker_3 oi_inst oi_code ⟨by decide, by decide⟩ d_Checker_init_1 ?_
  refine ks_aload_n rfl rfl C d_Checker_init_4 ?_
  refine ks_sipush (a := 2720) rfl C d_Checker_init_5 ?_
  refine kc_newa (atype := .boolean) (a0 := (2720, .inl (ks_bo (fun _ => false)))) C 1 rfl rfl (fun _ _ h => h) ar_bool (fun c => kc_hz c 2720) (by decide) (by decide) ⟨by decide, by decide⟩ d_Checker_init_8 (fun q1 => ?_)
  refine kc_putF (k := 4) (ws' := [(h0, .inr (7, [.null, .null, .null, .null, .ref q1, .null, .int 0, .int 0, .int 0])), (q1, .inl (K 1, 2720, .inl (ks_bo (fun _ => false))))]) C I 0 7 t_Checker ty_Checker nm_Checker in_Checker rfl (by decide) fk_Checker_9 rfl rfl rfl rfl rfl rfl (Nat.le_of_ble_eq_true rfl) rfl d_Checker_init_10 ?_
  refine ks_aload_n rfl rfl C d_Checker_init_13 ?_
  refine kc_new (ci := 0) (fs := [.null, .int 0]) C t_Row ty_Row in_Row rfl kk_Checker_15 is_Row ini_Row hd_Row ⟨by decide, by decide⟩ d_Checker_init_14 (fun q2 => ?_)
  refine ks_dup rfl C d_Checker_init_17 ?_
  refine kc_callN (wr := [(h0, .inr (7, [.null, .null, .null, .null, .ref q1, .null, .int 0, .int 0, .int 0])), (q1, .inl (K 1, 2720, .inl (ks_bo (fun _ => false))))]) (As := []) C Y (i_Row l D K q2) yw_Row_init rfl (fun U h => h.2.2.2.2.2) [2] [0, 1] rfl rfl rfl rfl (by decide) ⟨by decide, by decide⟩ ⟨by decide, by decide⟩ rfl rfl (Nat.le_of_ble_eq_true rfl) d_Checker_init_18 (fun w1 hw1 => ?_)
  obtain ⟨q2_1, rfl⟩ := hw1
  refine kc_putF (k := 5) (ws' := [(h0, .inr (7, [.null, .null, .null, .null, .ref q1, .ref q2, .int 0, .int 0, .int 0])), (q1, .inl (K 1, 2720, .inl (ks_bo (fun _ => false)))), (q2, .inr (0, [.ref q2_1, .int (nI 0)])), (q2_1, .inl (K 0, 8448, .inl (ks_by (fun _ => 0))))]) C I 0 7 t_Checker ty_Checker nm_Checker in_Checker rfl (by decide) fk_Checker_18 rfl rfl rfl rfl rfl rfl (Nat.le_of_ble_eq_true rfl) rfl d_Checker_init_21 ?_
  refine ks_aload_n rfl rfl C d_Checker_init_24 ?_
  refine ks_iconst (a := 0) rfl C d_Checker_init_25 ?_
  refine ks_put (k := 6) (ws' := [(h0, .inr (7, [.null, .null, .null, .null, .ref q1, .ref q2, .int (nI 0), .int 0, .int 0])), (q1, .inl (K 1, 2720, .inl (ks_bo (fun _ => false)))), (q2, .inr (0, [.ref q2_1, .int (nI 0)])), (q2_1, .inl (K 0, 8448, .inl (ks_by (fun _ => 0))))]) C 0 7 t_Checker ty_Checker nm_Checker in_Checker rfl (by decide) fk_Checker_22 rfl rfl rfl rfl rfl (Nat.le_of_ble_eq_true rfl) rfl d_Checker_init_26 ?_
  refine ks_aload_n rfl rfl C d_Checker_init_29 ?_
  refine ks_iconst (a := 0) rfl C d_Checker_init_30 ?_
  refine ks_put (k := 7) (ws' := [(h0, .inr (7, [.null, .null, .null, .null, .ref q1, .ref q2, .int (nI 0), .int (nI 0), .int 0])), (q1, .inl (K 1, 2720, .inl (ks_bo (fun _ => false)))), (q2, .inr (0, [.ref q2_1, .int (nI 0)])), (q2_1, .inl (K 0, 8448, .inl (ks_by (fun _ => 0))))]) C 0 7 t_Checker ty_Checker nm_Checker in_Checker rfl (by decide) fk_Checker_26 rfl rfl rfl rfl rfl (Nat.le_of_ble_eq_true rfl) rfl d_Checker_init_31 ?_
  refine ks_aload_n rfl rfl C d_Checker_init_34 ?_
  refine ks_iconst (a := 0) rfl C d_Checker_init_35 ?_
  refine ks_put (k := 8) (ws' := [(h0, .inr (7, [.null, .null, .null, .null, .ref q1, .ref q2, .int (nI 0), .int (nI 0), .int (nI 0)])), (q1, .inl (K 1, 2720, .inl (ks_bo (fun _ => false)))), (q2, .inr (0, [.ref q2_1, .int (nI 0)])), (q2_1, .inl (K 0, 8448, .inl (ks_by (fun _ => 0))))]) C 0 7 t_Checker ty_Checker nm_Checker in_Checker rfl (by decide) fk_Checker_29 rfl rfl rfl rfl rfl (Nat.le_of_ble_eq_true rfl) rfl d_Checker_init_36 ?_
  refine ks_aload_n rfl rfl C d_Checker_init_39 ?_
  refine ks_aload_n rfl rfl C d_Checker_init_40 ?_
  refine kc_putF (k := 0) (ws' := [(h0, .inr (7, [.ref x0, .null, .null, .null, .ref q1, .ref q2, .int (nI 0), .int (nI 0), .int (nI 0)])), (q1, .inl (K 1, 2720, .inl (ks_bo (fun _ => false)))), (q2, .inr (0, [.ref q2_1, .int (nI 0)])), (q2_1, .inl (K 0, 8448, .inl (ks_by (fun _ => 0))))]) C I 0 7 t_Checker ty_Checker nm_Checker in_Checker rfl (by decide) fk_Checker_32 rfl rfl rfl rfl rfl rfl (Nat.le_of_ble_eq_true rfl) rfl d_Checker_init_41 ?_
  refine ks_aload_n rfl rfl C d_Checker_init_44 ?_
  refine ks_aload_n rfl rfl C d_Checker_init_45 ?_
  refine kc_putF (k := 1) (ws' := [(h0, .inr (7, [.ref x0, .ref n0, .null, .null, .ref q1, .ref q2, .int (nI 0), .int (nI 0), .int (nI 0)])), (q1, .inl (K 1, 2720, .inl (ks_bo (fun _ => false)))), (q2, .inr (0, [.ref q2_1, .int (nI 0)])), (q2_1, .inl (K 0, 8448, .inl (ks_by (fun _ => 0))))]) C I 0 7 t_Checker ty_Checker nm_Checker in_Checker rfl (by decide) fk_Checker_36 rfl rfl rfl rfl rfl rfl (Nat.le_of_ble_eq_true rfl) rfl d_Checker_init_46 ?_
  refine ks_aload_n rfl rfl C d_Checker_init_49 ?_
  refine ks_aload_n rfl rfl C d_Checker_init_50 ?_
  refine kc_putF (k := 2) (ws' := [(h0, .inr (7, [.ref x0, .ref n0, .ref c0, .null, .ref q1, .ref q2, .int (nI 0), .int (nI 0), .int (nI 0)])), (q1, .inl (K 1, 2720, .inl (ks_bo (fun _ => false)))), (q2, .inr (0, [.ref q2_1, .int (nI 0)])), (q2_1, .inl (K 0, 8448, .inl (ks_by (fun _ => 0))))]) C I 0 7 t_Checker ty_Checker nm_Checker in_Checker rfl (by decide) fk_Checker_40 rfl rfl rfl rfl rfl rfl (Nat.le_of_ble_eq_true rfl) rfl d_Checker_init_51 ?_
  refine ks_aload_n rfl rfl C d_Checker_init_54 ?_
  refine ks_aload rfl C d_Checker_init_55 ?_
  refine kc_putF (k := 3) (ws' := [(h0, .inr (7, [.ref x0, .ref n0, .ref c0, .ref t0, .ref q1, .ref q2, .int (nI 0), .int (nI 0), .int (nI 0)])), (q1, .inl (K 1, 2720, .inl (ks_bo (fun _ => false)))), (q2, .inr (0, [.ref q2_1, .int (nI 0)])), (q2_1, .inl (K 0, 8448, .inl (ks_by (fun _ => 0))))]) C I 0 7 t_Checker ty_Checker nm_Checker in_Checker rfl (by decide) fk_Checker_44 rfl rfl rfl rfl rfl rfl (Nat.le_of_ble_eq_true rfl) rfl d_Checker_init_57 ?_
  refine ks_ord (ws' := [(h0, .inr (7, [.ref x0, .ref n0, .ref c0, .ref t0, .ref q1, .ref q2, .int (nI 0), .int (nI 0), .int (nI 0)])), (q1, .inl (K 1, 2720, .inl (ks_bo (fun _ => false)))), (q2, .inr (0, [.ref q2_1, .int (nI 0)])), (q2_1, .inl (K 0, 8448, .inl (ks_by (fun _ => 0))))]) [0, 1, 2, 3] rfl rfl ?_
  exact ks_vret C Z rfl d_Checker_init_60 rfl rfl ⟨rfl, q1, q2, q2_1, rfl⟩
