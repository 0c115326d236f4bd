/-! contracts of rows and pages -/
set_option maxRecDepth 100000 in
set_option maxHeartbeats 4000000 in
theorem c_Row_length (l : Launch) (D : va_G) (K : Nat → ClassId) (r0 r1 : Nat) (R : Nat → UInt8) (len : Nat) : ks_M l D (ks_T K) (ks_R 0) y_Row_length b_Row_length 1 (some .int) [.ref r0] (kw_row K r0 r1 R len) (ks_f (some (.int (nI len))) (kw_row K r0 r1 R len)) := by
  refine ks_M.of 0 (by decide) (Nat.le_of_ble_eq_true rfl) ?_
  intro E C Z
  refine ks_aload_n rfl rfl C d_Row_length_0 ?_
  refine ks_get (k := 1) C 0 0 in_Row rfl (by decide) fk_Row_15 rfl rfl rfl d_Row_length_1 ?_
  exact ks_iret C Z rfl rfl d_Row_length_4 rfl rfl ⟨rfl, rfl⟩
set_option maxRecDepth 100000 in
set_option maxHeartbeats 4000000 in
theorem c_Row_clear (l : Launch) (D : va_G) (K : Nat → ClassId) (r0 r1 : Nat) (R : Nat → UInt8) (len : Nat) : ks_M l D (ks_T K) (ks_R 0) y_Row_clear b_Row_clear 1 none [.ref r0] (kw_row K r0 r1 R len) (ks_f none (kw_row K r0 r1 R 0)) := by
  refine ks_M.of 0 (by decide) (Nat.le_of_ble_eq_true rfl) ?_
  intro E C Z
  refine ks_aload_n rfl rfl C d_Row_clear_0 ?_
  refine ks_iconst (a := 0) rfl C d_Row_clear_1 ?_
  refine ks_put (k := 1) (ws' := (kw_row K r0 r1 _ _)) C 0 0 t_Row ty_Row nm_Row in_Row rfl (by decide) fk_Row_15 rfl rfl rfl rfl rfl (Nat.le_of_ble_eq_true rfl) rfl d_Row_clear_2 ?_
  exact ks_vret C Z rfl d_Row_clear_5 rfl rfl ⟨rfl, rfl⟩
set_option maxRecDepth 100000 in
set_option maxHeartbeats 4000000 in
theorem c_Row_hasRoom (l : Launch) (D : va_G) (K : Nat → ClassId) (r0 r1 : Nat) (R : Nat → UInt8) (len : Nat) (n : Nat) (h1 : len ≤ 8448) (h2 : n < 2147483648) : ks_M l D (ks_T K) (ks_R 0) y_Row_hasRoom b_Row_hasRoom 2 (some .boolean) [.ref r0, .int (nI n)] (kw_row K r0 r1 R len) (ks_f (some (.int (ks_b (decide (n ≤ 8448 - len))))) (kw_row K r0 r1 R len)) := by
  refine ks_M.of 0 (by decide) (Nat.le_of_ble_eq_true rfl) ?_
  intro E C Z
  refine ks_iload_n rfl rfl C d_Row_hasRoom_0 ?_
  refine ks_iflt0 (tgt := 20) C (by omega) d_Row_hasRoom_1 (by decide) ?_
  refine ks_iload_n rfl rfl C d_Row_hasRoom_4 ?_
  refine ks_sipush (a := 8448) rfl C d_Row_hasRoom_5 ?_
  refine ks_aload_n rfl rfl C d_Row_hasRoom_8 ?_
  refine ks_get (k := 1) C 0 0 in_Row rfl (by decide) fk_Row_15 rfl rfl rfl d_Row_hasRoom_9 ?_
  refine ks_isub (by omega) C d_Row_hasRoom_12 ?_
  refine ks_icmp_gt (tgt := 20) C (by omega) (by omega) (by decide) d_Row_hasRoom_13 (fun u2 => ?_) (fun u2 => ?_)
  · refine ks_iconstB false rfl C d_Row_hasRoom_20 ?_
    exact ks_iret C Z rfl (ks_nb1 _) d_Row_hasRoom_21 rfl rfl ⟨ks_eqF (by omega), rfl⟩
  · refine ks_iconstB true rfl C d_Row_hasRoom_16 ?_
    refine ks_goto (tgt := 21) C (by decide) d_Row_hasRoom_17 ?_
    exact ks_iret C Z rfl (ks_nb1 _) d_Row_hasRoom_21 rfl rfl ⟨ks_eqT (by omega), rfl⟩
set_option maxRecDepth 100000 in
set_option maxHeartbeats 4000000 in
theorem c_Row_appendFrom (l : Launch) (D : va_G) (K : Nat → ClassId) (r0 r1 f0 : Nat) (R : Nat → UInt8) (len : Nat) (F : Nat → UInt8) (fl a n : Nat) (h1 : len ≤ 8448) (h2 : n < 1073741824) (h3 : a < 1073741824) (h4 : fl < 1073741824) : ks_M l D (ks_T K) (ks_R 1) y_Row_appendFrom b_Row_appendFrom 4 none [.ref r0, .ref f0, .int (nI a), .int (nI n)] (kw_row K r0 r1 R len ++ kw_arr K f0 fl F) (ks_f none (kw_row K r0 r1 (kv_from R len F fl a n).1 (kv_from R len F fl a n).2 ++ kw_arr K f0 fl F)) := by
  refine ks_M.of 0 (by decide) (Nat.le_of_ble_eq_true rfl) ?_
  intro E C Z
  refine ks_aload_n rfl rfl C d_Row_appendFrom_0 ?_
  refine ks_iload_n rfl rfl C d_Row_appendFrom_1 ?_
  refine ks_cx (ci := 0) (q0 := 0) (kw_row K r0 r1 _ _ ++ kw_arr K f0 fl _) C (c_Row_hasRoom l D K r0 r1 _ _ _ (by omega) (by omega)) yw_Row_hasRoom sel_Row_hasRoom lk_Row_19 d_Row_appendFrom_2 rfl rfl rfl [0, 1] [2] [1, 2, 0] rfl rfl rfl rfl (by decide) rfl rfl rfl rfl rfl ⟨by decide, by decide⟩ ⟨by decide, by decide⟩ rfl (Nat.le_of_ble_eq_true rfl) ?_
  refine ks_ifD_eq (tgt := 20) C (by decide) d_Row_appendFrom_5 (fun u1 => ?_) (fun u1 => ?_)
  · exact ks_vret C Z rfl d_Row_appendFrom_20 rfl rfl ⟨rfl, by rw [kv_from, if_neg (by omega)]⟩
  · refine ks_iload_n rfl rfl C d_Row_appendFrom_8 ?_
    refine ks_iflt0 (tgt := 20) C (by omega) d_Row_appendFrom_9 (by decide) ?_
    refine ks_iload_n rfl rfl C d_Row_appendFrom_12 ?_
    refine ks_aload_n rfl rfl C d_Row_appendFrom_13 ?_
    refine ks_alen C 2 0 rfl rfl d_Row_appendFrom_14 ?_
    refine ks_iload_n rfl rfl C d_Row_appendFrom_15 ?_
    refine ks_isubI C d_Row_appendFrom_16 ?_
    refine ks_icmpS_le (tgt := 21) C (by omega) (by omega) (by omega) (by decide) d_Row_appendFrom_17 (fun u3 => ?_) (fun u3 => ?_)
    · refine ks_aload_n rfl rfl C d_Row_appendFrom_21 ?_
      refine ks_iload_n rfl rfl C d_Row_appendFrom_22 ?_
      refine ks_aload_n rfl rfl C d_Row_appendFrom_23 ?_
      refine ks_get (k := 0) C 0 0 in_Row rfl (by decide) fk_Row_9 rfl rfl rfl d_Row_appendFrom_24 ?_
      refine ks_aload_n rfl rfl C d_Row_appendFrom_27 ?_
      refine ks_get (k := 1) C 0 0 in_Row rfl (by decide) fk_Row_15 rfl rfl rfl d_Row_appendFrom_28 ?_
      refine ks_iload_n rfl rfl C d_Row_appendFrom_31 ?_
      refine ks_copy (ws' := (kw_row K r0 r1 _ _ ++ kw_arr K f0 fl _)) C 2 1 0 rfl lk_Row_23 wm_copy rfl rfl (by omega) (by omega) (by omega) (by omega) (by decide) (Nat.le_of_ble_eq_true rfl) rfl d_Row_appendFrom_32 ?_
      refine ks_aload_n rfl rfl C d_Row_appendFrom_35 ?_
      refine ks_dup rfl C d_Row_appendFrom_36 ?_
      refine ks_get (k := 1) C 0 0 in_Row rfl (by decide) fk_Row_15 rfl rfl rfl d_Row_appendFrom_37 ?_
      refine ks_iload_n rfl rfl C d_Row_appendFrom_40 ?_
      refine ks_iadd C d_Row_appendFrom_41 ?_
      refine ks_put (k := 1) (ws' := (kw_row K r0 r1 _ _ ++ kw_arr K f0 fl _)) C 0 0 t_Row ty_Row nm_Row in_Row rfl (by decide) fk_Row_15 rfl rfl rfl rfl rfl (Nat.le_of_ble_eq_true rfl) rfl d_Row_appendFrom_42 ?_
      exact ks_vret C Z rfl d_Row_appendFrom_45 rfl rfl ⟨rfl, by rw [kv_from, if_pos (by omega)]⟩
    · exact ks_vret C Z rfl d_Row_appendFrom_20 rfl rfl ⟨rfl, by rw [kv_from, if_neg (by omega)]⟩
set_option maxRecDepth 100000 in
set_option maxHeartbeats 4000000 in
theorem c_Pages_bytes (l : Launch) (D : va_G) (K : Nat → ClassId) (x0 x1 x2 : Nat) (B : Nat → UInt8) (G : Nat → Bool) : ks_M l D (ks_T K) (ks_R 0) y_Pages_bytes b_Pages_bytes 1 (some (.array .byte)) [.ref x0] (kw_pages K x0 x1 x2 B G) (ks_f (some (.ref x1)) (kw_pages K x0 x1 x2 B G)) := by
  refine ks_M.of 0 (by decide) (Nat.le_of_ble_eq_true rfl) ?_
  intro E C Z
  refine ks_aload_n rfl rfl C d_Pages_bytes_0 ?_
  refine ks_get (k := 0) C 0 1 in_Pages rfl (by decide) fk_Pages_10 rfl rfl rfl d_Pages_bytes_1 ?_
  exact ks_aret C Z rfl d_Pages_bytes_4 rfl rfl ⟨rfl, rfl⟩
set_option maxRecDepth 100000 in
set_option maxHeartbeats 4000000 in
theorem c_Pages_number (l : Launch) (D : va_G) (K : Nat → ClassId) (x0 x1 x2 : Nat) (B : Nat → UInt8) (G : Nat → Bool) (a : Nat) (h1 : a < 2147483648) : ks_M l D (ks_T K) (ks_R 0) y_Pages_number b_Pages_number 2 (some .int) [.ref x0, .int (nI a)] (kw_pages K x0 x1 x2 B G) (ks_f (some (.int (nI (kv_num B a)))) (kw_pages K x0 x1 x2 B G)) := by
  refine ks_M.of 0 (by decide) (Nat.le_of_ble_eq_true rfl) ?_
  intro E C Z
  refine ks_iload_n rfl rfl C d_Pages_number_0 ?_
  refine ks_iflt0 (tgt := 10) C (by omega) d_Pages_number_1 (by decide) ?_
  refine ks_iload_n rfl rfl C d_Pages_number_4 ?_
  refine ks_ldc ck_Pages_40 C d_Pages_number_5 ?_
  refine ks_icmp_le (tgt := 12) C (by omega) (by omega) (by decide) d_Pages_number_7 (fun u2 => ?_) (fun u2 => ?_)
  · refine ks_aload_n rfl rfl C d_Pages_number_12 ?_
    refine ks_get (k := 0) C 0 1 in_Pages rfl (by decide) fk_Pages_10 rfl rfl rfl d_Pages_number_13 ?_
    refine ks_iload_n rfl rfl C d_Pages_number_16 ?_
    refine ks_bald C 1 0 rfl rfl (by omega) (by omega) d_Pages_number_17 d_Pages_number_18 d_Pages_number_21 ?_
    refine ks_top_byte (fun u3 => ?_)
    refine ks_bipush (a := 8) rfl C d_Pages_number_22 ?_
    refine ks_ishl8 (by omega) C d_Pages_number_24 ?_
    refine ks_aload_n rfl rfl C d_Pages_number_25 ?_
    refine ks_get (k := 0) C 0 1 in_Pages rfl (by decide) fk_Pages_10 rfl rfl rfl d_Pages_number_26 ?_
    refine ks_iload_n rfl rfl C d_Pages_number_29 ?_
    refine ks_iconst (a := 1) rfl C d_Pages_number_30 ?_
    refine ks_iadd C d_Pages_number_31 ?_
    refine ks_bald C 1 0 rfl rfl (by omega) (by omega) d_Pages_number_32 d_Pages_number_33 d_Pages_number_36 ?_
    refine ks_top_byte (fun u4 => ?_)
    refine ks_ior8 (by omega) C d_Pages_number_37 ?_
    exact ks_iret C Z rfl rfl d_Pages_number_38 rfl rfl ⟨ks_eqN (by unfold kv_num; rw [if_pos (by omega)]), rfl⟩
  · refine ks_iconst (a := 0) rfl C d_Pages_number_10 ?_
    exact ks_iret C Z rfl rfl d_Pages_number_11 rfl rfl ⟨ks_eqN (by unfold kv_num; rw [if_neg (by omega)]), rfl⟩
set_option maxRecDepth 100000 in
set_option maxHeartbeats 4000000 in
theorem c_Pages_setNumber (l : Launch) (D : va_G) (K : Nat → ClassId) (x0 x1 x2 : Nat) (B : Nat → UInt8) (G : Nat → Bool) (a n : Nat) (h1 : a < 2147483648) : ks_M l D (ks_T K) (ks_R 0) y_Pages_setNumber b_Pages_setNumber 3 none [.ref x0, .int (nI a), .int (nI n)] (kw_pages K x0 x1 x2 B G) (ks_f none (kw_pages K x0 x1 x2 (kv_setN (B, G) a n).1 (kv_setN (B, G) a n).2)) := by
  refine ks_M.of 0 (by decide) (Nat.le_of_ble_eq_true rfl) ?_
  intro E C Z
  refine ks_iload_n rfl rfl C d_Pages_setNumber_0 ?_
  refine ks_iflt0 (tgt := 10) C (by omega) d_Pages_setNumber_1 (by decide) ?_
  refine ks_iload_n rfl rfl C d_Pages_setNumber_4 ?_
  refine ks_ldc ck_Pages_40 C d_Pages_setNumber_5 ?_
  refine ks_icmp_le (tgt := 11) C (by omega) (by omega) (by decide) d_Pages_setNumber_7 (fun u2 => ?_) (fun u2 => ?_)
  · refine ks_aload_n rfl rfl C d_Pages_setNumber_11 ?_
    refine ks_get (k := 0) C 0 1 in_Pages rfl (by decide) fk_Pages_10 rfl rfl rfl d_Pages_setNumber_12 ?_
    refine ks_iload_n rfl rfl C d_Pages_setNumber_15 ?_
    refine ks_iload_n rfl rfl C d_Pages_setNumber_16 ?_
    refine ks_bipush (a := 8) rfl C d_Pages_setNumber_17 ?_
    refine ks_ishrI C d_Pages_setNumber_19 ?_
    refine ks_i2b C d_Pages_setNumber_20 ?_
    refine ks_bast (ws' := (kw_pages K x0 x1 x2 _ _)) C 1 0 rfl rfl (by omega) (by omega) (ks_nb8 _) rfl d_Pages_setNumber_21 ?_
    refine ks_aload_n rfl rfl C d_Pages_setNumber_22 ?_
    refine ks_get (k := 0) C 0 1 in_Pages rfl (by decide) fk_Pages_10 rfl rfl rfl d_Pages_setNumber_23 ?_
    refine ks_iload_n rfl rfl C d_Pages_setNumber_26 ?_
    refine ks_iconst (a := 1) rfl C d_Pages_setNumber_27 ?_
    refine ks_iadd C d_Pages_setNumber_28 ?_
    refine ks_iload_n rfl rfl C d_Pages_setNumber_29 ?_
    refine ks_i2b C d_Pages_setNumber_30 ?_
    refine ks_bast (ws' := (kw_pages K x0 x1 x2 _ _)) C 1 0 rfl rfl (by omega) (by omega) (ks_nb _) rfl d_Pages_setNumber_31 ?_
    refine ks_aload_n rfl rfl C d_Pages_setNumber_32 ?_
    refine ks_get (k := 1) C 0 1 in_Pages rfl (by decide) fk_Pages_16 rfl rfl rfl d_Pages_setNumber_33 ?_
    refine ks_iload_n rfl rfl C d_Pages_setNumber_36 ?_
    refine ks_bipush (a := 32) rfl C d_Pages_setNumber_37 ?_
    refine ks_idiv (by omega) (by decide) (by decide) C d_Pages_setNumber_39 ?_
    refine ks_iconstB true rfl C d_Pages_setNumber_40 ?_
    refine ks_zast (ws' := (kw_pages K x0 x1 x2 _ _)) C 2 1 rfl rfl (by omega) (by omega) (ks_nz _) rfl d_Pages_setNumber_41 ?_
    exact ks_vret C Z rfl d_Pages_setNumber_42 rfl rfl ⟨rfl, by unfold kv_setN; rw [if_pos (by omega)]⟩
  · exact ks_vret C Z rfl d_Pages_setNumber_10 rfl rfl ⟨rfl, by unfold kv_setN; rw [if_neg (by omega)]⟩
set_option maxRecDepth 100000 in
set_option maxHeartbeats 4000000 in
theorem c_Pages_addTo (l : Launch) (D : va_G) (K : Nat → ClassId) (x0 x1 x2 : Nat) (B : Nat → UInt8) (G : Nat → Bool) (a n : Nat) (h1 : a < 2147483648) : ks_M l D (ks_T K) (ks_R 1) y_Pages_addTo b_Pages_addTo 3 none [.ref x0, .int (nI a), .int (nI n)] (kw_pages K x0 x1 x2 B G) (ks_f none (kw_pages K x0 x1 x2 (kv_addTo (B, G) a n).1 (kv_addTo (B, G) a n).2)) := by
  refine ks_M.of 0 (by decide) (Nat.le_of_ble_eq_true rfl) ?_
  intro E C Z
  refine ks_aload_n rfl rfl C d_Pages_addTo_0 ?_
  refine ks_iload_n rfl rfl C d_Pages_addTo_1 ?_
  refine ks_aload_n rfl rfl C d_Pages_addTo_2 ?_
  refine ks_iload_n rfl rfl C d_Pages_addTo_3 ?_
  refine ks_cx (ci := 1) (q0 := 0) (kw_pages K x0 x1 x2 _ _) C (c_Pages_number l D K x0 x1 x2 _ _ _ (by omega)) yw_Pages_number sel_Pages_number lk_Pages_26 d_Pages_addTo_4 rfl rfl rfl [0, 1, 2] [] [0, 1, 2] rfl rfl rfl rfl (by decide) rfl rfl rfl rfl rfl ⟨by decide, by decide⟩ ⟨by decide, by decide⟩ rfl (Nat.le_of_ble_eq_true rfl) ?_
  refine ks_top_num (fun u1 => ?_)
  refine ks_iload_n rfl rfl C d_Pages_addTo_7 ?_
  refine ks_iadd C d_Pages_addTo_8 ?_
  refine ks_cv (ci := 1) (q0 := 0) (kw_pages K x0 x1 x2 _ _) C (c_Pages_setNumber l D K x0 x1 x2 _ _ _ _ (by omega)) yw_Pages_setNumber sel_Pages_setNumber lk_Pages_41 d_Pages_addTo_9 rfl rfl rfl [0, 1, 2] [] [0, 1, 2] rfl rfl rfl rfl (by decide) rfl rfl rfl rfl rfl ⟨by decide, by decide⟩ ⟨by decide, by decide⟩ rfl (Nat.le_of_ble_eq_true rfl) ?_
  exact ks_vret C Z rfl d_Pages_addTo_12 rfl rfl ⟨rfl, rfl⟩
set_option maxRecDepth 100000 in
set_option maxHeartbeats 4000000 in
theorem c_Pages_used (l : Launch) (D : va_G) (K : Nat → ClassId) (x0 x1 x2 : Nat) (B : Nat → UInt8) (G : Nat → Bool) : ks_M l D (ks_T K) (ks_R 1) y_Pages_used b_Pages_used 1 (some .int) [.ref x0] (kw_pages K x0 x1 x2 B G) (ks_f (some (.int (nI (kv_used B)))) (kw_pages K x0 x1 x2 B G)) := by
  refine ks_M.of 0 (by decide) (Nat.le_of_ble_eq_true rfl) ?_
  intro E C Z
  refine ks_aload_n rfl rfl C d_Pages_used_0 ?_
  refine ks_iconst (a := 0) rfl C d_Pages_used_1 ?_
  refine ks_cx (ci := 1) (q0 := 0) (kw_pages K x0 x1 x2 _ _) C (c_Pages_number l D K x0 x1 x2 _ _ _ (by omega)) yw_Pages_number sel_Pages_number lk_Pages_26 d_Pages_used_2 rfl rfl rfl [0, 1, 2] [] [0, 1, 2] rfl rfl rfl rfl (by decide) rfl rfl rfl rfl rfl ⟨by decide, by decide⟩ ⟨by decide, by decide⟩ rfl (Nat.le_of_ble_eq_true rfl) ?_
  refine ks_top_num (fun u1 => ?_)
  refine ks_sipush (a := 2711) rfl C d_Pages_used_5 ?_
  refine ks_min C lk_Pages_30 wm_min (by omega) (by omega) (by decide) (Nat.le_of_ble_eq_true rfl) (by decide) (by decide) d_Pages_used_8 ?_
  exact ks_iret C Z rfl rfl d_Pages_used_11 rfl rfl ⟨rfl, rfl⟩
set_option maxRecDepth 100000 in
set_option maxHeartbeats 4000000 in
theorem c_Pages_saveTo (l : Launch) (D : va_G) (K : Nat → ClassId) (x0 x1 x2 : Nat) (B : Nat → UInt8) (G : Nat → Bool) (s0 : Nat) (F : Nat → UInt8) : ks_M l D (ks_T K) (ks_R 2) y_Pages_saveTo b_Pages_saveTo 2 none [.ref x0, .ref s0] (kw_pages K x0 x1 x2 B G ++ kw_arr K s0 87040 F) (ks_f none (kw_pages K x0 x1 x2 B G ++ kw_arr K s0 87040 (va_cpy B F 0 0 (288 + kv_used B * 32)))) := by
  refine ks_M.of 0 (by decide) (Nat.le_of_ble_eq_true rfl) ?_
  intro E C Z
  refine ks_aload_n rfl rfl C d_Pages_saveTo_0 ?_
  refine ks_get (k := 0) C 0 1 in_Pages rfl (by decide) fk_Pages_10 rfl rfl rfl d_Pages_saveTo_1 ?_
  refine ks_iconst (a := 0) rfl C d_Pages_saveTo_4 ?_
  refine ks_aload_n rfl rfl C d_Pages_saveTo_5 ?_
  refine ks_iconst (a := 0) rfl C d_Pages_saveTo_6 ?_
  refine ks_sipush (a := 288) rfl C d_Pages_saveTo_7 ?_
  refine ks_aload_n rfl rfl C d_Pages_saveTo_10 ?_
  refine ks_cx (ci := 1) (q0 := 0) (kw_pages K x0 x1 x2 _ _ ++ kw_arr K s0 87040 _) C (c_Pages_used l D K x0 x1 x2 _ _) yw_Pages_used sel_Pages_used lk_Pages_36 d_Pages_saveTo_11 rfl rfl rfl [0, 1, 2] [3] [1, 2, 3, 0] rfl rfl rfl rfl (by decide) rfl rfl rfl rfl rfl ⟨by decide, by decide⟩ ⟨by decide, by decide⟩ rfl (Nat.le_of_ble_eq_true rfl) ?_
  refine ks_top_used (fun u1 => ?_)
  refine ks_bipush (a := 32) rfl C d_Pages_saveTo_14 ?_
  refine ks_imul C d_Pages_saveTo_16 ?_
  refine ks_iadd C d_Pages_saveTo_17 ?_
  refine ks_copy (ws' := (kw_pages K x0 x1 x2 _ _ ++ kw_arr K s0 87040 _)) C 1 3 0 rfl lk_Pages_20 wm_copy rfl rfl (by omega) (by omega) (by omega) (by omega) (by decide) (Nat.le_of_ble_eq_true rfl) rfl d_Pages_saveTo_18 ?_
  exact ks_vret C Z rfl d_Pages_saveTo_21 rfl rfl ⟨rfl, rfl⟩
set_option maxRecDepth 100000 in
set_option maxHeartbeats 4000000 in
theorem c_Pages_load (l : Launch) (D : va_G) (K : Nat → ClassId) (x0 x1 x2 : Nat) (B : Nat → UInt8) (G : Nat → Bool) (s0 : Nat) (F : Nat → UInt8) : ks_M l D (ks_T K) (ks_R 2) y_Pages_load b_Pages_load 2 none [.ref x0, .ref s0] (kw_pages K x0 x1 x2 B G ++ kw_arr K s0 87040 F) (ks_f none (kw_pages K x0 x1 x2 (kv_load B F) G ++ kw_arr K s0 87040 F)) := by
  refine ks_M.of 0 (by decide) (Nat.le_of_ble_eq_true rfl) ?_
  intro E C Z
  refine ks_aload_n rfl rfl C d_Pages_load_0 ?_
  refine ks_iconst (a := 0) rfl C d_Pages_load_1 ?_
  refine ks_aload_n rfl rfl C d_Pages_load_2 ?_
  refine ks_get (k := 0) C 0 1 in_Pages rfl (by decide) fk_Pages_10 rfl rfl rfl d_Pages_load_3 ?_
  refine ks_iconst (a := 0) rfl C d_Pages_load_6 ?_
  refine ks_sipush (a := 288) rfl C d_Pages_load_7 ?_
  refine ks_copy (ws' := (kw_pages K x0 x1 x2 _ _ ++ kw_arr K s0 87040 _)) C 3 1 0 rfl lk_Pages_20 wm_copy rfl rfl (by omega) (by omega) (by omega) (by omega) (by decide) (Nat.le_of_ble_eq_true rfl) rfl d_Pages_load_10 ?_
  refine ks_aload_n rfl rfl C d_Pages_load_13 ?_
  refine ks_sipush (a := 288) rfl C d_Pages_load_14 ?_
  refine ks_aload_n rfl rfl C d_Pages_load_17 ?_
  refine ks_get (k := 0) C 0 1 in_Pages rfl (by decide) fk_Pages_10 rfl rfl rfl d_Pages_load_18 ?_
  refine ks_sipush (a := 288) rfl C d_Pages_load_21 ?_
  refine ks_aload_n rfl rfl C d_Pages_load_24 ?_
  refine ks_cx (ci := 1) (q0 := 0) (kw_pages K x0 x1 x2 _ _ ++ kw_arr K s0 87040 _) C (c_Pages_used l D K x0 x1 x2 _ _) yw_Pages_used sel_Pages_used lk_Pages_36 d_Pages_load_25 rfl rfl rfl [0, 1, 2] [3] [1, 2, 3, 0] rfl rfl rfl rfl (by decide) rfl rfl rfl rfl rfl ⟨by decide, by decide⟩ ⟨by decide, by decide⟩ rfl (Nat.le_of_ble_eq_true rfl) ?_
  refine ks_top_used (fun u1 => ?_)
  refine ks_bipush (a := 32) rfl C d_Pages_load_28 ?_
  refine ks_imul C d_Pages_load_30 ?_
  refine ks_copy (ws' := (kw_pages K x0 x1 x2 _ _ ++ kw_arr K s0 87040 _)) C 3 1 0 rfl lk_Pages_20 wm_copy rfl rfl (by omega) (by omega) (by omega) (by omega) (by decide) (Nat.le_of_ble_eq_true rfl) rfl d_Pages_load_31 ?_
  exact ks_vret C Z rfl d_Pages_load_34 rfl rfl ⟨rfl, rfl⟩
set_option maxRecDepth 100000 in
set_option maxHeartbeats 4000000 in
theorem c_Pages_isChanged (l : Launch) (D : va_G) (K : Nat → ClassId) (x0 x1 x2 : Nat) (B : Nat → UInt8) (G : Nat → Bool) (p : Nat) (h1 : p < 2147483648) : ks_M l D (ks_T K) (ks_R 0) y_Pages_isChanged b_Pages_isChanged 2 (some .boolean) [.ref x0, .int (nI p)] (kw_pages K x0 x1 x2 B G) (ks_f (some (.int (ks_b (decide (p < 2720) && G p)))) (kw_pages K x0 x1 x2 B G)) := by
  refine ks_M.of 0 (by decide) (Nat.le_of_ble_eq_true rfl) ?_
  intro E C Z
  refine ks_iload_n rfl rfl C d_Pages_isChanged_0 ?_
  refine ks_iflt0 (tgt := 24) C (by omega) d_Pages_isChanged_1 (by decide) ?_
  refine ks_iload_n rfl rfl C d_Pages_isChanged_4 ?_
  refine ks_sipush (a := 2720) rfl C d_Pages_isChanged_5 ?_
  refine ks_icmp_ge (tgt := 24) C (by omega) (by omega) (by decide) d_Pages_isChanged_8 (fun u2 => ?_) (fun u2 => ?_)
  · refine ks_iconstB false rfl C d_Pages_isChanged_24 ?_
    exact ks_iret C Z rfl (ks_nb1 _) d_Pages_isChanged_25 rfl rfl ⟨ks_eqB (by simp; omega), rfl⟩
  · refine ks_aload_n rfl rfl C d_Pages_isChanged_11 ?_
    refine ks_get (k := 1) C 0 1 in_Pages rfl (by decide) fk_Pages_16 rfl rfl rfl d_Pages_isChanged_12 ?_
    refine ks_iload_n rfl rfl C d_Pages_isChanged_15 ?_
    refine ks_zald C 2 1 rfl rfl (by omega) (by omega) d_Pages_isChanged_16 ?_
    refine ks_ifB_eq (tgt := 24) C (by decide) d_Pages_isChanged_17 (fun u3 => ?_) (fun u3 => ?_)
    · refine ks_iconstB false rfl C d_Pages_isChanged_24 ?_
      exact ks_iret C Z rfl (ks_nb1 _) d_Pages_isChanged_25 rfl rfl ⟨ks_eqB (by simp [*]), rfl⟩
    · refine ks_iconstB true rfl C d_Pages_isChanged_20 ?_
      refine ks_goto (tgt := 25) C (by decide) d_Pages_isChanged_21 ?_
      exact ks_iret C Z rfl (ks_nb1 _) d_Pages_isChanged_25 rfl rfl ⟨ks_eqB (by simp [*]; omega), rfl⟩
set_option maxRecDepth 100000 in
set_option maxHeartbeats 4000000 in
theorem c_Pages_write (l : Launch) (D : va_G) (K : Nat → ClassId) (x0 x1 x2 : Nat) (B : Nat → UInt8) (G : Nat → Bool) (r0 r1 : Nat) (R : Nat → UInt8) (len s n a : Nat) (h1 : len ≤ 8448) (h2 : s < 1073741824) (h3 : n < 1073741824) (h4 : a < 1073741824) : ks_M l D (ks_T K) (ks_R 1) y_Pages_write b_Pages_write 5 none [.ref x0, .ref r0, .int (nI s), .int (nI n), .int (nI a)] (kw_pages K x0 x1 x2 B G ++ kw_row K r0 r1 R len) (ks_f none (kw_pages K x0 x1 x2 (kv_writeR (B, G) R len s n a).1 (kv_writeR (B, G) R len s n a).2 ++ kw_row K r0 r1 R len)) := by
  refine ks_M.of 0 (by decide) (Nat.le_of_ble_eq_true rfl) ?_
  intro E C Z
  refine ks_iload_n rfl rfl C d_Pages_write_0 ?_
  refine ks_iflt0 (tgt := 33) C (by omega) d_Pages_write_1 (by decide) ?_
  refine ks_iload_n rfl rfl C d_Pages_write_4 ?_
  refine ks_iconst (a := 1) rfl C d_Pages_write_5 ?_
  refine ks_icmp_lt (tgt := 33) C (by omega) (by omega) (by decide) d_Pages_write_6 (fun u2 => ?_) (fun u2 => ?_)
  · exact ks_vret C Z rfl d_Pages_write_33 rfl rfl ⟨rfl, by unfold kv_writeR; rw [if_pos (by omega)]⟩
  · refine ks_iload_n rfl rfl C d_Pages_write_9 ?_
    refine ks_aload_n rfl rfl C d_Pages_write_10 ?_
    refine ks_cx (ci := 0) (q0 := 0) (kw_pages K x0 x1 x2 _ _ ++ kw_row K r0 r1 _ _) C (c_Row_length l D K r0 r1 _ _) yw_Row_length sel_Row_length lk_Pages_45 d_Pages_write_11 rfl rfl rfl [3, 4] [0, 1, 2] [0, 1, 2, 3, 4] rfl rfl rfl rfl (by decide) rfl rfl rfl rfl rfl ⟨by decide, by decide⟩ ⟨by decide, by decide⟩ rfl (Nat.le_of_ble_eq_true rfl) ?_
    refine ks_iload_n rfl rfl C d_Pages_write_14 ?_
    refine ks_isubI C d_Pages_write_15 ?_
    refine ks_icmpS_gt (tgt := 33) C (by omega) (by omega) (by omega) (by decide) d_Pages_write_16 (fun u3 => ?_) (fun u3 => ?_)
    · exact ks_vret C Z rfl d_Pages_write_33 rfl rfl ⟨rfl, by unfold kv_writeR; rw [if_pos (by omega)]⟩
    · refine ks_iload rfl C d_Pages_write_19 ?_
      refine ks_iflt0 (tgt := 33) C (by omega) d_Pages_write_21 (by decide) ?_
      refine ks_iload rfl C d_Pages_write_24 ?_
      refine ks_ldc ck_Pages_9 C d_Pages_write_26 ?_
      refine ks_iload_n rfl rfl C d_Pages_write_28 ?_
      refine ks_isubI C d_Pages_write_29 ?_
      refine ks_icmpS_le (tgt := 34) C (by omega) (by omega) (by omega) (by decide) d_Pages_write_30 (fun u5 => ?_) (fun u5 => ?_)
      · refine ks_aload_n rfl rfl C d_Pages_write_34 ?_
        refine ks_getN (k := 0) C 3 0 in_Row rfl (by decide) (fun _ h => h.1) rfl rfl rfl d_Pages_write_35 ?_
        refine ks_iload_n rfl rfl C d_Pages_write_38 ?_
        refine ks_aload_n rfl rfl C d_Pages_write_39 ?_
        refine ks_get (k := 0) C 0 1 in_Pages rfl (by decide) fk_Pages_10 rfl rfl rfl d_Pages_write_40 ?_
        refine ks_iload rfl C d_Pages_write_43 ?_
        refine ks_iload_n rfl rfl C d_Pages_write_45 ?_
        refine ks_copy (ws' := (kw_pages K x0 x1 x2 _ _ ++ kw_row K r0 r1 _ _)) C 4 1 0 rfl lk_Pages_20 wm_copy rfl rfl (by omega) (by omega) (by omega) (by omega) (by decide) (Nat.le_of_ble_eq_true rfl) rfl d_Pages_write_46 ?_
        refine ks_aload_n rfl rfl C d_Pages_write_49 ?_
        refine ks_get (k := 1) C 0 1 in_Pages rfl (by decide) fk_Pages_16 rfl rfl rfl d_Pages_write_50 ?_
        refine ks_iload rfl C d_Pages_write_53 ?_
        refine ks_bipush (a := 32) rfl C d_Pages_write_55 ?_
        refine ks_idiv (by omega) (by decide) (by decide) C d_Pages_write_57 ?_
        refine ks_iconstB true rfl C d_Pages_write_58 ?_
        refine ks_zast (ws' := (kw_pages K x0 x1 x2 _ _ ++ kw_row K r0 r1 _ _)) C 2 1 rfl rfl (by omega) (by omega) (ks_nz _) rfl d_Pages_write_59 ?_
        exact ks_vret C Z rfl d_Pages_write_60 rfl rfl ⟨rfl, by unfold kv_writeR; rw [if_neg (by omega)]⟩
      · exact ks_vret C Z rfl d_Pages_write_33 rfl rfl ⟨rfl, by unfold kv_writeR; rw [if_pos (by omega)]⟩
set_option maxRecDepth 100000 in
set_option maxHeartbeats 4000000 in
theorem c_Pages_newPage (l : Launch) (D : va_G) (K : Nat → ClassId) (x0 x1 x2 : Nat) (B : Nat → UInt8) (G : Nat → Bool) : ks_M l D (ks_T K) (ks_R 2) y_Pages_newPage b_Pages_newPage 2 (some .int) [.ref x0] (kw_pages K x0 x1 x2 B G) (ks_f (some (.int (nI ((kv_newP (B, G)).1)))) (kw_pages K x0 x1 x2 (kv_newP (B, G)).2.1 (kv_newP (B, G)).2.2)) := by
  refine ks_M.of 1 (by decide) (Nat.le_of_ble_eq_true rfl) ?_
  intro E C Z
  refine ks_aload_n rfl rfl C d_Pages_newPage_0 ?_
  refine ks_iconst (a := 2) rfl C d_Pages_newPage_1 ?_
  refine ks_cx (ci := 1) (q0 := 0) (kw_pages K x0 x1 x2 _ _) C (c_Pages_number l D K x0 x1 x2 _ _ _ (by omega)) yw_Pages_number sel_Pages_number lk_Pages_26 d_Pages_newPage_2 rfl rfl rfl [0, 1, 2] [] [0, 1, 2] rfl rfl rfl rfl (by decide) rfl rfl rfl rfl rfl ⟨by decide, by decide⟩ ⟨by decide, by decide⟩ rfl (Nat.le_of_ble_eq_true rfl) ?_
  refine ks_top_num (fun u1 => ?_)
  refine ks_istore_n C rfl (by decide) rfl d_Pages_newPage_5 ?_
  refine ks_iload_n rfl rfl C d_Pages_newPage_6 ?_
  refine ks_if_eq (tgt := 32) C (by omega) (by decide) d_Pages_newPage_7 (fun u2 => ?_) (fun u2 => ?_)
  · refine ks_bipush (a := 9) rfl C d_Pages_newPage_32 ?_
    refine ks_aload_n rfl rfl C d_Pages_newPage_34 ?_
    refine ks_cx (ci := 1) (q0 := 0) (kw_pages K x0 x1 x2 _ _) C (c_Pages_used l D K x0 x1 x2 _ _) yw_Pages_used sel_Pages_used lk_Pages_36 d_Pages_newPage_35 rfl rfl rfl [0, 1, 2] [] [0, 1, 2] rfl rfl rfl rfl (by decide) rfl rfl rfl rfl rfl ⟨by decide, by decide⟩ ⟨by decide, by decide⟩ rfl (Nat.le_of_ble_eq_true rfl) ?_
    refine ks_top_used (fun u3 => ?_)
    refine ks_iadd C d_Pages_newPage_38 ?_
    refine ks_istore_n C rfl (by decide) rfl d_Pages_newPage_39 ?_
    refine ks_aload_n rfl rfl C d_Pages_newPage_40 ?_
    refine ks_iconst (a := 0) rfl C d_Pages_newPage_41 ?_
    refine ks_iconst (a := 1) rfl C d_Pages_newPage_42 ?_
    refine ks_cv (ci := 1) (q0 := 0) (kw_pages K x0 x1 x2 _ _) C (c_Pages_addTo l D K x0 x1 x2 _ _ _ _ (by omega)) yw_Pages_addTo sel_Pages_addTo lk_Pages_51 d_Pages_newPage_43 rfl rfl rfl [0, 1, 2] [] [0, 1, 2] rfl rfl rfl rfl (by decide) rfl rfl rfl rfl rfl ⟨by decide, by decide⟩ ⟨by decide, by decide⟩ rfl (Nat.le_of_ble_eq_true rfl) ?_
    refine ks_aload_n rfl rfl C d_Pages_newPage_46 ?_
    refine ks_iload_n rfl rfl C d_Pages_newPage_47 ?_
    refine ks_bipush (a := 32) rfl C d_Pages_newPage_48 ?_
    refine ks_imul C d_Pages_newPage_50 ?_
    refine ks_iconst (a := 0) rfl C d_Pages_newPage_51 ?_
    refine ks_cv (ci := 1) (q0 := 0) (kw_pages K x0 x1 x2 _ _) C (c_Pages_setNumber l D K x0 x1 x2 _ _ _ _ (by omega)) yw_Pages_setNumber sel_Pages_setNumber lk_Pages_41 d_Pages_newPage_52 rfl rfl rfl [0, 1, 2] [] [0, 1, 2] rfl rfl rfl rfl (by decide) rfl rfl rfl rfl rfl ⟨by decide, by decide⟩ ⟨by decide, by decide⟩ rfl (Nat.le_of_ble_eq_true rfl) ?_
    refine ks_aload_n rfl rfl C d_Pages_newPage_55 ?_
    refine ks_iload_n rfl rfl C d_Pages_newPage_56 ?_
    refine ks_bipush (a := 32) rfl C d_Pages_newPage_57 ?_
    refine ks_imul C d_Pages_newPage_59 ?_
    refine ks_iconst (a := 2) rfl C d_Pages_newPage_60 ?_
    refine ks_iadd C d_Pages_newPage_61 ?_
    refine ks_iconst (a := 0) rfl C d_Pages_newPage_62 ?_
    refine ks_cv (ci := 1) (q0 := 0) (kw_pages K x0 x1 x2 _ _) C (c_Pages_setNumber l D K x0 x1 x2 _ _ _ _ (by omega)) yw_Pages_setNumber sel_Pages_setNumber lk_Pages_41 d_Pages_newPage_63 rfl rfl rfl [0, 1, 2] [] [0, 1, 2] rfl rfl rfl rfl (by decide) rfl rfl rfl rfl rfl ⟨by decide, by decide⟩ ⟨by decide, by decide⟩ rfl (Nat.le_of_ble_eq_true rfl) ?_
    refine ks_iload_n rfl rfl C d_Pages_newPage_66 ?_
    exact ks_iret C Z rfl rfl d_Pages_newPage_67 rfl rfl ⟨ks_eqN (by simp [kv_newP, kv_takeP, *]), by simp [kv_newP, kv_takeP, *]⟩
  · refine ks_aload_n rfl rfl C d_Pages_newPage_10 ?_
    refine ks_iconst (a := 2) rfl C d_Pages_newPage_11 ?_
    refine ks_aload_n rfl rfl C d_Pages_newPage_12 ?_
    refine ks_iload_n rfl rfl C d_Pages_newPage_13 ?_
    refine ks_bipush (a := 32) rfl C d_Pages_newPage_14 ?_
    refine ks_imul C d_Pages_newPage_16 ?_
    refine ks_cx (ci := 1) (q0 := 0) (kw_pages K x0 x1 x2 _ _) C (c_Pages_number l D K x0 x1 x2 _ _ _ (by omega)) yw_Pages_number sel_Pages_number lk_Pages_26 d_Pages_newPage_17 rfl rfl rfl [0, 1, 2] [] [0, 1, 2] rfl rfl rfl rfl (by decide) rfl rfl rfl rfl rfl ⟨by decide, by decide⟩ ⟨by decide, by decide⟩ rfl (Nat.le_of_ble_eq_true rfl) ?_
    refine ks_top_num (fun u4 => ?_)
    refine ks_cv (ci := 1) (q0 := 0) (kw_pages K x0 x1 x2 _ _) C (c_Pages_setNumber l D K x0 x1 x2 _ _ _ _ (by omega)) yw_Pages_setNumber sel_Pages_setNumber lk_Pages_41 d_Pages_newPage_20 rfl rfl rfl [0, 1, 2] [] [0, 1, 2] rfl rfl rfl rfl (by decide) rfl rfl rfl rfl rfl ⟨by decide, by decide⟩ ⟨by decide, by decide⟩ rfl (Nat.le_of_ble_eq_true rfl) ?_
    refine ks_aload_n rfl rfl C d_Pages_newPage_23 ?_
    refine ks_iconst (a := 4) rfl C d_Pages_newPage_24 ?_
    refine ks_iconst (a := 4294967295) rfl C d_Pages_newPage_25 ?_
    refine ks_cv (ci := 1) (q0 := 0) (kw_pages K x0 x1 x2 _ _) C (c_Pages_addTo l D K x0 x1 x2 _ _ _ _ (by omega)) yw_Pages_addTo sel_Pages_addTo lk_Pages_51 d_Pages_newPage_26 rfl rfl rfl [0, 1, 2] [] [0, 1, 2] rfl rfl rfl rfl (by decide) rfl rfl rfl rfl rfl ⟨by decide, by decide⟩ ⟨by decide, by decide⟩ rfl (Nat.le_of_ble_eq_true rfl) ?_
    refine ks_goto (tgt := 46) C (by decide) d_Pages_newPage_29 ?_
    refine ks_aload_n rfl rfl C d_Pages_newPage_46 ?_
    refine ks_iload_n rfl rfl C d_Pages_newPage_47 ?_
    refine ks_bipush (a := 32) rfl C d_Pages_newPage_48 ?_
    refine ks_imul C d_Pages_newPage_50 ?_
    refine ks_iconst (a := 0) rfl C d_Pages_newPage_51 ?_
    refine ks_cv (ci := 1) (q0 := 0) (kw_pages K x0 x1 x2 _ _) C (c_Pages_setNumber l D K x0 x1 x2 _ _ _ _ (by omega)) yw_Pages_setNumber sel_Pages_setNumber lk_Pages_41 d_Pages_newPage_52 rfl rfl rfl [0, 1, 2] [] [0, 1, 2] rfl rfl rfl rfl (by decide) rfl rfl rfl rfl rfl ⟨by decide, by decide⟩ ⟨by decide, by decide⟩ rfl (Nat.le_of_ble_eq_true rfl) ?_
    refine ks_aload_n rfl rfl C d_Pages_newPage_55 ?_
    refine ks_iload_n rfl rfl C d_Pages_newPage_56 ?_
    refine ks_bipush (a := 32) rfl C d_Pages_newPage_57 ?_
    refine ks_imul C d_Pages_newPage_59 ?_
    refine ks_iconst (a := 2) rfl C d_Pages_newPage_60 ?_
    refine ks_iadd C d_Pages_newPage_61 ?_
    refine ks_iconst (a := 0) rfl C d_Pages_newPage_62 ?_
    refine ks_cv (ci := 1) (q0 := 0) (kw_pages K x0 x1 x2 _ _) C (c_Pages_setNumber l D K x0 x1 x2 _ _ _ _ (by omega)) yw_Pages_setNumber sel_Pages_setNumber lk_Pages_41 d_Pages_newPage_63 rfl rfl rfl [0, 1, 2] [] [0, 1, 2] rfl rfl rfl rfl (by decide) rfl rfl rfl rfl rfl ⟨by decide, by decide⟩ ⟨by decide, by decide⟩ rfl (Nat.le_of_ble_eq_true rfl) ?_
    refine ks_iload_n rfl rfl C d_Pages_newPage_66 ?_
    exact ks_iret C Z rfl rfl d_Pages_newPage_67 rfl rfl ⟨ks_eqN (by simp [kv_newP, kv_takeP, *]), by simp [kv_newP, kv_takeP, *]⟩
set_option maxRecDepth 100000 in
set_option maxHeartbeats 4000000 in
theorem c_Pages_freePage (l : Launch) (D : va_G) (K : Nat → ClassId) (x0 x1 x2 : Nat) (B : Nat → UInt8) (G : Nat → Bool) (p : Nat) (h1 : p < 65536) : ks_M l D (ks_T K) (ks_R 2) y_Pages_freePage b_Pages_freePage 2 none [.ref x0, .int (nI p)] (kw_pages K x0 x1 x2 B G) (ks_f none (kw_pages K x0 x1 x2 (kv_freeP (B, G) p).1 (kv_freeP (B, G) p).2)) := by
  refine ks_M.of 0 (by decide) (Nat.le_of_ble_eq_true rfl) ?_
  intro E C Z
  refine ks_aload_n rfl rfl C d_Pages_freePage_0 ?_
  refine ks_iload_n rfl rfl C d_Pages_freePage_1 ?_
  refine ks_bipush (a := 32) rfl C d_Pages_freePage_2 ?_
  refine ks_imul C d_Pages_freePage_4 ?_
  refine ks_aload_n rfl rfl C d_Pages_freePage_5 ?_
  refine ks_iconst (a := 2) rfl C d_Pages_freePage_6 ?_
  refine ks_cx (ci := 1) (q0 := 0) (kw_pages K x0 x1 x2 _ _) C (c_Pages_number l D K x0 x1 x2 _ _ _ (by omega)) yw_Pages_number sel_Pages_number lk_Pages_26 d_Pages_freePage_7 rfl rfl rfl [0, 1, 2] [] [0, 1, 2] rfl rfl rfl rfl (by decide) rfl rfl rfl rfl rfl ⟨by decide, by decide⟩ ⟨by decide, by decide⟩ rfl (Nat.le_of_ble_eq_true rfl) ?_
  refine ks_top_num (fun u1 => ?_)
  refine ks_cv (ci := 1) (q0 := 0) (kw_pages K x0 x1 x2 _ _) C (c_Pages_setNumber l D K x0 x1 x2 _ _ _ _ (by omega)) yw_Pages_setNumber sel_Pages_setNumber lk_Pages_41 d_Pages_freePage_10 rfl rfl rfl [0, 1, 2] [] [0, 1, 2] rfl rfl rfl rfl (by decide) rfl rfl rfl rfl rfl ⟨by decide, by decide⟩ ⟨by decide, by decide⟩ rfl (Nat.le_of_ble_eq_true rfl) ?_
  refine ks_aload_n rfl rfl C d_Pages_freePage_13 ?_
  refine ks_iconst (a := 2) rfl C d_Pages_freePage_14 ?_
  refine ks_iload_n rfl rfl C d_Pages_freePage_15 ?_
  refine ks_cv (ci := 1) (q0 := 0) (kw_pages K x0 x1 x2 _ _) C (c_Pages_setNumber l D K x0 x1 x2 _ _ _ _ (by omega)) yw_Pages_setNumber sel_Pages_setNumber lk_Pages_41 d_Pages_freePage_16 rfl rfl rfl [0, 1, 2] [] [0, 1, 2] rfl rfl rfl rfl (by decide) rfl rfl rfl rfl rfl ⟨by decide, by decide⟩ ⟨by decide, by decide⟩ rfl (Nat.le_of_ble_eq_true rfl) ?_
  refine ks_aload_n rfl rfl C d_Pages_freePage_19 ?_
  refine ks_iconst (a := 4) rfl C d_Pages_freePage_20 ?_
  refine ks_iconst (a := 1) rfl C d_Pages_freePage_21 ?_
  refine ks_cv (ci := 1) (q0 := 0) (kw_pages K x0 x1 x2 _ _) C (c_Pages_addTo l D K x0 x1 x2 _ _ _ _ (by omega)) yw_Pages_addTo sel_Pages_addTo lk_Pages_51 d_Pages_freePage_22 rfl rfl rfl [0, 1, 2] [] [0, 1, 2] rfl rfl rfl rfl (by decide) rfl rfl rfl rfl rfl ⟨by decide, by decide⟩ ⟨by decide, by decide⟩ rfl (Nat.le_of_ble_eq_true rfl) ?_
  exact ks_vret C Z rfl d_Pages_freePage_25 rfl rfl ⟨rfl, rfl⟩
