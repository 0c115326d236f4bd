/-! contracts of chains (store, copyTo) and nodes -/
theorem kv_gath_0 (B : Nat → UInt8) (l r ofl : Nat) (P : Nat → Nat) : kv_gath B l r ofl 0 P = P := by funext j; unfold kv_gath; rw [if_neg (by omega)]
theorem kv_gath_s1 (B : Nat → UInt8) (l r ofl i : Nat) (P : Nat → Nat) (h : i < ofl) : va_up (kv_gath B l r ofl i P) i (kv_slot B l i) = kv_gath B l r ofl (i + 1) P := by
  funext j
  unfold kv_gath va_up
  dsimp only
  by_cases e : j = i
  · subst e; rw [if_pos rfl, if_pos (by omega), if_pos h]
  · rw [if_neg e]
    by_cases e2 : j < i
    · rw [if_pos e2, if_pos (show j < i + 1 by omega)]
    · rw [if_neg e2, if_neg (show ¬ j < i + 1 by omega)]
theorem kv_gath_s2 (B : Nat → UInt8) (l r ofl i : Nat) (P : Nat → Nat) (h : ¬ i < ofl) : va_up (kv_gath B l r ofl i P) i (kv_slot B r (i - ofl)) = kv_gath B l r ofl (i + 1) P := by
  funext j
  unfold kv_gath va_up
  dsimp only
  by_cases e : j = i
  · subst e; rw [if_pos rfl, if_pos (by omega), if_neg h]
  · rw [if_neg e]
    by_cases e2 : j < i
    · rw [if_pos e2, if_pos (show j < i + 1 by omega)]
    · rw [if_neg e2, if_neg (show ¬ j < i + 1 by omega)]
theorem kv_wrL_in (R : Nat → UInt8) (len : Nat) : ∀ (f : Nat) (M : kv_M) (p a d : Nat), p < 65536 → a ≤ 32 → (kv_wrL R len f M p a d).2.1 < 65536 ∧ (kv_wrL R len f M p a d).2.2 ≤ 32
  | 0, M, p, a, d, h1, h2 => ⟨h1, h2⟩
  | f + 1, M, p, a, d, h1, h2 => by
    rw [kv_wrL]
    split
    · split
      · exact kv_wrL_in R len f _ _ _ _ (kv_newP_lt _) (by omega)
      · exact kv_wrL_in R len f _ _ _ _ h1 (by omega)
    · exact ⟨h1, h2⟩
theorem kv_rdL_in (B : Nat → UInt8) (n : Nat) : ∀ (f : Nat) (R : Nat → UInt8) (len p a : Nat), p < 65536 → a ≤ 32 → len ≤ 8448 → (kv_rdL B n f R len p a).2.1 < 65536 ∧ (kv_rdL B n f R len p a).2.2 ≤ 32 ∧ (kv_rdL B n f R len p a).1.2 ≤ 8448
  | 0, R, len, p, a, h1, h2, h3 => ⟨h1, h2, h3⟩
  | f + 1, R, len, p, a, h1, h2, h3 => by
    rw [kv_rdL]
    split
    · split
      · exact kv_rdL_in B n f _ _ _ _ (kv_num_lt _ _) (by omega) (kv_from_le h3)
      · exact kv_rdL_in B n f _ _ _ _ h1 (by omega) (kv_from_le h3)
    · exact ⟨h1, h2, h3⟩
set_option maxRecDepth 100000 in
set_option maxHeartbeats 4000000 in
theorem c_Chains_store (l : Launch) (D : va_G) (K : Nat → ClassId) (c0 x0 x1 x2 k0 k1 v0 v1 pg ca : Nat) (B : Nat → UInt8) (G : Nat → Bool) (KR : Nat → UInt8) (kl : Nat) (VR : Nat → UInt8) (vl : Nat) (h1 : kl ≤ 8448) (h2 : vl ≤ 8448) : ks_M l D (ks_T K) (ks_R 4) y_Chains_store b_Chains_store 4 (some .int) [.ref c0, .ref k0, .ref v0] (kw_chains c0 x0 pg ca ++ kw_pages K x0 x1 x2 B G ++ kw_row K k0 k1 KR kl ++ kw_row K v0 v1 VR vl) (ks_f (some (.int (nI ((kv_store (B, G) KR kl VR vl).1)))) (kw_chains c0 x0 (kv_store (B, G) KR kl VR vl).2.2.1 (kv_store (B, G) KR kl VR vl).2.2.2 ++ kw_pages K x0 x1 x2 (kv_store (B, G) KR kl VR vl).2.1.1 (kv_store (B, G) KR kl VR vl).2.1.2 ++ kw_row K k0 k1 KR kl ++ kw_row K v0 v1 VR vl)) := by
  refine ks_M.of 1 (by decide) (Nat.le_of_ble_eq_true rfl) ?_
  intro E C Z
  refine ks_aload_n rfl rfl C d_Chains_store_0 ?_
  refine ks_get (k := 0) C 0 4 in_Chains rfl (by decide) fk_Chains_18 rfl rfl rfl d_Chains_store_1 ?_
  refine ks_cx (ci := 1) (q0 := 0) (kw_chains c0 x0 _ _ ++ kw_pages K x0 x1 x2 _ _ ++ kw_row K k0 k1 _ _ ++ kw_row K v0 v1 _ _) C (c_Pages_newPage l D K x0 x1 x2 _ _) yw_Pages_newPage sel_Pages_newPage lk_Chains_34 d_Chains_store_4 rfl rfl rfl [1, 2, 3] [0, 4, 5, 6, 7] [0, 5, 6, 7, 1, 2, 3, 4] rfl rfl rfl rfl (by decide) rfl rfl rfl rfl rfl ⟨by decide, by decide⟩ ⟨by decide, by decide⟩ rfl (Nat.le_of_ble_eq_true rfl) ?_
  refine ks_top_newP (fun u1 => ?_)
  refine ks_istore_n C rfl (by decide) rfl d_Chains_store_7 ?_
  refine ks_aload_n rfl rfl C d_Chains_store_8 ?_
  refine ks_get (k := 0) C 0 4 in_Chains rfl (by decide) fk_Chains_18 rfl rfl rfl d_Chains_store_9 ?_
  refine ks_iload_n rfl rfl C d_Chains_store_12 ?_
  refine ks_bipush (a := 32) rfl C d_Chains_store_13 ?_
  refine ks_imul C d_Chains_store_15 ?_
  refine ks_iconst (a := 2) rfl C d_Chains_store_16 ?_
  refine ks_iadd C d_Chains_store_17 ?_
  refine ks_aload_n rfl rfl C d_Chains_store_18 ?_
  refine ks_cx (ci := 0) (q0 := 0) (kw_chains c0 x0 _ _ ++ kw_pages K x0 x1 x2 _ _ ++ kw_row K k0 k1 _ _ ++ kw_row K v0 v1 _ _) C (c_Row_length l D K k0 k1 _ _) yw_Row_length sel_Row_length lk_Chains_38 d_Chains_store_19 rfl rfl rfl [4, 5] [0, 1, 2, 3, 6, 7] [0, 1, 2, 3, 6, 7, 4, 5] rfl rfl rfl rfl (by decide) rfl rfl rfl rfl rfl ⟨by decide, by decide⟩ ⟨by decide, by decide⟩ rfl (Nat.le_of_ble_eq_true rfl) ?_
  refine ks_cv (ci := 1) (q0 := 0) (kw_chains c0 x0 _ _ ++ kw_pages K x0 x1 x2 _ _ ++ kw_row K k0 k1 _ _ ++ kw_row K v0 v1 _ _) C (c_Pages_setNumber l D K x0 x1 x2 _ _ _ _ (by omega)) yw_Pages_setNumber sel_Pages_setNumber lk_Chains_43 d_Chains_store_22 rfl rfl rfl [1, 2, 3] [0, 4, 5, 6, 7] [0, 5, 6, 7, 1, 2, 3, 4] rfl rfl rfl rfl (by decide) rfl rfl rfl rfl rfl ⟨by decide, by decide⟩ ⟨by decide, by decide⟩ rfl (Nat.le_of_ble_eq_true rfl) ?_
  refine ks_aload_n rfl rfl C d_Chains_store_25 ?_
  refine ks_get (k := 0) C 0 4 in_Chains rfl (by decide) fk_Chains_18 rfl rfl rfl d_Chains_store_26 ?_
  refine ks_iload_n rfl rfl C d_Chains_store_29 ?_
  refine ks_bipush (a := 32) rfl C d_Chains_store_30 ?_
  refine ks_imul C d_Chains_store_32 ?_
  refine ks_iconst (a := 4) rfl C d_Chains_store_33 ?_
  refine ks_iadd C d_Chains_store_34 ?_
  refine ks_aload_n rfl rfl C d_Chains_store_35 ?_
  refine ks_cx (ci := 0) (q0 := 0) (kw_chains c0 x0 _ _ ++ kw_pages K x0 x1 x2 _ _ ++ kw_row K k0 k1 _ _ ++ kw_row K v0 v1 _ _) C (c_Row_length l D K v0 v1 _ _) yw_Row_length sel_Row_length lk_Chains_38 d_Chains_store_36 rfl rfl rfl [6, 7] [0, 1, 2, 3, 4, 5] [0, 1, 2, 3, 4, 5, 6, 7] rfl rfl rfl rfl (by decide) rfl rfl rfl rfl rfl ⟨by decide, by decide⟩ ⟨by decide, by decide⟩ rfl (Nat.le_of_ble_eq_true rfl) ?_
  refine ks_cv (ci := 1) (q0 := 0) (kw_chains c0 x0 _ _ ++ kw_pages K x0 x1 x2 _ _ ++ kw_row K k0 k1 _ _ ++ kw_row K v0 v1 _ _) C (c_Pages_setNumber l D K x0 x1 x2 _ _ _ _ (by omega)) yw_Pages_setNumber sel_Pages_setNumber lk_Chains_43 d_Chains_store_39 rfl rfl rfl [1, 2, 3] [0, 4, 5, 6, 7] [0, 5, 6, 7, 1, 2, 3, 4] rfl rfl rfl rfl (by decide) rfl rfl rfl rfl rfl ⟨by decide, by decide⟩ ⟨by decide, by decide⟩ rfl (Nat.le_of_ble_eq_true rfl) ?_
  refine ks_aload_n rfl rfl C d_Chains_store_42 ?_
  refine ks_iload_n rfl rfl C d_Chains_store_43 ?_
  refine ks_put (k := 1) (ws' := (kw_chains c0 x0 _ _ ++ kw_pages K x0 x1 x2 _ _ ++ kw_row K k0 k1 _ _ ++ kw_row K v0 v1 _ _)) C 0 4 t_Chains ty_Chains nm_Chains in_Chains rfl (by decide) fk_Chains_9 rfl rfl rfl rfl rfl (Nat.le_of_ble_eq_true rfl) rfl d_Chains_store_44 ?_
  refine ks_aload_n rfl rfl C d_Chains_store_47 ?_
  refine ks_bipush (a := 6) rfl C d_Chains_store_48 ?_
  refine ks_put (k := 2) (ws' := (kw_chains c0 x0 _ _ ++ kw_pages K x0 x1 x2 _ _ ++ kw_row K k0 k1 _ _ ++ kw_row K v0 v1 _ _)) C 0 4 t_Chains ty_Chains nm_Chains in_Chains rfl (by decide) fk_Chains_15 rfl rfl rfl rfl rfl (Nat.le_of_ble_eq_true rfl) rfl d_Chains_store_50 ?_
  refine ks_aload_n rfl rfl C d_Chains_store_53 ?_
  refine ks_aload_n rfl rfl C d_Chains_store_54 ?_
  refine ks_cv (ci := 4) (q0 := 0) (kw_chains c0 x0 _ _ ++ kw_pages K x0 x1 x2 _ _ ++ kw_row K k0 k1 _ _ ++ kw_row K v0 v1 _ _) C (c_Chains_write l D K c0 x0 x1 x2 k0 k1 _ _ _ _ _ _ (by omega) (by omega) (by omega)) yw_Chains_write sel_Chains_write lk_Chains_47 d_Chains_store_55 rfl rfl rfl [0, 1, 2, 3, 4, 5] [6, 7] [2, 3, 4, 5, 6, 7, 0, 1] rfl rfl rfl rfl (by decide) rfl rfl rfl rfl rfl ⟨by decide, by decide⟩ ⟨by decide, by decide⟩ rfl (Nat.le_of_ble_eq_true rfl) ?_
  refine ks_aload_n rfl rfl C d_Chains_store_58 ?_
  refine ks_aload_n rfl rfl C d_Chains_store_59 ?_
  refine ks_cv (ci := 4) (q0 := 0) (kw_chains c0 x0 _ _ ++ kw_pages K x0 x1 x2 _ _ ++ kw_row K k0 k1 _ _ ++ kw_row K v0 v1 _ _) C (c_Chains_write l D K c0 x0 x1 x2 v0 v1 _ _ _ _ _ _ (by omega) (kv_wrL_in _ _ _ _ _ _ _ (by omega) (by omega)).1 (kv_wrL_in _ _ _ _ _ _ _ (by omega) (by omega)).2) yw_Chains_write sel_Chains_write lk_Chains_47 d_Chains_store_60 rfl rfl rfl [0, 1, 2, 3, 6, 7] [4, 5] [2, 3, 4, 5, 0, 1, 6, 7] rfl rfl rfl rfl (by decide) rfl rfl rfl rfl rfl ⟨by decide, by decide⟩ ⟨by decide, by decide⟩ rfl (Nat.le_of_ble_eq_true rfl) ?_
  refine ks_iload_n rfl rfl C d_Chains_store_63 ?_
  exact ks_iret C Z rfl rfl d_Chains_store_64 rfl rfl ⟨rfl, rfl⟩
set_option maxRecDepth 100000 in
set_option maxHeartbeats 4000000 in
theorem c_Chains_copyTo (l : Launch) (D : va_G) (K : Nat → ClassId) (c0 x0 x1 x2 k0 k1 v0 v1 pg ca : Nat) (B : Nat → UInt8) (G : Nat → Bool) (KR : Nat → UInt8) (kl : Nat) (VR : Nat → UInt8) (vl : Nat) (c : Nat) (h1 : c < 65536) : ks_M l D (ks_T K) (ks_R 4) y_Chains_copyTo b_Chains_copyTo 4 none [.ref c0, .int (nI c), .ref k0, .ref v0] (kw_chains c0 x0 pg ca ++ kw_pages K x0 x1 x2 B G ++ kw_row K k0 k1 KR kl ++ kw_row K v0 v1 VR vl) (ks_f none (kw_chains c0 x0 (kv_rdL B (kv_num B (c * 32 + 4)) 2720 VR 0 (kv_rdL B (kv_num B (c * 32 + 2)) 2720 KR 0 c 6).2.1 (kv_rdL B (kv_num B (c * 32 + 2)) 2720 KR 0 c 6).2.2).2.1 (kv_rdL B (kv_num B (c * 32 + 4)) 2720 VR 0 (kv_rdL B (kv_num B (c * 32 + 2)) 2720 KR 0 c 6).2.1 (kv_rdL B (kv_num B (c * 32 + 2)) 2720 KR 0 c 6).2.2).2.2 ++ kw_pages K x0 x1 x2 B G ++ kw_row K k0 k1 (kv_rdL B (kv_num B (c * 32 + 2)) 2720 KR 0 c 6).1.1 (kv_rdL B (kv_num B (c * 32 + 2)) 2720 KR 0 c 6).1.2 ++ kw_row K v0 v1 (kv_rdL B (kv_num B (c * 32 + 4)) 2720 VR 0 (kv_rdL B (kv_num B (c * 32 + 2)) 2720 KR 0 c 6).2.1 (kv_rdL B (kv_num B (c * 32 + 2)) 2720 KR 0 c 6).2.2).1.1 (kv_rdL B (kv_num B (c * 32 + 4)) 2720 VR 0 (kv_rdL B (kv_num B (c * 32 + 2)) 2720 KR 0 c 6).2.1 (kv_rdL B (kv_num B (c * 32 + 2)) 2720 KR 0 c 6).2.2).1.2)) := by
  refine ks_M.of 0 (by decide) (Nat.le_of_ble_eq_true rfl) ?_
  intro E C Z
  refine ks_aload_n rfl rfl C d_Chains_copyTo_0 ?_
  refine ks_iload_n rfl rfl C d_Chains_copyTo_1 ?_
  refine ks_aload_n rfl rfl C d_Chains_copyTo_2 ?_
  refine ks_cv (ci := 4) (q0 := 0) (kw_chains c0 x0 _ _ ++ kw_pages K x0 x1 x2 _ _ ++ kw_row K k0 k1 _ _ ++ kw_row K v0 v1 _ _) C (c_Chains_copyKeyTo l D K c0 x0 x1 x2 k0 k1 _ _ _ _ _ _ _ (by omega)) yw_Chains_copyKeyTo sel_Chains_copyKeyTo lk_Chains_55 d_Chains_copyTo_3 rfl rfl rfl [0, 1, 2, 3, 4, 5] [6, 7] [2, 3, 4, 5, 6, 7, 0, 1] rfl rfl rfl rfl (by decide) rfl rfl rfl rfl rfl ⟨by decide, by decide⟩ ⟨by decide, by decide⟩ rfl (Nat.le_of_ble_eq_true rfl) ?_
  refine ks_aload_n rfl rfl C d_Chains_copyTo_6 ?_
  refine ks_aload_n rfl rfl C d_Chains_copyTo_7 ?_
  refine ks_aload_n rfl rfl C d_Chains_copyTo_8 ?_
  refine ks_iload_n rfl rfl C d_Chains_copyTo_9 ?_
  refine ks_cx (ci := 4) (q0 := 0) (kw_chains c0 x0 _ _ ++ kw_pages K x0 x1 x2 _ _ ++ kw_row K k0 k1 _ _ ++ kw_row K v0 v1 _ _) C (c_Chains_valueLength l D K c0 x0 x1 x2 _ _ _ _ _ (by omega)) yw_Chains_valueLength sel_Chains_valueLength lk_Chains_31 d_Chains_copyTo_10 rfl rfl rfl [0, 1, 2, 3] [4, 5, 6, 7] [4, 5, 6, 7, 0, 1, 2, 3] rfl rfl rfl rfl (by decide) rfl rfl rfl rfl rfl ⟨by decide, by decide⟩ ⟨by decide, by decide⟩ rfl (Nat.le_of_ble_eq_true rfl) ?_
  refine ks_top_num (fun u1 => ?_)
  refine ks_cv (ci := 4) (q0 := 0) (kw_chains c0 x0 _ _ ++ kw_pages K x0 x1 x2 _ _ ++ kw_row K k0 k1 _ _ ++ kw_row K v0 v1 _ _) C (c_Chains_read l D K c0 x0 x1 x2 v0 v1 _ _ _ _ _ _ _ (by omega) (kv_rdL_in _ _ _ _ _ _ _ (by omega) (by omega) (by omega)).1 (kv_rdL_in _ _ _ _ _ _ _ (by omega) (by omega) (by omega)).2.1) yw_Chains_read sel_Chains_read lk_Chains_59 d_Chains_copyTo_13 rfl rfl rfl [0, 1, 2, 3, 6, 7] [4, 5] [2, 3, 4, 5, 0, 1, 6, 7] rfl rfl rfl rfl (by decide) rfl rfl rfl rfl rfl ⟨by decide, by decide⟩ ⟨by decide, by decide⟩ rfl (Nat.le_of_ble_eq_true rfl) ?_
  exact ks_vret C Z rfl d_Chains_copyTo_16 rfl rfl ⟨rfl, rfl⟩
set_option maxRecDepth 100000 in
set_option maxHeartbeats 4000000 in
theorem c_Nodes_make (l : Launch) (D : va_G) (K : Nat → ClassId) (n0 n1 x0 x1 x2 : Nat) (P : Nat → Nat) (B : Nat → UInt8) (G : Nat → Bool) (l1 : Nat) : ks_M l D (ks_T K) (ks_R 3) y_Nodes_make b_Nodes_make 3 (some .int) [.ref n0, .int (nI l1)] (kw_nodes K n0 n1 x0 P ++ kw_pages K x0 x1 x2 B G) (ks_f (some (.int (nI ((kv_make (B, G) l1).1)))) (kw_nodes K n0 n1 x0 P ++ kw_pages K x0 x1 x2 (kv_make (B, G) l1).2.1 (kv_make (B, G) l1).2.2)) := by
  refine ks_M.of 1 (by decide) (Nat.le_of_ble_eq_true rfl) ?_
  intro E C Z
  refine ks_aload_n rfl rfl C d_Nodes_make_0 ?_
  refine ks_get (k := 0) C 0 5 in_Nodes rfl (by decide) fk_Nodes_15 rfl rfl rfl d_Nodes_make_1 ?_
  refine ks_cx (ci := 1) (q0 := 0) (kw_nodes K n0 n1 x0 _ ++ kw_pages K x0 x1 x2 _ _) C (c_Pages_newPage l D K x0 x1 x2 _ _) yw_Pages_newPage sel_Pages_newPage lk_Nodes_19 d_Nodes_make_4 rfl rfl rfl [2, 3, 4] [0, 1] [0, 1, 2, 3, 4] rfl rfl rfl rfl (by decide) rfl rfl rfl rfl rfl ⟨by decide, by decide⟩ ⟨by decide, by decide⟩ rfl (Nat.le_of_ble_eq_true rfl) ?_
  refine ks_top_newP (fun u1 => ?_)
  refine ks_istore_n C rfl (by decide) rfl d_Nodes_make_7 ?_
  refine ks_aload_n rfl rfl C d_Nodes_make_8 ?_
  refine ks_get (k := 0) C 0 5 in_Nodes rfl (by decide) fk_Nodes_15 rfl rfl rfl d_Nodes_make_9 ?_
  refine ks_iload_n rfl rfl C d_Nodes_make_12 ?_
  refine ks_bipush (a := 32) rfl C d_Nodes_make_13 ?_
  refine ks_imul C d_Nodes_make_15 ?_
  refine ks_iconst (a := 0) rfl C d_Nodes_make_16 ?_
  refine ks_iadd C d_Nodes_make_17 ?_
  refine ks_iload_n rfl rfl C d_Nodes_make_18 ?_
  refine ks_cv (ci := 1) (q0 := 0) (kw_nodes K n0 n1 x0 _ ++ kw_pages K x0 x1 x2 _ _) C (c_Pages_setNumber l D K x0 x1 x2 _ _ _ _ (by omega)) yw_Pages_setNumber sel_Pages_setNumber lk_Nodes_25 d_Nodes_make_19 rfl rfl rfl [2, 3, 4] [0, 1] [0, 1, 2, 3, 4] rfl rfl rfl rfl (by decide) rfl rfl rfl rfl rfl ⟨by decide, by decide⟩ ⟨by decide, by decide⟩ rfl (Nat.le_of_ble_eq_true rfl) ?_
  refine ks_iload_n rfl rfl C d_Nodes_make_22 ?_
  exact ks_iret C Z rfl rfl d_Nodes_make_23 rfl rfl ⟨rfl, by rw [Nat.add_zero]; rfl⟩
set_option maxRecDepth 100000 in
set_option maxHeartbeats 4000000 in
theorem c_Nodes_level (l : Launch) (D : va_G) (K : Nat → ClassId) (n0 n1 x0 x1 x2 : Nat) (P : Nat → Nat) (B : Nat → UInt8) (G : Nat → Bool) (p : Nat) (h1 : p < 65536) : ks_M l D (ks_T K) (ks_R 1) y_Nodes_level b_Nodes_level 2 (some .int) [.ref n0, .int (nI p)] (kw_nodes K n0 n1 x0 P ++ kw_pages K x0 x1 x2 B G) (ks_f (some (.int (nI (kv_level B p)))) (kw_nodes K n0 n1 x0 P ++ kw_pages K x0 x1 x2 B G)) := by
  refine ks_M.of 0 (by decide) (Nat.le_of_ble_eq_true rfl) ?_
  intro E C Z
  refine ks_aload_n rfl rfl C d_Nodes_level_0 ?_
  refine ks_get (k := 0) C 0 5 in_Nodes rfl (by decide) fk_Nodes_15 rfl rfl rfl d_Nodes_level_1 ?_
  refine ks_iload_n rfl rfl C d_Nodes_level_4 ?_
  refine ks_bipush (a := 32) rfl C d_Nodes_level_5 ?_
  refine ks_imul C d_Nodes_level_7 ?_
  refine ks_iconst (a := 0) rfl C d_Nodes_level_8 ?_
  refine ks_iadd C d_Nodes_level_9 ?_
  refine ks_cx (ci := 1) (q0 := 0) (kw_nodes K n0 n1 x0 _ ++ kw_pages K x0 x1 x2 _ _) C (c_Pages_number l D K x0 x1 x2 _ _ _ (by omega)) yw_Pages_number sel_Pages_number lk_Nodes_29 d_Nodes_level_10 rfl rfl rfl [2, 3, 4] [0, 1] [0, 1, 2, 3, 4] rfl rfl rfl rfl (by decide) rfl rfl rfl rfl rfl ⟨by decide, by decide⟩ ⟨by decide, by decide⟩ rfl (Nat.le_of_ble_eq_true rfl) ?_
  refine ks_top_num (fun u1 => ?_)
  refine ks_iconst (a := 4) rfl C d_Nodes_level_13 ?_
  refine ks_min C lk_Nodes_33 wm_min (by omega) (by omega) (by decide) (Nat.le_of_ble_eq_true rfl) (by decide) (by decide) d_Nodes_level_14 ?_
  exact ks_iret C Z rfl rfl d_Nodes_level_17 rfl rfl ⟨ks_eqN (by rw [Nat.add_zero]; rfl), rfl⟩
set_option maxRecDepth 100000 in
set_option maxHeartbeats 4000000 in
theorem c_Nodes_count (l : Launch) (D : va_G) (K : Nat → ClassId) (n0 n1 x0 x1 x2 : Nat) (P : Nat → Nat) (B : Nat → UInt8) (G : Nat → Bool) (p : Nat) (h1 : p < 65536) : ks_M l D (ks_T K) (ks_R 1) y_Nodes_count b_Nodes_count 2 (some .int) [.ref n0, .int (nI p)] (kw_nodes K n0 n1 x0 P ++ kw_pages K x0 x1 x2 B G) (ks_f (some (.int (nI (kv_count B p)))) (kw_nodes K n0 n1 x0 P ++ kw_pages K x0 x1 x2 B G)) := by
  refine ks_M.of 0 (by decide) (Nat.le_of_ble_eq_true rfl) ?_
  intro E C Z
  refine ks_aload_n rfl rfl C d_Nodes_count_0 ?_
  refine ks_get (k := 0) C 0 5 in_Nodes rfl (by decide) fk_Nodes_15 rfl rfl rfl d_Nodes_count_1 ?_
  refine ks_iload_n rfl rfl C d_Nodes_count_4 ?_
  refine ks_bipush (a := 32) rfl C d_Nodes_count_5 ?_
  refine ks_imul C d_Nodes_count_7 ?_
  refine ks_iconst (a := 2) rfl C d_Nodes_count_8 ?_
  refine ks_iadd C d_Nodes_count_9 ?_
  refine ks_cx (ci := 1) (q0 := 0) (kw_nodes K n0 n1 x0 _ ++ kw_pages K x0 x1 x2 _ _) C (c_Pages_number l D K x0 x1 x2 _ _ _ (by omega)) yw_Pages_number sel_Pages_number lk_Nodes_29 d_Nodes_count_10 rfl rfl rfl [2, 3, 4] [0, 1] [0, 1, 2, 3, 4] rfl rfl rfl rfl (by decide) rfl rfl rfl rfl rfl ⟨by decide, by decide⟩ ⟨by decide, by decide⟩ rfl (Nat.le_of_ble_eq_true rfl) ?_
  refine ks_top_num (fun u1 => ?_)
  refine ks_bipush (a := 14) rfl C d_Nodes_count_13 ?_
  refine ks_min C lk_Nodes_33 wm_min (by omega) (by omega) (by decide) (Nat.le_of_ble_eq_true rfl) (by decide) (by decide) d_Nodes_count_15 ?_
  exact ks_iret C Z rfl rfl d_Nodes_count_18 rfl rfl ⟨rfl, rfl⟩
set_option maxRecDepth 100000 in
set_option maxHeartbeats 4000000 in
theorem c_Nodes_slot (l : Launch) (D : va_G) (K : Nat → ClassId) (n0 n1 x0 x1 x2 : Nat) (P : Nat → Nat) (B : Nat → UInt8) (G : Nat → Bool) (p i : Nat) (h1 : p < 65536) (h2 : i < 131072) : ks_M l D (ks_T K) (ks_R 1) y_Nodes_slot b_Nodes_slot 3 (some .int) [.ref n0, .int (nI p), .int (nI i)] (kw_nodes K n0 n1 x0 P ++ kw_pages K x0 x1 x2 B G) (ks_f (some (.int (nI (kv_slot B p i)))) (kw_nodes K n0 n1 x0 P ++ kw_pages K x0 x1 x2 B G)) := by
  refine ks_M.of 0 (by decide) (Nat.le_of_ble_eq_true rfl) ?_
  intro E C Z
  refine ks_aload_n rfl rfl C d_Nodes_slot_0 ?_
  refine ks_get (k := 0) C 0 5 in_Nodes rfl (by decide) fk_Nodes_15 rfl rfl rfl d_Nodes_slot_1 ?_
  refine ks_iload_n rfl rfl C d_Nodes_slot_4 ?_
  refine ks_bipush (a := 32) rfl C d_Nodes_slot_5 ?_
  refine ks_imul C d_Nodes_slot_7 ?_
  refine ks_iconst (a := 4) rfl C d_Nodes_slot_8 ?_
  refine ks_iadd C d_Nodes_slot_9 ?_
  refine ks_iconst (a := 2) rfl C d_Nodes_slot_10 ?_
  refine ks_iload_n rfl rfl C d_Nodes_slot_11 ?_
  refine ks_imul C d_Nodes_slot_12 ?_
  refine ks_iadd C d_Nodes_slot_13 ?_
  refine ks_cx (ci := 1) (q0 := 0) (kw_nodes K n0 n1 x0 _ ++ kw_pages K x0 x1 x2 _ _) C (c_Pages_number l D K x0 x1 x2 _ _ _ (by omega)) yw_Pages_number sel_Pages_number lk_Nodes_29 d_Nodes_slot_14 rfl rfl rfl [2, 3, 4] [0, 1] [0, 1, 2, 3, 4] rfl rfl rfl rfl (by decide) rfl rfl rfl rfl rfl ⟨by decide, by decide⟩ ⟨by decide, by decide⟩ rfl (Nat.le_of_ble_eq_true rfl) ?_
  refine ks_top_num (fun u1 => ?_)
  exact ks_iret C Z rfl rfl d_Nodes_slot_17 rfl rfl ⟨rfl, rfl⟩
set_option maxRecDepth 100000 in
set_option maxHeartbeats 4000000 in
theorem c_Nodes_least (l : Launch) (D : va_G) (K : Nat → ClassId) (n0 n1 x0 x1 x2 : Nat) (P : Nat → Nat) (B : Nat → UInt8) (G : Nat → Bool) (s lv : Nat) (h1 : s < 65536) (h2 : lv < 65536) : ks_M l D (ks_T K) (ks_R 1) y_Nodes_least b_Nodes_least 5 (some .int) [.ref n0, .int (nI s), .int (nI lv)] (kw_nodes K n0 n1 x0 P ++ kw_pages K x0 x1 x2 B G) (ks_f (some (.int (nI (kv_least B lv s)))) (kw_nodes K n0 n1 x0 P ++ kw_pages K x0 x1 x2 B G)) := by
  refine ks_M.of 2 (by decide) (Nat.le_of_ble_eq_true rfl) ?_
  intro E C Z
  have loop : ∀ (f : Nat) (s1 i : Nat), i + f = lv → s1 < 65536 → kv_least B f s1 = kv_least B lv s → ks_w E D 5 (kw_nodes K n0 n1 x0 P ++ kw_pages K x0 x1 x2 B G) [some (.ref n0), some (.int (nI s)), some (.int (nI lv)), some (.int (nI s1)), some (.int (nI i))] 0 0 5 [] := by
    intro f
    induction f with
    | zero =>
      intro s1 i g1 g2 g3
      refine ks_iload rfl C d_Nodes_least_5 ?_
      refine ks_iload_n rfl rfl C d_Nodes_least_7 ?_
      refine ks_icmp_ge (tgt := 31) C (by omega) (by omega) (by decide) d_Nodes_least_8 (fun u1 => ?_) (fun u1 => ?_)
      · refine ks_iload_n rfl rfl C d_Nodes_least_31 ?_
        exact ks_iret C Z rfl rfl d_Nodes_least_32 rfl rfl ⟨ks_eqN g3, rfl⟩
      · exact (by omega : False).elim
    | succ f ih =>
      intro s1 i g1 g2 g3
      refine ks_iload rfl C d_Nodes_least_5 ?_
      refine ks_iload_n rfl rfl C d_Nodes_least_7 ?_
      refine ks_icmp_ge (tgt := 31) C (by omega) (by omega) (by decide) d_Nodes_least_8 (fun u2 => ?_) (fun u2 => ?_)
      · exact (by omega : False).elim
      · refine ks_aload_n rfl rfl C d_Nodes_least_11 ?_
        refine ks_get (k := 0) C 0 5 in_Nodes rfl (by decide) fk_Nodes_15 rfl rfl rfl d_Nodes_least_12 ?_
        refine ks_iload_n rfl rfl C d_Nodes_least_15 ?_
        refine ks_bipush (a := 32) rfl C d_Nodes_least_16 ?_
        refine ks_imul C d_Nodes_least_18 ?_
        refine ks_iconst (a := 4) rfl C d_Nodes_least_19 ?_
        refine ks_iadd C d_Nodes_least_20 ?_
        refine ks_cx (ci := 1) (q0 := 0) (kw_nodes K n0 n1 x0 _ ++ kw_pages K x0 x1 x2 _ _) C (c_Pages_number l D K x0 x1 x2 _ _ _ (by omega)) yw_Pages_number sel_Pages_number lk_Nodes_29 d_Nodes_least_21 rfl rfl rfl [2, 3, 4] [0, 1] [0, 1, 2, 3, 4] rfl rfl rfl rfl (by decide) rfl rfl rfl rfl rfl ⟨by decide, by decide⟩ ⟨by decide, by decide⟩ rfl (Nat.le_of_ble_eq_true rfl) ?_
        refine ks_top_num (fun u3 => ?_)
        refine ks_istore_n C rfl (by decide) rfl d_Nodes_least_24 ?_
        refine ks_iinc C rfl (z := 1) rfl (by decide) rfl d_Nodes_least_25 ?_
        refine ks_goto (tgt := 5) C (by decide) d_Nodes_least_28 ?_
        exact ih _ _ (by omega) (by omega) g3
  refine ks_iload_n rfl rfl C d_Nodes_least_0 ?_
  refine ks_istore_n C rfl (by decide) rfl d_Nodes_least_1 ?_
  refine ks_iconst (a := 0) rfl C d_Nodes_least_2 ?_
  refine ks_istore C (by decide) rfl d_Nodes_least_3 ?_
  exact loop lv s 0 (by omega) h1 rfl
set_option maxRecDepth 100000 in
set_option maxHeartbeats 4000000 in
theorem c_Nodes_isFull (l : Launch) (D : va_G) (K : Nat → ClassId) (n0 n1 x0 x1 x2 : Nat) (P : Nat → Nat) (B : Nat → UInt8) (G : Nat → Bool) (p : Nat) (h1 : p < 65536) : ks_M l D (ks_T K) (ks_R 2) y_Nodes_isFull b_Nodes_isFull 2 (some .boolean) [.ref n0, .int (nI p)] (kw_nodes K n0 n1 x0 P ++ kw_pages K x0 x1 x2 B G) (ks_f (some (.int (ks_b (decide (kv_count B p = 14))))) (kw_nodes K n0 n1 x0 P ++ kw_pages K x0 x1 x2 B G)) := by
  refine ks_M.of 0 (by decide) (Nat.le_of_ble_eq_true rfl) ?_
  intro E C Z
  refine ks_aload_n rfl rfl C d_Nodes_isFull_0 ?_
  refine ks_iload_n rfl rfl C d_Nodes_isFull_1 ?_
  refine ks_cx (ci := 5) (q0 := 0) (kw_nodes K n0 n1 x0 _ ++ kw_pages K x0 x1 x2 _ _) C (c_Nodes_count l D K n0 n1 x0 x1 x2 _ _ _ _ (by omega)) yw_Nodes_count sel_Nodes_count lk_Nodes_39 d_Nodes_isFull_2 rfl rfl rfl [0, 1, 2, 3, 4] [] [0, 1, 2, 3, 4] rfl rfl rfl rfl (by decide) rfl rfl rfl rfl rfl ⟨by decide, by decide⟩ ⟨by decide, by decide⟩ rfl (Nat.le_of_ble_eq_true rfl) ?_
  refine ks_top_count (fun u1 => ?_)
  refine ks_bipush (a := 14) rfl C d_Nodes_isFull_5 ?_
  refine ks_icmp_ne (tgt := 14) C (by omega) (by omega) (by decide) d_Nodes_isFull_7 (fun u2 => ?_) (fun u2 => ?_)
  · refine ks_iconstB false rfl C d_Nodes_isFull_14 ?_
    exact ks_iret C Z rfl (ks_nb1 _) d_Nodes_isFull_15 rfl rfl ⟨ks_eqF (by omega), rfl⟩
  · refine ks_iconstB true rfl C d_Nodes_isFull_10 ?_
    refine ks_goto (tgt := 15) C (by decide) d_Nodes_isFull_11 ?_
    exact ks_iret C Z rfl (ks_nb1 _) d_Nodes_isFull_15 rfl rfl ⟨ks_eqT (by omega), rfl⟩
set_option maxRecDepth 100000 in
set_option maxHeartbeats 4000000 in
theorem c_Nodes_isSparse (l : Launch) (D : va_G) (K : Nat → ClassId) (n0 n1 x0 x1 x2 : Nat) (P : Nat → Nat) (B : Nat → UInt8) (G : Nat → Bool) (p : Nat) (h1 : p < 65536) : ks_M l D (ks_T K) (ks_R 2) y_Nodes_isSparse b_Nodes_isSparse 2 (some .boolean) [.ref n0, .int (nI p)] (kw_nodes K n0 n1 x0 P ++ kw_pages K x0 x1 x2 B G) (ks_f (some (.int (ks_b (decide (kv_count B p < 7))))) (kw_nodes K n0 n1 x0 P ++ kw_pages K x0 x1 x2 B G)) := by
  refine ks_M.of 0 (by decide) (Nat.le_of_ble_eq_true rfl) ?_
  intro E C Z
  refine ks_aload_n rfl rfl C d_Nodes_isSparse_0 ?_
  refine ks_iload_n rfl rfl C d_Nodes_isSparse_1 ?_
  refine ks_cx (ci := 5) (q0 := 0) (kw_nodes K n0 n1 x0 _ ++ kw_pages K x0 x1 x2 _ _) C (c_Nodes_count l D K n0 n1 x0 x1 x2 _ _ _ _ (by omega)) yw_Nodes_count sel_Nodes_count lk_Nodes_39 d_Nodes_isSparse_2 rfl rfl rfl [0, 1, 2, 3, 4] [] [0, 1, 2, 3, 4] rfl rfl rfl rfl (by decide) rfl rfl rfl rfl rfl ⟨by decide, by decide⟩ ⟨by decide, by decide⟩ rfl (Nat.le_of_ble_eq_true rfl) ?_
  refine ks_top_count (fun u1 => ?_)
  refine ks_bipush (a := 7) rfl C d_Nodes_isSparse_5 ?_
  refine ks_icmp_ge (tgt := 14) C (by omega) (by omega) (by decide) d_Nodes_isSparse_7 (fun u2 => ?_) (fun u2 => ?_)
  · refine ks_iconstB false rfl C d_Nodes_isSparse_14 ?_
    exact ks_iret C Z rfl (ks_nb1 _) d_Nodes_isSparse_15 rfl rfl ⟨ks_eqF (by omega), rfl⟩
  · refine ks_iconstB true rfl C d_Nodes_isSparse_10 ?_
    refine ks_goto (tgt := 15) C (by decide) d_Nodes_isSparse_11 ?_
    exact ks_iret C Z rfl (ks_nb1 _) d_Nodes_isSparse_15 rfl rfl ⟨ks_eqT (by omega), rfl⟩
set_option maxRecDepth 100000 in
set_option maxHeartbeats 4000000 in
theorem c_Nodes_setSlot (l : Launch) (D : va_G) (K : Nat → ClassId) (n0 n1 x0 x1 x2 : Nat) (P : Nat → Nat) (B : Nat → UInt8) (G : Nat → Bool) (p i s : Nat) (h1 : p < 65536) (h2 : i < 131072) : ks_M l D (ks_T K) (ks_R 1) y_Nodes_setSlot b_Nodes_setSlot 4 none [.ref n0, .int (nI p), .int (nI i), .int (nI s)] (kw_nodes K n0 n1 x0 P ++ kw_pages K x0 x1 x2 B G) (ks_f none (kw_nodes K n0 n1 x0 P ++ kw_pages K x0 x1 x2 (kv_setSlot (B, G) p i s).1 (kv_setSlot (B, G) p i s).2)) := by
  refine ks_M.of 0 (by decide) (Nat.le_of_ble_eq_true rfl) ?_
  intro E C Z
  refine ks_aload_n rfl rfl C d_Nodes_setSlot_0 ?_
  refine ks_get (k := 0) C 0 5 in_Nodes rfl (by decide) fk_Nodes_15 rfl rfl rfl d_Nodes_setSlot_1 ?_
  refine ks_iload_n rfl rfl C d_Nodes_setSlot_4 ?_
  refine ks_bipush (a := 32) rfl C d_Nodes_setSlot_5 ?_
  refine ks_imul C d_Nodes_setSlot_7 ?_
  refine ks_iconst (a := 4) rfl C d_Nodes_setSlot_8 ?_
  refine ks_iadd C d_Nodes_setSlot_9 ?_
  refine ks_iconst (a := 2) rfl C d_Nodes_setSlot_10 ?_
  refine ks_iload_n rfl rfl C d_Nodes_setSlot_11 ?_
  refine ks_imul C d_Nodes_setSlot_12 ?_
  refine ks_iadd C d_Nodes_setSlot_13 ?_
  refine ks_iload_n rfl rfl C d_Nodes_setSlot_14 ?_
  refine ks_cv (ci := 1) (q0 := 0) (kw_nodes K n0 n1 x0 _ ++ kw_pages K x0 x1 x2 _ _) C (c_Pages_setNumber l D K x0 x1 x2 _ _ _ _ (by omega)) yw_Pages_setNumber sel_Pages_setNumber lk_Nodes_25 d_Nodes_setSlot_15 rfl rfl rfl [2, 3, 4] [0, 1] [0, 1, 2, 3, 4] rfl rfl rfl rfl (by decide) rfl rfl rfl rfl rfl ⟨by decide, by decide⟩ ⟨by decide, by decide⟩ rfl (Nat.le_of_ble_eq_true rfl) ?_
  exact ks_vret C Z rfl d_Nodes_setSlot_18 rfl rfl ⟨rfl, rfl⟩
set_option maxRecDepth 100000 in
set_option maxHeartbeats 4000000 in
theorem c_Nodes_setCount (l : Launch) (D : va_G) (K : Nat → ClassId) (n0 n1 x0 x1 x2 : Nat) (P : Nat → Nat) (B : Nat → UInt8) (G : Nat → Bool) (p n : Nat) (h1 : p < 65536) : ks_M l D (ks_T K) (ks_R 1) y_Nodes_setCount b_Nodes_setCount 3 none [.ref n0, .int (nI p), .int (nI n)] (kw_nodes K n0 n1 x0 P ++ kw_pages K x0 x1 x2 B G) (ks_f none (kw_nodes K n0 n1 x0 P ++ kw_pages K x0 x1 x2 (kv_setCount (B, G) p n).1 (kv_setCount (B, G) p n).2)) := by
  refine ks_M.of 0 (by decide) (Nat.le_of_ble_eq_true rfl) ?_
  intro E C Z
  refine ks_aload_n rfl rfl C d_Nodes_setCount_0 ?_
  refine ks_get (k := 0) C 0 5 in_Nodes rfl (by decide) fk_Nodes_15 rfl rfl rfl d_Nodes_setCount_1 ?_
  refine ks_iload_n rfl rfl C d_Nodes_setCount_4 ?_
  refine ks_bipush (a := 32) rfl C d_Nodes_setCount_5 ?_
  refine ks_imul C d_Nodes_setCount_7 ?_
  refine ks_iconst (a := 2) rfl C d_Nodes_setCount_8 ?_
  refine ks_iadd C d_Nodes_setCount_9 ?_
  refine ks_iload_n rfl rfl C d_Nodes_setCount_10 ?_
  refine ks_cv (ci := 1) (q0 := 0) (kw_nodes K n0 n1 x0 _ ++ kw_pages K x0 x1 x2 _ _) C (c_Pages_setNumber l D K x0 x1 x2 _ _ _ _ (by omega)) yw_Pages_setNumber sel_Pages_setNumber lk_Nodes_25 d_Nodes_setCount_11 rfl rfl rfl [2, 3, 4] [0, 1] [0, 1, 2, 3, 4] rfl rfl rfl rfl (by decide) rfl rfl rfl rfl rfl ⟨by decide, by decide⟩ ⟨by decide, by decide⟩ rfl (Nat.le_of_ble_eq_true rfl) ?_
  exact ks_vret C Z rfl d_Nodes_setCount_14 rfl rfl ⟨rfl, rfl⟩
set_option maxRecDepth 100000 in
set_option maxHeartbeats 4000000 in
theorem c_Nodes_insert (l : Launch) (D : va_G) (K : Nat → ClassId) (n0 n1 x0 x1 x2 : Nat) (P : Nat → Nat) (B : Nat → UInt8) (G : Nat → Bool) (p i s : Nat) (h1 : p < 65536) (h2 : i < 131072) : ks_M l D (ks_T K) (ks_R 2) y_Nodes_insert b_Nodes_insert 6 none [.ref n0, .int (nI p), .int (nI i), .int (nI s)] (kw_nodes K n0 n1 x0 P ++ kw_pages K x0 x1 x2 B G) (ks_f none (kw_nodes K n0 n1 x0 P ++ kw_pages K x0 x1 x2 (kv_insert (B, G) p i s).1 (kv_insert (B, G) p i s).2)) := by
  refine ks_M.of 2 (by decide) (Nat.le_of_ble_eq_true rfl) ?_
  intro E C Z
  have loop : ∀ (f : Nat) (B1 : Nat → UInt8) (G1 : Nat → Bool), i + f ≤ 14 → kv_setCount (kv_setSlot (kv_upL p i f (B1, G1)) p i s) p (kv_count B p + 1) = (kv_insert (B, G) p i s) → ks_w E D 6 (kw_nodes K n0 n1 x0 P ++ kw_pages K x0 x1 x2 B1 G1) [some (.ref n0), some (.int (nI p)), some (.int (nI i)), some (.int (nI s)), some (.int (nI (kv_count B p))), some (.int (nI (i + f)))] 0 0 29 [] := by
    intro f
    induction f with
    | zero =>
      intro B1 G1 g1 g2
      refine ks_iload rfl C d_Nodes_insert_29 ?_
      refine ks_iload_n rfl rfl C d_Nodes_insert_31 ?_
      refine ks_icmp_le (tgt := 57) C (by omega) (by omega) (by decide) d_Nodes_insert_32 (fun u1 => ?_) (fun u1 => ?_)
      · refine ks_aload_n rfl rfl C d_Nodes_insert_57 ?_
        refine ks_iload_n rfl rfl C d_Nodes_insert_58 ?_
        refine ks_iload_n rfl rfl C d_Nodes_insert_59 ?_
        refine ks_iload_n rfl rfl C d_Nodes_insert_60 ?_
        refine ks_cv (ci := 5) (q0 := 0) (kw_nodes K n0 n1 x0 _ ++ kw_pages K x0 x1 x2 _ _) C (c_Nodes_setSlot l D K n0 n1 x0 x1 x2 _ _ _ _ _ _ (by omega) (by omega)) yw_Nodes_setSlot sel_Nodes_setSlot lk_Nodes_45 d_Nodes_insert_61 rfl rfl rfl [0, 1, 2, 3, 4] [] [0, 1, 2, 3, 4] rfl rfl rfl rfl (by decide) rfl rfl rfl rfl rfl ⟨by decide, by decide⟩ ⟨by decide, by decide⟩ rfl (Nat.le_of_ble_eq_true rfl) ?_
        refine ks_aload_n rfl rfl C d_Nodes_insert_64 ?_
        refine ks_iload_n rfl rfl C d_Nodes_insert_65 ?_
        refine ks_iload rfl C d_Nodes_insert_66 ?_
        refine ks_iconst (a := 1) rfl C d_Nodes_insert_68 ?_
        refine ks_iadd C d_Nodes_insert_69 ?_
        refine ks_cv (ci := 5) (q0 := 0) (kw_nodes K n0 n1 x0 _ ++ kw_pages K x0 x1 x2 _ _) C (c_Nodes_setCount l D K n0 n1 x0 x1 x2 _ _ _ _ _ (by omega)) yw_Nodes_setCount sel_Nodes_setCount lk_Nodes_49 d_Nodes_insert_70 rfl rfl rfl [0, 1, 2, 3, 4] [] [0, 1, 2, 3, 4] rfl rfl rfl rfl (by decide) rfl rfl rfl rfl rfl ⟨by decide, by decide⟩ ⟨by decide, by decide⟩ rfl (Nat.le_of_ble_eq_true rfl) ?_
        exact ks_vret C Z rfl d_Nodes_insert_73 rfl rfl ⟨rfl, by rw [← g2]; rfl⟩
      · exact (by omega : False).elim
    | succ f ih =>
      intro B1 G1 g1 g2
      refine ks_iload rfl C d_Nodes_insert_29 ?_
      refine ks_iload_n rfl rfl C d_Nodes_insert_31 ?_
      refine ks_icmp_le (tgt := 57) C (by omega) (by omega) (by decide) d_Nodes_insert_32 (fun u2 => ?_) (fun u2 => ?_)
      · exact (by omega : False).elim
      · refine ks_aload_n rfl rfl C d_Nodes_insert_35 ?_
        refine ks_iload_n rfl rfl C d_Nodes_insert_36 ?_
        refine ks_iload rfl C d_Nodes_insert_37 ?_
        refine ks_aload_n rfl rfl C d_Nodes_insert_39 ?_
        refine ks_iload_n rfl rfl C d_Nodes_insert_40 ?_
        refine ks_iload rfl C d_Nodes_insert_41 ?_
        refine ks_iconst (a := 1) rfl C d_Nodes_insert_43 ?_
        refine ks_isub (by omega) C d_Nodes_insert_44 ?_
        refine ks_cx (ci := 5) (q0 := 0) (kw_nodes K n0 n1 x0 _ ++ kw_pages K x0 x1 x2 _ _) C (c_Nodes_slot l D K n0 n1 x0 x1 x2 _ _ _ _ _ (by omega) (by omega)) yw_Nodes_slot sel_Nodes_slot lk_Nodes_42 d_Nodes_insert_45 rfl rfl rfl [0, 1, 2, 3, 4] [] [0, 1, 2, 3, 4] rfl rfl rfl rfl (by decide) rfl rfl rfl rfl rfl ⟨by decide, by decide⟩ ⟨by decide, by decide⟩ rfl (Nat.le_of_ble_eq_true rfl) ?_
        refine ks_top_slot (fun u3 => ?_)
        refine ks_cv (ci := 5) (q0 := 0) (kw_nodes K n0 n1 x0 _ ++ kw_pages K x0 x1 x2 _ _) C (c_Nodes_setSlot l D K n0 n1 x0 x1 x2 _ _ _ _ _ _ (by omega) (by omega)) yw_Nodes_setSlot sel_Nodes_setSlot lk_Nodes_45 d_Nodes_insert_48 rfl rfl rfl [0, 1, 2, 3, 4] [] [0, 1, 2, 3, 4] rfl rfl rfl rfl (by decide) rfl rfl rfl rfl rfl ⟨by decide, by decide⟩ ⟨by decide, by decide⟩ rfl (Nat.le_of_ble_eq_true rfl) ?_
        refine ks_iinc C rfl (z := 4294967295) rfl (by decide) rfl d_Nodes_insert_51 ?_
        refine ks_goto (tgt := 29) C (by decide) d_Nodes_insert_54 ?_
        rw [show nI (i + (f + 1) + 4294967295) = nI (i + f) from (ks_m1 (n := i + (f + 1)) (by omega)).symm]
        exact ih _ _ (by omega) (by have e : i + (f + 1) - 1 = i + f := rfl; rw [e, ← g2, kv_upL]; rfl)
  refine ks_aload_n rfl rfl C d_Nodes_insert_0 ?_
  refine ks_iload_n rfl rfl C d_Nodes_insert_1 ?_
  refine ks_cx (ci := 5) (q0 := 0) (kw_nodes K n0 n1 x0 _ ++ kw_pages K x0 x1 x2 _ _) C (c_Nodes_count l D K n0 n1 x0 x1 x2 _ _ _ _ (by omega)) yw_Nodes_count sel_Nodes_count lk_Nodes_39 d_Nodes_insert_2 rfl rfl rfl [0, 1, 2, 3, 4] [] [0, 1, 2, 3, 4] rfl rfl rfl rfl (by decide) rfl rfl rfl rfl rfl ⟨by decide, by decide⟩ ⟨by decide, by decide⟩ rfl (Nat.le_of_ble_eq_true rfl) ?_
  refine ks_top_count (fun u4 => ?_)
  refine ks_istore C (by decide) rfl d_Nodes_insert_5 ?_
  refine ks_iload_n rfl rfl C d_Nodes_insert_7 ?_
  refine ks_iflt0 (tgt := 24) C (by omega) d_Nodes_insert_8 (by decide) ?_
  refine ks_iload_n rfl rfl C d_Nodes_insert_11 ?_
  refine ks_iload rfl C d_Nodes_insert_12 ?_
  refine ks_icmp_gt (tgt := 24) C (by omega) (by omega) (by decide) d_Nodes_insert_14 (fun u6 => ?_) (fun u6 => ?_)
  · exact ks_vret C Z rfl d_Nodes_insert_24 rfl rfl ⟨rfl, by unfold kv_insert; dsimp only; rw [if_pos (by omega)]⟩
  · refine ks_iload rfl C d_Nodes_insert_17 ?_
    refine ks_bipush (a := 14) rfl C d_Nodes_insert_19 ?_
    refine ks_icmp_lt (tgt := 25) C (by omega) (by omega) (by decide) d_Nodes_insert_21 (fun u7 => ?_) (fun u7 => ?_)
    · refine ks_iload rfl C d_Nodes_insert_25 ?_
      refine ks_istore C (by decide) rfl d_Nodes_insert_27 ?_
      have e := loop (kv_count B p - i) B G (by omega) (by unfold kv_insert; dsimp only; rw [if_neg (by omega)])
      rw [show i + (kv_count B p - i) = kv_count B p by omega] at e
      exact e
    · exact ks_vret C Z rfl d_Nodes_insert_24 rfl rfl ⟨rfl, by unfold kv_insert; dsimp only; rw [if_pos (by omega)]⟩
set_option maxRecDepth 100000 in
set_option maxHeartbeats 4000000 in
theorem c_Nodes_delete (l : Launch) (D : va_G) (K : Nat → ClassId) (n0 n1 x0 x1 x2 : Nat) (P : Nat → Nat) (B : Nat → UInt8) (G : Nat → Bool) (p i : Nat) (h1 : p < 65536) (h2 : i < 131072) : ks_M l D (ks_T K) (ks_R 2) y_Nodes_delete b_Nodes_delete 5 none [.ref n0, .int (nI p), .int (nI i)] (kw_nodes K n0 n1 x0 P ++ kw_pages K x0 x1 x2 B G) (ks_f none (kw_nodes K n0 n1 x0 P ++ kw_pages K x0 x1 x2 (kv_delete (B, G) p i).1 (kv_delete (B, G) p i).2)) := by
  refine ks_M.of 2 (by decide) (Nat.le_of_ble_eq_true rfl) ?_
  intro E C Z
  have loop : ∀ (f : Nat) (B1 : Nat → UInt8) (G1 : Nat → Bool) (j : Nat), j + f + 1 = kv_count B p → kv_count B p ≤ 14 → kv_setCount (kv_dnL p f j (B1, G1)) p (kv_count B p - 1) = (kv_delete (B, G) p i) → ks_w E D 5 (kw_nodes K n0 n1 x0 P ++ kw_pages K x0 x1 x2 B1 G1) [some (.ref n0), some (.int (nI p)), some (.int (nI i)), some (.int (nI (kv_count B p))), some (.int (nI j))] 0 0 19 [] := by
    intro f
    induction f with
    | zero =>
      intro B1 G1 j g1 g2 g3
      refine ks_iload rfl C d_Nodes_delete_19 ?_
      refine ks_iload_n rfl rfl C d_Nodes_delete_21 ?_
      refine ks_iconst (a := 1) rfl C d_Nodes_delete_22 ?_
      refine ks_isub (by omega) C d_Nodes_delete_23 ?_
      refine ks_icmp_ge (tgt := 49) C (by omega) (by omega) (by decide) d_Nodes_delete_24 (fun u1 => ?_) (fun u1 => ?_)
      · refine ks_aload_n rfl rfl C d_Nodes_delete_49 ?_
        refine ks_iload_n rfl rfl C d_Nodes_delete_50 ?_
        refine ks_iload_n rfl rfl C d_Nodes_delete_51 ?_
        refine ks_iconst (a := 1) rfl C d_Nodes_delete_52 ?_
        refine ks_isub (by omega) C d_Nodes_delete_53 ?_
        refine ks_cv (ci := 5) (q0 := 0) (kw_nodes K n0 n1 x0 _ ++ kw_pages K x0 x1 x2 _ _) C (c_Nodes_setCount l D K n0 n1 x0 x1 x2 _ _ _ _ _ (by omega)) yw_Nodes_setCount sel_Nodes_setCount lk_Nodes_49 d_Nodes_delete_54 rfl rfl rfl [0, 1, 2, 3, 4] [] [0, 1, 2, 3, 4] rfl rfl rfl rfl (by decide) rfl rfl rfl rfl rfl ⟨by decide, by decide⟩ ⟨by decide, by decide⟩ rfl (Nat.le_of_ble_eq_true rfl) ?_
        exact ks_vret C Z rfl d_Nodes_delete_57 rfl rfl ⟨rfl, by rw [← g3]; rfl⟩
      · exact (by omega : False).elim
    | succ f ih =>
      intro B1 G1 j g1 g2 g3
      refine ks_iload rfl C d_Nodes_delete_19 ?_
      refine ks_iload_n rfl rfl C d_Nodes_delete_21 ?_
      refine ks_iconst (a := 1) rfl C d_Nodes_delete_22 ?_
      refine ks_isub (by omega) C d_Nodes_delete_23 ?_
      refine ks_icmp_ge (tgt := 49) C (by omega) (by omega) (by decide) d_Nodes_delete_24 (fun u2 => ?_) (fun u2 => ?_)
      · exact (by omega : False).elim
      · refine ks_aload_n rfl rfl C d_Nodes_delete_27 ?_
        refine ks_iload_n rfl rfl C d_Nodes_delete_28 ?_
        refine ks_iload rfl C d_Nodes_delete_29 ?_
        refine ks_aload_n rfl rfl C d_Nodes_delete_31 ?_
        refine ks_iload_n rfl rfl C d_Nodes_delete_32 ?_
        refine ks_iload rfl C d_Nodes_delete_33 ?_
        refine ks_iconst (a := 1) rfl C d_Nodes_delete_35 ?_
        refine ks_iadd C d_Nodes_delete_36 ?_
        refine ks_cx (ci := 5) (q0 := 0) (kw_nodes K n0 n1 x0 _ ++ kw_pages K x0 x1 x2 _ _) C (c_Nodes_slot l D K n0 n1 x0 x1 x2 _ _ _ _ _ (by omega) (by omega)) yw_Nodes_slot sel_Nodes_slot lk_Nodes_42 d_Nodes_delete_37 rfl rfl rfl [0, 1, 2, 3, 4] [] [0, 1, 2, 3, 4] rfl rfl rfl rfl (by decide) rfl rfl rfl rfl rfl ⟨by decide, by decide⟩ ⟨by decide, by decide⟩ rfl (Nat.le_of_ble_eq_true rfl) ?_
        refine ks_top_slot (fun u3 => ?_)
        refine ks_cv (ci := 5) (q0 := 0) (kw_nodes K n0 n1 x0 _ ++ kw_pages K x0 x1 x2 _ _) C (c_Nodes_setSlot l D K n0 n1 x0 x1 x2 _ _ _ _ _ _ (by omega) (by omega)) yw_Nodes_setSlot sel_Nodes_setSlot lk_Nodes_45 d_Nodes_delete_40 rfl rfl rfl [0, 1, 2, 3, 4] [] [0, 1, 2, 3, 4] rfl rfl rfl rfl (by decide) rfl rfl rfl rfl rfl ⟨by decide, by decide⟩ ⟨by decide, by decide⟩ rfl (Nat.le_of_ble_eq_true rfl) ?_
        refine ks_iinc C rfl (z := 1) rfl (by decide) rfl d_Nodes_delete_43 ?_
        refine ks_goto (tgt := 19) C (by decide) d_Nodes_delete_46 ?_
        exact ih _ _ _ (by omega) g2 (by rw [← g3, kv_dnL])
  refine ks_aload_n rfl rfl C d_Nodes_delete_0 ?_
  refine ks_iload_n rfl rfl C d_Nodes_delete_1 ?_
  refine ks_cx (ci := 5) (q0 := 0) (kw_nodes K n0 n1 x0 _ ++ kw_pages K x0 x1 x2 _ _) C (c_Nodes_count l D K n0 n1 x0 x1 x2 _ _ _ _ (by omega)) yw_Nodes_count sel_Nodes_count lk_Nodes_39 d_Nodes_delete_2 rfl rfl rfl [0, 1, 2, 3, 4] [] [0, 1, 2, 3, 4] rfl rfl rfl rfl (by decide) rfl rfl rfl rfl rfl ⟨by decide, by decide⟩ ⟨by decide, by decide⟩ rfl (Nat.le_of_ble_eq_true rfl) ?_
  refine ks_top_count (fun u4 => ?_)
  refine ks_istore_n C rfl (by decide) rfl d_Nodes_delete_5 ?_
  refine ks_iload_n rfl rfl C d_Nodes_delete_6 ?_
  refine ks_iflt0 (tgt := 15) C (by omega) d_Nodes_delete_7 (by decide) ?_
  refine ks_iload_n rfl rfl C d_Nodes_delete_10 ?_
  refine ks_iload_n rfl rfl C d_Nodes_delete_11 ?_
  refine ks_icmp_lt (tgt := 16) C (by omega) (by omega) (by decide) d_Nodes_delete_12 (fun u6 => ?_) (fun u6 => ?_)
  · refine ks_iload_n rfl rfl C d_Nodes_delete_16 ?_
    refine ks_istore C (by decide) rfl d_Nodes_delete_17 ?_
    exact loop (kv_count B p - 1 - i) B G i (by omega) (by omega) (by unfold kv_delete; dsimp only; rw [if_neg (by omega)])
  · exact ks_vret C Z rfl d_Nodes_delete_15 rfl rfl ⟨rfl, by unfold kv_delete; dsimp only; rw [if_pos (by omega)]⟩
set_option maxRecDepth 100000 in
set_option maxHeartbeats 4000000 in
theorem c_Nodes_share (l : Launch) (D : va_G) (K : Nat → ClassId) (n0 n1 x0 x1 x2 : Nat) (P : Nat → Nat) (B : Nat → UInt8) (G : Nat → Bool) (l1 r toL : Nat) (h1 : l1 < 65536) (h2 : r < 65536) (h3 : toL ≤ kv_count B l1 + kv_count B r) : ks_M l D (ks_T K) (ks_R 2) y_Nodes_share b_Nodes_share 7 none [.ref n0, .int (nI l1), .int (nI r), .int (nI toL)] (kw_nodes K n0 n1 x0 P ++ kw_pages K x0 x1 x2 B G) (ks_f none (kw_nodes K n0 n1 x0 (kv_share (B, G) l1 r toL P).2 ++ kw_pages K x0 x1 x2 (kv_share (B, G) l1 r toL P).1.1 (kv_share (B, G) l1 r toL P).1.2)) := by
  refine ks_M.of 3 (by decide) (Nat.le_of_ble_eq_true rfl) ?_
  intro E C Z
  have loopC : ∀ (f : Nat) (B1 : Nat → UInt8) (G1 : Nat → Bool) (i : Nat), i + f = (kv_count B l1 + kv_count B r) → toL ≤ i → kv_count B l1 ≤ 14 → kv_count B r ≤ 14 → kv_setCount (kv_setCount (kv_layL r (kv_gath B l1 r (kv_count B l1) (kv_count B l1 + kv_count B r) P) toL f (i - toL) (B1, G1)) l1 toL) r ((kv_count B l1 + kv_count B r) - toL) = (kv_share (B, G) l1 r toL P).1 → ks_w E D 7 (kw_nodes K n0 n1 x0 (kv_gath B l1 r (kv_count B l1) (kv_count B l1 + kv_count B r) P) ++ kw_pages K x0 x1 x2 B1 G1) [some (.ref n0), some (.int (nI l1)), some (.int (nI r)), some (.int (nI toL)), some (.int (nI (kv_count B l1))), some (.int (nI (kv_count B l1 + kv_count B r))), some (.int (nI i))] 0 0 99 [] := by
    intro f
    induction f with
    | zero =>
      intro B1 G1 i g1 g2 g3 g4 g5
      refine ks_iload rfl C d_Nodes_share_99 ?_
      refine ks_iload rfl C d_Nodes_share_101 ?_
      refine ks_icmp_ge (tgt := 128) C (by omega) (by omega) (by decide) d_Nodes_share_103 (fun u1 => ?_) (fun u1 => ?_)
      · refine ks_aload_n rfl rfl C d_Nodes_share_128 ?_
        refine ks_iload_n rfl rfl C d_Nodes_share_129 ?_
        refine ks_iload_n rfl rfl C d_Nodes_share_130 ?_
        refine ks_cv (ci := 5) (q0 := 0) (kw_nodes K n0 n1 x0 _ ++ kw_pages K x0 x1 x2 _ _) C (c_Nodes_setCount l D K n0 n1 x0 x1 x2 _ _ _ _ _ (by omega)) yw_Nodes_setCount sel_Nodes_setCount lk_Nodes_49 d_Nodes_share_131 rfl rfl rfl [0, 1, 2, 3, 4] [] [0, 1, 2, 3, 4] rfl rfl rfl rfl (by decide) rfl rfl rfl rfl rfl ⟨by decide, by decide⟩ ⟨by decide, by decide⟩ rfl (Nat.le_of_ble_eq_true rfl) ?_
        refine ks_aload_n rfl rfl C d_Nodes_share_134 ?_
        refine ks_iload_n rfl rfl C d_Nodes_share_135 ?_
        refine ks_iload rfl C d_Nodes_share_136 ?_
        refine ks_iload_n rfl rfl C d_Nodes_share_138 ?_
        refine ks_isub (by omega) C d_Nodes_share_139 ?_
        refine ks_cv (ci := 5) (q0 := 0) (kw_nodes K n0 n1 x0 _ ++ kw_pages K x0 x1 x2 _ _) C (c_Nodes_setCount l D K n0 n1 x0 x1 x2 _ _ _ _ _ (by omega)) yw_Nodes_setCount sel_Nodes_setCount lk_Nodes_49 d_Nodes_share_140 rfl rfl rfl [0, 1, 2, 3, 4] [] [0, 1, 2, 3, 4] rfl rfl rfl rfl (by decide) rfl rfl rfl rfl rfl ⟨by decide, by decide⟩ ⟨by decide, by decide⟩ rfl (Nat.le_of_ble_eq_true rfl) ?_
        exact ks_vret C Z rfl d_Nodes_share_143 rfl rfl ⟨rfl, by rw [show (kv_share (B, G) l1 r toL P).1 = _ from g5.symm]; rfl⟩
      · exact (by omega : False).elim
    | succ f ih =>
      intro B1 G1 i g1 g2 g3 g4 g5
      refine ks_iload rfl C d_Nodes_share_99 ?_
      refine ks_iload rfl C d_Nodes_share_101 ?_
      refine ks_icmp_ge (tgt := 128) C (by omega) (by omega) (by decide) d_Nodes_share_103 (fun u2 => ?_) (fun u2 => ?_)
      · exact (by omega : False).elim
      · refine ks_aload_n rfl rfl C d_Nodes_share_106 ?_
        refine ks_iload_n rfl rfl C d_Nodes_share_107 ?_
        refine ks_iload rfl C d_Nodes_share_108 ?_
        refine ks_iload_n rfl rfl C d_Nodes_share_110 ?_
        refine ks_isub (by omega) C d_Nodes_share_111 ?_
        refine ks_aload_n rfl rfl C d_Nodes_share_112 ?_
        refine ks_get (k := 1) C 0 5 in_Nodes rfl (by decide) fk_Nodes_11 rfl rfl rfl d_Nodes_share_113 ?_
        refine ks_iload rfl C d_Nodes_share_116 ?_
        refine ks_iald C 1 2 rfl rfl (by omega) (by omega) d_Nodes_share_118 ?_
        refine ks_cv (ci := 5) (q0 := 0) (kw_nodes K n0 n1 x0 _ ++ kw_pages K x0 x1 x2 _ _) C (c_Nodes_setSlot l D K n0 n1 x0 x1 x2 _ _ _ _ _ _ (by omega) (by omega)) yw_Nodes_setSlot sel_Nodes_setSlot lk_Nodes_45 d_Nodes_share_119 rfl rfl rfl [0, 1, 2, 3, 4] [] [0, 1, 2, 3, 4] rfl rfl rfl rfl (by decide) rfl rfl rfl rfl rfl ⟨by decide, by decide⟩ ⟨by decide, by decide⟩ rfl (Nat.le_of_ble_eq_true rfl) ?_
        refine ks_iinc C rfl (z := 1) rfl (by decide) rfl d_Nodes_share_122 ?_
        refine ks_goto (tgt := 99) C (by decide) d_Nodes_share_125 ?_
        exact ih _ _ _ (by omega) (by omega) g3 g4 (by rw [← g5, kv_layL, show toL + (i - toL) = i by omega, show i + 1 - toL = i - toL + 1 by omega])
  have loopB : ∀ (f : Nat) (B1 : Nat → UInt8) (G1 : Nat → Bool) (i : Nat), i + f = toL → kv_count B l1 ≤ 14 → kv_count B r ≤ 14 → kv_setCount (kv_setCount (kv_layL r (kv_gath B l1 r (kv_count B l1) (kv_count B l1 + kv_count B r) P) toL ((kv_count B l1 + kv_count B r) - toL) 0 (kv_layL l1 (kv_gath B l1 r (kv_count B l1) (kv_count B l1 + kv_count B r) P) 0 f i (B1, G1))) l1 toL) r ((kv_count B l1 + kv_count B r) - toL) = (kv_share (B, G) l1 r toL P).1 → ks_w E D 7 (kw_nodes K n0 n1 x0 (kv_gath B l1 r (kv_count B l1) (kv_count B l1 + kv_count B r) P) ++ kw_pages K x0 x1 x2 B1 G1) [some (.ref n0), some (.int (nI l1)), some (.int (nI r)), some (.int (nI toL)), some (.int (nI (kv_count B l1))), some (.int (nI (kv_count B l1 + kv_count B r))), some (.int (nI i))] 0 0 70 [] := by
    intro f
    induction f with
    | zero =>
      intro B1 G1 i g1 g2 g3 g4
      refine ks_iload rfl C d_Nodes_share_70 ?_
      refine ks_iload_n rfl rfl C d_Nodes_share_72 ?_
      refine ks_icmp_ge (tgt := 96) C (by omega) (by omega) (by decide) d_Nodes_share_73 (fun u3 => ?_) (fun u3 => ?_)
      · refine ks_iload_n rfl rfl C d_Nodes_share_96 ?_
        refine ks_istore C (by decide) rfl d_Nodes_share_97 ?_
        exact loopC (kv_count B l1 + kv_count B r - toL) _ _ toL (by omega) (by omega) g2 g3 (by rw [Nat.sub_self]; exact g4)
      · exact (by omega : False).elim
    | succ f ih =>
      intro B1 G1 i g1 g2 g3 g4
      refine ks_iload rfl C d_Nodes_share_70 ?_
      refine ks_iload_n rfl rfl C d_Nodes_share_72 ?_
      refine ks_icmp_ge (tgt := 96) C (by omega) (by omega) (by decide) d_Nodes_share_73 (fun u4 => ?_) (fun u4 => ?_)
      · exact (by omega : False).elim
      · refine ks_aload_n rfl rfl C d_Nodes_share_76 ?_
        refine ks_iload_n rfl rfl C d_Nodes_share_77 ?_
        refine ks_iload rfl C d_Nodes_share_78 ?_
        refine ks_aload_n rfl rfl C d_Nodes_share_80 ?_
        refine ks_get (k := 1) C 0 5 in_Nodes rfl (by decide) fk_Nodes_11 rfl rfl rfl d_Nodes_share_81 ?_
        refine ks_iload rfl C d_Nodes_share_84 ?_
        refine ks_iald C 1 2 rfl rfl (by omega) (by omega) d_Nodes_share_86 ?_
        refine ks_cv (ci := 5) (q0 := 0) (kw_nodes K n0 n1 x0 _ ++ kw_pages K x0 x1 x2 _ _) C (c_Nodes_setSlot l D K n0 n1 x0 x1 x2 _ _ _ _ _ _ (by omega) (by omega)) yw_Nodes_setSlot sel_Nodes_setSlot lk_Nodes_45 d_Nodes_share_87 rfl rfl rfl [0, 1, 2, 3, 4] [] [0, 1, 2, 3, 4] rfl rfl rfl rfl (by decide) rfl rfl rfl rfl rfl ⟨by decide, by decide⟩ ⟨by decide, by decide⟩ rfl (Nat.le_of_ble_eq_true rfl) ?_
        refine ks_iinc C rfl (z := 1) rfl (by decide) rfl d_Nodes_share_90 ?_
        refine ks_goto (tgt := 70) C (by decide) d_Nodes_share_93 ?_
        exact ih _ _ _ (by omega) g2 g3 (by rw [← g4, kv_layL, Nat.zero_add])
  have loopA : ∀ (f : Nat) (i : Nat), i + f = (kv_count B l1 + kv_count B r) → kv_count B l1 ≤ 14 → kv_count B r ≤ 14 → ks_w E D 7 (kw_nodes K n0 n1 x0 (kv_gath B l1 r (kv_count B l1) i P) ++ kw_pages K x0 x1 x2 B G) [some (.ref n0), some (.int (nI l1)), some (.int (nI r)), some (.int (nI toL)), some (.int (nI (kv_count B l1))), some (.int (nI (kv_count B l1 + kv_count B r))), some (.int (nI i))] 0 0 20 [] := by
    intro f
    induction f with
    | zero =>
      intro i g1 g2 g3
      refine ks_iload rfl C d_Nodes_share_20 ?_
      refine ks_iload rfl C d_Nodes_share_22 ?_
      refine ks_icmp_ge (tgt := 67) C (by omega) (by omega) (by decide) d_Nodes_share_24 (fun u5 => ?_) (fun u5 => ?_)
      · refine ks_iconst (a := 0) rfl C d_Nodes_share_67 ?_
        refine ks_istore C (by decide) rfl d_Nodes_share_68 ?_
        obtain rfl : i = kv_count B l1 + kv_count B r := by omega
        exact loopB toL _ _ 0 (by omega) g2 g3 rfl
      · exact (by omega : False).elim
    | succ f ih =>
      intro i g1 g2 g3
      refine ks_iload rfl C d_Nodes_share_20 ?_
      refine ks_iload rfl C d_Nodes_share_22 ?_
      refine ks_icmp_ge (tgt := 67) C (by omega) (by omega) (by decide) d_Nodes_share_24 (fun u6 => ?_) (fun u6 => ?_)
      · exact (by omega : False).elim
      · refine ks_aload_n rfl rfl C d_Nodes_share_27 ?_
        refine ks_get (k := 1) C 0 5 in_Nodes rfl (by decide) fk_Nodes_11 rfl rfl rfl d_Nodes_share_28 ?_
        refine ks_iload rfl C d_Nodes_share_31 ?_
        refine ks_iload rfl C d_Nodes_share_33 ?_
        refine ks_iload rfl C d_Nodes_share_35 ?_
        refine ks_icmp_ge (tgt := 50) C (by omega) (by omega) (by decide) d_Nodes_share_37 (fun u7 => ?_) (fun u7 => ?_)
        · refine ks_aload_n rfl rfl C d_Nodes_share_50 ?_
          refine ks_iload_n rfl rfl C d_Nodes_share_51 ?_
          refine ks_iload rfl C d_Nodes_share_52 ?_
          refine ks_iload rfl C d_Nodes_share_54 ?_
          refine ks_isub (by omega) C d_Nodes_share_56 ?_
          refine ks_cx (ci := 5) (q0 := 0) (kw_nodes K n0 n1 x0 _ ++ kw_pages K x0 x1 x2 _ _) C (c_Nodes_slot l D K n0 n1 x0 x1 x2 _ _ _ _ _ (by omega) (by omega)) yw_Nodes_slot sel_Nodes_slot lk_Nodes_42 d_Nodes_share_57 rfl rfl rfl [0, 1, 2, 3, 4] [] [0, 1, 2, 3, 4] rfl rfl rfl rfl (by decide) rfl rfl rfl rfl rfl ⟨by decide, by decide⟩ ⟨by decide, by decide⟩ rfl (Nat.le_of_ble_eq_true rfl) ?_
          refine ks_top_slot (fun u8 => ?_)
          refine ks_iast (ws' := (kw_nodes K n0 n1 x0 _ ++ kw_pages K x0 x1 x2 _ _)) C 1 2 rfl rfl (by omega) (by omega) rfl d_Nodes_share_60 ?_
          refine ks_iinc C rfl (z := 1) rfl (by decide) rfl d_Nodes_share_61 ?_
          refine ks_goto (tgt := 20) C (by decide) d_Nodes_share_64 ?_
          first | (rw [kv_gath_s1 B l1 r _ i P (by omega)]; exact ih (i + 1) (by omega) g2 g3) | (rw [kv_gath_s2 B l1 r _ i P (by omega)]; exact ih (i + 1) (by omega) g2 g3)
        · refine ks_aload_n rfl rfl C d_Nodes_share_40 ?_
          refine ks_iload_n rfl rfl C d_Nodes_share_41 ?_
          refine ks_iload rfl C d_Nodes_share_42 ?_
          refine ks_cx (ci := 5) (q0 := 0) (kw_nodes K n0 n1 x0 _ ++ kw_pages K x0 x1 x2 _ _) C (c_Nodes_slot l D K n0 n1 x0 x1 x2 _ _ _ _ _ (by omega) (by omega)) yw_Nodes_slot sel_Nodes_slot lk_Nodes_42 d_Nodes_share_44 rfl rfl rfl [0, 1, 2, 3, 4] [] [0, 1, 2, 3, 4] rfl rfl rfl rfl (by decide) rfl rfl rfl rfl rfl ⟨by decide, by decide⟩ ⟨by decide, by decide⟩ rfl (Nat.le_of_ble_eq_true rfl) ?_
          refine ks_top_slot (fun u9 => ?_)
          refine ks_goto (tgt := 60) C (by decide) d_Nodes_share_47 ?_
          refine ks_iast (ws' := (kw_nodes K n0 n1 x0 _ ++ kw_pages K x0 x1 x2 _ _)) C 1 2 rfl rfl (by omega) (by omega) rfl d_Nodes_share_60 ?_
          refine ks_iinc C rfl (z := 1) rfl (by decide) rfl d_Nodes_share_61 ?_
          refine ks_goto (tgt := 20) C (by decide) d_Nodes_share_64 ?_
          first | (rw [kv_gath_s1 B l1 r _ i P (by omega)]; exact ih (i + 1) (by omega) g2 g3) | (rw [kv_gath_s2 B l1 r _ i P (by omega)]; exact ih (i + 1) (by omega) g2 g3)
  refine ks_aload_n rfl rfl C d_Nodes_share_0 ?_
  refine ks_iload_n rfl rfl C d_Nodes_share_1 ?_
  refine ks_cx (ci := 5) (q0 := 0) (kw_nodes K n0 n1 x0 _ ++ kw_pages K x0 x1 x2 _ _) C (c_Nodes_count l D K n0 n1 x0 x1 x2 _ _ _ _ (by omega)) yw_Nodes_count sel_Nodes_count lk_Nodes_39 d_Nodes_share_2 rfl rfl rfl [0, 1, 2, 3, 4] [] [0, 1, 2, 3, 4] rfl rfl rfl rfl (by decide) rfl rfl rfl rfl rfl ⟨by decide, by decide⟩ ⟨by decide, by decide⟩ rfl (Nat.le_of_ble_eq_true rfl) ?_
  refine ks_top_count (fun u10 => ?_)
  refine ks_istore C (by decide) rfl d_Nodes_share_5 ?_
  refine ks_iload rfl C d_Nodes_share_7 ?_
  refine ks_aload_n rfl rfl C d_Nodes_share_9 ?_
  refine ks_iload_n rfl rfl C d_Nodes_share_10 ?_
  refine ks_cx (ci := 5) (q0 := 0) (kw_nodes K n0 n1 x0 _ ++ kw_pages K x0 x1 x2 _ _) C (c_Nodes_count l D K n0 n1 x0 x1 x2 _ _ _ _ (by omega)) yw_Nodes_count sel_Nodes_count lk_Nodes_39 d_Nodes_share_11 rfl rfl rfl [0, 1, 2, 3, 4] [] [0, 1, 2, 3, 4] rfl rfl rfl rfl (by decide) rfl rfl rfl rfl rfl ⟨by decide, by decide⟩ ⟨by decide, by decide⟩ rfl (Nat.le_of_ble_eq_true rfl) ?_
  refine ks_top_count (fun u11 => ?_)
  refine ks_iadd C d_Nodes_share_14 ?_
  refine ks_istore C (by decide) rfl d_Nodes_share_15 ?_
  refine ks_iconst (a := 0) rfl C d_Nodes_share_17 ?_
  refine ks_istore C (by decide) rfl d_Nodes_share_18 ?_
  have e := loopA (kv_count B l1 + kv_count B r) 0 (by omega) (by omega) (by omega)
  rw [kv_gath_0] at e
  exact e
set_option maxRecDepth 100000 in
set_option maxHeartbeats 4000000 in
theorem c_Nodes_split (l : Launch) (D : va_G) (K : Nat → ClassId) (n0 n1 x0 x1 x2 : Nat) (P : Nat → Nat) (B : Nat → UInt8) (G : Nat → Bool) (p : Nat) (h1 : p < 65536) : ks_M l D (ks_T K) (ks_R 4) y_Nodes_split b_Nodes_split 3 (some .int) [.ref n0, .int (nI p)] (kw_nodes K n0 n1 x0 P ++ kw_pages K x0 x1 x2 B G) (ks_f (some (.int (nI ((kv_split (B, G) p P).1)))) (kw_nodes K n0 n1 x0 (kv_split (B, G) p P).2.2 ++ kw_pages K x0 x1 x2 (kv_split (B, G) p P).2.1.1 (kv_split (B, G) p P).2.1.2)) := by
  refine ks_M.of 1 (by decide) (Nat.le_of_ble_eq_true rfl) ?_
  intro E C Z
  refine ks_aload_n rfl rfl C d_Nodes_split_0 ?_
  refine ks_aload_n rfl rfl C d_Nodes_split_1 ?_
  refine ks_iload_n rfl rfl C d_Nodes_split_2 ?_
  refine ks_cx (ci := 5) (q0 := 0) (kw_nodes K n0 n1 x0 _ ++ kw_pages K x0 x1 x2 _ _) C (c_Nodes_level l D K n0 n1 x0 x1 x2 _ _ _ _ (by omega)) yw_Nodes_level sel_Nodes_level lk_Nodes_52 d_Nodes_split_3 rfl rfl rfl [0, 1, 2, 3, 4] [] [0, 1, 2, 3, 4] rfl rfl rfl rfl (by decide) rfl rfl rfl rfl rfl ⟨by decide, by decide⟩ ⟨by decide, by decide⟩ rfl (Nat.le_of_ble_eq_true rfl) ?_
  refine ks_top_level (fun u1 => ?_)
  refine ks_cx (ci := 5) (q0 := 0) (kw_nodes K n0 n1 x0 _ ++ kw_pages K x0 x1 x2 _ _) C (c_Nodes_make l D K n0 n1 x0 x1 x2 _ _ _ _) yw_Nodes_make sel_Nodes_make lk_Nodes_55 d_Nodes_split_6 rfl rfl rfl [0, 1, 2, 3, 4] [] [0, 1, 2, 3, 4] rfl rfl rfl rfl (by decide) rfl rfl rfl rfl rfl ⟨by decide, by decide⟩ ⟨by decide, by decide⟩ rfl (Nat.le_of_ble_eq_true rfl) ?_
  refine ks_top_make (fun u2 => ?_)
  refine ks_istore_n C rfl (by decide) rfl d_Nodes_split_9 ?_
  refine ks_aload_n rfl rfl C d_Nodes_split_10 ?_
  refine ks_iload_n rfl rfl C d_Nodes_split_11 ?_
  refine ks_iload_n rfl rfl C d_Nodes_split_12 ?_
  refine ks_aload_n rfl rfl C d_Nodes_split_13 ?_
  refine ks_iload_n rfl rfl C d_Nodes_split_14 ?_
  refine ks_cx (ci := 5) (q0 := 0) (kw_nodes K n0 n1 x0 _ ++ kw_pages K x0 x1 x2 _ _) C (c_Nodes_count l D K n0 n1 x0 x1 x2 _ _ _ _ (by omega)) yw_Nodes_count sel_Nodes_count lk_Nodes_39 d_Nodes_split_15 rfl rfl rfl [0, 1, 2, 3, 4] [] [0, 1, 2, 3, 4] rfl rfl rfl rfl (by decide) rfl rfl rfl rfl rfl ⟨by decide, by decide⟩ ⟨by decide, by decide⟩ rfl (Nat.le_of_ble_eq_true rfl) ?_
  refine ks_top_count (fun u3 => ?_)
  refine ks_iconst (a := 2) rfl C d_Nodes_split_18 ?_
  refine ks_idiv (by omega) (by decide) (by decide) C d_Nodes_split_19 ?_
  refine ks_cv (ci := 5) (q0 := 0) (kw_nodes K n0 n1 x0 _ ++ kw_pages K x0 x1 x2 _ _) C (c_Nodes_share l D K n0 n1 x0 x1 x2 _ _ _ _ _ _ (by omega) (by omega) (by omega)) yw_Nodes_share sel_Nodes_share lk_Nodes_58 d_Nodes_split_20 rfl rfl rfl [0, 1, 2, 3, 4] [] [0, 1, 2, 3, 4] rfl rfl rfl rfl (by decide) rfl rfl rfl rfl rfl ⟨by decide, by decide⟩ ⟨by decide, by decide⟩ rfl (Nat.le_of_ble_eq_true rfl) ?_
  refine ks_iload_n rfl rfl C d_Nodes_split_23 ?_
  exact ks_iret C Z rfl rfl d_Nodes_split_24 rfl rfl ⟨rfl, rfl⟩
set_option maxRecDepth 100000 in
set_option maxHeartbeats 4000000 in
theorem c_Nodes_merge (l : Launch) (D : va_G) (K : Nat → ClassId) (n0 n1 x0 x1 x2 : Nat) (P : Nat → Nat) (B : Nat → UInt8) (G : Nat → Bool) (l1 r : Nat) (h1 : l1 < 65536) (h2 : r < 65536) : ks_M l D (ks_T K) (ks_R 3) y_Nodes_merge b_Nodes_merge 4 (some .boolean) [.ref n0, .int (nI l1), .int (nI r)] (kw_nodes K n0 n1 x0 P ++ kw_pages K x0 x1 x2 B G) (ks_f (some (.int (ks_b ((kv_merge (B, G) l1 r P).1)))) (kw_nodes K n0 n1 x0 (kv_merge (B, G) l1 r P).2.2 ++ kw_pages K x0 x1 x2 (kv_merge (B, G) l1 r P).2.1.1 (kv_merge (B, G) l1 r P).2.1.2)) := by
  refine ks_M.of 1 (by decide) (Nat.le_of_ble_eq_true rfl) ?_
  intro E C Z
  refine ks_aload_n rfl rfl C d_Nodes_merge_0 ?_
  refine ks_iload_n rfl rfl C d_Nodes_merge_1 ?_
  refine ks_cx (ci := 5) (q0 := 0) (kw_nodes K n0 n1 x0 _ ++ kw_pages K x0 x1 x2 _ _) C (c_Nodes_count l D K n0 n1 x0 x1 x2 _ _ _ _ (by omega)) yw_Nodes_count sel_Nodes_count lk_Nodes_39 d_Nodes_merge_2 rfl rfl rfl [0, 1, 2, 3, 4] [] [0, 1, 2, 3, 4] rfl rfl rfl rfl (by decide) rfl rfl rfl rfl rfl ⟨by decide, by decide⟩ ⟨by decide, by decide⟩ rfl (Nat.le_of_ble_eq_true rfl) ?_
  refine ks_top_count (fun u1 => ?_)
  refine ks_aload_n rfl rfl C d_Nodes_merge_5 ?_
  refine ks_iload_n rfl rfl C d_Nodes_merge_6 ?_
  refine ks_cx (ci := 5) (q0 := 0) (kw_nodes K n0 n1 x0 _ ++ kw_pages K x0 x1 x2 _ _) C (c_Nodes_count l D K n0 n1 x0 x1 x2 _ _ _ _ (by omega)) yw_Nodes_count sel_Nodes_count lk_Nodes_39 d_Nodes_merge_7 rfl rfl rfl [0, 1, 2, 3, 4] [] [0, 1, 2, 3, 4] rfl rfl rfl rfl (by decide) rfl rfl rfl rfl rfl ⟨by decide, by decide⟩ ⟨by decide, by decide⟩ rfl (Nat.le_of_ble_eq_true rfl) ?_
  refine ks_top_count (fun u2 => ?_)
  refine ks_iadd C d_Nodes_merge_10 ?_
  refine ks_istore_n C rfl (by decide) rfl d_Nodes_merge_11 ?_
  refine ks_iload_n rfl rfl C d_Nodes_merge_12 ?_
  refine ks_bipush (a := 14) rfl C d_Nodes_merge_13 ?_
  refine ks_icmp_le (tgt := 29) C (by omega) (by omega) (by decide) d_Nodes_merge_15 (fun u3 => ?_) (fun u3 => ?_)
  · refine ks_aload_n rfl rfl C d_Nodes_merge_29 ?_
    refine ks_iload_n rfl rfl C d_Nodes_merge_30 ?_
    refine ks_iload_n rfl rfl C d_Nodes_merge_31 ?_
    refine ks_iload_n rfl rfl C d_Nodes_merge_32 ?_
    refine ks_cv (ci := 5) (q0 := 0) (kw_nodes K n0 n1 x0 _ ++ kw_pages K x0 x1 x2 _ _) C (c_Nodes_share l D K n0 n1 x0 x1 x2 _ _ _ _ _ _ (by omega) (by omega) (by omega)) yw_Nodes_share sel_Nodes_share lk_Nodes_58 d_Nodes_merge_33 rfl rfl rfl [0, 1, 2, 3, 4] [] [0, 1, 2, 3, 4] rfl rfl rfl rfl (by decide) rfl rfl rfl rfl rfl ⟨by decide, by decide⟩ ⟨by decide, by decide⟩ rfl (Nat.le_of_ble_eq_true rfl) ?_
    refine ks_aload_n rfl rfl C d_Nodes_merge_36 ?_
    refine ks_get (k := 0) C 0 5 in_Nodes rfl (by decide) fk_Nodes_15 rfl rfl rfl d_Nodes_merge_37 ?_
    refine ks_iload_n rfl rfl C d_Nodes_merge_40 ?_
    refine ks_cv (ci := 1) (q0 := 0) (kw_nodes K n0 n1 x0 _ ++ kw_pages K x0 x1 x2 _ _) C (c_Pages_freePage l D K x0 x1 x2 _ _ _ (by omega)) yw_Pages_freePage sel_Pages_freePage lk_Nodes_61 d_Nodes_merge_41 rfl rfl rfl [2, 3, 4] [0, 1] [0, 1, 2, 3, 4] rfl rfl rfl rfl (by decide) rfl rfl rfl rfl rfl ⟨by decide, by decide⟩ ⟨by decide, by decide⟩ rfl (Nat.le_of_ble_eq_true rfl) ?_
    refine ks_iconstB true rfl C d_Nodes_merge_44 ?_
    exact ks_iret C Z rfl (ks_nb1 _) d_Nodes_merge_45 rfl rfl ⟨ks_eqB (by unfold kv_merge; dsimp only; rw [if_neg (by omega)]), by unfold kv_merge; dsimp only; rw [if_neg (by omega)]⟩
  · refine ks_aload_n rfl rfl C d_Nodes_merge_18 ?_
    refine ks_iload_n rfl rfl C d_Nodes_merge_19 ?_
    refine ks_iload_n rfl rfl C d_Nodes_merge_20 ?_
    refine ks_iload_n rfl rfl C d_Nodes_merge_21 ?_
    refine ks_iconst (a := 2) rfl C d_Nodes_merge_22 ?_
    refine ks_idiv (by omega) (by decide) (by decide) C d_Nodes_merge_23 ?_
    refine ks_cv (ci := 5) (q0 := 0) (kw_nodes K n0 n1 x0 _ ++ kw_pages K x0 x1 x2 _ _) C (c_Nodes_share l D K n0 n1 x0 x1 x2 _ _ _ _ _ _ (by omega) (by omega) (by omega)) yw_Nodes_share sel_Nodes_share lk_Nodes_58 d_Nodes_merge_24 rfl rfl rfl [0, 1, 2, 3, 4] [] [0, 1, 2, 3, 4] rfl rfl rfl rfl (by decide) rfl rfl rfl rfl rfl ⟨by decide, by decide⟩ ⟨by decide, by decide⟩ rfl (Nat.le_of_ble_eq_true rfl) ?_
    refine ks_iconstB false rfl C d_Nodes_merge_27 ?_
    exact ks_iret C Z rfl (ks_nb1 _) d_Nodes_merge_28 rfl rfl ⟨ks_eqB (by unfold kv_merge; dsimp only; rw [if_pos (by omega)]), by unfold kv_merge; dsimp only; rw [if_pos (by omega)]⟩
