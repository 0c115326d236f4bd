/-! contracts of trees: writing -/
set_option maxRecDepth 100000 in
set_option maxHeartbeats 4000000 in
theorem c_Trees_setRoot (l : Launch) (D : va_G) (K : Nat → ClassId) (t0 t1 t2 n0 n1 c0 x0 x1 x2 pg ca top : Nat) (pn ps P : Nat → Nat) (B : Nat → UInt8) (G : Nat → Bool) (t p : Nat) (h1 : t < 65536) : ks_M l D (ks_T K) (ks_R 1) y_Trees_setRoot b_Trees_setRoot 3 none [.ref t0, .int (nI t), .int (nI p)] (kw_trees K t0 t1 t2 x0 n0 c0 pn ps top ++ kw_nodes K n0 n1 x0 P ++ kw_chains c0 x0 pg ca ++ kw_pages K x0 x1 x2 B G) (ks_f none (kw_trees K t0 t1 t2 x0 n0 c0 pn ps top ++ kw_nodes K n0 n1 x0 P ++ kw_chains c0 x0 pg ca ++ kw_pages K x0 x1 x2 (kv_setRoot (B, G) t p).1 (kv_setRoot (B, G) t p).2)) := by
  refine ks_M.of 0 (by decide) (Nat.le_of_ble_eq_true rfl) ?_
  intro E C Z
  refine ks_aload_n rfl rfl C d_Trees_setRoot_0 ?_
  refine ks_get (k := 0) C 0 6 in_Trees rfl (by decide) fk_Trees_24 rfl rfl rfl d_Trees_setRoot_1 ?_
  refine ks_bipush (a := 32) rfl C d_Trees_setRoot_4 ?_
  refine ks_iconst (a := 4) rfl C d_Trees_setRoot_6 ?_
  refine ks_iload_n rfl rfl C d_Trees_setRoot_7 ?_
  refine ks_imul C d_Trees_setRoot_8 ?_
  refine ks_iadd C d_Trees_setRoot_9 ?_
  refine ks_iload_n rfl rfl C d_Trees_setRoot_10 ?_
  refine ks_cv (ci := 1) (q0 := 0) (kw_trees K t0 t1 t2 x0 n0 c0 _ _ _ ++ kw_nodes K n0 n1 x0 _ ++ kw_chains c0 x0 _ _ ++ kw_pages K x0 x1 x2 _ _) C (c_Pages_setNumber l D K x0 x1 x2 _ _ _ _ (by omega)) yw_Pages_setNumber sel_Pages_setNumber lk_Trees_123 d_Trees_setRoot_11 rfl rfl rfl [6, 7, 8] [0, 1, 2, 3, 4, 5] [0, 1, 2, 3, 4, 5, 6, 7, 8] rfl rfl rfl rfl (by decide) rfl rfl rfl rfl rfl ⟨by decide, by decide⟩ ⟨by decide, by decide⟩ rfl (Nat.le_of_ble_eq_true rfl) ?_
  exact ks_vret C Z rfl d_Trees_setRoot_14 rfl rfl ⟨rfl, rfl⟩
set_option maxRecDepth 100000 in
set_option maxHeartbeats 4000000 in
theorem c_Trees_addTree (l : Launch) (D : va_G) (K : Nat → ClassId) (t0 t1 t2 n0 n1 c0 x0 x1 x2 pg ca top : Nat) (pn ps P : Nat → Nat) (B : Nat → UInt8) (G : Nat → Bool) (t : Nat) (h1 : t < 65536) : ks_M l D (ks_T K) (ks_R 4) y_Trees_addTree b_Trees_addTree 2 none [.ref t0, .int (nI t)] (kw_trees K t0 t1 t2 x0 n0 c0 pn ps top ++ kw_nodes K n0 n1 x0 P ++ kw_chains c0 x0 pg ca ++ kw_pages K x0 x1 x2 B G) (ks_f none (kw_trees K t0 t1 t2 x0 n0 c0 pn ps top ++ kw_nodes K n0 n1 x0 P ++ kw_chains c0 x0 pg ca ++ kw_pages K x0 x1 x2 (kv_addTree (B, G) t).1 (kv_addTree (B, G) t).2)) := by
  refine ks_M.of 0 (by decide) (Nat.le_of_ble_eq_true rfl) ?_
  intro E C Z
  refine ks_aload_n rfl rfl C d_Trees_addTree_0 ?_
  refine ks_iload_n rfl rfl C d_Trees_addTree_1 ?_
  refine ks_aload_n rfl rfl C d_Trees_addTree_2 ?_
  refine ks_get (k := 1) C 0 6 in_Trees rfl (by decide) fk_Trees_28 rfl rfl rfl d_Trees_addTree_3 ?_
  refine ks_iconst (a := 0) rfl C d_Trees_addTree_6 ?_
  refine ks_cx (ci := 5) (q0 := 0) (kw_trees K t0 t1 t2 x0 n0 c0 _ _ _ ++ kw_nodes K n0 n1 x0 _ ++ kw_chains c0 x0 _ _ ++ kw_pages K x0 x1 x2 _ _) C (c_Nodes_make l D K n0 n1 x0 x1 x2 _ _ _ _) yw_Nodes_make sel_Nodes_make lk_Trees_49 d_Trees_addTree_7 rfl rfl rfl [3, 4, 6, 7, 8] [0, 1, 2, 5] [0, 1, 2, 4, 5, 3, 6, 7, 8] rfl rfl rfl rfl (by decide) rfl rfl rfl rfl rfl ⟨by decide, by decide⟩ ⟨by decide, by decide⟩ rfl (Nat.le_of_ble_eq_true rfl) ?_
  refine ks_top_make (fun u1 => ?_)
  refine ks_cv (ci := 6) (q0 := 0) (kw_trees K t0 t1 t2 x0 n0 c0 _ _ _ ++ kw_nodes K n0 n1 x0 _ ++ kw_chains c0 x0 _ _ ++ kw_pages K x0 x1 x2 _ _) C (c_Trees_setRoot l D K t0 t1 t2 n0 n1 c0 x0 x1 x2 _ _ _ _ _ _ _ _ _ _ (by omega)) yw_Trees_setRoot sel_Trees_setRoot lk_Trees_52 d_Trees_addTree_10 rfl rfl rfl [0, 1, 2, 3, 4, 5, 6, 7, 8] [] [0, 1, 2, 3, 4, 5, 6, 7, 8] rfl rfl rfl rfl (by decide) rfl rfl rfl rfl rfl ⟨by decide, by decide⟩ ⟨by decide, by decide⟩ rfl (Nat.le_of_ble_eq_true rfl) ?_
  refine ks_aload_n rfl rfl C d_Trees_addTree_13 ?_
  refine ks_get (k := 0) C 0 6 in_Trees rfl (by decide) fk_Trees_24 rfl rfl rfl d_Trees_addTree_14 ?_
  refine ks_bipush (a := 6) rfl C d_Trees_addTree_17 ?_
  refine ks_iconst (a := 1) rfl C d_Trees_addTree_19 ?_
  refine ks_cv (ci := 1) (q0 := 0) (kw_trees K t0 t1 t2 x0 n0 c0 _ _ _ ++ kw_nodes K n0 n1 x0 _ ++ kw_chains c0 x0 _ _ ++ kw_pages K x0 x1 x2 _ _) C (c_Pages_addTo l D K x0 x1 x2 _ _ _ _ (by omega)) yw_Pages_addTo sel_Pages_addTo lk_Trees_56 d_Trees_addTree_20 rfl rfl rfl [6, 7, 8] [0, 1, 2, 3, 4, 5] [0, 1, 2, 3, 4, 5, 6, 7, 8] rfl rfl rfl rfl (by decide) rfl rfl rfl rfl rfl ⟨by decide, by decide⟩ ⟨by decide, by decide⟩ rfl (Nat.le_of_ble_eq_true rfl) ?_
  exact ks_vret C Z rfl d_Trees_addTree_23 rfl rfl ⟨rfl, rfl⟩
set_option maxRecDepth 100000 in
set_option maxHeartbeats 4000000 in
theorem c_Trees_raiseRoot (l : Launch) (D : va_G) (K : Nat → ClassId) (t0 t1 t2 n0 n1 c0 x0 x1 x2 pg ca top : Nat) (pn ps P : Nat → Nat) (B : Nat → UInt8) (G : Nat → Bool) (t s : Nat) (h1 : t < 65536) (h2 : top ≤ 4) : ks_M l D (ks_T K) (ks_R 4) y_Trees_raiseRoot b_Trees_raiseRoot 4 none [.ref t0, .int (nI t), .int (nI s)] (kw_trees K t0 t1 t2 x0 n0 c0 pn ps top ++ kw_nodes K n0 n1 x0 P ++ kw_chains c0 x0 pg ca ++ kw_pages K x0 x1 x2 B G) (ks_f none (kw_trees K t0 t1 t2 x0 n0 c0 pn ps top ++ kw_nodes K n0 n1 x0 P ++ kw_chains c0 x0 pg ca ++ kw_pages K x0 x1 x2 (kv_raise (B, G) t s top).1 (kv_raise (B, G) t s top).2)) := by
  refine ks_M.of 1 (by decide) (Nat.le_of_ble_eq_true rfl) ?_
  intro E C Z
  refine ks_aload_n rfl rfl C d_Trees_raiseRoot_0 ?_
  refine ks_get (k := 1) C 0 6 in_Trees rfl (by decide) fk_Trees_28 rfl rfl rfl d_Trees_raiseRoot_1 ?_
  refine ks_aload_n rfl rfl C d_Trees_raiseRoot_4 ?_
  refine ks_get (k := 5) C 0 6 in_Trees rfl (by decide) fk_Trees_20 rfl rfl rfl d_Trees_raiseRoot_5 ?_
  refine ks_iconst (a := 1) rfl C d_Trees_raiseRoot_8 ?_
  refine ks_iadd C d_Trees_raiseRoot_9 ?_
  refine ks_cx (ci := 5) (q0 := 0) (kw_trees K t0 t1 t2 x0 n0 c0 _ _ _ ++ kw_nodes K n0 n1 x0 _ ++ kw_chains c0 x0 _ _ ++ kw_pages K x0 x1 x2 _ _) C (c_Nodes_make l D K n0 n1 x0 x1 x2 _ _ _ _) yw_Nodes_make sel_Nodes_make lk_Trees_49 d_Trees_raiseRoot_10 rfl rfl rfl [3, 4, 6, 7, 8] [0, 1, 2, 5] [0, 1, 2, 4, 5, 3, 6, 7, 8] rfl rfl rfl rfl (by decide) rfl rfl rfl rfl rfl ⟨by decide, by decide⟩ ⟨by decide, by decide⟩ rfl (Nat.le_of_ble_eq_true rfl) ?_
  refine ks_top_make (fun u1 => ?_)
  refine ks_istore_n C rfl (by decide) rfl d_Trees_raiseRoot_13 ?_
  refine ks_aload_n rfl rfl C d_Trees_raiseRoot_14 ?_
  refine ks_get (k := 1) C 0 6 in_Trees rfl (by decide) fk_Trees_28 rfl rfl rfl d_Trees_raiseRoot_15 ?_
  refine ks_iload_n rfl rfl C d_Trees_raiseRoot_18 ?_
  refine ks_iconst (a := 0) rfl C d_Trees_raiseRoot_19 ?_
  refine ks_aload_n rfl rfl C d_Trees_raiseRoot_20 ?_
  refine ks_iload_n rfl rfl C d_Trees_raiseRoot_21 ?_
  refine ks_cx (ci := 6) (q0 := 0) (kw_trees K t0 t1 t2 x0 n0 c0 _ _ _ ++ kw_nodes K n0 n1 x0 _ ++ kw_chains c0 x0 _ _ ++ kw_pages K x0 x1 x2 _ _) C (c_Trees_root l D K t0 t1 t2 n0 n1 c0 x0 x1 x2 _ _ _ _ _ _ _ _ _ (by omega)) yw_Trees_root sel_Trees_root lk_Trees_36 d_Trees_raiseRoot_22 rfl rfl rfl [0, 1, 2, 3, 4, 5, 6, 7, 8] [] [0, 1, 2, 3, 4, 5, 6, 7, 8] rfl rfl rfl rfl (by decide) rfl rfl rfl rfl rfl ⟨by decide, by decide⟩ ⟨by decide, by decide⟩ rfl (Nat.le_of_ble_eq_true rfl) ?_
  refine ks_top_root (fun u2 => ?_)
  refine ks_cv (ci := 5) (q0 := 0) (kw_trees K t0 t1 t2 x0 n0 c0 _ _ _ ++ kw_nodes K n0 n1 x0 _ ++ kw_chains c0 x0 _ _ ++ kw_pages K x0 x1 x2 _ _) C (c_Nodes_insert l D K n0 n1 x0 x1 x2 _ _ _ _ _ _ (by omega) (by omega)) yw_Nodes_insert sel_Nodes_insert lk_Trees_129 d_Trees_raiseRoot_25 rfl rfl rfl [3, 4, 6, 7, 8] [0, 1, 2, 5] [0, 1, 2, 4, 5, 3, 6, 7, 8] rfl rfl rfl rfl (by decide) rfl rfl rfl rfl rfl ⟨by decide, by decide⟩ ⟨by decide, by decide⟩ rfl (Nat.le_of_ble_eq_true rfl) ?_
  refine ks_aload_n rfl rfl C d_Trees_raiseRoot_28 ?_
  refine ks_get (k := 1) C 0 6 in_Trees rfl (by decide) fk_Trees_28 rfl rfl rfl d_Trees_raiseRoot_29 ?_
  refine ks_iload_n rfl rfl C d_Trees_raiseRoot_32 ?_
  refine ks_iconst (a := 1) rfl C d_Trees_raiseRoot_33 ?_
  refine ks_iload_n rfl rfl C d_Trees_raiseRoot_34 ?_
  refine ks_cv (ci := 5) (q0 := 0) (kw_trees K t0 t1 t2 x0 n0 c0 _ _ _ ++ kw_nodes K n0 n1 x0 _ ++ kw_chains c0 x0 _ _ ++ kw_pages K x0 x1 x2 _ _) C (c_Nodes_insert l D K n0 n1 x0 x1 x2 _ _ _ _ _ _ (by omega) (by omega)) yw_Nodes_insert sel_Nodes_insert lk_Trees_129 d_Trees_raiseRoot_35 rfl rfl rfl [3, 4, 6, 7, 8] [0, 1, 2, 5] [0, 1, 2, 4, 5, 3, 6, 7, 8] rfl rfl rfl rfl (by decide) rfl rfl rfl rfl rfl ⟨by decide, by decide⟩ ⟨by decide, by decide⟩ rfl (Nat.le_of_ble_eq_true rfl) ?_
  refine ks_aload_n rfl rfl C d_Trees_raiseRoot_38 ?_
  refine ks_iload_n rfl rfl C d_Trees_raiseRoot_39 ?_
  refine ks_iload_n rfl rfl C d_Trees_raiseRoot_40 ?_
  refine ks_cv (ci := 6) (q0 := 0) (kw_trees K t0 t1 t2 x0 n0 c0 _ _ _ ++ kw_nodes K n0 n1 x0 _ ++ kw_chains c0 x0 _ _ ++ kw_pages K x0 x1 x2 _ _) C (c_Trees_setRoot l D K t0 t1 t2 n0 n1 c0 x0 x1 x2 _ _ _ _ _ _ _ _ _ _ (by omega)) yw_Trees_setRoot sel_Trees_setRoot lk_Trees_52 d_Trees_raiseRoot_41 rfl rfl rfl [0, 1, 2, 3, 4, 5, 6, 7, 8] [] [0, 1, 2, 3, 4, 5, 6, 7, 8] rfl rfl rfl rfl (by decide) rfl rfl rfl rfl rfl ⟨by decide, by decide⟩ ⟨by decide, by decide⟩ rfl (Nat.le_of_ble_eq_true rfl) ?_
  exact ks_vret C Z rfl d_Trees_raiseRoot_44 rfl rfl ⟨rfl, rfl⟩
set_option maxRecDepth 100000 in
set_option maxHeartbeats 4000000 in
theorem c_Trees_insertSlot (l : Launch) (D : va_G) (K : Nat → ClassId) (t0 t1 t2 n0 n1 c0 x0 x1 x2 pg ca top : Nat) (pn ps P : Nat → Nat) (B : Nat → UInt8) (G : Nat → Bool) (t c : Nat) (h1 : t < 65536) (h2 : c < 65536) (h3 : top ≤ 4) (hp : ∀ j, pn j < 65536) (hs : ∀ j, ps j < 65536) : ks_M l D (ks_T K) (ks_R 5) y_Trees_insertSlot b_Trees_insertSlot 9 none [.ref t0, .int (nI t), .int (nI c)] (kw_trees K t0 t1 t2 x0 n0 c0 pn ps top ++ kw_nodes K n0 n1 x0 P ++ kw_chains c0 x0 pg ca ++ kw_pages K x0 x1 x2 B G) (ks_f none (kw_trees K t0 t1 t2 x0 n0 c0 pn ps top ++ kw_nodes K n0 n1 x0 (kv_insSlot (B, G) P t c top pn ps).2 ++ kw_chains c0 x0 pg ca ++ kw_pages K x0 x1 x2 (kv_insSlot (B, G) P t c top pn ps).1.1 (kv_insSlot (B, G) P t c top pn ps).1.2)) := by
  refine ks_M.of 6 (by decide) (Nat.le_of_ble_eq_true rfl) ?_
  intro E C Z
  have q0 := hs 0
  have loop : ∀ (f : Nat) (B1 : Nat → UInt8) (G1 : Nat → Bool) (P1 : Nat → Nat) (s i v : Nat), v + f = top + 1 → s < 65536 → i < 65540 → kv_insL t top pn ps f v (B1, G1) P1 s i = (kv_insSlot (B, G) P t c top pn ps) → ks_w E D 9 (kw_trees K t0 t1 t2 x0 n0 c0 pn ps top ++ kw_nodes K n0 n1 x0 P1 ++ kw_chains c0 x0 pg ca ++ kw_pages K x0 x1 x2 B1 G1) [some (.ref t0), some (.int (nI t)), some (.int (nI c)), some (.int (nI s)), some (.int (nI i)), some (.int (nI v)), none, none, none] 0 0 13 [] := by
    intro f
    induction f with
    | zero =>
      intro B1 G1 P1 s i v g1 g2 g3 g4
      refine ks_iload rfl C d_Trees_insertSlot_13 ?_
      refine ks_aload_n rfl rfl C d_Trees_insertSlot_15 ?_
      refine ks_get (k := 5) C 0 6 in_Trees rfl (by decide) fk_Trees_20 rfl rfl rfl d_Trees_insertSlot_16 ?_
      refine ks_icmp_gt (tgt := 137) C (by omega) (by omega) (by decide) d_Trees_insertSlot_19 (fun u1 => ?_) (fun u1 => ?_)
      · refine ks_aload_n rfl rfl C d_Trees_insertSlot_137 ?_
        refine ks_iload_n rfl rfl C d_Trees_insertSlot_138 ?_
        refine ks_iload_n rfl rfl C d_Trees_insertSlot_139 ?_
        refine ks_cv (ci := 6) (q0 := 0) (kw_trees K t0 t1 t2 x0 n0 c0 _ _ _ ++ kw_nodes K n0 n1 x0 _ ++ kw_chains c0 x0 _ _ ++ kw_pages K x0 x1 x2 _ _) C (c_Trees_raiseRoot l D K t0 t1 t2 n0 n1 c0 x0 x1 x2 _ _ _ _ _ _ _ _ _ _ (by omega) (by omega)) yw_Trees_raiseRoot sel_Trees_raiseRoot lk_Trees_135 d_Trees_insertSlot_140 rfl rfl rfl [0, 1, 2, 3, 4, 5, 6, 7, 8] [] [0, 1, 2, 3, 4, 5, 6, 7, 8] rfl rfl rfl rfl (by decide) rfl rfl rfl rfl rfl ⟨by decide, by decide⟩ ⟨by decide, by decide⟩ rfl (Nat.le_of_ble_eq_true rfl) ?_
        exact ks_vret C Z rfl d_Trees_insertSlot_143 rfl rfl ⟨rfl, by rw [← g4]; rfl⟩
      · exact (by omega : False).elim
    | succ f ih =>
      intro B1 G1 P1 s i v g1 g2 g3 g4
      have q1 := hp v
      have q2 := hs (v + 1)
      refine ks_iload rfl C d_Trees_insertSlot_13 ?_
      refine ks_aload_n rfl rfl C d_Trees_insertSlot_15 ?_
      refine ks_get (k := 5) C 0 6 in_Trees rfl (by decide) fk_Trees_20 rfl rfl rfl d_Trees_insertSlot_16 ?_
      refine ks_icmp_gt (tgt := 137) C (by omega) (by omega) (by decide) d_Trees_insertSlot_19 (fun u2 => ?_) (fun u2 => ?_)
      · exact (by omega : False).elim
      · refine ks_aload_n rfl rfl C d_Trees_insertSlot_22 ?_
        refine ks_get (k := 3) C 0 6 in_Trees rfl (by decide) fk_Trees_11 rfl rfl rfl d_Trees_insertSlot_23 ?_
        refine ks_iload rfl C d_Trees_insertSlot_26 ?_
        refine ks_iald C 1 2 rfl rfl (by omega) (by omega) d_Trees_insertSlot_28 ?_
        refine ks_istore C (by decide) rfl d_Trees_insertSlot_29 ?_
        refine ks_aload_n rfl rfl C d_Trees_insertSlot_31 ?_
        refine ks_get (k := 1) C 0 6 in_Trees rfl (by decide) fk_Trees_28 rfl rfl rfl d_Trees_insertSlot_32 ?_
        refine ks_iload rfl C d_Trees_insertSlot_35 ?_
        refine ks_cx (ci := 5) (q0 := 0) (kw_trees K t0 t1 t2 x0 n0 c0 _ _ _ ++ kw_nodes K n0 n1 x0 _ ++ kw_chains c0 x0 _ _ ++ kw_pages K x0 x1 x2 _ _) C (c_Nodes_isFull l D K n0 n1 x0 x1 x2 _ _ _ _ (by omega)) yw_Nodes_isFull sel_Nodes_isFull lk_Trees_126 d_Trees_insertSlot_37 rfl rfl rfl [3, 4, 6, 7, 8] [0, 1, 2, 5] [0, 1, 2, 4, 5, 3, 6, 7, 8] rfl rfl rfl rfl (by decide) rfl rfl rfl rfl rfl ⟨by decide, by decide⟩ ⟨by decide, by decide⟩ rfl (Nat.le_of_ble_eq_true rfl) ?_
        refine ks_ifD_ne (tgt := 56) C (by decide) d_Trees_insertSlot_40 (fun u3 => ?_) (fun u3 => ?_)
        · refine ks_aload_n rfl rfl C d_Trees_insertSlot_56 ?_
          refine ks_get (k := 1) C 0 6 in_Trees rfl (by decide) fk_Trees_28 rfl rfl rfl d_Trees_insertSlot_57 ?_
          refine ks_iload rfl C d_Trees_insertSlot_60 ?_
          refine ks_cx (ci := 5) (q0 := 0) (kw_trees K t0 t1 t2 x0 n0 c0 _ _ _ ++ kw_nodes K n0 n1 x0 _ ++ kw_chains c0 x0 _ _ ++ kw_pages K x0 x1 x2 _ _) C (c_Nodes_split l D K n0 n1 x0 x1 x2 _ _ _ _ (by omega)) yw_Nodes_split sel_Nodes_split lk_Trees_132 d_Trees_insertSlot_62 rfl rfl rfl [3, 4, 6, 7, 8] [0, 1, 2, 5] [0, 1, 2, 4, 5, 3, 6, 7, 8] rfl rfl rfl rfl (by decide) rfl rfl rfl rfl rfl ⟨by decide, by decide⟩ ⟨by decide, by decide⟩ rfl (Nat.le_of_ble_eq_true rfl) ?_
          refine ks_top_split (fun u4 => ?_)
          refine ks_istore C (by decide) rfl d_Trees_insertSlot_65 ?_
          refine ks_aload_n rfl rfl C d_Trees_insertSlot_67 ?_
          refine ks_get (k := 1) C 0 6 in_Trees rfl (by decide) fk_Trees_28 rfl rfl rfl d_Trees_insertSlot_68 ?_
          refine ks_iload rfl C d_Trees_insertSlot_71 ?_
          refine ks_cx (ci := 5) (q0 := 0) (kw_trees K t0 t1 t2 x0 n0 c0 _ _ _ ++ kw_nodes K n0 n1 x0 _ ++ kw_chains c0 x0 _ _ ++ kw_pages K x0 x1 x2 _ _) C (c_Nodes_count l D K n0 n1 x0 x1 x2 _ _ _ _ (by omega)) yw_Nodes_count sel_Nodes_count lk_Trees_85 d_Trees_insertSlot_73 rfl rfl rfl [3, 4, 6, 7, 8] [0, 1, 2, 5] [0, 1, 2, 4, 5, 3, 6, 7, 8] rfl rfl rfl rfl (by decide) rfl rfl rfl rfl rfl ⟨by decide, by decide⟩ ⟨by decide, by decide⟩ rfl (Nat.le_of_ble_eq_true rfl) ?_
          refine ks_top_count (fun u5 => ?_)
          refine ks_istore C (by decide) rfl d_Trees_insertSlot_76 ?_
          refine ks_iload rfl C d_Trees_insertSlot_78 ?_
          refine ks_iload rfl C d_Trees_insertSlot_80 ?_
          refine ks_icmp_gt (tgt := 100) C (by omega) (by omega) (by decide) d_Trees_insertSlot_82 (fun u6 => ?_) (fun u6 => ?_)
          · refine ks_aload_n rfl rfl C d_Trees_insertSlot_100 ?_
            refine ks_get (k := 1) C 0 6 in_Trees rfl (by decide) fk_Trees_28 rfl rfl rfl d_Trees_insertSlot_101 ?_
            refine ks_iload rfl C d_Trees_insertSlot_104 ?_
            refine ks_iload rfl C d_Trees_insertSlot_106 ?_
            refine ks_iload rfl C d_Trees_insertSlot_108 ?_
            refine ks_isub (by omega) C d_Trees_insertSlot_110 ?_
            refine ks_iload_n rfl rfl C d_Trees_insertSlot_111 ?_
            refine ks_cv (ci := 5) (q0 := 0) (kw_trees K t0 t1 t2 x0 n0 c0 _ _ _ ++ kw_nodes K n0 n1 x0 _ ++ kw_chains c0 x0 _ _ ++ kw_pages K x0 x1 x2 _ _) C (c_Nodes_insert l D K n0 n1 x0 x1 x2 _ _ _ _ _ _ (by omega) (by omega)) yw_Nodes_insert sel_Nodes_insert lk_Trees_129 d_Trees_insertSlot_112 rfl rfl rfl [3, 4, 6, 7, 8] [0, 1, 2, 5] [0, 1, 2, 4, 5, 3, 6, 7, 8] rfl rfl rfl rfl (by decide) rfl rfl rfl rfl rfl ⟨by decide, by decide⟩ ⟨by decide, by decide⟩ rfl (Nat.le_of_ble_eq_true rfl) ?_
            refine ks_iload rfl C d_Trees_insertSlot_115 ?_
            refine ks_istore_n C rfl (by decide) rfl d_Trees_insertSlot_117 ?_
            refine ks_aload_n rfl rfl C d_Trees_insertSlot_118 ?_
            refine ks_get (k := 4) C 0 6 in_Trees rfl (by decide) fk_Trees_17 rfl rfl rfl d_Trees_insertSlot_119 ?_
            refine ks_iload rfl C d_Trees_insertSlot_122 ?_
            refine ks_iconst (a := 1) rfl C d_Trees_insertSlot_124 ?_
            refine ks_iadd C d_Trees_insertSlot_125 ?_
            refine ks_iald C 2 2 rfl rfl (by omega) (by omega) d_Trees_insertSlot_126 ?_
            refine ks_iconst (a := 1) rfl C d_Trees_insertSlot_127 ?_
            refine ks_iadd C d_Trees_insertSlot_128 ?_
            refine ks_istore C (by decide) rfl d_Trees_insertSlot_129 ?_
            refine ks_iinc C rfl (z := 1) rfl (by decide) rfl d_Trees_insertSlot_131 ?_
            refine ks_goto (tgt := 13) C (by decide) d_Trees_insertSlot_134 ?_
            refine ks_forget 6 ?_
            refine ks_forget 7 ?_
            refine ks_forget 8 ?_
            exact ih _ _ _ _ _ _ (by omega) (by omega) (by omega) (by rw [← g4, kv_insL, if_pos u3, kv_insB, if_neg (by omega)])
          · refine ks_aload_n rfl rfl C d_Trees_insertSlot_85 ?_
            refine ks_get (k := 1) C 0 6 in_Trees rfl (by decide) fk_Trees_28 rfl rfl rfl d_Trees_insertSlot_86 ?_
            refine ks_iload rfl C d_Trees_insertSlot_89 ?_
            refine ks_iload rfl C d_Trees_insertSlot_91 ?_
            refine ks_iload_n rfl rfl C d_Trees_insertSlot_93 ?_
            refine ks_cv (ci := 5) (q0 := 0) (kw_trees K t0 t1 t2 x0 n0 c0 _ _ _ ++ kw_nodes K n0 n1 x0 _ ++ kw_chains c0 x0 _ _ ++ kw_pages K x0 x1 x2 _ _) C (c_Nodes_insert l D K n0 n1 x0 x1 x2 _ _ _ _ _ _ (by omega) (by omega)) yw_Nodes_insert sel_Nodes_insert lk_Trees_129 d_Trees_insertSlot_94 rfl rfl rfl [3, 4, 6, 7, 8] [0, 1, 2, 5] [0, 1, 2, 4, 5, 3, 6, 7, 8] rfl rfl rfl rfl (by decide) rfl rfl rfl rfl rfl ⟨by decide, by decide⟩ ⟨by decide, by decide⟩ rfl (Nat.le_of_ble_eq_true rfl) ?_
            refine ks_goto (tgt := 115) C (by decide) d_Trees_insertSlot_97 ?_
            refine ks_iload rfl C d_Trees_insertSlot_115 ?_
            refine ks_istore_n C rfl (by decide) rfl d_Trees_insertSlot_117 ?_
            refine ks_aload_n rfl rfl C d_Trees_insertSlot_118 ?_
            refine ks_get (k := 4) C 0 6 in_Trees rfl (by decide) fk_Trees_17 rfl rfl rfl d_Trees_insertSlot_119 ?_
            refine ks_iload rfl C d_Trees_insertSlot_122 ?_
            refine ks_iconst (a := 1) rfl C d_Trees_insertSlot_124 ?_
            refine ks_iadd C d_Trees_insertSlot_125 ?_
            refine ks_iald C 2 2 rfl rfl (by omega) (by omega) d_Trees_insertSlot_126 ?_
            refine ks_iconst (a := 1) rfl C d_Trees_insertSlot_127 ?_
            refine ks_iadd C d_Trees_insertSlot_128 ?_
            refine ks_istore C (by decide) rfl d_Trees_insertSlot_129 ?_
            refine ks_iinc C rfl (z := 1) rfl (by decide) rfl d_Trees_insertSlot_131 ?_
            refine ks_goto (tgt := 13) C (by decide) d_Trees_insertSlot_134 ?_
            refine ks_forget 6 ?_
            refine ks_forget 7 ?_
            refine ks_forget 8 ?_
            exact ih _ _ _ _ _ _ (by omega) (by omega) (by omega) (by rw [← g4, kv_insL, if_pos u3, kv_insB, if_pos (by omega)])
        · refine ks_aload_n rfl rfl C d_Trees_insertSlot_43 ?_
          refine ks_get (k := 1) C 0 6 in_Trees rfl (by decide) fk_Trees_28 rfl rfl rfl d_Trees_insertSlot_44 ?_
          refine ks_iload rfl C d_Trees_insertSlot_47 ?_
          refine ks_iload rfl C d_Trees_insertSlot_49 ?_
          refine ks_iload_n rfl rfl C d_Trees_insertSlot_51 ?_
          refine ks_cv (ci := 5) (q0 := 0) (kw_trees K t0 t1 t2 x0 n0 c0 _ _ _ ++ kw_nodes K n0 n1 x0 _ ++ kw_chains c0 x0 _ _ ++ kw_pages K x0 x1 x2 _ _) C (c_Nodes_insert l D K n0 n1 x0 x1 x2 _ _ _ _ _ _ (by omega) (by omega)) yw_Nodes_insert sel_Nodes_insert lk_Trees_129 d_Trees_insertSlot_52 rfl rfl rfl [3, 4, 6, 7, 8] [0, 1, 2, 5] [0, 1, 2, 4, 5, 3, 6, 7, 8] rfl rfl rfl rfl (by decide) rfl rfl rfl rfl rfl ⟨by decide, by decide⟩ ⟨by decide, by decide⟩ rfl (Nat.le_of_ble_eq_true rfl) ?_
          exact ks_vret C Z rfl d_Trees_insertSlot_55 rfl rfl ⟨rfl, by rw [← g4, kv_insL, if_neg u3]⟩
  refine ks_iload_n rfl rfl C d_Trees_insertSlot_0 ?_
  refine ks_istore_n C rfl (by decide) rfl d_Trees_insertSlot_1 ?_
  refine ks_aload_n rfl rfl C d_Trees_insertSlot_2 ?_
  refine ks_get (k := 4) C 0 6 in_Trees rfl (by decide) fk_Trees_17 rfl rfl rfl d_Trees_insertSlot_3 ?_
  refine ks_iconst (a := 0) rfl C d_Trees_insertSlot_6 ?_
  refine ks_iald C 2 2 rfl rfl (by omega) (by omega) d_Trees_insertSlot_7 ?_
  refine ks_istore C (by decide) rfl d_Trees_insertSlot_8 ?_
  refine ks_iconst (a := 0) rfl C d_Trees_insertSlot_10 ?_
  refine ks_istore C (by decide) rfl d_Trees_insertSlot_11 ?_
  exact loop (top + 1) B G P c (ps 0) 0 (by omega) (by omega) (by omega) rfl
set_option maxRecDepth 100000 in
set_option maxHeartbeats 4000000 in
theorem c_Trees_mendPath (l : Launch) (D : va_G) (K : Nat → ClassId) (t0 t1 t2 n0 n1 c0 x0 x1 x2 pg ca top : Nat) (pn ps P : Nat → Nat) (B : Nat → UInt8) (G : Nat → Bool) (h3 : top ≤ 4) (hp : ∀ j, pn j < 65536) (hs : ∀ j, ps j < 65536) : ks_M l D (ks_T K) (ks_R 4) y_Trees_mendPath b_Trees_mendPath 4 none [.ref t0] (kw_trees K t0 t1 t2 x0 n0 c0 pn ps top ++ kw_nodes K n0 n1 x0 P ++ kw_chains c0 x0 pg ca ++ kw_pages K x0 x1 x2 B G) (ks_f none (kw_trees K t0 t1 t2 x0 n0 c0 pn ps top ++ kw_nodes K n0 n1 x0 (kv_mendL pn ps top 0 (B, G) P).2 ++ kw_chains c0 x0 pg ca ++ kw_pages K x0 x1 x2 (kv_mendL pn ps top 0 (B, G) P).1.1 (kv_mendL pn ps top 0 (B, G) P).1.2)) := by
  refine ks_M.of 3 (by decide) (Nat.le_of_ble_eq_true rfl) ?_
  intro E C Z
  have loop : ∀ (f : Nat) (B1 : Nat → UInt8) (G1 : Nat → Bool) (P1 : Nat → Nat) (v : Nat), v + f = top → kv_mendL pn ps f v (B1, G1) P1 = (kv_mendL pn ps top 0 (B, G) P) → ks_w E D 4 (kw_trees K t0 t1 t2 x0 n0 c0 pn ps top ++ kw_nodes K n0 n1 x0 P1 ++ kw_chains c0 x0 pg ca ++ kw_pages K x0 x1 x2 B1 G1) [some (.ref t0), some (.int (nI v)), none, none] 0 0 2 [] := by
    intro f
    induction f with
    | zero =>
      intro B1 G1 P1 v g1 g2
      have q1 := hp v
      refine ks_iload_n rfl rfl C d_Trees_mendPath_2 ?_
      refine ks_aload_n rfl rfl C d_Trees_mendPath_3 ?_
      refine ks_get (k := 5) C 0 6 in_Trees rfl (by decide) fk_Trees_20 rfl rfl rfl d_Trees_mendPath_4 ?_
      refine ks_icmp_ge (tgt := 97) C (by omega) (by omega) (by decide) d_Trees_mendPath_7 (fun u1 => ?_) (fun u1 => ?_)
      · exact ks_vret C Z rfl d_Trees_mendPath_97 rfl rfl ⟨rfl, by rw [← g2]; rfl⟩
      · exact (by omega : False).elim
    | succ f ih =>
      intro B1 G1 P1 v g1 g2
      have q1 := hp v
      have q3 := hp (v + 1)
      have q2 := hs (v + 1)
      refine ks_iload_n rfl rfl C d_Trees_mendPath_2 ?_
      refine ks_aload_n rfl rfl C d_Trees_mendPath_3 ?_
      refine ks_get (k := 5) C 0 6 in_Trees rfl (by decide) fk_Trees_20 rfl rfl rfl d_Trees_mendPath_4 ?_
      refine ks_icmp_ge (tgt := 97) C (by omega) (by omega) (by decide) d_Trees_mendPath_7 (fun u2 => ?_) (fun u2 => ?_)
      · exact ks_vret C Z rfl d_Trees_mendPath_97 rfl rfl (False.elim (by omega))
      · refine ks_aload_n rfl rfl C d_Trees_mendPath_10 ?_
        refine ks_get (k := 1) C 0 6 in_Trees rfl (by decide) fk_Trees_28 rfl rfl rfl d_Trees_mendPath_11 ?_
        refine ks_aload_n rfl rfl C d_Trees_mendPath_14 ?_
        refine ks_get (k := 3) C 0 6 in_Trees rfl (by decide) fk_Trees_11 rfl rfl rfl d_Trees_mendPath_15 ?_
        refine ks_iload_n rfl rfl C d_Trees_mendPath_18 ?_
        refine ks_iald C 1 2 rfl rfl (by omega) (by omega) d_Trees_mendPath_19 ?_
        refine ks_cx (ci := 5) (q0 := 0) (kw_trees K t0 t1 t2 x0 n0 c0 _ _ _ ++ kw_nodes K n0 n1 x0 _ ++ kw_chains c0 x0 _ _ ++ kw_pages K x0 x1 x2 _ _) C (c_Nodes_isSparse l D K n0 n1 x0 x1 x2 _ _ _ _ (by omega)) yw_Nodes_isSparse sel_Nodes_isSparse lk_Trees_138 d_Trees_mendPath_20 rfl rfl rfl [3, 4, 6, 7, 8] [0, 1, 2, 5] [0, 1, 2, 4, 5, 3, 6, 7, 8] rfl rfl rfl rfl (by decide) rfl rfl rfl rfl rfl ⟨by decide, by decide⟩ ⟨by decide, by decide⟩ rfl (Nat.le_of_ble_eq_true rfl) ?_
        refine ks_ifD_eq (tgt := 97) C (by decide) d_Trees_mendPath_23 (fun u3 => ?_) (fun u3 => ?_)
        · exact ks_vret C Z rfl d_Trees_mendPath_97 rfl rfl ⟨rfl, by rw [← g2, kv_mendL, if_neg u3]⟩
        · refine ks_aload_n rfl rfl C d_Trees_mendPath_26 ?_
          refine ks_get (k := 3) C 0 6 in_Trees rfl (by decide) fk_Trees_11 rfl rfl rfl d_Trees_mendPath_27 ?_
          refine ks_iload_n rfl rfl C d_Trees_mendPath_30 ?_
          refine ks_iconst (a := 1) rfl C d_Trees_mendPath_31 ?_
          refine ks_iadd C d_Trees_mendPath_32 ?_
          refine ks_iald C 1 2 rfl rfl (by omega) (by omega) d_Trees_mendPath_33 ?_
          refine ks_istore_n C rfl (by decide) rfl d_Trees_mendPath_34 ?_
          refine ks_aload_n rfl rfl C d_Trees_mendPath_35 ?_
          refine ks_get (k := 4) C 0 6 in_Trees rfl (by decide) fk_Trees_17 rfl rfl rfl d_Trees_mendPath_36 ?_
          refine ks_iload_n rfl rfl C d_Trees_mendPath_39 ?_
          refine ks_iconst (a := 1) rfl C d_Trees_mendPath_40 ?_
          refine ks_iadd C d_Trees_mendPath_41 ?_
          refine ks_iald C 2 2 rfl rfl (by omega) (by omega) d_Trees_mendPath_42 ?_
          refine ks_iconst (a := 1) rfl C d_Trees_mendPath_43 ?_
          refine ks_isubZ C d_Trees_mendPath_44 ?_
          refine ks_iconst (a := 0) rfl C d_Trees_mendPath_45 ?_
          refine ks_max0 C lk_Trees_72 wm_max (by omega) (by decide) (Nat.le_of_ble_eq_true rfl) (by decide) (by decide) d_Trees_mendPath_46 ?_
          refine ks_istore_n C rfl (by decide) rfl d_Trees_mendPath_49 ?_
          refine ks_aload_n rfl rfl C d_Trees_mendPath_50 ?_
          refine ks_get (k := 1) C 0 6 in_Trees rfl (by decide) fk_Trees_28 rfl rfl rfl d_Trees_mendPath_51 ?_
          refine ks_aload_n rfl rfl C d_Trees_mendPath_54 ?_
          refine ks_get (k := 1) C 0 6 in_Trees rfl (by decide) fk_Trees_28 rfl rfl rfl d_Trees_mendPath_55 ?_
          refine ks_iload_n rfl rfl C d_Trees_mendPath_58 ?_
          refine ks_iload_n rfl rfl C d_Trees_mendPath_59 ?_
          refine ks_cx (ci := 5) (q0 := 0) (kw_trees K t0 t1 t2 x0 n0 c0 _ _ _ ++ kw_nodes K n0 n1 x0 _ ++ kw_chains c0 x0 _ _ ++ kw_pages K x0 x1 x2 _ _) C (c_Nodes_slot l D K n0 n1 x0 x1 x2 _ _ _ _ _ (by omega) (by omega)) yw_Nodes_slot sel_Nodes_slot lk_Trees_78 d_Trees_mendPath_60 rfl rfl rfl [3, 4, 6, 7, 8] [0, 1, 2, 5] [0, 1, 2, 4, 5, 3, 6, 7, 8] rfl rfl rfl rfl (by decide) rfl rfl rfl rfl rfl ⟨by decide, by decide⟩ ⟨by decide, by decide⟩ rfl (Nat.le_of_ble_eq_true rfl) ?_
          refine ks_top_slot (fun u4 => ?_)
          refine ks_aload_n rfl rfl C d_Trees_mendPath_63 ?_
          refine ks_get (k := 1) C 0 6 in_Trees rfl (by decide) fk_Trees_28 rfl rfl rfl d_Trees_mendPath_64 ?_
          refine ks_iload_n rfl rfl C d_Trees_mendPath_67 ?_
          refine ks_iload_n rfl rfl C d_Trees_mendPath_68 ?_
          refine ks_iconst (a := 1) rfl C d_Trees_mendPath_69 ?_
          refine ks_iadd C d_Trees_mendPath_70 ?_
          refine ks_cx (ci := 5) (q0 := 0) (kw_trees K t0 t1 t2 x0 n0 c0 _ _ _ ++ kw_nodes K n0 n1 x0 _ ++ kw_chains c0 x0 _ _ ++ kw_pages K x0 x1 x2 _ _) C (c_Nodes_slot l D K n0 n1 x0 x1 x2 _ _ _ _ _ (by omega) (by omega)) yw_Nodes_slot sel_Nodes_slot lk_Trees_78 d_Trees_mendPath_71 rfl rfl rfl [3, 4, 6, 7, 8] [0, 1, 2, 5] [0, 1, 2, 4, 5, 3, 6, 7, 8] rfl rfl rfl rfl (by decide) rfl rfl rfl rfl rfl ⟨by decide, by decide⟩ ⟨by decide, by decide⟩ rfl (Nat.le_of_ble_eq_true rfl) ?_
          refine ks_top_slot (fun u5 => ?_)
          refine ks_cx (ci := 5) (q0 := 0) (kw_trees K t0 t1 t2 x0 n0 c0 _ _ _ ++ kw_nodes K n0 n1 x0 _ ++ kw_chains c0 x0 _ _ ++ kw_pages K x0 x1 x2 _ _) C (c_Nodes_merge l D K n0 n1 x0 x1 x2 _ _ _ _ _ (by omega) (by omega)) yw_Nodes_merge sel_Nodes_merge lk_Trees_141 d_Trees_mendPath_74 rfl rfl rfl [3, 4, 6, 7, 8] [0, 1, 2, 5] [0, 1, 2, 4, 5, 3, 6, 7, 8] rfl rfl rfl rfl (by decide) rfl rfl rfl rfl rfl ⟨by decide, by decide⟩ ⟨by decide, by decide⟩ rfl (Nat.le_of_ble_eq_true rfl) ?_
          refine ks_ifB_eq (tgt := 91) C (by decide) d_Trees_mendPath_77 (fun u6 => ?_) (fun u6 => ?_)
          · refine ks_iinc C rfl (z := 1) rfl (by decide) rfl d_Trees_mendPath_91 ?_
            refine ks_goto (tgt := 2) C (by decide) d_Trees_mendPath_94 ?_
            refine ks_forget 2 ?_
            refine ks_forget 3 ?_
            exact ih _ _ _ _ (by omega) (by rw [← g2, kv_mendL, if_pos u3, kv_mendD, if_neg (by rw [u6]; decide)])
          · refine ks_aload_n rfl rfl C d_Trees_mendPath_80 ?_
            refine ks_get (k := 1) C 0 6 in_Trees rfl (by decide) fk_Trees_28 rfl rfl rfl d_Trees_mendPath_81 ?_
            refine ks_iload_n rfl rfl C d_Trees_mendPath_84 ?_
            refine ks_iload_n rfl rfl C d_Trees_mendPath_85 ?_
            refine ks_iconst (a := 1) rfl C d_Trees_mendPath_86 ?_
            refine ks_iadd C d_Trees_mendPath_87 ?_
            refine ks_cv (ci := 5) (q0 := 0) (kw_trees K t0 t1 t2 x0 n0 c0 _ _ _ ++ kw_nodes K n0 n1 x0 _ ++ kw_chains c0 x0 _ _ ++ kw_pages K x0 x1 x2 _ _) C (c_Nodes_delete l D K n0 n1 x0 x1 x2 _ _ _ _ _ (by omega) (by omega)) yw_Nodes_delete sel_Nodes_delete lk_Trees_114 d_Trees_mendPath_88 rfl rfl rfl [3, 4, 6, 7, 8] [0, 1, 2, 5] [0, 1, 2, 4, 5, 3, 6, 7, 8] rfl rfl rfl rfl (by decide) rfl rfl rfl rfl rfl ⟨by decide, by decide⟩ ⟨by decide, by decide⟩ rfl (Nat.le_of_ble_eq_true rfl) ?_
            refine ks_iinc C rfl (z := 1) rfl (by decide) rfl d_Trees_mendPath_91 ?_
            refine ks_goto (tgt := 2) C (by decide) d_Trees_mendPath_94 ?_
            refine ks_forget 2 ?_
            refine ks_forget 3 ?_
            exact ih _ _ _ _ (by omega) (by rw [← g2, kv_mendL, if_pos u3, kv_mendD, if_pos u6])
  refine ks_iconst (a := 0) rfl C d_Trees_mendPath_0 ?_
  refine ks_istore_n C rfl (by decide) rfl d_Trees_mendPath_1 ?_
  exact loop top B G P 0 (by omega) rfl
set_option maxRecDepth 100000 in
set_option maxHeartbeats 4000000 in
theorem c_Trees_lowerRoot (l : Launch) (D : va_G) (K : Nat → ClassId) (t0 t1 t2 n0 n1 c0 x0 x1 x2 pg ca top : Nat) (pn ps P : Nat → Nat) (B : Nat → UInt8) (G : Nat → Bool) (t : Nat) (h1 : t < 65536) : ks_M l D (ks_T K) (ks_R 3) y_Trees_lowerRoot b_Trees_lowerRoot 3 none [.ref t0, .int (nI t)] (kw_trees K t0 t1 t2 x0 n0 c0 pn ps top ++ kw_nodes K n0 n1 x0 P ++ kw_chains c0 x0 pg ca ++ kw_pages K x0 x1 x2 B G) (ks_f none (kw_trees K t0 t1 t2 x0 n0 c0 pn ps top ++ kw_nodes K n0 n1 x0 P ++ kw_chains c0 x0 pg ca ++ kw_pages K x0 x1 x2 (kv_lower (B, G) t).1 (kv_lower (B, G) t).2)) := by
  refine ks_M.of 1 (by decide) (Nat.le_of_ble_eq_true rfl) ?_
  intro E C Z
  refine ks_aload_n rfl rfl C d_Trees_lowerRoot_0 ?_
  refine ks_iload_n rfl rfl C d_Trees_lowerRoot_1 ?_
  refine ks_cx (ci := 6) (q0 := 0) (kw_trees K t0 t1 t2 x0 n0 c0 _ _ _ ++ kw_nodes K n0 n1 x0 _ ++ kw_chains c0 x0 _ _ ++ kw_pages K x0 x1 x2 _ _) C (c_Trees_root l D K t0 t1 t2 n0 n1 c0 x0 x1 x2 _ _ _ _ _ _ _ _ _ (by omega)) yw_Trees_root sel_Trees_root lk_Trees_36 d_Trees_lowerRoot_2 rfl rfl rfl [0, 1, 2, 3, 4, 5, 6, 7, 8] [] [0, 1, 2, 3, 4, 5, 6, 7, 8] rfl rfl rfl rfl (by decide) rfl rfl rfl rfl rfl ⟨by decide, by decide⟩ ⟨by decide, by decide⟩ rfl (Nat.le_of_ble_eq_true rfl) ?_
  refine ks_top_root (fun u1 => ?_)
  refine ks_istore_n C rfl (by decide) rfl d_Trees_lowerRoot_5 ?_
  refine ks_aload_n rfl rfl C d_Trees_lowerRoot_6 ?_
  refine ks_get (k := 1) C 0 6 in_Trees rfl (by decide) fk_Trees_28 rfl rfl rfl d_Trees_lowerRoot_7 ?_
  refine ks_iload_n rfl rfl C d_Trees_lowerRoot_10 ?_
  refine ks_cx (ci := 5) (q0 := 0) (kw_trees K t0 t1 t2 x0 n0 c0 _ _ _ ++ kw_nodes K n0 n1 x0 _ ++ kw_chains c0 x0 _ _ ++ kw_pages K x0 x1 x2 _ _) C (c_Nodes_level l D K n0 n1 x0 x1 x2 _ _ _ _ (by omega)) yw_Nodes_level sel_Nodes_level lk_Trees_62 d_Trees_lowerRoot_11 rfl rfl rfl [3, 4, 6, 7, 8] [0, 1, 2, 5] [0, 1, 2, 4, 5, 3, 6, 7, 8] rfl rfl rfl rfl (by decide) rfl rfl rfl rfl rfl ⟨by decide, by decide⟩ ⟨by decide, by decide⟩ rfl (Nat.le_of_ble_eq_true rfl) ?_
  refine ks_top_level (fun u2 => ?_)
  refine ks_if_le (tgt := 51) C (by omega) (by decide) d_Trees_lowerRoot_14 (fun u3 => ?_) (fun u3 => ?_)
  · exact ks_vret C Z rfl d_Trees_lowerRoot_51 rfl rfl ⟨rfl, by unfold kv_lower; dsimp only; rw [if_neg (by omega)]⟩
  · refine ks_aload_n rfl rfl C d_Trees_lowerRoot_17 ?_
    refine ks_get (k := 1) C 0 6 in_Trees rfl (by decide) fk_Trees_28 rfl rfl rfl d_Trees_lowerRoot_18 ?_
    refine ks_iload_n rfl rfl C d_Trees_lowerRoot_21 ?_
    refine ks_cx (ci := 5) (q0 := 0) (kw_trees K t0 t1 t2 x0 n0 c0 _ _ _ ++ kw_nodes K n0 n1 x0 _ ++ kw_chains c0 x0 _ _ ++ kw_pages K x0 x1 x2 _ _) C (c_Nodes_count l D K n0 n1 x0 x1 x2 _ _ _ _ (by omega)) yw_Nodes_count sel_Nodes_count lk_Trees_85 d_Trees_lowerRoot_22 rfl rfl rfl [3, 4, 6, 7, 8] [0, 1, 2, 5] [0, 1, 2, 4, 5, 3, 6, 7, 8] rfl rfl rfl rfl (by decide) rfl rfl rfl rfl rfl ⟨by decide, by decide⟩ ⟨by decide, by decide⟩ rfl (Nat.le_of_ble_eq_true rfl) ?_
    refine ks_top_count (fun u4 => ?_)
    refine ks_iconst (a := 1) rfl C d_Trees_lowerRoot_25 ?_
    refine ks_icmp_ne (tgt := 51) C (by omega) (by omega) (by decide) d_Trees_lowerRoot_26 (fun u5 => ?_) (fun u5 => ?_)
    · exact ks_vret C Z rfl d_Trees_lowerRoot_51 rfl rfl ⟨rfl, by unfold kv_lower; dsimp only; rw [if_neg (by omega)]⟩
    · refine ks_aload_n rfl rfl C d_Trees_lowerRoot_29 ?_
      refine ks_iload_n rfl rfl C d_Trees_lowerRoot_30 ?_
      refine ks_aload_n rfl rfl C d_Trees_lowerRoot_31 ?_
      refine ks_get (k := 1) C 0 6 in_Trees rfl (by decide) fk_Trees_28 rfl rfl rfl d_Trees_lowerRoot_32 ?_
      refine ks_iload_n rfl rfl C d_Trees_lowerRoot_35 ?_
      refine ks_iconst (a := 0) rfl C d_Trees_lowerRoot_36 ?_
      refine ks_cx (ci := 5) (q0 := 0) (kw_trees K t0 t1 t2 x0 n0 c0 _ _ _ ++ kw_nodes K n0 n1 x0 _ ++ kw_chains c0 x0 _ _ ++ kw_pages K x0 x1 x2 _ _) C (c_Nodes_slot l D K n0 n1 x0 x1 x2 _ _ _ _ _ (by omega) (by omega)) yw_Nodes_slot sel_Nodes_slot lk_Trees_78 d_Trees_lowerRoot_37 rfl rfl rfl [3, 4, 6, 7, 8] [0, 1, 2, 5] [0, 1, 2, 4, 5, 3, 6, 7, 8] rfl rfl rfl rfl (by decide) rfl rfl rfl rfl rfl ⟨by decide, by decide⟩ ⟨by decide, by decide⟩ rfl (Nat.le_of_ble_eq_true rfl) ?_
      refine ks_top_slot (fun u6 => ?_)
      refine ks_cv (ci := 6) (q0 := 0) (kw_trees K t0 t1 t2 x0 n0 c0 _ _ _ ++ kw_nodes K n0 n1 x0 _ ++ kw_chains c0 x0 _ _ ++ kw_pages K x0 x1 x2 _ _) C (c_Trees_setRoot l D K t0 t1 t2 n0 n1 c0 x0 x1 x2 _ _ _ _ _ _ _ _ _ _ (by omega)) yw_Trees_setRoot sel_Trees_setRoot lk_Trees_52 d_Trees_lowerRoot_40 rfl rfl rfl [0, 1, 2, 3, 4, 5, 6, 7, 8] [] [0, 1, 2, 3, 4, 5, 6, 7, 8] rfl rfl rfl rfl (by decide) rfl rfl rfl rfl rfl ⟨by decide, by decide⟩ ⟨by decide, by decide⟩ rfl (Nat.le_of_ble_eq_true rfl) ?_
      refine ks_aload_n rfl rfl C d_Trees_lowerRoot_43 ?_
      refine ks_get (k := 0) C 0 6 in_Trees rfl (by decide) fk_Trees_24 rfl rfl rfl d_Trees_lowerRoot_44 ?_
      refine ks_iload_n rfl rfl C d_Trees_lowerRoot_47 ?_
      refine ks_cv (ci := 1) (q0 := 0) (kw_trees K t0 t1 t2 x0 n0 c0 _ _ _ ++ kw_nodes K n0 n1 x0 _ ++ kw_chains c0 x0 _ _ ++ kw_pages K x0 x1 x2 _ _) C (c_Pages_freePage l D K x0 x1 x2 _ _ _ (by omega)) yw_Pages_freePage sel_Pages_freePage lk_Trees_145 d_Trees_lowerRoot_48 rfl rfl rfl [6, 7, 8] [0, 1, 2, 3, 4, 5] [0, 1, 2, 3, 4, 5, 6, 7, 8] rfl rfl rfl rfl (by decide) rfl rfl rfl rfl rfl ⟨by decide, by decide⟩ ⟨by decide, by decide⟩ rfl (Nat.le_of_ble_eq_true rfl) ?_
      exact ks_vret C Z rfl d_Trees_lowerRoot_51 rfl rfl ⟨rfl, by unfold kv_lower; dsimp only; rw [if_pos (by omega)]⟩
set_option maxRecDepth 100000 in
set_option maxHeartbeats 4000000 in
theorem c_Trees_replaceHere (l : Launch) (D : va_G) (K : Nat → ClassId) (t0 t1 t2 n0 n1 c0 x0 x1 x2 k0 k1 v0 v1 pg ca top : Nat) (pn ps P : Nat → Nat) (B : Nat → UInt8) (G : Nat → Bool) (KR : Nat → UInt8) (kl : Nat) (VR : Nat → UInt8) (vl : Nat) (h1 : kl ≤ 8448) (h2 : vl ≤ 8448) (hp : ∀ j, pn j < 65536) (hs : ∀ j, ps j < 65536) : ks_M l D (ks_T K) (ks_R 5) y_Trees_replaceHere b_Trees_replaceHere 5 none [.ref t0, .ref k0, .ref v0] (kw_trees K t0 t1 t2 x0 n0 c0 pn ps top ++ kw_nodes K n0 n1 x0 P ++ kw_chains c0 x0 pg ca ++ kw_pages K x0 x1 x2 B G ++ kw_row K k0 k1 KR kl ++ kw_row K v0 v1 VR vl) (ks_f none (kw_trees K t0 t1 t2 x0 n0 c0 pn ps top ++ kw_nodes K n0 n1 x0 P ++ kw_chains c0 x0 (kv_repl (B, G) (pn 0) (ps 0) KR kl VR vl).2.1 (kv_repl (B, G) (pn 0) (ps 0) KR kl VR vl).2.2 ++ kw_pages K x0 x1 x2 (kv_repl (B, G) (pn 0) (ps 0) KR kl VR vl).1.1 (kv_repl (B, G) (pn 0) (ps 0) KR kl VR vl).1.2 ++ kw_row K k0 k1 KR kl ++ kw_row K v0 v1 VR vl)) := by
  refine ks_M.of 2 (by decide) (Nat.le_of_ble_eq_true rfl) ?_
  intro E C Z
  have q1 := hp 0
  have q2 := hs 0
  refine ks_aload_n rfl rfl C d_Trees_replaceHere_0 ?_
  refine ks_get (k := 1) C 0 6 in_Trees rfl (by decide) fk_Trees_28 rfl rfl rfl d_Trees_replaceHere_1 ?_
  refine ks_aload_n rfl rfl C d_Trees_replaceHere_4 ?_
  refine ks_get (k := 3) C 0 6 in_Trees rfl (by decide) fk_Trees_11 rfl rfl rfl d_Trees_replaceHere_5 ?_
  refine ks_iconst (a := 0) rfl C d_Trees_replaceHere_8 ?_
  refine ks_iald C 1 2 rfl rfl (by omega) (by omega) d_Trees_replaceHere_9 ?_
  refine ks_aload_n rfl rfl C d_Trees_replaceHere_10 ?_
  refine ks_get (k := 4) C 0 6 in_Trees rfl (by decide) fk_Trees_17 rfl rfl rfl d_Trees_replaceHere_11 ?_
  refine ks_iconst (a := 0) rfl C d_Trees_replaceHere_14 ?_
  refine ks_iald C 2 2 rfl rfl (by omega) (by omega) d_Trees_replaceHere_15 ?_
  refine ks_cx (ci := 5) (q0 := 0) (kw_trees K t0 t1 t2 x0 n0 c0 _ _ _ ++ kw_nodes K n0 n1 x0 _ ++ kw_chains c0 x0 _ _ ++ kw_pages K x0 x1 x2 _ _ ++ kw_row K k0 k1 _ _ ++ kw_row K v0 v1 _ _) C (c_Nodes_slot l D K n0 n1 x0 x1 x2 _ _ _ _ _ (by omega) (by omega)) yw_Nodes_slot sel_Nodes_slot lk_Trees_78 d_Trees_replaceHere_16 rfl rfl rfl [3, 4, 6, 7, 8] [0, 1, 2, 5, 9, 10, 11, 12] [0, 1, 2, 8, 9, 3, 10, 11, 12, 4, 5, 6, 7] rfl rfl rfl rfl (by decide) rfl rfl rfl rfl rfl ⟨by decide, by decide⟩ ⟨by decide, by decide⟩ rfl (Nat.le_of_ble_eq_true rfl) ?_
  refine ks_top_slot (fun u1 => ?_)
  refine ks_istore_n C rfl (by decide) rfl d_Trees_replaceHere_19 ?_
  refine ks_aload_n rfl rfl C d_Trees_replaceHere_20 ?_
  refine ks_get (k := 0) C 0 6 in_Trees rfl (by decide) fk_Trees_24 rfl rfl rfl d_Trees_replaceHere_21 ?_
  refine ks_bipush (a := 8) rfl C d_Trees_replaceHere_24 ?_
  refine ks_aload_n rfl rfl C d_Trees_replaceHere_26 ?_
  refine ks_get (k := 2) C 0 6 in_Trees rfl (by decide) fk_Trees_32 rfl rfl rfl d_Trees_replaceHere_27 ?_
  refine ks_iload_n rfl rfl C d_Trees_replaceHere_30 ?_
  refine ks_cx (ci := 4) (q0 := 0) (kw_trees K t0 t1 t2 x0 n0 c0 _ _ _ ++ kw_nodes K n0 n1 x0 _ ++ kw_chains c0 x0 _ _ ++ kw_pages K x0 x1 x2 _ _ ++ kw_row K k0 k1 _ _ ++ kw_row K v0 v1 _ _) C (c_Chains_size l D K c0 x0 x1 x2 _ _ _ _ _ (by omega)) yw_Chains_size sel_Chains_size lk_Trees_97 d_Trees_replaceHere_31 rfl rfl rfl [5, 6, 7, 8] [0, 1, 2, 3, 4, 9, 10, 11, 12] [0, 1, 2, 3, 4, 9, 10, 11, 12, 5, 6, 7, 8] rfl rfl rfl rfl (by decide) rfl rfl rfl rfl rfl ⟨by decide, by decide⟩ ⟨by decide, by decide⟩ rfl (Nat.le_of_ble_eq_true rfl) ?_
  refine ks_top_size (fun u2 => ?_)
  refine ks_inegN (by omega) C d_Trees_replaceHere_34 ?_
  refine ks_cv (ci := 1) (q0 := 0) (kw_trees K t0 t1 t2 x0 n0 c0 _ _ _ ++ kw_nodes K n0 n1 x0 _ ++ kw_chains c0 x0 _ _ ++ kw_pages K x0 x1 x2 _ _ ++ kw_row K k0 k1 _ _ ++ kw_row K v0 v1 _ _) C (c_Pages_addTo l D K x0 x1 x2 _ _ _ _ (by omega)) yw_Pages_addTo sel_Pages_addTo lk_Trees_56 d_Trees_replaceHere_35 rfl rfl rfl [6, 7, 8] [0, 1, 2, 3, 4, 5, 9, 10, 11, 12] [0, 1, 2, 3, 4, 5, 10, 11, 12, 6, 7, 8, 9] rfl rfl rfl rfl (by decide) rfl rfl rfl rfl rfl ⟨by decide, by decide⟩ ⟨by decide, by decide⟩ rfl (Nat.le_of_ble_eq_true rfl) ?_
  refine ks_aload_n rfl rfl C d_Trees_replaceHere_38 ?_
  refine ks_get (k := 2) C 0 6 in_Trees rfl (by decide) fk_Trees_32 rfl rfl rfl d_Trees_replaceHere_39 ?_
  refine ks_iload_n rfl rfl C d_Trees_replaceHere_42 ?_
  refine ks_cv (ci := 4) (q0 := 0) (kw_trees K t0 t1 t2 x0 n0 c0 _ _ _ ++ kw_nodes K n0 n1 x0 _ ++ kw_chains c0 x0 _ _ ++ kw_pages K x0 x1 x2 _ _ ++ kw_row K k0 k1 _ _ ++ kw_row K v0 v1 _ _) C (c_Chains_free l D K c0 x0 x1 x2 _ _ _ _ _ (by omega)) yw_Chains_free sel_Chains_free lk_Trees_100 d_Trees_replaceHere_43 rfl rfl rfl [5, 6, 7, 8] [0, 1, 2, 3, 4, 9, 10, 11, 12] [0, 1, 2, 3, 4, 9, 10, 11, 12, 5, 6, 7, 8] rfl rfl rfl rfl (by decide) rfl rfl rfl rfl rfl ⟨by decide, by decide⟩ ⟨by decide, by decide⟩ rfl (Nat.le_of_ble_eq_true rfl) ?_
  refine ks_aload_n rfl rfl C d_Trees_replaceHere_46 ?_
  refine ks_get (k := 2) C 0 6 in_Trees rfl (by decide) fk_Trees_32 rfl rfl rfl d_Trees_replaceHere_47 ?_
  refine ks_aload_n rfl rfl C d_Trees_replaceHere_50 ?_
  refine ks_aload_n rfl rfl C d_Trees_replaceHere_51 ?_
  refine ks_cx (ci := 4) (q0 := 0) (kw_trees K t0 t1 t2 x0 n0 c0 _ _ _ ++ kw_nodes K n0 n1 x0 _ ++ kw_chains c0 x0 _ _ ++ kw_pages K x0 x1 x2 _ _ ++ kw_row K k0 k1 _ _ ++ kw_row K v0 v1 _ _) C (c_Chains_store l D K c0 x0 x1 x2 k0 k1 v0 v1 _ _ _ _ _ _ _ _ (by omega) (by omega)) yw_Chains_store sel_Chains_store lk_Trees_103 d_Trees_replaceHere_52 rfl rfl rfl [5, 6, 7, 8, 9, 10, 11, 12] [0, 1, 2, 3, 4] [0, 1, 2, 3, 4, 5, 6, 7, 8, 9, 10, 11, 12] rfl rfl rfl rfl (by decide) rfl rfl rfl rfl rfl ⟨by decide, by decide⟩ ⟨by decide, by decide⟩ rfl (Nat.le_of_ble_eq_true rfl) ?_
  refine ks_top_store (fun u3 => ?_)
  refine ks_istore C (by decide) rfl d_Trees_replaceHere_55 ?_
  refine ks_aload_n rfl rfl C d_Trees_replaceHere_57 ?_
  refine ks_get (k := 0) C 0 6 in_Trees rfl (by decide) fk_Trees_24 rfl rfl rfl d_Trees_replaceHere_58 ?_
  refine ks_bipush (a := 8) rfl C d_Trees_replaceHere_61 ?_
  refine ks_aload_n rfl rfl C d_Trees_replaceHere_63 ?_
  refine ks_get (k := 2) C 0 6 in_Trees rfl (by decide) fk_Trees_32 rfl rfl rfl d_Trees_replaceHere_64 ?_
  refine ks_iload rfl C d_Trees_replaceHere_67 ?_
  refine ks_cx (ci := 4) (q0 := 0) (kw_trees K t0 t1 t2 x0 n0 c0 _ _ _ ++ kw_nodes K n0 n1 x0 _ ++ kw_chains c0 x0 _ _ ++ kw_pages K x0 x1 x2 _ _ ++ kw_row K k0 k1 _ _ ++ kw_row K v0 v1 _ _) C (c_Chains_size l D K c0 x0 x1 x2 _ _ _ _ _ (by omega)) yw_Chains_size sel_Chains_size lk_Trees_97 d_Trees_replaceHere_69 rfl rfl rfl [5, 6, 7, 8] [0, 1, 2, 3, 4, 9, 10, 11, 12] [0, 1, 2, 3, 4, 9, 10, 11, 12, 5, 6, 7, 8] rfl rfl rfl rfl (by decide) rfl rfl rfl rfl rfl ⟨by decide, by decide⟩ ⟨by decide, by decide⟩ rfl (Nat.le_of_ble_eq_true rfl) ?_
  refine ks_top_size (fun u4 => ?_)
  refine ks_cv (ci := 1) (q0 := 0) (kw_trees K t0 t1 t2 x0 n0 c0 _ _ _ ++ kw_nodes K n0 n1 x0 _ ++ kw_chains c0 x0 _ _ ++ kw_pages K x0 x1 x2 _ _ ++ kw_row K k0 k1 _ _ ++ kw_row K v0 v1 _ _) C (c_Pages_addTo l D K x0 x1 x2 _ _ _ _ (by omega)) yw_Pages_addTo sel_Pages_addTo lk_Trees_56 d_Trees_replaceHere_72 rfl rfl rfl [6, 7, 8] [0, 1, 2, 3, 4, 5, 9, 10, 11, 12] [0, 1, 2, 3, 4, 5, 10, 11, 12, 6, 7, 8, 9] rfl rfl rfl rfl (by decide) rfl rfl rfl rfl rfl ⟨by decide, by decide⟩ ⟨by decide, by decide⟩ rfl (Nat.le_of_ble_eq_true rfl) ?_
  refine ks_aload_n rfl rfl C d_Trees_replaceHere_75 ?_
  refine ks_get (k := 1) C 0 6 in_Trees rfl (by decide) fk_Trees_28 rfl rfl rfl d_Trees_replaceHere_76 ?_
  refine ks_aload_n rfl rfl C d_Trees_replaceHere_79 ?_
  refine ks_get (k := 3) C 0 6 in_Trees rfl (by decide) fk_Trees_11 rfl rfl rfl d_Trees_replaceHere_80 ?_
  refine ks_iconst (a := 0) rfl C d_Trees_replaceHere_83 ?_
  refine ks_iald C 1 2 rfl rfl (by omega) (by omega) d_Trees_replaceHere_84 ?_
  refine ks_aload_n rfl rfl C d_Trees_replaceHere_85 ?_
  refine ks_get (k := 4) C 0 6 in_Trees rfl (by decide) fk_Trees_17 rfl rfl rfl d_Trees_replaceHere_86 ?_
  refine ks_iconst (a := 0) rfl C d_Trees_replaceHere_89 ?_
  refine ks_iald C 2 2 rfl rfl (by omega) (by omega) d_Trees_replaceHere_90 ?_
  refine ks_iload rfl C d_Trees_replaceHere_91 ?_
  refine ks_cv (ci := 5) (q0 := 0) (kw_trees K t0 t1 t2 x0 n0 c0 _ _ _ ++ kw_nodes K n0 n1 x0 _ ++ kw_chains c0 x0 _ _ ++ kw_pages K x0 x1 x2 _ _ ++ kw_row K k0 k1 _ _ ++ kw_row K v0 v1 _ _) C (c_Nodes_setSlot l D K n0 n1 x0 x1 x2 _ _ _ _ _ _ (by omega) (by omega)) yw_Nodes_setSlot sel_Nodes_setSlot lk_Trees_107 d_Trees_replaceHere_93 rfl rfl rfl [3, 4, 6, 7, 8] [0, 1, 2, 5, 9, 10, 11, 12] [0, 1, 2, 8, 9, 3, 10, 11, 12, 4, 5, 6, 7] rfl rfl rfl rfl (by decide) rfl rfl rfl rfl rfl ⟨by decide, by decide⟩ ⟨by decide, by decide⟩ rfl (Nat.le_of_ble_eq_true rfl) ?_
  exact ks_vret C Z rfl d_Trees_replaceHere_96 rfl rfl ⟨rfl, rfl⟩
set_option maxRecDepth 100000 in
set_option maxHeartbeats 4000000 in
theorem c_Trees_insertHere (l : Launch) (D : va_G) (K : Nat → ClassId) (t0 t1 t2 n0 n1 c0 x0 x1 x2 k0 k1 v0 v1 pg ca top : Nat) (pn ps P : Nat → Nat) (B : Nat → UInt8) (G : Nat → Bool) (KR : Nat → UInt8) (kl : Nat) (VR : Nat → UInt8) (vl : Nat) (t : Nat) (h1 : t < 65536) (h2 : kl ≤ 8448) (h3 : vl ≤ 8448) (h4 : top ≤ 4) (hp : ∀ j, pn j < 65536) (hs : ∀ j, ps j < 65536) : ks_M l D (ks_T K) (ks_R 6) y_Trees_insertHere b_Trees_insertHere 5 none [.ref t0, .int (nI t), .ref k0, .ref v0] (kw_trees K t0 t1 t2 x0 n0 c0 pn ps top ++ kw_nodes K n0 n1 x0 P ++ kw_chains c0 x0 pg ca ++ kw_pages K x0 x1 x2 B G ++ kw_row K k0 k1 KR kl ++ kw_row K v0 v1 VR vl) (ks_f none (kw_trees K t0 t1 t2 x0 n0 c0 pn ps top ++ kw_nodes K n0 n1 x0 (kv_insH (B, G) P t top pn ps KR kl VR vl).1.2 ++ kw_chains c0 x0 (kv_insH (B, G) P t top pn ps KR kl VR vl).2.1 (kv_insH (B, G) P t top pn ps KR kl VR vl).2.2 ++ kw_pages K x0 x1 x2 (kv_insH (B, G) P t top pn ps KR kl VR vl).1.1.1 (kv_insH (B, G) P t top pn ps KR kl VR vl).1.1.2 ++ kw_row K k0 k1 KR kl ++ kw_row K v0 v1 VR vl)) := by
  refine ks_M.of 1 (by decide) (Nat.le_of_ble_eq_true rfl) ?_
  intro E C Z
  refine ks_aload_n rfl rfl C d_Trees_insertHere_0 ?_
  refine ks_get (k := 2) C 0 6 in_Trees rfl (by decide) fk_Trees_32 rfl rfl rfl d_Trees_insertHere_1 ?_
  refine ks_aload_n rfl rfl C d_Trees_insertHere_4 ?_
  refine ks_aload_n rfl rfl C d_Trees_insertHere_5 ?_
  refine ks_cx (ci := 4) (q0 := 0) (kw_trees K t0 t1 t2 x0 n0 c0 _ _ _ ++ kw_nodes K n0 n1 x0 _ ++ kw_chains c0 x0 _ _ ++ kw_pages K x0 x1 x2 _ _ ++ kw_row K k0 k1 _ _ ++ kw_row K v0 v1 _ _) C (c_Chains_store l D K c0 x0 x1 x2 k0 k1 v0 v1 _ _ _ _ _ _ _ _ (by omega) (by omega)) yw_Chains_store sel_Chains_store lk_Trees_103 d_Trees_insertHere_6 rfl rfl rfl [5, 6, 7, 8, 9, 10, 11, 12] [0, 1, 2, 3, 4] [0, 1, 2, 3, 4, 5, 6, 7, 8, 9, 10, 11, 12] rfl rfl rfl rfl (by decide) rfl rfl rfl rfl rfl ⟨by decide, by decide⟩ ⟨by decide, by decide⟩ rfl (Nat.le_of_ble_eq_true rfl) ?_
  refine ks_top_store (fun u1 => ?_)
  refine ks_istore C (by decide) rfl d_Trees_insertHere_9 ?_
  refine ks_aload_n rfl rfl C d_Trees_insertHere_11 ?_
  refine ks_get (k := 0) C 0 6 in_Trees rfl (by decide) fk_Trees_24 rfl rfl rfl d_Trees_insertHere_12 ?_
  refine ks_bipush (a := 8) rfl C d_Trees_insertHere_15 ?_
  refine ks_aload_n rfl rfl C d_Trees_insertHere_17 ?_
  refine ks_get (k := 2) C 0 6 in_Trees rfl (by decide) fk_Trees_32 rfl rfl rfl d_Trees_insertHere_18 ?_
  refine ks_iload rfl C d_Trees_insertHere_21 ?_
  refine ks_cx (ci := 4) (q0 := 0) (kw_trees K t0 t1 t2 x0 n0 c0 _ _ _ ++ kw_nodes K n0 n1 x0 _ ++ kw_chains c0 x0 _ _ ++ kw_pages K x0 x1 x2 _ _ ++ kw_row K k0 k1 _ _ ++ kw_row K v0 v1 _ _) C (c_Chains_size l D K c0 x0 x1 x2 _ _ _ _ _ (by omega)) yw_Chains_size sel_Chains_size lk_Trees_97 d_Trees_insertHere_23 rfl rfl rfl [5, 6, 7, 8] [0, 1, 2, 3, 4, 9, 10, 11, 12] [0, 1, 2, 3, 4, 9, 10, 11, 12, 5, 6, 7, 8] rfl rfl rfl rfl (by decide) rfl rfl rfl rfl rfl ⟨by decide, by decide⟩ ⟨by decide, by decide⟩ rfl (Nat.le_of_ble_eq_true rfl) ?_
  refine ks_top_size (fun u2 => ?_)
  refine ks_cv (ci := 1) (q0 := 0) (kw_trees K t0 t1 t2 x0 n0 c0 _ _ _ ++ kw_nodes K n0 n1 x0 _ ++ kw_chains c0 x0 _ _ ++ kw_pages K x0 x1 x2 _ _ ++ kw_row K k0 k1 _ _ ++ kw_row K v0 v1 _ _) C (c_Pages_addTo l D K x0 x1 x2 _ _ _ _ (by omega)) yw_Pages_addTo sel_Pages_addTo lk_Trees_56 d_Trees_insertHere_26 rfl rfl rfl [6, 7, 8] [0, 1, 2, 3, 4, 5, 9, 10, 11, 12] [0, 1, 2, 3, 4, 5, 10, 11, 12, 6, 7, 8, 9] rfl rfl rfl rfl (by decide) rfl rfl rfl rfl rfl ⟨by decide, by decide⟩ ⟨by decide, by decide⟩ rfl (Nat.le_of_ble_eq_true rfl) ?_
  refine ks_aload_n rfl rfl C d_Trees_insertHere_29 ?_
  refine ks_get (k := 0) C 0 6 in_Trees rfl (by decide) fk_Trees_24 rfl rfl rfl d_Trees_insertHere_30 ?_
  refine ks_bipush (a := 32) rfl C d_Trees_insertHere_33 ?_
  refine ks_iconst (a := 4) rfl C d_Trees_insertHere_35 ?_
  refine ks_iload_n rfl rfl C d_Trees_insertHere_36 ?_
  refine ks_imul C d_Trees_insertHere_37 ?_
  refine ks_iadd C d_Trees_insertHere_38 ?_
  refine ks_iconst (a := 2) rfl C d_Trees_insertHere_39 ?_
  refine ks_iadd C d_Trees_insertHere_40 ?_
  refine ks_iconst (a := 1) rfl C d_Trees_insertHere_41 ?_
  refine ks_cv (ci := 1) (q0 := 0) (kw_trees K t0 t1 t2 x0 n0 c0 _ _ _ ++ kw_nodes K n0 n1 x0 _ ++ kw_chains c0 x0 _ _ ++ kw_pages K x0 x1 x2 _ _ ++ kw_row K k0 k1 _ _ ++ kw_row K v0 v1 _ _) C (c_Pages_addTo l D K x0 x1 x2 _ _ _ _ (by omega)) yw_Pages_addTo sel_Pages_addTo lk_Trees_56 d_Trees_insertHere_42 rfl rfl rfl [6, 7, 8] [0, 1, 2, 3, 4, 5, 9, 10, 11, 12] [0, 1, 2, 3, 4, 5, 10, 11, 12, 6, 7, 8, 9] rfl rfl rfl rfl (by decide) rfl rfl rfl rfl rfl ⟨by decide, by decide⟩ ⟨by decide, by decide⟩ rfl (Nat.le_of_ble_eq_true rfl) ?_
  refine ks_aload_n rfl rfl C d_Trees_insertHere_45 ?_
  refine ks_iload_n rfl rfl C d_Trees_insertHere_46 ?_
  refine ks_iload rfl C d_Trees_insertHere_47 ?_
  refine ks_cv (ci := 6) (q0 := 0) (kw_trees K t0 t1 t2 x0 n0 c0 _ _ _ ++ kw_nodes K n0 n1 x0 _ ++ kw_chains c0 x0 _ _ ++ kw_pages K x0 x1 x2 _ _ ++ kw_row K k0 k1 _ _ ++ kw_row K v0 v1 _ _) C (c_Trees_insertSlot l D K t0 t1 t2 n0 n1 c0 x0 x1 x2 _ _ _ _ _ _ _ _ _ _ (by omega) (by omega) (by omega) hp hs) yw_Trees_insertSlot sel_Trees_insertSlot lk_Trees_111 d_Trees_insertHere_49 rfl rfl rfl [0, 1, 2, 3, 4, 5, 6, 7, 8] [9, 10, 11, 12] [4, 5, 6, 7, 8, 9, 10, 11, 12, 0, 1, 2, 3] rfl rfl rfl rfl (by decide) rfl rfl rfl rfl rfl ⟨by decide, by decide⟩ ⟨by decide, by decide⟩ rfl (Nat.le_of_ble_eq_true rfl) ?_
  exact ks_vret C Z rfl d_Trees_insertHere_52 rfl rfl ⟨rfl, rfl⟩
set_option maxRecDepth 100000 in
set_option maxHeartbeats 4000000 in
theorem c_Trees_deleteHere (l : Launch) (D : va_G) (K : Nat → ClassId) (t0 t1 t2 n0 n1 c0 x0 x1 x2 pg ca top : Nat) (pn ps P : Nat → Nat) (B : Nat → UInt8) (G : Nat → Bool) (t : Nat) (h1 : t < 65536) (h3 : top ≤ 4) (hp : ∀ j, pn j < 65536) (hs : ∀ j, ps j < 65536) : ks_M l D (ks_T K) (ks_R 5) y_Trees_deleteHere b_Trees_deleteHere 3 none [.ref t0, .int (nI t)] (kw_trees K t0 t1 t2 x0 n0 c0 pn ps top ++ kw_nodes K n0 n1 x0 P ++ kw_chains c0 x0 pg ca ++ kw_pages K x0 x1 x2 B G) (ks_f none (kw_trees K t0 t1 t2 x0 n0 c0 pn ps top ++ kw_nodes K n0 n1 x0 (kv_delH (B, G) P t top pn ps).2 ++ kw_chains c0 x0 pg ca ++ kw_pages K x0 x1 x2 (kv_delH (B, G) P t top pn ps).1.1 (kv_delH (B, G) P t top pn ps).1.2)) := by
  refine ks_M.of 1 (by decide) (Nat.le_of_ble_eq_true rfl) ?_
  intro E C Z
  have q1 := hp 0
  have q2 := hs 0
  refine ks_aload_n rfl rfl C d_Trees_deleteHere_0 ?_
  refine ks_get (k := 1) C 0 6 in_Trees rfl (by decide) fk_Trees_28 rfl rfl rfl d_Trees_deleteHere_1 ?_
  refine ks_aload_n rfl rfl C d_Trees_deleteHere_4 ?_
  refine ks_get (k := 3) C 0 6 in_Trees rfl (by decide) fk_Trees_11 rfl rfl rfl d_Trees_deleteHere_5 ?_
  refine ks_iconst (a := 0) rfl C d_Trees_deleteHere_8 ?_
  refine ks_iald C 1 2 rfl rfl (by omega) (by omega) d_Trees_deleteHere_9 ?_
  refine ks_aload_n rfl rfl C d_Trees_deleteHere_10 ?_
  refine ks_get (k := 4) C 0 6 in_Trees rfl (by decide) fk_Trees_17 rfl rfl rfl d_Trees_deleteHere_11 ?_
  refine ks_iconst (a := 0) rfl C d_Trees_deleteHere_14 ?_
  refine ks_iald C 2 2 rfl rfl (by omega) (by omega) d_Trees_deleteHere_15 ?_
  refine ks_cx (ci := 5) (q0 := 0) (kw_trees K t0 t1 t2 x0 n0 c0 _ _ _ ++ kw_nodes K n0 n1 x0 _ ++ kw_chains c0 x0 _ _ ++ kw_pages K x0 x1 x2 _ _) C (c_Nodes_slot l D K n0 n1 x0 x1 x2 _ _ _ _ _ (by omega) (by omega)) yw_Nodes_slot sel_Nodes_slot lk_Trees_78 d_Trees_deleteHere_16 rfl rfl rfl [3, 4, 6, 7, 8] [0, 1, 2, 5] [0, 1, 2, 4, 5, 3, 6, 7, 8] rfl rfl rfl rfl (by decide) rfl rfl rfl rfl rfl ⟨by decide, by decide⟩ ⟨by decide, by decide⟩ rfl (Nat.le_of_ble_eq_true rfl) ?_
  refine ks_top_slot (fun u1 => ?_)
  refine ks_istore_n C rfl (by decide) rfl d_Trees_deleteHere_19 ?_
  refine ks_aload_n rfl rfl C d_Trees_deleteHere_20 ?_
  refine ks_get (k := 0) C 0 6 in_Trees rfl (by decide) fk_Trees_24 rfl rfl rfl d_Trees_deleteHere_21 ?_
  refine ks_bipush (a := 8) rfl C d_Trees_deleteHere_24 ?_
  refine ks_aload_n rfl rfl C d_Trees_deleteHere_26 ?_
  refine ks_get (k := 2) C 0 6 in_Trees rfl (by decide) fk_Trees_32 rfl rfl rfl d_Trees_deleteHere_27 ?_
  refine ks_iload_n rfl rfl C d_Trees_deleteHere_30 ?_
  refine ks_cx (ci := 4) (q0 := 0) (kw_trees K t0 t1 t2 x0 n0 c0 _ _ _ ++ kw_nodes K n0 n1 x0 _ ++ kw_chains c0 x0 _ _ ++ kw_pages K x0 x1 x2 _ _) C (c_Chains_size l D K c0 x0 x1 x2 _ _ _ _ _ (by omega)) yw_Chains_size sel_Chains_size lk_Trees_97 d_Trees_deleteHere_31 rfl rfl rfl [5, 6, 7, 8] [0, 1, 2, 3, 4] [0, 1, 2, 3, 4, 5, 6, 7, 8] rfl rfl rfl rfl (by decide) rfl rfl rfl rfl rfl ⟨by decide, by decide⟩ ⟨by decide, by decide⟩ rfl (Nat.le_of_ble_eq_true rfl) ?_
  refine ks_top_size (fun u2 => ?_)
  refine ks_inegN (by omega) C d_Trees_deleteHere_34 ?_
  refine ks_cv (ci := 1) (q0 := 0) (kw_trees K t0 t1 t2 x0 n0 c0 _ _ _ ++ kw_nodes K n0 n1 x0 _ ++ kw_chains c0 x0 _ _ ++ kw_pages K x0 x1 x2 _ _) C (c_Pages_addTo l D K x0 x1 x2 _ _ _ _ (by omega)) yw_Pages_addTo sel_Pages_addTo lk_Trees_56 d_Trees_deleteHere_35 rfl rfl rfl [6, 7, 8] [0, 1, 2, 3, 4, 5] [0, 1, 2, 3, 4, 5, 6, 7, 8] rfl rfl rfl rfl (by decide) rfl rfl rfl rfl rfl ⟨by decide, by decide⟩ ⟨by decide, by decide⟩ rfl (Nat.le_of_ble_eq_true rfl) ?_
  refine ks_aload_n rfl rfl C d_Trees_deleteHere_38 ?_
  refine ks_get (k := 0) C 0 6 in_Trees rfl (by decide) fk_Trees_24 rfl rfl rfl d_Trees_deleteHere_39 ?_
  refine ks_bipush (a := 32) rfl C d_Trees_deleteHere_42 ?_
  refine ks_iconst (a := 4) rfl C d_Trees_deleteHere_44 ?_
  refine ks_iload_n rfl rfl C d_Trees_deleteHere_45 ?_
  refine ks_imul C d_Trees_deleteHere_46 ?_
  refine ks_iadd C d_Trees_deleteHere_47 ?_
  refine ks_iconst (a := 2) rfl C d_Trees_deleteHere_48 ?_
  refine ks_iadd C d_Trees_deleteHere_49 ?_
  refine ks_iconst (a := 4294967295) rfl C d_Trees_deleteHere_50 ?_
  refine ks_cv (ci := 1) (q0 := 0) (kw_trees K t0 t1 t2 x0 n0 c0 _ _ _ ++ kw_nodes K n0 n1 x0 _ ++ kw_chains c0 x0 _ _ ++ kw_pages K x0 x1 x2 _ _) C (c_Pages_addTo l D K x0 x1 x2 _ _ _ _ (by omega)) yw_Pages_addTo sel_Pages_addTo lk_Trees_56 d_Trees_deleteHere_51 rfl rfl rfl [6, 7, 8] [0, 1, 2, 3, 4, 5] [0, 1, 2, 3, 4, 5, 6, 7, 8] rfl rfl rfl rfl (by decide) rfl rfl rfl rfl rfl ⟨by decide, by decide⟩ ⟨by decide, by decide⟩ rfl (Nat.le_of_ble_eq_true rfl) ?_
  refine ks_aload_n rfl rfl C d_Trees_deleteHere_54 ?_
  refine ks_get (k := 2) C 0 6 in_Trees rfl (by decide) fk_Trees_32 rfl rfl rfl d_Trees_deleteHere_55 ?_
  refine ks_iload_n rfl rfl C d_Trees_deleteHere_58 ?_
  refine ks_cv (ci := 4) (q0 := 0) (kw_trees K t0 t1 t2 x0 n0 c0 _ _ _ ++ kw_nodes K n0 n1 x0 _ ++ kw_chains c0 x0 _ _ ++ kw_pages K x0 x1 x2 _ _) C (c_Chains_free l D K c0 x0 x1 x2 _ _ _ _ _ (by omega)) yw_Chains_free sel_Chains_free lk_Trees_100 d_Trees_deleteHere_59 rfl rfl rfl [5, 6, 7, 8] [0, 1, 2, 3, 4] [0, 1, 2, 3, 4, 5, 6, 7, 8] rfl rfl rfl rfl (by decide) rfl rfl rfl rfl rfl ⟨by decide, by decide⟩ ⟨by decide, by decide⟩ rfl (Nat.le_of_ble_eq_true rfl) ?_
  refine ks_aload_n rfl rfl C d_Trees_deleteHere_62 ?_
  refine ks_get (k := 1) C 0 6 in_Trees rfl (by decide) fk_Trees_28 rfl rfl rfl d_Trees_deleteHere_63 ?_
  refine ks_aload_n rfl rfl C d_Trees_deleteHere_66 ?_
  refine ks_get (k := 3) C 0 6 in_Trees rfl (by decide) fk_Trees_11 rfl rfl rfl d_Trees_deleteHere_67 ?_
  refine ks_iconst (a := 0) rfl C d_Trees_deleteHere_70 ?_
  refine ks_iald C 1 2 rfl rfl (by omega) (by omega) d_Trees_deleteHere_71 ?_
  refine ks_aload_n rfl rfl C d_Trees_deleteHere_72 ?_
  refine ks_get (k := 4) C 0 6 in_Trees rfl (by decide) fk_Trees_17 rfl rfl rfl d_Trees_deleteHere_73 ?_
  refine ks_iconst (a := 0) rfl C d_Trees_deleteHere_76 ?_
  refine ks_iald C 2 2 rfl rfl (by omega) (by omega) d_Trees_deleteHere_77 ?_
  refine ks_cv (ci := 5) (q0 := 0) (kw_trees K t0 t1 t2 x0 n0 c0 _ _ _ ++ kw_nodes K n0 n1 x0 _ ++ kw_chains c0 x0 _ _ ++ kw_pages K x0 x1 x2 _ _) C (c_Nodes_delete l D K n0 n1 x0 x1 x2 _ _ _ _ _ (by omega) (by omega)) yw_Nodes_delete sel_Nodes_delete lk_Trees_114 d_Trees_deleteHere_78 rfl rfl rfl [3, 4, 6, 7, 8] [0, 1, 2, 5] [0, 1, 2, 4, 5, 3, 6, 7, 8] rfl rfl rfl rfl (by decide) rfl rfl rfl rfl rfl ⟨by decide, by decide⟩ ⟨by decide, by decide⟩ rfl (Nat.le_of_ble_eq_true rfl) ?_
  refine ks_aload_n rfl rfl C d_Trees_deleteHere_81 ?_
  refine ks_cv (ci := 6) (q0 := 0) (kw_trees K t0 t1 t2 x0 n0 c0 _ _ _ ++ kw_nodes K n0 n1 x0 _ ++ kw_chains c0 x0 _ _ ++ kw_pages K x0 x1 x2 _ _) C (c_Trees_mendPath l D K t0 t1 t2 n0 n1 c0 x0 x1 x2 _ _ _ _ _ _ _ _ (by omega) hp hs) yw_Trees_mendPath sel_Trees_mendPath lk_Trees_117 d_Trees_deleteHere_82 rfl rfl rfl [0, 1, 2, 3, 4, 5, 6, 7, 8] [] [0, 1, 2, 3, 4, 5, 6, 7, 8] rfl rfl rfl rfl (by decide) rfl rfl rfl rfl rfl ⟨by decide, by decide⟩ ⟨by decide, by decide⟩ rfl (Nat.le_of_ble_eq_true rfl) ?_
  refine ks_aload_n rfl rfl C d_Trees_deleteHere_85 ?_
  refine ks_iload_n rfl rfl C d_Trees_deleteHere_86 ?_
  refine ks_cv (ci := 6) (q0 := 0) (kw_trees K t0 t1 t2 x0 n0 c0 _ _ _ ++ kw_nodes K n0 n1 x0 _ ++ kw_chains c0 x0 _ _ ++ kw_pages K x0 x1 x2 _ _) C (c_Trees_lowerRoot l D K t0 t1 t2 n0 n1 c0 x0 x1 x2 _ _ _ _ _ _ _ _ _ (by omega)) yw_Trees_lowerRoot sel_Trees_lowerRoot lk_Trees_120 d_Trees_deleteHere_87 rfl rfl rfl [0, 1, 2, 3, 4, 5, 6, 7, 8] [] [0, 1, 2, 3, 4, 5, 6, 7, 8] rfl rfl rfl rfl (by decide) rfl rfl rfl rfl rfl ⟨by decide, by decide⟩ ⟨by decide, by decide⟩ rfl (Nat.le_of_ble_eq_true rfl) ?_
  exact ks_vret C Z rfl d_Trees_deleteHere_90 rfl rfl ⟨rfl, rfl⟩
