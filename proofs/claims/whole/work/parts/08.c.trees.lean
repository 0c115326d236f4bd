/-! contracts of trees: a tree is dropped -/
set_option maxRecDepth 100000 in
set_option maxHeartbeats 4000000 in
theorem c_Trees_free0 (l : Launch) (D : va_G) (K : Nat → ClassId) : ∀ (lv : Nat) (t0 t1 t2 n0 n1 c0 x0 x1 x2 pg ca top : Nat) (pn ps P : Nat → Nat) (B : Nat → UInt8) (G : Nat → Bool) (p : Nat) (h1 : p < 65536), lv ≤ 4 → ks_M l D (ks_T K) (ks_R (6 + lv)) y_Trees_free b_Trees_free 6 none [.ref t0, .int (nI p), .int (nI lv)] (kw_trees K t0 t1 t2 x0 n0 c0 pn ps top ++ kw_nodes K n0 n1 x0 P ++ kw_chains c0 x0 pg ca ++ kw_pages K x0 x1 x2 B G) (ks_f none (kw_trees K t0 t1 t2 x0 n0 c0 pn ps top ++ kw_nodes K n0 n1 x0 P ++ kw_chains c0 x0 pg ca ++ kw_pages K x0 x1 x2 (kv_freeT lv (B, G) p).1 (kv_freeT lv (B, G) p).2)) := by
  intro lv
  induction lv with
  | zero =>
    intro t0 t1 t2 n0 n1 c0 x0 x1 x2 pg ca top pn ps P B G p h1 hlv
    refine ks_M.of 3 (by decide) (Nat.le_of_ble_eq_true rfl) ?_
    intro E C Z
    have loop : ∀ (f : Nat) (B1 : Nat → UInt8) (G1 : Nat → Bool) (i : Nat), i + f = kv_count B p → kv_count B p ≤ 14 → kv_freeP (kv_frL kv_replA p f i (B1, G1)) p = kv_freeT (0) (B, G) p → ks_w E D 6 (kw_trees K t0 t1 t2 x0 n0 c0 pn ps top ++ kw_nodes K n0 n1 x0 P ++ kw_chains c0 x0 pg ca ++ kw_pages K x0 x1 x2 B1 G1) [some (.ref t0), some (.int (nI p)), some (.int (nI 0)), some (.int (nI (kv_count B p))), some (.int (nI i)), none] 0 0 12 [] := by
      intro f
      induction f with
      | zero =>
        intro B1 G1 i g1 g2 g3
        refine ks_iload rfl C d_Trees_free_12 ?_
        refine ks_iload_n rfl rfl C d_Trees_free_14 ?_
        refine ks_icmp_ge (tgt := 80) C (by omega) (by omega) (by decide) d_Trees_free_15 (fun u1 => ?_) (fun u1 => ?_)
        · refine ks_aload_n rfl rfl C d_Trees_free_80 ?_
          refine ks_get (k := 0) C 0 6 in_Trees rfl (by decide) fk_Trees_24 rfl rfl rfl d_Trees_free_81 ?_
          refine ks_iload_n rfl rfl C d_Trees_free_84 ?_
          refine ks_cv (ci := 1) (q0 := 0) (kw_trees K t0 t1 t2 x0 n0 c0 _ _ _ ++ kw_nodes K n0 n1 x0 _ ++ kw_chains c0 x0 _ _ ++ kw_pages K x0 x1 x2 _ _) C (c_Pages_freePage l D K x0 x1 x2 _ _ _ (by omega)) yw_Pages_freePage sel_Pages_freePage lk_Trees_145 d_Trees_free_85 rfl rfl rfl [6, 7, 8] [0, 1, 2, 3, 4, 5] [0, 1, 2, 3, 4, 5, 6, 7, 8] rfl rfl rfl rfl (by decide) rfl rfl rfl rfl rfl ⟨by dsimp only [ks_R]; omega, by dsimp only [ks_R]; omega⟩ ⟨by dsimp only [ks_R]; omega, by dsimp only [ks_R]; omega⟩ rfl (Nat.le_of_ble_eq_true rfl) ?_
          exact ks_vret C Z rfl d_Trees_free_88 rfl rfl ⟨rfl, by rw [← g3]; rfl⟩
        · exact (by omega : False).elim
      | succ f ih2 =>
        intro B1 G1 i g1 g2 g3
        refine ks_iload rfl C d_Trees_free_12 ?_
        refine ks_iload_n rfl rfl C d_Trees_free_14 ?_
        refine ks_icmp_ge (tgt := 80) C (by omega) (by omega) (by decide) d_Trees_free_15 (fun u2 => ?_) (fun u2 => ?_)
        · exact (by omega : False).elim
        · refine ks_aload_n rfl rfl C d_Trees_free_18 ?_
          refine ks_get (k := 1) C 0 6 in_Trees rfl (by decide) fk_Trees_28 rfl rfl rfl d_Trees_free_19 ?_
          refine ks_iload_n rfl rfl C d_Trees_free_22 ?_
          refine ks_iload rfl C d_Trees_free_23 ?_
          refine ks_cx (ci := 5) (q0 := 0) (kw_trees K t0 t1 t2 x0 n0 c0 _ _ _ ++ kw_nodes K n0 n1 x0 _ ++ kw_chains c0 x0 _ _ ++ kw_pages K x0 x1 x2 _ _) C (c_Nodes_slot l D K n0 n1 x0 x1 x2 _ _ _ _ _ (by omega) (by omega)) yw_Nodes_slot sel_Nodes_slot lk_Trees_78 d_Trees_free_25 rfl rfl rfl [3, 4, 6, 7, 8] [0, 1, 2, 5] [0, 1, 2, 4, 5, 3, 6, 7, 8] rfl rfl rfl rfl (by decide) rfl rfl rfl rfl rfl ⟨by dsimp only [ks_R]; omega, by dsimp only [ks_R]; omega⟩ ⟨by dsimp only [ks_R]; omega, by dsimp only [ks_R]; omega⟩ rfl (Nat.le_of_ble_eq_true rfl) ?_
          refine ks_top_slot (fun u3 => ?_)
          refine ks_istore C (by decide) rfl d_Trees_free_28 ?_
          refine ks_iload_n rfl rfl C d_Trees_free_30 ?_
          refine ks_if_le (tgt := 46) C (by omega) (by decide) d_Trees_free_31 (fun u4 => ?_) (fun u4 => ?_)
          · refine ks_aload_n rfl rfl C d_Trees_free_46 ?_
            refine ks_get (k := 0) C 0 6 in_Trees rfl (by decide) fk_Trees_24 rfl rfl rfl d_Trees_free_47 ?_
            refine ks_bipush (a := 8) rfl C d_Trees_free_50 ?_
            refine ks_aload_n rfl rfl C d_Trees_free_52 ?_
            refine ks_get (k := 2) C 0 6 in_Trees rfl (by decide) fk_Trees_32 rfl rfl rfl d_Trees_free_53 ?_
            refine ks_iload rfl C d_Trees_free_56 ?_
            refine ks_cx (ci := 4) (q0 := 0) (kw_trees K t0 t1 t2 x0 n0 c0 _ _ _ ++ kw_nodes K n0 n1 x0 _ ++ kw_chains c0 x0 _ _ ++ kw_pages K x0 x1 x2 _ _) C (c_Chains_size l D K c0 x0 x1 x2 _ _ _ _ _ (by omega)) yw_Chains_size sel_Chains_size lk_Trees_97 d_Trees_free_58 rfl rfl rfl [5, 6, 7, 8] [0, 1, 2, 3, 4] [0, 1, 2, 3, 4, 5, 6, 7, 8] rfl rfl rfl rfl (by decide) rfl rfl rfl rfl rfl ⟨by dsimp only [ks_R]; omega, by dsimp only [ks_R]; omega⟩ ⟨by dsimp only [ks_R]; omega, by dsimp only [ks_R]; omega⟩ rfl (Nat.le_of_ble_eq_true rfl) ?_
            refine ks_top_size (fun u5 => ?_)
            refine ks_inegN (by omega) C d_Trees_free_61 ?_
            refine ks_cv (ci := 1) (q0 := 0) (kw_trees K t0 t1 t2 x0 n0 c0 _ _ _ ++ kw_nodes K n0 n1 x0 _ ++ kw_chains c0 x0 _ _ ++ kw_pages K x0 x1 x2 _ _) C (c_Pages_addTo l D K x0 x1 x2 _ _ _ _ (by omega)) yw_Pages_addTo sel_Pages_addTo lk_Trees_56 d_Trees_free_62 rfl rfl rfl [6, 7, 8] [0, 1, 2, 3, 4, 5] [0, 1, 2, 3, 4, 5, 6, 7, 8] rfl rfl rfl rfl (by decide) rfl rfl rfl rfl rfl ⟨by dsimp only [ks_R]; omega, by dsimp only [ks_R]; omega⟩ ⟨by dsimp only [ks_R]; omega, by dsimp only [ks_R]; omega⟩ rfl (Nat.le_of_ble_eq_true rfl) ?_
            refine ks_aload_n rfl rfl C d_Trees_free_65 ?_
            refine ks_get (k := 2) C 0 6 in_Trees rfl (by decide) fk_Trees_32 rfl rfl rfl d_Trees_free_66 ?_
            refine ks_iload rfl C d_Trees_free_69 ?_
            refine ks_cv (ci := 4) (q0 := 0) (kw_trees K t0 t1 t2 x0 n0 c0 _ _ _ ++ kw_nodes K n0 n1 x0 _ ++ kw_chains c0 x0 _ _ ++ kw_pages K x0 x1 x2 _ _) C (c_Chains_free l D K c0 x0 x1 x2 _ _ _ _ _ (by omega)) yw_Chains_free sel_Chains_free lk_Trees_100 d_Trees_free_71 rfl rfl rfl [5, 6, 7, 8] [0, 1, 2, 3, 4] [0, 1, 2, 3, 4, 5, 6, 7, 8] rfl rfl rfl rfl (by decide) rfl rfl rfl rfl rfl ⟨by dsimp only [ks_R]; omega, by dsimp only [ks_R]; omega⟩ ⟨by dsimp only [ks_R]; omega, by dsimp only [ks_R]; omega⟩ rfl (Nat.le_of_ble_eq_true rfl) ?_
            refine ks_iinc C rfl (z := 1) rfl (by decide) rfl d_Trees_free_74 ?_
            refine ks_goto (tgt := 12) C (by decide) d_Trees_free_77 ?_
            refine ks_forget 5 ?_
            exact ih2 _ _ _ (by omega) g2 (by rw [← g3, kv_frL]; try rfl)
          · exact (by omega : False).elim
    refine ks_aload_n rfl rfl C d_Trees_free_0 ?_
    refine ks_get (k := 1) C 0 6 in_Trees rfl (by decide) fk_Trees_28 rfl rfl rfl d_Trees_free_1 ?_
    refine ks_iload_n rfl rfl C d_Trees_free_4 ?_
    refine ks_cx (ci := 5) (q0 := 0) (kw_trees K t0 t1 t2 x0 n0 c0 _ _ _ ++ kw_nodes K n0 n1 x0 _ ++ kw_chains c0 x0 _ _ ++ kw_pages K x0 x1 x2 _ _) C (c_Nodes_count l D K n0 n1 x0 x1 x2 _ _ _ _ (by omega)) yw_Nodes_count sel_Nodes_count lk_Trees_85 d_Trees_free_5 rfl rfl rfl [3, 4, 6, 7, 8] [0, 1, 2, 5] [0, 1, 2, 4, 5, 3, 6, 7, 8] rfl rfl rfl rfl (by decide) rfl rfl rfl rfl rfl ⟨by dsimp only [ks_R]; omega, by dsimp only [ks_R]; omega⟩ ⟨by dsimp only [ks_R]; omega, by dsimp only [ks_R]; omega⟩ rfl (Nat.le_of_ble_eq_true rfl) ?_
    refine ks_top_count (fun u6 => ?_)
    refine ks_istore_n C rfl (by decide) rfl d_Trees_free_8 ?_
    refine ks_iconst (a := 0) rfl C d_Trees_free_9 ?_
    refine ks_istore C (by decide) rfl d_Trees_free_10 ?_
    exact loop (kv_count B p) B G 0 (by omega) (by omega) rfl
  | succ lv ih =>
    intro t0 t1 t2 n0 n1 c0 x0 x1 x2 pg ca top pn ps P B G p h1 hlv
    refine ks_M.of 3 (by decide) (Nat.le_of_ble_eq_true rfl) ?_
    intro E C Z
    have loop : ∀ (f : Nat) (B1 : Nat → UInt8) (G1 : Nat → Bool) (i : Nat), i + f = kv_count B p → kv_count B p ≤ 14 → kv_freeP (kv_frL (kv_freeT lv) p f i (B1, G1)) p = kv_freeT (lv + 1) (B, G) p → ks_w E D 6 (kw_trees K t0 t1 t2 x0 n0 c0 pn ps top ++ kw_nodes K n0 n1 x0 P ++ kw_chains c0 x0 pg ca ++ kw_pages K x0 x1 x2 B1 G1) [some (.ref t0), some (.int (nI p)), some (.int (nI (lv + 1))), some (.int (nI (kv_count B p))), some (.int (nI i)), none] 0 0 12 [] := by
      intro f
      induction f with
      | zero =>
        intro B1 G1 i g1 g2 g3
        refine ks_iload rfl C d_Trees_free_12 ?_
        refine ks_iload_n rfl rfl C d_Trees_free_14 ?_
        refine ks_icmp_ge (tgt := 80) C (by omega) (by omega) (by decide) d_Trees_free_15 (fun u1 => ?_) (fun u1 => ?_)
        · refine ks_aload_n rfl rfl C d_Trees_free_80 ?_
          refine ks_get (k := 0) C 0 6 in_Trees rfl (by decide) fk_Trees_24 rfl rfl rfl d_Trees_free_81 ?_
          refine ks_iload_n rfl rfl C d_Trees_free_84 ?_
          refine ks_cv (ci := 1) (q0 := 0) (kw_trees K t0 t1 t2 x0 n0 c0 _ _ _ ++ kw_nodes K n0 n1 x0 _ ++ kw_chains c0 x0 _ _ ++ kw_pages K x0 x1 x2 _ _) C (c_Pages_freePage l D K x0 x1 x2 _ _ _ (by omega)) yw_Pages_freePage sel_Pages_freePage lk_Trees_145 d_Trees_free_85 rfl rfl rfl [6, 7, 8] [0, 1, 2, 3, 4, 5] [0, 1, 2, 3, 4, 5, 6, 7, 8] rfl rfl rfl rfl (by decide) rfl rfl rfl rfl rfl ⟨by dsimp only [ks_R]; omega, by dsimp only [ks_R]; omega⟩ ⟨by dsimp only [ks_R]; omega, by dsimp only [ks_R]; omega⟩ rfl (Nat.le_of_ble_eq_true rfl) ?_
          exact ks_vret C Z rfl d_Trees_free_88 rfl rfl ⟨rfl, by rw [← g3]; rfl⟩
        · exact (by omega : False).elim
      | succ f ih2 =>
        intro B1 G1 i g1 g2 g3
        refine ks_iload rfl C d_Trees_free_12 ?_
        refine ks_iload_n rfl rfl C d_Trees_free_14 ?_
        refine ks_icmp_ge (tgt := 80) C (by omega) (by omega) (by decide) d_Trees_free_15 (fun u2 => ?_) (fun u2 => ?_)
        · exact (by omega : False).elim
        · refine ks_aload_n rfl rfl C d_Trees_free_18 ?_
          refine ks_get (k := 1) C 0 6 in_Trees rfl (by decide) fk_Trees_28 rfl rfl rfl d_Trees_free_19 ?_
          refine ks_iload_n rfl rfl C d_Trees_free_22 ?_
          refine ks_iload rfl C d_Trees_free_23 ?_
          refine ks_cx (ci := 5) (q0 := 0) (kw_trees K t0 t1 t2 x0 n0 c0 _ _ _ ++ kw_nodes K n0 n1 x0 _ ++ kw_chains c0 x0 _ _ ++ kw_pages K x0 x1 x2 _ _) C (c_Nodes_slot l D K n0 n1 x0 x1 x2 _ _ _ _ _ (by omega) (by omega)) yw_Nodes_slot sel_Nodes_slot lk_Trees_78 d_Trees_free_25 rfl rfl rfl [3, 4, 6, 7, 8] [0, 1, 2, 5] [0, 1, 2, 4, 5, 3, 6, 7, 8] rfl rfl rfl rfl (by decide) rfl rfl rfl rfl rfl ⟨by dsimp only [ks_R]; omega, by dsimp only [ks_R]; omega⟩ ⟨by dsimp only [ks_R]; omega, by dsimp only [ks_R]; omega⟩ rfl (Nat.le_of_ble_eq_true rfl) ?_
          refine ks_top_slot (fun u3 => ?_)
          refine ks_istore C (by decide) rfl d_Trees_free_28 ?_
          refine ks_iload_n rfl rfl C d_Trees_free_30 ?_
          refine ks_if_le (tgt := 46) C (by omega) (by decide) d_Trees_free_31 (fun u4 => ?_) (fun u4 => ?_)
          · exact (by omega : False).elim
          · refine ks_aload_n rfl rfl C d_Trees_free_34 ?_
            refine ks_iload rfl C d_Trees_free_35 ?_
            refine ks_iload_n rfl rfl C d_Trees_free_37 ?_
            refine ks_iconst (a := 1) rfl C d_Trees_free_38 ?_
            refine ks_isub (by omega) C d_Trees_free_39 ?_
            refine ks_cv (ci := 6) (q0 := 0) (kw_trees K t0 t1 t2 x0 n0 c0 _ _ _ ++ kw_nodes K n0 n1 x0 _ ++ kw_chains c0 x0 _ _ ++ kw_pages K x0 x1 x2 _ _) C (ih t0 t1 t2 n0 n1 c0 x0 x1 x2 _ _ _ _ _ _ _ _ _ (by omega) (by omega)) yw_Trees_free sel_Trees_free lk_Trees_65 d_Trees_free_40 rfl rfl rfl [0, 1, 2, 3, 4, 5, 6, 7, 8] [] [0, 1, 2, 3, 4, 5, 6, 7, 8] rfl rfl rfl rfl (by decide) rfl rfl rfl rfl rfl ⟨by dsimp only [ks_R]; omega, by dsimp only [ks_R]; omega⟩ ⟨by dsimp only [ks_R]; omega, by dsimp only [ks_R]; omega⟩ rfl (Nat.le_of_ble_eq_true rfl) ?_
            refine ks_goto (tgt := 74) C (by decide) d_Trees_free_43 ?_
            refine ks_iinc C rfl (z := 1) rfl (by decide) rfl d_Trees_free_74 ?_
            refine ks_goto (tgt := 12) C (by decide) d_Trees_free_77 ?_
            refine ks_forget 5 ?_
            exact ih2 _ _ _ (by omega) g2 (by rw [← g3, kv_frL]; try rfl)
    refine ks_aload_n rfl rfl C d_Trees_free_0 ?_
    refine ks_get (k := 1) C 0 6 in_Trees rfl (by decide) fk_Trees_28 rfl rfl rfl d_Trees_free_1 ?_
    refine ks_iload_n rfl rfl C d_Trees_free_4 ?_
    refine ks_cx (ci := 5) (q0 := 0) (kw_trees K t0 t1 t2 x0 n0 c0 _ _ _ ++ kw_nodes K n0 n1 x0 _ ++ kw_chains c0 x0 _ _ ++ kw_pages K x0 x1 x2 _ _) C (c_Nodes_count l D K n0 n1 x0 x1 x2 _ _ _ _ (by omega)) yw_Nodes_count sel_Nodes_count lk_Trees_85 d_Trees_free_5 rfl rfl rfl [3, 4, 6, 7, 8] [0, 1, 2, 5] [0, 1, 2, 4, 5, 3, 6, 7, 8] rfl rfl rfl rfl (by decide) rfl rfl rfl rfl rfl ⟨by dsimp only [ks_R]; omega, by dsimp only [ks_R]; omega⟩ ⟨by dsimp only [ks_R]; omega, by dsimp only [ks_R]; omega⟩ rfl (Nat.le_of_ble_eq_true rfl) ?_
    refine ks_top_count (fun u5 => ?_)
    refine ks_istore_n C rfl (by decide) rfl d_Trees_free_8 ?_
    refine ks_iconst (a := 0) rfl C d_Trees_free_9 ?_
    refine ks_istore C (by decide) rfl d_Trees_free_10 ?_
    exact loop (kv_count B p) B G 0 (by omega) (by omega) rfl
set_option maxRecDepth 100000 in
set_option maxHeartbeats 4000000 in
theorem c_Trees_dropTree (l : Launch) (D : va_G) (K : Nat → ClassId) (t0 t1 t2 n0 n1 c0 x0 x1 x2 pg ca top : Nat) (pn ps P : Nat → Nat) (B : Nat → UInt8) (G : Nat → Bool) (t : Nat) (h1 : t < 65536) : ks_M l D (ks_T K) (ks_R 11) y_Trees_dropTree b_Trees_dropTree 4 (some .int) [.ref t0, .int (nI t)] (kw_trees K t0 t1 t2 x0 n0 c0 pn ps top ++ kw_nodes K n0 n1 x0 P ++ kw_chains c0 x0 pg ca ++ kw_pages K x0 x1 x2 B G) (ks_f (some (.int (nI (kv_ents B t)))) (kw_trees K t0 t1 t2 x0 n0 c0 pn ps top ++ kw_nodes K n0 n1 x0 P ++ kw_chains c0 x0 pg ca ++ kw_pages K x0 x1 x2 (kv_drop (B, G) t).1 (kv_drop (B, G) t).2)) := by
  refine ks_M.of 2 (by decide) (Nat.le_of_ble_eq_true rfl) ?_
  intro E C Z
  have q1 : kv_level B (kv_root B t) ≤ 4 := Nat.min_le_right _ _
  refine ks_aload_n rfl rfl C d_Trees_dropTree_0 ?_
  refine ks_iload_n rfl rfl C d_Trees_dropTree_1 ?_
  refine ks_cx (ci := 6) (q0 := 0) (kw_trees K t0 t1 t2 x0 n0 c0 _ _ _ ++ kw_nodes K n0 n1 x0 _ ++ kw_chains c0 x0 _ _ ++ kw_pages K x0 x1 x2 _ _) C (c_Trees_entries l D K t0 t1 t2 n0 n1 c0 x0 x1 x2 _ _ _ _ _ _ _ _ _ (by omega)) yw_Trees_entries sel_Trees_entries lk_Trees_59 d_Trees_dropTree_2 rfl rfl rfl [0, 1, 2, 3, 4, 5, 6, 7, 8] [] [0, 1, 2, 3, 4, 5, 6, 7, 8] rfl rfl rfl rfl (by decide) rfl rfl rfl rfl rfl ⟨by dsimp only [ks_R]; omega, by dsimp only [ks_R]; omega⟩ ⟨by dsimp only [ks_R]; omega, by dsimp only [ks_R]; omega⟩ rfl (Nat.le_of_ble_eq_true rfl) ?_
  refine ks_top_ents (fun u1 => ?_)
  refine ks_istore_n C rfl (by decide) rfl d_Trees_dropTree_5 ?_
  refine ks_aload_n rfl rfl C d_Trees_dropTree_6 ?_
  refine ks_iload_n rfl rfl C d_Trees_dropTree_7 ?_
  refine ks_cx (ci := 6) (q0 := 0) (kw_trees K t0 t1 t2 x0 n0 c0 _ _ _ ++ kw_nodes K n0 n1 x0 _ ++ kw_chains c0 x0 _ _ ++ kw_pages K x0 x1 x2 _ _) C (c_Trees_root l D K t0 t1 t2 n0 n1 c0 x0 x1 x2 _ _ _ _ _ _ _ _ _ (by omega)) yw_Trees_root sel_Trees_root lk_Trees_36 d_Trees_dropTree_8 rfl rfl rfl [0, 1, 2, 3, 4, 5, 6, 7, 8] [] [0, 1, 2, 3, 4, 5, 6, 7, 8] rfl rfl rfl rfl (by decide) rfl rfl rfl rfl rfl ⟨by dsimp only [ks_R]; omega, by dsimp only [ks_R]; omega⟩ ⟨by dsimp only [ks_R]; omega, by dsimp only [ks_R]; omega⟩ rfl (Nat.le_of_ble_eq_true rfl) ?_
  refine ks_top_root (fun u2 => ?_)
  refine ks_istore_n C rfl (by decide) rfl d_Trees_dropTree_11 ?_
  refine ks_aload_n rfl rfl C d_Trees_dropTree_12 ?_
  refine ks_iload_n rfl rfl C d_Trees_dropTree_13 ?_
  refine ks_aload_n rfl rfl C d_Trees_dropTree_14 ?_
  refine ks_get (k := 1) C 0 6 in_Trees rfl (by decide) fk_Trees_28 rfl rfl rfl d_Trees_dropTree_15 ?_
  refine ks_iload_n rfl rfl C d_Trees_dropTree_18 ?_
  refine ks_cx (ci := 5) (q0 := 0) (kw_trees K t0 t1 t2 x0 n0 c0 _ _ _ ++ kw_nodes K n0 n1 x0 _ ++ kw_chains c0 x0 _ _ ++ kw_pages K x0 x1 x2 _ _) C (c_Nodes_level l D K n0 n1 x0 x1 x2 _ _ _ _ (by omega)) yw_Nodes_level sel_Nodes_level lk_Trees_62 d_Trees_dropTree_19 rfl rfl rfl [3, 4, 6, 7, 8] [0, 1, 2, 5] [0, 1, 2, 4, 5, 3, 6, 7, 8] rfl rfl rfl rfl (by decide) rfl rfl rfl rfl rfl ⟨by dsimp only [ks_R]; omega, by dsimp only [ks_R]; omega⟩ ⟨by dsimp only [ks_R]; omega, by dsimp only [ks_R]; omega⟩ rfl (Nat.le_of_ble_eq_true rfl) ?_
  refine ks_top_level (fun u3 => ?_)
  refine ks_cv (ci := 6) (q0 := 0) (kw_trees K t0 t1 t2 x0 n0 c0 _ _ _ ++ kw_nodes K n0 n1 x0 _ ++ kw_chains c0 x0 _ _ ++ kw_pages K x0 x1 x2 _ _) C (c_Trees_free0 l D K _ t0 t1 t2 n0 n1 c0 x0 x1 x2 _ _ _ _ _ _ _ _ _ (by omega) (by omega)) yw_Trees_free sel_Trees_free lk_Trees_65 d_Trees_dropTree_22 rfl rfl rfl [0, 1, 2, 3, 4, 5, 6, 7, 8] [] [0, 1, 2, 3, 4, 5, 6, 7, 8] rfl rfl rfl rfl (by decide) rfl rfl rfl rfl rfl ⟨by dsimp only [ks_R]; omega, by dsimp only [ks_R]; omega⟩ ⟨by dsimp only [ks_R]; omega, by dsimp only [ks_R]; omega⟩ rfl (Nat.le_of_ble_eq_true rfl) ?_
  refine ks_aload_n rfl rfl C d_Trees_dropTree_25 ?_
  refine ks_iload_n rfl rfl C d_Trees_dropTree_26 ?_
  refine ks_iconst (a := 0) rfl C d_Trees_dropTree_27 ?_
  refine ks_cv (ci := 6) (q0 := 0) (kw_trees K t0 t1 t2 x0 n0 c0 _ _ _ ++ kw_nodes K n0 n1 x0 _ ++ kw_chains c0 x0 _ _ ++ kw_pages K x0 x1 x2 _ _) C (c_Trees_setRoot l D K t0 t1 t2 n0 n1 c0 x0 x1 x2 _ _ _ _ _ _ _ _ _ _ (by omega)) yw_Trees_setRoot sel_Trees_setRoot lk_Trees_52 d_Trees_dropTree_28 rfl rfl rfl [0, 1, 2, 3, 4, 5, 6, 7, 8] [] [0, 1, 2, 3, 4, 5, 6, 7, 8] rfl rfl rfl rfl (by decide) rfl rfl rfl rfl rfl ⟨by dsimp only [ks_R]; omega, by dsimp only [ks_R]; omega⟩ ⟨by dsimp only [ks_R]; omega, by dsimp only [ks_R]; omega⟩ rfl (Nat.le_of_ble_eq_true rfl) ?_
  refine ks_aload_n rfl rfl C d_Trees_dropTree_31 ?_
  refine ks_get (k := 0) C 0 6 in_Trees rfl (by decide) fk_Trees_24 rfl rfl rfl d_Trees_dropTree_32 ?_
  refine ks_bipush (a := 32) rfl C d_Trees_dropTree_35 ?_
  refine ks_iconst (a := 4) rfl C d_Trees_dropTree_37 ?_
  refine ks_iload_n rfl rfl C d_Trees_dropTree_38 ?_
  refine ks_imul C d_Trees_dropTree_39 ?_
  refine ks_iadd C d_Trees_dropTree_40 ?_
  refine ks_iconst (a := 2) rfl C d_Trees_dropTree_41 ?_
  refine ks_iadd C d_Trees_dropTree_42 ?_
  refine ks_iload_n rfl rfl C d_Trees_dropTree_43 ?_
  refine ks_inegN (by omega) C d_Trees_dropTree_44 ?_
  refine ks_cv (ci := 1) (q0 := 0) (kw_trees K t0 t1 t2 x0 n0 c0 _ _ _ ++ kw_nodes K n0 n1 x0 _ ++ kw_chains c0 x0 _ _ ++ kw_pages K x0 x1 x2 _ _) C (c_Pages_addTo l D K x0 x1 x2 _ _ _ _ (by omega)) yw_Pages_addTo sel_Pages_addTo lk_Trees_56 d_Trees_dropTree_45 rfl rfl rfl [6, 7, 8] [0, 1, 2, 3, 4, 5] [0, 1, 2, 3, 4, 5, 6, 7, 8] rfl rfl rfl rfl (by decide) rfl rfl rfl rfl rfl ⟨by dsimp only [ks_R]; omega, by dsimp only [ks_R]; omega⟩ ⟨by dsimp only [ks_R]; omega, by dsimp only [ks_R]; omega⟩ rfl (Nat.le_of_ble_eq_true rfl) ?_
  refine ks_aload_n rfl rfl C d_Trees_dropTree_48 ?_
  refine ks_get (k := 0) C 0 6 in_Trees rfl (by decide) fk_Trees_24 rfl rfl rfl d_Trees_dropTree_49 ?_
  refine ks_bipush (a := 6) rfl C d_Trees_dropTree_52 ?_
  refine ks_iconst (a := 4294967295) rfl C d_Trees_dropTree_54 ?_
  refine ks_cv (ci := 1) (q0 := 0) (kw_trees K t0 t1 t2 x0 n0 c0 _ _ _ ++ kw_nodes K n0 n1 x0 _ ++ kw_chains c0 x0 _ _ ++ kw_pages K x0 x1 x2 _ _) C (c_Pages_addTo l D K x0 x1 x2 _ _ _ _ (by omega)) yw_Pages_addTo sel_Pages_addTo lk_Trees_56 d_Trees_dropTree_55 rfl rfl rfl [6, 7, 8] [0, 1, 2, 3, 4, 5] [0, 1, 2, 3, 4, 5, 6, 7, 8] rfl rfl rfl rfl (by decide) rfl rfl rfl rfl rfl ⟨by dsimp only [ks_R]; omega, by dsimp only [ks_R]; omega⟩ ⟨by dsimp only [ks_R]; omega, by dsimp only [ks_R]; omega⟩ rfl (Nat.le_of_ble_eq_true rfl) ?_
  refine ks_iload_n rfl rfl C d_Trees_dropTree_58 ?_
  exact ks_iret C Z rfl rfl d_Trees_dropTree_59 rfl rfl ⟨rfl, rfl⟩
