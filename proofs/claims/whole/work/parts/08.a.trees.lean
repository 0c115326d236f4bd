/-! contracts of trees: reading -/
set_option maxRecDepth 100000 in
set_option maxHeartbeats 4000000 in
theorem c_Trees_root (l : Launch) (D : va_G) (K : Nat → ClassId) (t0 t1 t2 n0 n1 c0 x0 x1 x2 pg ca top : Nat) (pn ps P : Nat → Nat) (B : Nat → UInt8) (G : Nat → Bool) (t : Nat) (h1 : t < 65536) : ks_M l D (ks_T K) (ks_R 1) y_Trees_root b_Trees_root 2 (some .int) [.ref t0, .int (nI t)] (kw_trees K t0 t1 t2 x0 n0 c0 pn ps top ++ kw_nodes K n0 n1 x0 P ++ kw_chains c0 x0 pg ca ++ kw_pages K x0 x1 x2 B G) (ks_f (some (.int (nI (kv_root B t)))) (kw_trees K t0 t1 t2 x0 n0 c0 pn ps top ++ kw_nodes K n0 n1 x0 P ++ kw_chains c0 x0 pg ca ++ kw_pages K x0 x1 x2 B G)) := by
  refine ks_M.of 0 (by decide) (Nat.le_of_ble_eq_true rfl) ?_
  intro E C Z
  refine ks_aload_n rfl rfl C d_Trees_root_0 ?_
  refine ks_get (k := 0) C 0 6 in_Trees rfl (by decide) fk_Trees_24 rfl rfl rfl d_Trees_root_1 ?_
  refine ks_bipush (a := 32) rfl C d_Trees_root_4 ?_
  refine ks_iconst (a := 4) rfl C d_Trees_root_6 ?_
  refine ks_iload_n rfl rfl C d_Trees_root_7 ?_
  refine ks_imul C d_Trees_root_8 ?_
  refine ks_iadd C d_Trees_root_9 ?_
  refine ks_cx (ci := 1) (q0 := 0) (kw_trees K t0 t1 t2 x0 n0 c0 _ _ _ ++ kw_nodes K n0 n1 x0 _ ++ kw_chains c0 x0 _ _ ++ kw_pages K x0 x1 x2 _ _) C (c_Pages_number l D K x0 x1 x2 _ _ _ (by omega)) yw_Pages_number sel_Pages_number lk_Trees_40 d_Trees_root_10 rfl rfl rfl [6, 7, 8] [0, 1, 2, 3, 4, 5] [0, 1, 2, 3, 4, 5, 6, 7, 8] rfl rfl rfl rfl (by decide) rfl rfl rfl rfl rfl ⟨by decide, by decide⟩ ⟨by decide, by decide⟩ rfl (Nat.le_of_ble_eq_true rfl) ?_
  refine ks_top_num (fun u1 => ?_)
  exact ks_iret C Z rfl rfl d_Trees_root_13 rfl rfl ⟨rfl, rfl⟩
set_option maxRecDepth 100000 in
set_option maxHeartbeats 4000000 in
theorem c_Trees_entries (l : Launch) (D : va_G) (K : Nat → ClassId) (t0 t1 t2 n0 n1 c0 x0 x1 x2 pg ca top : Nat) (pn ps P : Nat → Nat) (B : Nat → UInt8) (G : Nat → Bool) (t : Nat) (h1 : t < 65536) : ks_M l D (ks_T K) (ks_R 1) y_Trees_entries b_Trees_entries 2 (some .int) [.ref t0, .int (nI t)] (kw_trees K t0 t1 t2 x0 n0 c0 pn ps top ++ kw_nodes K n0 n1 x0 P ++ kw_chains c0 x0 pg ca ++ kw_pages K x0 x1 x2 B G) (ks_f (some (.int (nI (kv_ents B t)))) (kw_trees K t0 t1 t2 x0 n0 c0 pn ps top ++ kw_nodes K n0 n1 x0 P ++ kw_chains c0 x0 pg ca ++ kw_pages K x0 x1 x2 B G)) := by
  refine ks_M.of 0 (by decide) (Nat.le_of_ble_eq_true rfl) ?_
  intro E C Z
  refine ks_aload_n rfl rfl C d_Trees_entries_0 ?_
  refine ks_get (k := 0) C 0 6 in_Trees rfl (by decide) fk_Trees_24 rfl rfl rfl d_Trees_entries_1 ?_
  refine ks_bipush (a := 32) rfl C d_Trees_entries_4 ?_
  refine ks_iconst (a := 4) rfl C d_Trees_entries_6 ?_
  refine ks_iload_n rfl rfl C d_Trees_entries_7 ?_
  refine ks_imul C d_Trees_entries_8 ?_
  refine ks_iadd C d_Trees_entries_9 ?_
  refine ks_iconst (a := 2) rfl C d_Trees_entries_10 ?_
  refine ks_iadd C d_Trees_entries_11 ?_
  refine ks_cx (ci := 1) (q0 := 0) (kw_trees K t0 t1 t2 x0 n0 c0 _ _ _ ++ kw_nodes K n0 n1 x0 _ ++ kw_chains c0 x0 _ _ ++ kw_pages K x0 x1 x2 _ _) C (c_Pages_number l D K x0 x1 x2 _ _ _ (by omega)) yw_Pages_number sel_Pages_number lk_Trees_40 d_Trees_entries_12 rfl rfl rfl [6, 7, 8] [0, 1, 2, 3, 4, 5] [0, 1, 2, 3, 4, 5, 6, 7, 8] rfl rfl rfl rfl (by decide) rfl rfl rfl rfl rfl ⟨by decide, by decide⟩ ⟨by decide, by decide⟩ rfl (Nat.le_of_ble_eq_true rfl) ?_
  refine ks_top_num (fun u1 => ?_)
  exact ks_iret C Z rfl rfl d_Trees_entries_15 rfl rfl ⟨rfl, rfl⟩
set_option maxRecDepth 100000 in
set_option maxHeartbeats 4000000 in
theorem c_Trees_has (l : Launch) (D : va_G) (K : Nat → ClassId) (t0 t1 t2 n0 n1 c0 x0 x1 x2 pg ca top : Nat) (pn ps P : Nat → Nat) (B : Nat → UInt8) (G : Nat → Bool) (t : Nat) (h1 : t < 2147483648) : ks_M l D (ks_T K) (ks_R 2) y_Trees_has b_Trees_has 2 (some .boolean) [.ref t0, .int (nI t)] (kw_trees K t0 t1 t2 x0 n0 c0 pn ps top ++ kw_nodes K n0 n1 x0 P ++ kw_chains c0 x0 pg ca ++ kw_pages K x0 x1 x2 B G) (ks_f (some (.int (ks_b (kv_has B t)))) (kw_trees K t0 t1 t2 x0 n0 c0 pn ps top ++ kw_nodes K n0 n1 x0 P ++ kw_chains c0 x0 pg ca ++ kw_pages K x0 x1 x2 B G)) := by
  refine ks_M.of 0 (by decide) (Nat.le_of_ble_eq_true rfl) ?_
  intro E C Z
  refine ks_iload_n rfl rfl C d_Trees_has_0 ?_
  refine ks_iflt0 (tgt := 22) C (by omega) d_Trees_has_1 (by decide) ?_
  refine ks_iload_n rfl rfl C d_Trees_has_4 ?_
  refine ks_bipush (a := 64) rfl C d_Trees_has_5 ?_
  refine ks_icmp_ge (tgt := 22) C (by omega) (by omega) (by decide) d_Trees_has_7 (fun u2 => ?_) (fun u2 => ?_)
  · refine ks_iconstB false rfl C d_Trees_has_22 ?_
    exact ks_iret C Z rfl (ks_nb1 _) d_Trees_has_23 rfl rfl ⟨ks_eqB (by unfold kv_has; rw [decide_eq_false (by omega)]; rfl), rfl⟩
  · refine ks_aload_n rfl rfl C d_Trees_has_10 ?_
    refine ks_iload_n rfl rfl C d_Trees_has_11 ?_
    refine ks_cx (ci := 6) (q0 := 0) (kw_trees K t0 t1 t2 x0 n0 c0 _ _ _ ++ kw_nodes K n0 n1 x0 _ ++ kw_chains c0 x0 _ _ ++ kw_pages K x0 x1 x2 _ _) C (c_Trees_root l D K t0 t1 t2 n0 n1 c0 x0 x1 x2 _ _ _ _ _ _ _ _ _ (by omega)) yw_Trees_root sel_Trees_root lk_Trees_36 d_Trees_has_12 rfl rfl rfl [0, 1, 2, 3, 4, 5, 6, 7, 8] [] [0, 1, 2, 3, 4, 5, 6, 7, 8] rfl rfl rfl rfl (by decide) rfl rfl rfl rfl rfl ⟨by decide, by decide⟩ ⟨by decide, by decide⟩ rfl (Nat.le_of_ble_eq_true rfl) ?_
    refine ks_top_root (fun u3 => ?_)
    refine ks_if_eq (tgt := 22) C (by omega) (by decide) d_Trees_has_15 (fun u4 => ?_) (fun u4 => ?_)
    · refine ks_iconstB false rfl C d_Trees_has_22 ?_
      exact ks_iret C Z rfl (ks_nb1 _) d_Trees_has_23 rfl rfl ⟨ks_eqB (by unfold kv_has; rw [decide_eq_false (p := kv_root B t ≠ 0) (by omega), Bool.and_false]), rfl⟩
    · refine ks_iconstB true rfl C d_Trees_has_18 ?_
      refine ks_goto (tgt := 23) C (by decide) d_Trees_has_19 ?_
      exact ks_iret C Z rfl (ks_nb1 _) d_Trees_has_23 rfl rfl ⟨ks_eqB (by unfold kv_has; rw [decide_eq_true (by omega), decide_eq_true (by omega)]; rfl), rfl⟩
set_option maxRecDepth 100000 in
set_option maxHeartbeats 4000000 in
theorem c_Trees_leastUnused (l : Launch) (D : va_G) (K : Nat → ClassId) (t0 t1 t2 n0 n1 c0 x0 x1 x2 pg ca top : Nat) (pn ps P : Nat → Nat) (B : Nat → UInt8) (G : Nat → Bool) : ks_M l D (ks_T K) (ks_R 3) y_Trees_leastUnused b_Trees_leastUnused 2 (some .int) [.ref t0] (kw_trees K t0 t1 t2 x0 n0 c0 pn ps top ++ kw_nodes K n0 n1 x0 P ++ kw_chains c0 x0 pg ca ++ kw_pages K x0 x1 x2 B G) (ks_f (some (.int (nI (kv_lu B)))) (kw_trees K t0 t1 t2 x0 n0 c0 pn ps top ++ kw_nodes K n0 n1 x0 P ++ kw_chains c0 x0 pg ca ++ kw_pages K x0 x1 x2 B G)) := by
  refine ks_M.of 1 (by decide) (Nat.le_of_ble_eq_true rfl) ?_
  intro E C Z
  have loop : ∀ (f : Nat) (i : Nat), i + f = 64 → kv_luL B f i = kv_lu B → ks_w E D 2 (kw_trees K t0 t1 t2 x0 n0 c0 pn ps top ++ kw_nodes K n0 n1 x0 P ++ kw_chains c0 x0 pg ca ++ kw_pages K x0 x1 x2 B G) [some (.ref t0), some (.int (nI i))] 0 0 2 [] := by
    intro f
    induction f with
    | zero =>
      intro i g1 g2
      refine ks_iload_n rfl rfl C d_Trees_leastUnused_2 ?_
      refine ks_bipush (a := 64) rfl C d_Trees_leastUnused_3 ?_
      refine ks_icmp_ge (tgt := 24) C (by omega) (by omega) (by decide) d_Trees_leastUnused_5 (fun u1 => ?_) (fun u1 => ?_)
      · refine ks_bipush (a := 64) rfl C d_Trees_leastUnused_24 ?_
        exact ks_iret C Z rfl rfl d_Trees_leastUnused_26 rfl rfl ⟨ks_eqN (by rw [← g2]; rfl), rfl⟩
      · exact (by omega : False).elim
    | succ f ih =>
      intro i g1 g2
      refine ks_iload_n rfl rfl C d_Trees_leastUnused_2 ?_
      refine ks_bipush (a := 64) rfl C d_Trees_leastUnused_3 ?_
      refine ks_icmp_ge (tgt := 24) C (by omega) (by omega) (by decide) d_Trees_leastUnused_5 (fun u2 => ?_) (fun u2 => ?_)
      · exact (by omega : False).elim
      · refine ks_aload_n rfl rfl C d_Trees_leastUnused_8 ?_
        refine ks_iload_n rfl rfl C d_Trees_leastUnused_9 ?_
        refine ks_cx (ci := 6) (q0 := 0) (kw_trees K t0 t1 t2 x0 n0 c0 _ _ _ ++ kw_nodes K n0 n1 x0 _ ++ kw_chains c0 x0 _ _ ++ kw_pages K x0 x1 x2 _ _) C (c_Trees_has l D K t0 t1 t2 n0 n1 c0 x0 x1 x2 _ _ _ _ _ _ _ _ _ (by omega)) yw_Trees_has sel_Trees_has lk_Trees_45 d_Trees_leastUnused_10 rfl rfl rfl [0, 1, 2, 3, 4, 5, 6, 7, 8] [] [0, 1, 2, 3, 4, 5, 6, 7, 8] rfl rfl rfl rfl (by decide) rfl rfl rfl rfl rfl ⟨by decide, by decide⟩ ⟨by decide, by decide⟩ rfl (Nat.le_of_ble_eq_true rfl) ?_
        refine ks_ifB_ne (tgt := 18) C (by decide) d_Trees_leastUnused_13 (fun u3 => ?_) (fun u3 => ?_)
        · refine ks_iinc C rfl (z := 1) rfl (by decide) rfl d_Trees_leastUnused_18 ?_
          refine ks_goto (tgt := 2) C (by decide) d_Trees_leastUnused_21 ?_
          exact ih _ (by omega) (by rw [← g2, kv_luL, if_pos u3])
        · refine ks_iload_n rfl rfl C d_Trees_leastUnused_16 ?_
          exact ks_iret C Z rfl rfl d_Trees_leastUnused_17 rfl rfl ⟨ks_eqN (by rw [← g2, kv_luL, if_neg (by rw [u3]; decide)]), rfl⟩
  refine ks_iconst (a := 0) rfl C d_Trees_leastUnused_0 ?_
  refine ks_istore_n C rfl (by decide) rfl d_Trees_leastUnused_1 ?_
  exact loop 64 0 (by omega) rfl
set_option maxRecDepth 100000 in
set_option maxHeartbeats 4000000 in
theorem c_Trees_leadsTo (l : Launch) (D : va_G) (K : Nat → ClassId) (t0 t1 t2 n0 n1 c0 x0 x1 x2 pg ca top : Nat) (pn ps P : Nat → Nat) (B : Nat → UInt8) (G : Nat → Bool) (p i : Nat) (h1 : p < 65536) (h2 : i < 65536) (hp : ∀ j, pn j < 65536) (hs : ∀ j, ps j < 65536) : ks_M l D (ks_T K) (ks_R 0) y_Trees_leadsTo b_Trees_leadsTo 3 (some .boolean) [.ref t0, .int (nI p), .int (nI i)] (kw_trees K t0 t1 t2 x0 n0 c0 pn ps top ++ kw_nodes K n0 n1 x0 P ++ kw_chains c0 x0 pg ca ++ kw_pages K x0 x1 x2 B G) (ks_f (some (.int (ks_b (decide (pn 0 = p ∧ ps 0 = i))))) (kw_trees K t0 t1 t2 x0 n0 c0 pn ps top ++ kw_nodes K n0 n1 x0 P ++ kw_chains c0 x0 pg ca ++ kw_pages K x0 x1 x2 B G)) := by
  refine ks_M.of 0 (by decide) (Nat.le_of_ble_eq_true rfl) ?_
  intro E C Z
  have q1 := hp 0
  have q2 := hs 0
  refine ks_aload_n rfl rfl C d_Trees_leadsTo_0 ?_
  refine ks_get (k := 3) C 0 6 in_Trees rfl (by decide) fk_Trees_11 rfl rfl rfl d_Trees_leadsTo_1 ?_
  refine ks_iconst (a := 0) rfl C d_Trees_leadsTo_4 ?_
  refine ks_iald C 1 2 rfl rfl (by omega) (by omega) d_Trees_leadsTo_5 ?_
  refine ks_iload_n rfl rfl C d_Trees_leadsTo_6 ?_
  refine ks_icmp_ne (tgt := 24) C (by omega) (by omega) (by decide) d_Trees_leadsTo_7 (fun u1 => ?_) (fun u1 => ?_)
  · refine ks_iconstB false rfl C d_Trees_leadsTo_24 ?_
    exact ks_iret C Z rfl (ks_nb1 _) d_Trees_leadsTo_25 rfl rfl ⟨ks_eqF (by omega), rfl⟩
  · refine ks_aload_n rfl rfl C d_Trees_leadsTo_10 ?_
    refine ks_get (k := 4) C 0 6 in_Trees rfl (by decide) fk_Trees_17 rfl rfl rfl d_Trees_leadsTo_11 ?_
    refine ks_iconst (a := 0) rfl C d_Trees_leadsTo_14 ?_
    refine ks_iald C 2 2 rfl rfl (by omega) (by omega) d_Trees_leadsTo_15 ?_
    refine ks_iload_n rfl rfl C d_Trees_leadsTo_16 ?_
    refine ks_icmp_ne (tgt := 24) C (by omega) (by omega) (by decide) d_Trees_leadsTo_17 (fun u2 => ?_) (fun u2 => ?_)
    · refine ks_iconstB false rfl C d_Trees_leadsTo_24 ?_
      exact ks_iret C Z rfl (ks_nb1 _) d_Trees_leadsTo_25 rfl rfl ⟨ks_eqF (by omega), rfl⟩
    · refine ks_iconstB true rfl C d_Trees_leadsTo_20 ?_
      refine ks_goto (tgt := 25) C (by decide) d_Trees_leadsTo_21 ?_
      exact ks_iret C Z rfl (ks_nb1 _) d_Trees_leadsTo_25 rfl rfl ⟨ks_eqT (by omega), rfl⟩
set_option maxRecDepth 100000 in
set_option maxHeartbeats 4000000 in
theorem c_Trees_rank (l : Launch) (D : va_G) (K : Nat → ClassId) (t0 t1 t2 n0 n1 c0 x0 x1 x2 r0 r1 pg ca top : Nat) (pn ps P : Nat → Nat) (B : Nat → UInt8) (G : Nat → Bool) (R : Nat → UInt8) (len : Nat) (p : Nat) (orAt : Bool) (h1 : p < 65536) (h2 : len ≤ 8448) : ks_M l D (ks_T K) (ks_R 2) y_Trees_rank b_Trees_rank 10 (some .int) [.ref t0, .int (nI p), .ref r0, .int (ks_b orAt)] (kw_trees K t0 t1 t2 x0 n0 c0 pn ps top ++ kw_nodes K n0 n1 x0 P ++ kw_chains c0 x0 pg ca ++ kw_pages K x0 x1 x2 B G ++ kw_row K r0 r1 R len) (ks_f (some (.int (nI (kv_rank B R len p orAt)))) (kw_trees K t0 t1 t2 x0 n0 c0 pn ps top ++ kw_nodes K n0 n1 x0 P ++ kw_chains c0 x0 pg ca ++ kw_pages K x0 x1 x2 B G ++ kw_row K r0 r1 R len)) := by
  refine ks_M.of 6 (by decide) (Nat.le_of_ble_eq_true rfl) ?_
  intro E C Z
  have loop : ∀ (f : Nat) (lo hi i : Nat), i + f = 14 → lo ≤ 14 → hi ≤ 14 → kv_rankL B R len p (kv_level B p) orAt f lo hi = kv_rank B R len p orAt → ks_w E D 10 (kw_trees K t0 t1 t2 x0 n0 c0 pn ps top ++ kw_nodes K n0 n1 x0 P ++ kw_chains c0 x0 pg ca ++ kw_pages K x0 x1 x2 B G ++ kw_row K r0 r1 R len) [some (.ref t0), some (.int (nI p)), some (.ref r0), some (.int (ks_b orAt)), some (.int (nI (kv_level B p))), some (.int (nI lo)), some (.int (nI hi)), some (.int (nI i)), none, none] 0 0 26 [] := by
    intro f
    induction f with
    | zero =>
      intro lo hi i g1 g2 g3 g4
      have q1 : kv_level B p ≤ 4 := Nat.min_le_right _ _
      refine ks_iload rfl C d_Trees_rank_26 ?_
      refine ks_bipush (a := 14) rfl C d_Trees_rank_28 ?_
      refine ks_icmp_ge (tgt := 111) C (by omega) (by omega) (by decide) d_Trees_rank_30 (fun u1 => ?_) (fun u1 => ?_)
      · refine ks_iload rfl C d_Trees_rank_111 ?_
        exact ks_iret C Z rfl rfl d_Trees_rank_113 rfl rfl ⟨ks_eqN (by rw [← g4]; rfl), rfl⟩
      · exact (by omega : False).elim
    | succ f ih =>
      intro lo hi i g1 g2 g3 g4
      have q1 : kv_level B p ≤ 4 := Nat.min_le_right _ _
      refine ks_iload rfl C d_Trees_rank_26 ?_
      refine ks_bipush (a := 14) rfl C d_Trees_rank_28 ?_
      refine ks_icmp_ge (tgt := 111) C (by omega) (by omega) (by decide) d_Trees_rank_30 (fun u2 => ?_) (fun u2 => ?_)
      · refine ks_iload rfl C d_Trees_rank_111 ?_
        exact ks_iret C Z rfl rfl d_Trees_rank_113 rfl rfl (False.elim (by omega))
      · refine ks_iload rfl C d_Trees_rank_33 ?_
        refine ks_iload rfl C d_Trees_rank_35 ?_
        refine ks_icmp_ge (tgt := 111) C (by omega) (by omega) (by decide) d_Trees_rank_37 (fun u3 => ?_) (fun u3 => ?_)
        · refine ks_iload rfl C d_Trees_rank_111 ?_
          exact ks_iret C Z rfl rfl d_Trees_rank_113 rfl rfl ⟨ks_eqN (by rw [← g4, kv_rankL, if_neg (by omega)]), rfl⟩
        · refine ks_iload rfl C d_Trees_rank_40 ?_
          refine ks_iload rfl C d_Trees_rank_42 ?_
          refine ks_iadd C d_Trees_rank_44 ?_
          refine ks_iconst (a := 2) rfl C d_Trees_rank_45 ?_
          refine ks_idiv (by omega) (by decide) (by decide) C d_Trees_rank_46 ?_
          refine ks_istore C (by decide) rfl d_Trees_rank_47 ?_
          refine ks_aload_n rfl rfl C d_Trees_rank_49 ?_
          refine ks_get (k := 2) C 0 6 in_Trees rfl (by decide) fk_Trees_32 rfl rfl rfl d_Trees_rank_50 ?_
          refine ks_aload_n rfl rfl C d_Trees_rank_53 ?_
          refine ks_aload_n rfl rfl C d_Trees_rank_54 ?_
          refine ks_get (k := 1) C 0 6 in_Trees rfl (by decide) fk_Trees_28 rfl rfl rfl d_Trees_rank_55 ?_
          refine ks_aload_n rfl rfl C d_Trees_rank_58 ?_
          refine ks_get (k := 1) C 0 6 in_Trees rfl (by decide) fk_Trees_28 rfl rfl rfl d_Trees_rank_59 ?_
          refine ks_iload_n rfl rfl C d_Trees_rank_62 ?_
          refine ks_iload rfl C d_Trees_rank_63 ?_
          refine ks_cx (ci := 5) (q0 := 0) (kw_trees K t0 t1 t2 x0 n0 c0 _ _ _ ++ kw_nodes K n0 n1 x0 _ ++ kw_chains c0 x0 _ _ ++ kw_pages K x0 x1 x2 _ _ ++ kw_row K r0 r1 _ _) C (c_Nodes_slot l D K n0 n1 x0 x1 x2 _ _ _ _ _ (by omega) (by omega)) yw_Nodes_slot sel_Nodes_slot lk_Trees_78 d_Trees_rank_65 rfl rfl rfl [3, 4, 6, 7, 8] [0, 1, 2, 5, 9, 10] [0, 1, 2, 6, 7, 3, 8, 9, 10, 4, 5] rfl rfl rfl rfl (by decide) rfl rfl rfl rfl rfl ⟨by decide, by decide⟩ ⟨by decide, by decide⟩ rfl (Nat.le_of_ble_eq_true rfl) ?_
          refine ks_top_slot (fun u4 => ?_)
          refine ks_iload rfl C d_Trees_rank_68 ?_
          refine ks_cx (ci := 5) (q0 := 0) (kw_trees K t0 t1 t2 x0 n0 c0 _ _ _ ++ kw_nodes K n0 n1 x0 _ ++ kw_chains c0 x0 _ _ ++ kw_pages K x0 x1 x2 _ _ ++ kw_row K r0 r1 _ _) C (c_Nodes_least l D K n0 n1 x0 x1 x2 _ _ _ _ _ (by omega) (by omega)) yw_Nodes_least sel_Nodes_least lk_Trees_94 d_Trees_rank_70 rfl rfl rfl [3, 4, 6, 7, 8] [0, 1, 2, 5, 9, 10] [0, 1, 2, 6, 7, 3, 8, 9, 10, 4, 5] rfl rfl rfl rfl (by decide) rfl rfl rfl rfl rfl ⟨by decide, by decide⟩ ⟨by decide, by decide⟩ rfl (Nat.le_of_ble_eq_true rfl) ?_
          refine ks_top_least (by omega) (fun u5 => ?_)
          refine ks_cx (ci := 4) (q0 := 0) (kw_trees K t0 t1 t2 x0 n0 c0 _ _ _ ++ kw_nodes K n0 n1 x0 _ ++ kw_chains c0 x0 _ _ ++ kw_pages K x0 x1 x2 _ _ ++ kw_row K r0 r1 _ _) C (c_Chains_compare l D K c0 x0 x1 x2 r0 r1 _ _ _ _ _ _ _ (by omega) (by omega)) yw_Chains_compare sel_Chains_compare lk_Trees_88 d_Trees_rank_73 rfl rfl rfl [5, 6, 7, 8, 9, 10] [0, 1, 2, 3, 4] [0, 1, 2, 3, 4, 5, 6, 7, 8, 9, 10] rfl rfl rfl rfl (by decide) rfl rfl rfl rfl rfl ⟨by decide, by decide⟩ ⟨by decide, by decide⟩ rfl (Nat.le_of_ble_eq_true rfl) ?_
          refine ks_top_cmp (by omega) (fun u6 => ?_)
          refine ks_istore C (by decide) rfl d_Trees_rank_76 ?_
          refine ks_iload rfl C d_Trees_rank_78 ?_
          refine ks_ifZ_gt (tgt := 92) C (by omega) (by omega) (by decide) d_Trees_rank_80 (fun u7 => ?_) (fun u7 => ?_)
          · refine ks_iload rfl C d_Trees_rank_92 ?_
            refine ks_iconst (a := 1) rfl C d_Trees_rank_94 ?_
            refine ks_iadd C d_Trees_rank_95 ?_
            refine ks_istore C (by decide) rfl d_Trees_rank_96 ?_
            refine ks_goto (tgt := 105) C (by decide) d_Trees_rank_98 ?_
            refine ks_iinc C rfl (z := 1) rfl (by decide) rfl d_Trees_rank_105 ?_
            refine ks_goto (tgt := 26) C (by decide) d_Trees_rank_108 ?_
            refine ks_forget 8 ?_
            refine ks_forget 9 ?_
            exact ih _ _ _ (by omega) (by omega) (by omega) (by rw [← g4, kv_rankL, if_pos (by omega), if_pos (Or.inl u7)])
          · refine ks_iload rfl C d_Trees_rank_83 ?_
            refine ks_ifZ_ne (tgt := 101) C (by omega) (by omega) (by decide) d_Trees_rank_85 (fun u8 => ?_) (fun u8 => ?_)
            · refine ks_iload rfl C d_Trees_rank_101 ?_
              refine ks_istore C (by decide) rfl d_Trees_rank_103 ?_
              refine ks_iinc C rfl (z := 1) rfl (by decide) rfl d_Trees_rank_105 ?_
              refine ks_goto (tgt := 26) C (by decide) d_Trees_rank_108 ?_
              refine ks_forget 8 ?_
              refine ks_forget 9 ?_
              exact ih _ _ _ (by omega) (by omega) (by omega) (by rw [← g4, kv_rankL, if_pos (by omega), if_neg (fun z => z.elim (fun y => by omega) (fun w => u8 w.1))])
            · refine ks_iload_n rfl rfl C d_Trees_rank_88 ?_
              refine ks_ifB_eq (tgt := 101) C (by decide) d_Trees_rank_89 (fun u9 => ?_) (fun u9 => ?_)
              · refine ks_iload rfl C d_Trees_rank_101 ?_
                refine ks_istore C (by decide) rfl d_Trees_rank_103 ?_
                refine ks_iinc C rfl (z := 1) rfl (by decide) rfl d_Trees_rank_105 ?_
                refine ks_goto (tgt := 26) C (by decide) d_Trees_rank_108 ?_
                refine ks_forget 8 ?_
                refine ks_forget 9 ?_
                exact ih _ _ _ (by omega) (by omega) (by omega) (by rw [← g4, kv_rankL, if_pos (by omega), if_neg (fun z => z.elim (fun y => by omega) (fun w => by rw [u9] at w; exact absurd w.2 (by decide)))])
              · refine ks_iload rfl C d_Trees_rank_92 ?_
                refine ks_iconst (a := 1) rfl C d_Trees_rank_94 ?_
                refine ks_iadd C d_Trees_rank_95 ?_
                refine ks_istore C (by decide) rfl d_Trees_rank_96 ?_
                refine ks_goto (tgt := 105) C (by decide) d_Trees_rank_98 ?_
                refine ks_iinc C rfl (z := 1) rfl (by decide) rfl d_Trees_rank_105 ?_
                refine ks_goto (tgt := 26) C (by decide) d_Trees_rank_108 ?_
                refine ks_forget 8 ?_
                refine ks_forget 9 ?_
                exact ih _ _ _ (by omega) (by omega) (by omega) (by rw [← g4, kv_rankL, if_pos (by omega), if_pos (Or.inr ⟨by omega, u9⟩)])
  refine ks_aload_n rfl rfl C d_Trees_rank_0 ?_
  refine ks_get (k := 1) C 0 6 in_Trees rfl (by decide) fk_Trees_28 rfl rfl rfl d_Trees_rank_1 ?_
  refine ks_iload_n rfl rfl C d_Trees_rank_4 ?_
  refine ks_cx (ci := 5) (q0 := 0) (kw_trees K t0 t1 t2 x0 n0 c0 _ _ _ ++ kw_nodes K n0 n1 x0 _ ++ kw_chains c0 x0 _ _ ++ kw_pages K x0 x1 x2 _ _ ++ kw_row K r0 r1 _ _) C (c_Nodes_level l D K n0 n1 x0 x1 x2 _ _ _ _ (by omega)) yw_Nodes_level sel_Nodes_level lk_Trees_62 d_Trees_rank_5 rfl rfl rfl [3, 4, 6, 7, 8] [0, 1, 2, 5, 9, 10] [0, 1, 2, 6, 7, 3, 8, 9, 10, 4, 5] rfl rfl rfl rfl (by decide) rfl rfl rfl rfl rfl ⟨by decide, by decide⟩ ⟨by decide, by decide⟩ rfl (Nat.le_of_ble_eq_true rfl) ?_
  refine ks_top_level (fun u10 => ?_)
  refine ks_istore C (by decide) rfl d_Trees_rank_8 ?_
  refine ks_iconst (a := 0) rfl C d_Trees_rank_10 ?_
  refine ks_istore C (by decide) rfl d_Trees_rank_11 ?_
  refine ks_aload_n rfl rfl C d_Trees_rank_13 ?_
  refine ks_get (k := 1) C 0 6 in_Trees rfl (by decide) fk_Trees_28 rfl rfl rfl d_Trees_rank_14 ?_
  refine ks_iload_n rfl rfl C d_Trees_rank_17 ?_
  refine ks_cx (ci := 5) (q0 := 0) (kw_trees K t0 t1 t2 x0 n0 c0 _ _ _ ++ kw_nodes K n0 n1 x0 _ ++ kw_chains c0 x0 _ _ ++ kw_pages K x0 x1 x2 _ _ ++ kw_row K r0 r1 _ _) C (c_Nodes_count l D K n0 n1 x0 x1 x2 _ _ _ _ (by omega)) yw_Nodes_count sel_Nodes_count lk_Trees_85 d_Trees_rank_18 rfl rfl rfl [3, 4, 6, 7, 8] [0, 1, 2, 5, 9, 10] [0, 1, 2, 6, 7, 3, 8, 9, 10, 4, 5] rfl rfl rfl rfl (by decide) rfl rfl rfl rfl rfl ⟨by decide, by decide⟩ ⟨by decide, by decide⟩ rfl (Nat.le_of_ble_eq_true rfl) ?_
  refine ks_top_count (fun u11 => ?_)
  refine ks_istore C (by decide) rfl d_Trees_rank_21 ?_
  refine ks_iconst (a := 0) rfl C d_Trees_rank_23 ?_
  refine ks_istore C (by decide) rfl d_Trees_rank_24 ?_
  exact loop 14 0 (kv_count B p) 0 (by omega) (by omega) (by omega) rfl
set_option maxRecDepth 100000 in
set_option maxHeartbeats 4000000 in
theorem c_Trees_descend (l : Launch) (D : va_G) (K : Nat → ClassId) (t0 t1 t2 n0 n1 c0 x0 x1 x2 r0 r1 pg ca top : Nat) (pn ps P : Nat → Nat) (B : Nat → UInt8) (G : Nat → Bool) (R : Nat → UInt8) (len : Nat) (t : Nat) (h1 : t < 65536) (h2 : len ≤ 8448) : ks_M l D (ks_T K) (ks_R 3) y_Trees_descend b_Trees_descend 5 none [.ref t0, .int (nI t), .ref r0] (kw_trees K t0 t1 t2 x0 n0 c0 pn ps top ++ kw_nodes K n0 n1 x0 P ++ kw_chains c0 x0 pg ca ++ kw_pages K x0 x1 x2 B G ++ kw_row K r0 r1 R len) (ks_f none (kw_trees K t0 t1 t2 x0 n0 c0 (kv_desc B R len t pn ps).1 (kv_desc B R len t pn ps).2 (kv_level B (kv_root B t)) ++ kw_nodes K n0 n1 x0 P ++ kw_chains c0 x0 pg ca ++ kw_pages K x0 x1 x2 B G ++ kw_row K r0 r1 R len)) := by
  refine ks_M.of 2 (by decide) (Nat.le_of_ble_eq_true rfl) ?_
  intro E C Z
  have loop : ∀ (f : Nat) (n : Nat) (pn1 ps1 : Nat → Nat), n < 65536 → f ≤ 4 → kv_desL B R len f n pn1 ps1 = (kv_desc B R len t pn ps) → ks_w E D 5 (kw_trees K t0 t1 t2 x0 n0 c0 pn1 ps1 (kv_level B (kv_root B t)) ++ kw_nodes K n0 n1 x0 P ++ kw_chains c0 x0 pg ca ++ kw_pages K x0 x1 x2 B G ++ kw_row K r0 r1 R len) [some (.ref t0), some (.int (nI t)), some (.ref r0), some (.int (nI n)), some (.int (nI f))] 0 0 24 [] := by
    intro f
    induction f with
    | zero =>
      intro n pn1 ps1 g1 g2 g3
      refine ks_iload rfl C d_Trees_descend_24 ?_
      refine ks_if_le (tgt := 79) C (by omega) (by decide) d_Trees_descend_26 (fun u1 => ?_) (fun u1 => ?_)
      · refine ks_aload_n rfl rfl C d_Trees_descend_79 ?_
        refine ks_get (k := 3) C 0 6 in_Trees rfl (by decide) fk_Trees_11 rfl rfl rfl d_Trees_descend_80 ?_
        refine ks_iconst (a := 0) rfl C d_Trees_descend_83 ?_
        refine ks_iload_n rfl rfl C d_Trees_descend_84 ?_
        refine ks_iast (ws' := (kw_trees K t0 t1 t2 x0 n0 c0 _ _ _ ++ kw_nodes K n0 n1 x0 _ ++ kw_chains c0 x0 _ _ ++ kw_pages K x0 x1 x2 _ _ ++ kw_row K r0 r1 _ _)) C 1 2 rfl rfl (by omega) (by omega) rfl d_Trees_descend_85 ?_
        refine ks_aload_n rfl rfl C d_Trees_descend_86 ?_
        refine ks_get (k := 4) C 0 6 in_Trees rfl (by decide) fk_Trees_17 rfl rfl rfl d_Trees_descend_87 ?_
        refine ks_iconst (a := 0) rfl C d_Trees_descend_90 ?_
        refine ks_aload_n rfl rfl C d_Trees_descend_91 ?_
        refine ks_iload_n rfl rfl C d_Trees_descend_92 ?_
        refine ks_aload_n rfl rfl C d_Trees_descend_93 ?_
        refine ks_iconstB false rfl C d_Trees_descend_94 ?_
        refine ks_cx (ci := 6) (q0 := 0) (kw_trees K t0 t1 t2 x0 n0 c0 _ _ _ ++ kw_nodes K n0 n1 x0 _ ++ kw_chains c0 x0 _ _ ++ kw_pages K x0 x1 x2 _ _ ++ kw_row K r0 r1 _ _) C (c_Trees_rank l D K t0 t1 t2 n0 n1 c0 x0 x1 x2 r0 r1 _ _ _ _ _ _ _ _ _ _ _ _ (by omega) (by omega)) yw_Trees_rank sel_Trees_rank lk_Trees_68 d_Trees_descend_95 rfl rfl rfl [0, 1, 2, 3, 4, 5, 6, 7, 8, 9, 10] [] [0, 1, 2, 3, 4, 5, 6, 7, 8, 9, 10] rfl rfl rfl rfl (by decide) rfl rfl rfl rfl rfl ⟨by decide, by decide⟩ ⟨by decide, by decide⟩ rfl (Nat.le_of_ble_eq_true rfl) ?_
        refine ks_top_rank (fun u2 => ?_)
        refine ks_iast (ws' := (kw_trees K t0 t1 t2 x0 n0 c0 _ _ _ ++ kw_nodes K n0 n1 x0 _ ++ kw_chains c0 x0 _ _ ++ kw_pages K x0 x1 x2 _ _ ++ kw_row K r0 r1 _ _)) C 2 2 rfl rfl (by omega) (by omega) rfl d_Trees_descend_98 ?_
        exact ks_vret C Z rfl d_Trees_descend_99 rfl rfl ⟨rfl, by rw [← g3]; rfl⟩
      · exact (by omega : False).elim
    | succ f ih =>
      intro n pn1 ps1 g1 g2 g3
      refine ks_iload rfl C d_Trees_descend_24 ?_
      refine ks_if_le (tgt := 79) C (by omega) (by decide) d_Trees_descend_26 (fun u3 => ?_) (fun u3 => ?_)
      · exact (by omega : False).elim
      · refine ks_aload_n rfl rfl C d_Trees_descend_29 ?_
        refine ks_get (k := 3) C 0 6 in_Trees rfl (by decide) fk_Trees_11 rfl rfl rfl d_Trees_descend_30 ?_
        refine ks_iload rfl C d_Trees_descend_33 ?_
        refine ks_iload_n rfl rfl C d_Trees_descend_35 ?_
        refine ks_iast (ws' := (kw_trees K t0 t1 t2 x0 n0 c0 _ _ _ ++ kw_nodes K n0 n1 x0 _ ++ kw_chains c0 x0 _ _ ++ kw_pages K x0 x1 x2 _ _ ++ kw_row K r0 r1 _ _)) C 1 2 rfl rfl (by omega) (by omega) rfl d_Trees_descend_36 ?_
        refine ks_aload_n rfl rfl C d_Trees_descend_37 ?_
        refine ks_get (k := 4) C 0 6 in_Trees rfl (by decide) fk_Trees_17 rfl rfl rfl d_Trees_descend_38 ?_
        refine ks_iload rfl C d_Trees_descend_41 ?_
        refine ks_aload_n rfl rfl C d_Trees_descend_43 ?_
        refine ks_iload_n rfl rfl C d_Trees_descend_44 ?_
        refine ks_aload_n rfl rfl C d_Trees_descend_45 ?_
        refine ks_iconstB true rfl C d_Trees_descend_46 ?_
        refine ks_cx (ci := 6) (q0 := 0) (kw_trees K t0 t1 t2 x0 n0 c0 _ _ _ ++ kw_nodes K n0 n1 x0 _ ++ kw_chains c0 x0 _ _ ++ kw_pages K x0 x1 x2 _ _ ++ kw_row K r0 r1 _ _) C (c_Trees_rank l D K t0 t1 t2 n0 n1 c0 x0 x1 x2 r0 r1 _ _ _ _ _ _ _ _ _ _ _ _ (by omega) (by omega)) yw_Trees_rank sel_Trees_rank lk_Trees_68 d_Trees_descend_47 rfl rfl rfl [0, 1, 2, 3, 4, 5, 6, 7, 8, 9, 10] [] [0, 1, 2, 3, 4, 5, 6, 7, 8, 9, 10] rfl rfl rfl rfl (by decide) rfl rfl rfl rfl rfl ⟨by decide, by decide⟩ ⟨by decide, by decide⟩ rfl (Nat.le_of_ble_eq_true rfl) ?_
        refine ks_top_rank (fun u4 => ?_)
        refine ks_iconst (a := 1) rfl C d_Trees_descend_50 ?_
        refine ks_isubZ C d_Trees_descend_51 ?_
        refine ks_iconst (a := 0) rfl C d_Trees_descend_52 ?_
        refine ks_max0 C lk_Trees_72 wm_max (by omega) (by decide) (Nat.le_of_ble_eq_true rfl) (by decide) (by decide) d_Trees_descend_53 ?_
        refine ks_iast (ws' := (kw_trees K t0 t1 t2 x0 n0 c0 _ _ _ ++ kw_nodes K n0 n1 x0 _ ++ kw_chains c0 x0 _ _ ++ kw_pages K x0 x1 x2 _ _ ++ kw_row K r0 r1 _ _)) C 2 2 rfl rfl (by omega) (by omega) rfl d_Trees_descend_56 ?_
        refine ks_aload_n rfl rfl C d_Trees_descend_57 ?_
        refine ks_get (k := 1) C 0 6 in_Trees rfl (by decide) fk_Trees_28 rfl rfl rfl d_Trees_descend_58 ?_
        refine ks_iload_n rfl rfl C d_Trees_descend_61 ?_
        refine ks_aload_n rfl rfl C d_Trees_descend_62 ?_
        refine ks_get (k := 4) C 0 6 in_Trees rfl (by decide) fk_Trees_17 rfl rfl rfl d_Trees_descend_63 ?_
        refine ks_iload rfl C d_Trees_descend_66 ?_
        refine ks_iald C 2 2 rfl rfl (by omega) (by omega) d_Trees_descend_68 ?_
        rw [ks_up_self]
        refine ks_cx (ci := 5) (q0 := 0) (kw_trees K t0 t1 t2 x0 n0 c0 _ _ _ ++ kw_nodes K n0 n1 x0 _ ++ kw_chains c0 x0 _ _ ++ kw_pages K x0 x1 x2 _ _ ++ kw_row K r0 r1 _ _) C (c_Nodes_slot l D K n0 n1 x0 x1 x2 _ _ _ _ _ (by omega) (by omega)) yw_Nodes_slot sel_Nodes_slot lk_Trees_78 d_Trees_descend_69 rfl rfl rfl [3, 4, 6, 7, 8] [0, 1, 2, 5, 9, 10] [0, 1, 2, 6, 7, 3, 8, 9, 10, 4, 5] rfl rfl rfl rfl (by decide) rfl rfl rfl rfl rfl ⟨by decide, by decide⟩ ⟨by decide, by decide⟩ rfl (Nat.le_of_ble_eq_true rfl) ?_
        refine ks_top_slot (fun u5 => ?_)
        refine ks_istore_n C rfl (by decide) rfl d_Trees_descend_72 ?_
        refine ks_iinc C rfl (z := 4294967295) rfl (by decide) rfl d_Trees_descend_73 ?_
        refine ks_goto (tgt := 24) C (by decide) d_Trees_descend_76 ?_
        rw [show nI (f + 1 + 4294967295) = nI f from (ks_m1 (n := f + 1) (by omega)).symm]
        exact ih _ _ _ (by omega) (by omega) (by rw [← g3, kv_desL])
  refine ks_aload_n rfl rfl C d_Trees_descend_0 ?_
  refine ks_iload_n rfl rfl C d_Trees_descend_1 ?_
  refine ks_cx (ci := 6) (q0 := 0) (kw_trees K t0 t1 t2 x0 n0 c0 _ _ _ ++ kw_nodes K n0 n1 x0 _ ++ kw_chains c0 x0 _ _ ++ kw_pages K x0 x1 x2 _ _ ++ kw_row K r0 r1 _ _) C (c_Trees_root l D K t0 t1 t2 n0 n1 c0 x0 x1 x2 _ _ _ _ _ _ _ _ _ (by omega)) yw_Trees_root sel_Trees_root lk_Trees_36 d_Trees_descend_2 rfl rfl rfl [0, 1, 2, 3, 4, 5, 6, 7, 8] [9, 10] [2, 3, 4, 5, 6, 7, 8, 9, 10, 0, 1] rfl rfl rfl rfl (by decide) rfl rfl rfl rfl rfl ⟨by decide, by decide⟩ ⟨by decide, by decide⟩ rfl (Nat.le_of_ble_eq_true rfl) ?_
  refine ks_top_root (fun u6 => ?_)
  refine ks_istore_n C rfl (by decide) rfl d_Trees_descend_5 ?_
  refine ks_aload_n rfl rfl C d_Trees_descend_6 ?_
  refine ks_aload_n rfl rfl C d_Trees_descend_7 ?_
  refine ks_get (k := 1) C 0 6 in_Trees rfl (by decide) fk_Trees_28 rfl rfl rfl d_Trees_descend_8 ?_
  refine ks_iload_n rfl rfl C d_Trees_descend_11 ?_
  refine ks_cx (ci := 5) (q0 := 0) (kw_trees K t0 t1 t2 x0 n0 c0 _ _ _ ++ kw_nodes K n0 n1 x0 _ ++ kw_chains c0 x0 _ _ ++ kw_pages K x0 x1 x2 _ _ ++ kw_row K r0 r1 _ _) C (c_Nodes_level l D K n0 n1 x0 x1 x2 _ _ _ _ (by omega)) yw_Nodes_level sel_Nodes_level lk_Trees_62 d_Trees_descend_12 rfl rfl rfl [3, 4, 6, 7, 8] [0, 1, 2, 5, 9, 10] [0, 1, 2, 6, 7, 3, 8, 9, 10, 4, 5] rfl rfl rfl rfl (by decide) rfl rfl rfl rfl rfl ⟨by decide, by decide⟩ ⟨by decide, by decide⟩ rfl (Nat.le_of_ble_eq_true rfl) ?_
  refine ks_top_level (fun u7 => ?_)
  refine ks_put (k := 5) (ws' := (kw_trees K t0 t1 t2 x0 n0 c0 _ _ _ ++ kw_nodes K n0 n1 x0 _ ++ kw_chains c0 x0 _ _ ++ kw_pages K x0 x1 x2 _ _ ++ kw_row K r0 r1 _ _)) C 0 6 t_Trees ty_Trees nm_Trees in_Trees rfl (by decide) fk_Trees_20 rfl rfl rfl rfl rfl (Nat.le_of_ble_eq_true rfl) rfl d_Trees_descend_15 ?_
  refine ks_aload_n rfl rfl C d_Trees_descend_18 ?_
  refine ks_get (k := 5) C 0 6 in_Trees rfl (by decide) fk_Trees_20 rfl rfl rfl d_Trees_descend_19 ?_
  refine ks_istore C (by decide) rfl d_Trees_descend_22 ?_
  exact loop (kv_level B (kv_root B t)) _ _ _ (by omega) (by omega) rfl
set_option maxRecDepth 100000 in
set_option maxHeartbeats 4000000 in
theorem c_Trees_lookUp (l : Launch) (D : va_G) (K : Nat → ClassId) (t0 t1 t2 n0 n1 c0 x0 x1 x2 r0 r1 pg ca top : Nat) (pn ps P : Nat → Nat) (B : Nat → UInt8) (G : Nat → Bool) (R : Nat → UInt8) (len : Nat) (t : Nat) (h1 : t < 65536) (h2 : len ≤ 8448) : ks_M l D (ks_T K) (ks_R 4) y_Trees_lookUp b_Trees_lookUp 5 (some .int) [.ref t0, .int (nI t), .ref r0] (kw_trees K t0 t1 t2 x0 n0 c0 pn ps top ++ kw_nodes K n0 n1 x0 P ++ kw_chains c0 x0 pg ca ++ kw_pages K x0 x1 x2 B G ++ kw_row K r0 r1 R len) (ks_f (some (.int (nI (kv_look B R len t pn ps)))) (kw_trees K t0 t1 t2 x0 n0 c0 (kv_desc B R len t pn ps).1 (kv_desc B R len t pn ps).2 (kv_level B (kv_root B t)) ++ kw_nodes K n0 n1 x0 P ++ kw_chains c0 x0 pg ca ++ kw_pages K x0 x1 x2 B G ++ kw_row K r0 r1 R len)) := by
  refine ks_M.of 2 (by decide) (Nat.le_of_ble_eq_true rfl) ?_
  intro E C Z
  have q1 := kv_desc_in B R len t pn ps
  refine ks_aload_n rfl rfl C d_Trees_lookUp_0 ?_
  refine ks_iload_n rfl rfl C d_Trees_lookUp_1 ?_
  refine ks_aload_n rfl rfl C d_Trees_lookUp_2 ?_
  refine ks_cv (ci := 6) (q0 := 0) (kw_trees K t0 t1 t2 x0 n0 c0 _ _ _ ++ kw_nodes K n0 n1 x0 _ ++ kw_chains c0 x0 _ _ ++ kw_pages K x0 x1 x2 _ _ ++ kw_row K r0 r1 _ _) C (c_Trees_descend l D K t0 t1 t2 n0 n1 c0 x0 x1 x2 r0 r1 _ _ _ _ _ _ _ _ _ _ _ (by omega) (by omega)) yw_Trees_descend sel_Trees_descend lk_Trees_81 d_Trees_lookUp_3 rfl rfl rfl [0, 1, 2, 3, 4, 5, 6, 7, 8, 9, 10] [] [0, 1, 2, 3, 4, 5, 6, 7, 8, 9, 10] rfl rfl rfl rfl (by decide) rfl rfl rfl rfl rfl ⟨by decide, by decide⟩ ⟨by decide, by decide⟩ rfl (Nat.le_of_ble_eq_true rfl) ?_
  refine ks_aload_n rfl rfl C d_Trees_lookUp_6 ?_
  refine ks_get (k := 4) C 0 6 in_Trees rfl (by decide) fk_Trees_17 rfl rfl rfl d_Trees_lookUp_7 ?_
  refine ks_iconst (a := 0) rfl C d_Trees_lookUp_10 ?_
  refine ks_iald C 2 2 rfl rfl (by omega) (by omega) d_Trees_lookUp_11 ?_
  refine ks_istore_n C rfl (by decide) rfl d_Trees_lookUp_12 ?_
  refine ks_iload_n rfl rfl C d_Trees_lookUp_13 ?_
  refine ks_aload_n rfl rfl C d_Trees_lookUp_14 ?_
  refine ks_get (k := 1) C 0 6 in_Trees rfl (by decide) fk_Trees_28 rfl rfl rfl d_Trees_lookUp_15 ?_
  refine ks_aload_n rfl rfl C d_Trees_lookUp_18 ?_
  refine ks_get (k := 3) C 0 6 in_Trees rfl (by decide) fk_Trees_11 rfl rfl rfl d_Trees_lookUp_19 ?_
  refine ks_iconst (a := 0) rfl C d_Trees_lookUp_22 ?_
  refine ks_iald C 1 2 rfl rfl (by omega) (by omega) d_Trees_lookUp_23 ?_
  refine ks_cx (ci := 5) (q0 := 0) (kw_trees K t0 t1 t2 x0 n0 c0 _ _ _ ++ kw_nodes K n0 n1 x0 _ ++ kw_chains c0 x0 _ _ ++ kw_pages K x0 x1 x2 _ _ ++ kw_row K r0 r1 _ _) C (c_Nodes_count l D K n0 n1 x0 x1 x2 _ _ _ _ (by omega)) yw_Nodes_count sel_Nodes_count lk_Trees_85 d_Trees_lookUp_24 rfl rfl rfl [3, 4, 6, 7, 8] [0, 1, 2, 5, 9, 10] [0, 1, 2, 6, 7, 3, 8, 9, 10, 4, 5] rfl rfl rfl rfl (by decide) rfl rfl rfl rfl rfl ⟨by decide, by decide⟩ ⟨by decide, by decide⟩ rfl (Nat.le_of_ble_eq_true rfl) ?_
  refine ks_top_count (fun u1 => ?_)
  refine ks_icmp_lt (tgt := 32) C (by omega) (by omega) (by decide) d_Trees_lookUp_27 (fun u2 => ?_) (fun u2 => ?_)
  · refine ks_aload_n rfl rfl C d_Trees_lookUp_32 ?_
    refine ks_get (k := 1) C 0 6 in_Trees rfl (by decide) fk_Trees_28 rfl rfl rfl d_Trees_lookUp_33 ?_
    refine ks_aload_n rfl rfl C d_Trees_lookUp_36 ?_
    refine ks_get (k := 3) C 0 6 in_Trees rfl (by decide) fk_Trees_11 rfl rfl rfl d_Trees_lookUp_37 ?_
    refine ks_iconst (a := 0) rfl C d_Trees_lookUp_40 ?_
    refine ks_iald C 1 2 rfl rfl (by omega) (by omega) d_Trees_lookUp_41 ?_
    refine ks_iload_n rfl rfl C d_Trees_lookUp_42 ?_
    refine ks_cx (ci := 5) (q0 := 0) (kw_trees K t0 t1 t2 x0 n0 c0 _ _ _ ++ kw_nodes K n0 n1 x0 _ ++ kw_chains c0 x0 _ _ ++ kw_pages K x0 x1 x2 _ _ ++ kw_row K r0 r1 _ _) C (c_Nodes_slot l D K n0 n1 x0 x1 x2 _ _ _ _ _ (by omega) (by omega)) yw_Nodes_slot sel_Nodes_slot lk_Trees_78 d_Trees_lookUp_43 rfl rfl rfl [3, 4, 6, 7, 8] [0, 1, 2, 5, 9, 10] [0, 1, 2, 6, 7, 3, 8, 9, 10, 4, 5] rfl rfl rfl rfl (by decide) rfl rfl rfl rfl rfl ⟨by decide, by decide⟩ ⟨by decide, by decide⟩ rfl (Nat.le_of_ble_eq_true rfl) ?_
    refine ks_top_slot (fun u3 => ?_)
    refine ks_istore C (by decide) rfl d_Trees_lookUp_46 ?_
    refine ks_aload_n rfl rfl C d_Trees_lookUp_48 ?_
    refine ks_get (k := 2) C 0 6 in_Trees rfl (by decide) fk_Trees_32 rfl rfl rfl d_Trees_lookUp_49 ?_
    refine ks_aload_n rfl rfl C d_Trees_lookUp_52 ?_
    refine ks_iload rfl C d_Trees_lookUp_53 ?_
    refine ks_cx (ci := 4) (q0 := 0) (kw_trees K t0 t1 t2 x0 n0 c0 _ _ _ ++ kw_nodes K n0 n1 x0 _ ++ kw_chains c0 x0 _ _ ++ kw_pages K x0 x1 x2 _ _ ++ kw_row K r0 r1 _ _) C (c_Chains_compare l D K c0 x0 x1 x2 r0 r1 _ _ _ _ _ _ _ (by omega) (by omega)) yw_Chains_compare sel_Chains_compare lk_Trees_88 d_Trees_lookUp_55 rfl rfl rfl [5, 6, 7, 8, 9, 10] [0, 1, 2, 3, 4] [0, 1, 2, 3, 4, 5, 6, 7, 8, 9, 10] rfl rfl rfl rfl (by decide) rfl rfl rfl rfl rfl ⟨by decide, by decide⟩ ⟨by decide, by decide⟩ rfl (Nat.le_of_ble_eq_true rfl) ?_
    refine ks_top_cmp (by omega) (fun u4 => ?_)
    refine ks_ifZ_ne (tgt := 66) C (by omega) (by omega) (by decide) d_Trees_lookUp_58 (fun u5 => ?_) (fun u5 => ?_)
    · refine ks_iconst (a := 0) rfl C d_Trees_lookUp_66 ?_
      exact ks_iret C Z rfl rfl d_Trees_lookUp_67 rfl rfl ⟨ks_eqN (by unfold kv_look; rw [if_neg (by omega), if_neg u5]), rfl⟩
    · refine ks_iload rfl C d_Trees_lookUp_61 ?_
      refine ks_goto (tgt := 67) C (by decide) d_Trees_lookUp_63 ?_
      exact ks_iret C Z rfl rfl d_Trees_lookUp_67 rfl rfl ⟨ks_eqN (by unfold kv_look; rw [if_neg (by omega), if_pos (by omega)]), rfl⟩
  · refine ks_iconst (a := 0) rfl C d_Trees_lookUp_30 ?_
    exact ks_iret C Z rfl rfl d_Trees_lookUp_31 rfl rfl ⟨ks_eqN (by unfold kv_look; rw [if_pos (by omega)]), rfl⟩
set_option maxRecDepth 100000 in
set_option maxHeartbeats 4000000 in
theorem c_Trees_firstFrom (l : Launch) (D : va_G) (K : Nat → ClassId) (t0 t1 t2 n0 n1 c0 x0 x1 x2 r0 r1 pg ca top : Nat) (pn ps P : Nat → Nat) (B : Nat → UInt8) (G : Nat → Bool) (R : Nat → UInt8) (len : Nat) (t : Nat) (after : Bool) (h1 : t < 65536) (h2 : len ≤ 8448) (hp : ∀ j, pn j < 65536) (hs : ∀ j, ps j < 65536) : ks_M l D (ks_T K) (ks_R 4) y_Trees_firstFrom b_Trees_firstFrom 8 (some .int) [.ref t0, .int (nI t), .ref r0, .int (ks_b after)] (kw_trees K t0 t1 t2 x0 n0 c0 pn ps top ++ kw_nodes K n0 n1 x0 P ++ kw_chains c0 x0 pg ca ++ kw_pages K x0 x1 x2 B G ++ kw_row K r0 r1 R len) (ks_f (some (.int (nI (kv_first B R len t after pn ps)))) (kw_trees K t0 t1 t2 x0 n0 c0 (kv_desc B R len t pn ps).1 (kv_desc B R len t pn ps).2 (kv_level B (kv_root B t)) ++ kw_nodes K n0 n1 x0 P ++ kw_chains c0 x0 pg ca ++ kw_pages K x0 x1 x2 B G ++ kw_row K r0 r1 R len)) := by
  refine ks_M.of 4 (by decide) (Nat.le_of_ble_eq_true rfl) ?_
  intro E C Z
  have q0 := kv_desc_all B R len t pn ps hp hs
  have q1 := kv_desc_in B R len t pn ps
  have loop : ∀ (f : Nat) (i v : Nat), 1 ≤ i → i + f = kv_level B (kv_root B t) + 1 → kv_upF B (kv_desc B R len t pn ps).1 (kv_desc B R len t pn ps).2 f i = (kv_first B R len t after pn ps) → ks_w E D 8 (kw_trees K t0 t1 t2 x0 n0 c0 (kv_desc B R len t pn ps).1 (kv_desc B R len t pn ps).2 (kv_level B (kv_root B t)) ++ kw_nodes K n0 n1 x0 P ++ kw_chains c0 x0 pg ca ++ kw_pages K x0 x1 x2 B G ++ kw_row K r0 r1 R len) [some (.ref t0), some (.int (nI t)), some (.ref r0), some (.int (ks_b after)), some (.int (nI ((kv_desc B R len t pn ps).1 0))), some (.int (nI v)), some (.int (nI i)), none] 0 0 66 [] := by
    intro f
    induction f with
    | zero =>
      intro i v g1 g2 g3
      have q2 : kv_level B (kv_root B t) ≤ 4 := Nat.min_le_right _ _
      refine ks_iload rfl C d_Trees_firstFrom_66 ?_
      refine ks_aload_n rfl rfl C d_Trees_firstFrom_68 ?_
      refine ks_get (k := 5) C 0 6 in_Trees rfl (by decide) fk_Trees_20 rfl rfl rfl d_Trees_firstFrom_69 ?_
      refine ks_icmp_gt (tgt := 137) C (by omega) (by omega) (by decide) d_Trees_firstFrom_72 (fun u1 => ?_) (fun u1 => ?_)
      · refine ks_iconst (a := 0) rfl C d_Trees_firstFrom_137 ?_
        exact ks_iret C Z rfl rfl d_Trees_firstFrom_138 rfl rfl ⟨ks_eqN (by rw [← g3]; rfl), rfl⟩
      · exact (by omega : False).elim
    | succ f ih =>
      intro i v g1 g2 g3
      have q2 : kv_level B (kv_root B t) ≤ 4 := Nat.min_le_right _ _
      have q3 := q0 i
      refine ks_iload rfl C d_Trees_firstFrom_66 ?_
      refine ks_aload_n rfl rfl C d_Trees_firstFrom_68 ?_
      refine ks_get (k := 5) C 0 6 in_Trees rfl (by decide) fk_Trees_20 rfl rfl rfl d_Trees_firstFrom_69 ?_
      refine ks_icmp_gt (tgt := 137) C (by omega) (by omega) (by decide) d_Trees_firstFrom_72 (fun u2 => ?_) (fun u2 => ?_)
      · refine ks_iconst (a := 0) rfl C d_Trees_firstFrom_137 ?_
        exact ks_iret C Z rfl rfl d_Trees_firstFrom_138 rfl rfl (False.elim (by omega))
      · refine ks_aload_n rfl rfl C d_Trees_firstFrom_75 ?_
        refine ks_get (k := 4) C 0 6 in_Trees rfl (by decide) fk_Trees_17 rfl rfl rfl d_Trees_firstFrom_76 ?_
        refine ks_iload rfl C d_Trees_firstFrom_79 ?_
        refine ks_iald C 2 2 rfl rfl (by omega) (by omega) d_Trees_firstFrom_81 ?_
        refine ks_iconst (a := 1) rfl C d_Trees_firstFrom_82 ?_
        refine ks_iadd C d_Trees_firstFrom_83 ?_
        refine ks_istore C (by decide) rfl d_Trees_firstFrom_84 ?_
        refine ks_iload rfl C d_Trees_firstFrom_86 ?_
        refine ks_aload_n rfl rfl C d_Trees_firstFrom_88 ?_
        refine ks_get (k := 1) C 0 6 in_Trees rfl (by decide) fk_Trees_28 rfl rfl rfl d_Trees_firstFrom_89 ?_
        refine ks_aload_n rfl rfl C d_Trees_firstFrom_92 ?_
        refine ks_get (k := 3) C 0 6 in_Trees rfl (by decide) fk_Trees_11 rfl rfl rfl d_Trees_firstFrom_93 ?_
        refine ks_iload rfl C d_Trees_firstFrom_96 ?_
        refine ks_iald C 1 2 rfl rfl (by omega) (by omega) d_Trees_firstFrom_98 ?_
        refine ks_cx (ci := 5) (q0 := 0) (kw_trees K t0 t1 t2 x0 n0 c0 _ _ _ ++ kw_nodes K n0 n1 x0 _ ++ kw_chains c0 x0 _ _ ++ kw_pages K x0 x1 x2 _ _ ++ kw_row K r0 r1 _ _) C (c_Nodes_count l D K n0 n1 x0 x1 x2 _ _ _ _ (by omega)) yw_Nodes_count sel_Nodes_count lk_Trees_85 d_Trees_firstFrom_99 rfl rfl rfl [3, 4, 6, 7, 8] [0, 1, 2, 5, 9, 10] [0, 1, 2, 6, 7, 3, 8, 9, 10, 4, 5] rfl rfl rfl rfl (by decide) rfl rfl rfl rfl rfl ⟨by decide, by decide⟩ ⟨by decide, by decide⟩ rfl (Nat.le_of_ble_eq_true rfl) ?_
        refine ks_top_count (fun u3 => ?_)
        refine ks_icmp_ge (tgt := 131) C (by omega) (by omega) (by decide) d_Trees_firstFrom_102 (fun u4 => ?_) (fun u4 => ?_)
        · refine ks_iinc C rfl (z := 1) rfl (by decide) rfl d_Trees_firstFrom_131 ?_
          refine ks_goto (tgt := 66) C (by decide) d_Trees_firstFrom_134 ?_
          refine ks_forget 7 ?_
          exact ih _ _ (by omega) (by omega) (by rw [← g3, kv_upF, if_neg (by omega)])
        · refine ks_aload_n rfl rfl C d_Trees_firstFrom_105 ?_
          refine ks_get (k := 1) C 0 6 in_Trees rfl (by decide) fk_Trees_28 rfl rfl rfl d_Trees_firstFrom_106 ?_
          refine ks_aload_n rfl rfl C d_Trees_firstFrom_109 ?_
          refine ks_get (k := 1) C 0 6 in_Trees rfl (by decide) fk_Trees_28 rfl rfl rfl d_Trees_firstFrom_110 ?_
          refine ks_aload_n rfl rfl C d_Trees_firstFrom_113 ?_
          refine ks_get (k := 3) C 0 6 in_Trees rfl (by decide) fk_Trees_11 rfl rfl rfl d_Trees_firstFrom_114 ?_
          refine ks_iload rfl C d_Trees_firstFrom_117 ?_
          refine ks_iald C 1 2 rfl rfl (by omega) (by omega) d_Trees_firstFrom_119 ?_
          refine ks_iload rfl C d_Trees_firstFrom_120 ?_
          refine ks_cx (ci := 5) (q0 := 0) (kw_trees K t0 t1 t2 x0 n0 c0 _ _ _ ++ kw_nodes K n0 n1 x0 _ ++ kw_chains c0 x0 _ _ ++ kw_pages K x0 x1 x2 _ _ ++ kw_row K r0 r1 _ _) C (c_Nodes_slot l D K n0 n1 x0 x1 x2 _ _ _ _ _ (by omega) (by omega)) yw_Nodes_slot sel_Nodes_slot lk_Trees_78 d_Trees_firstFrom_122 rfl rfl rfl [3, 4, 6, 7, 8] [0, 1, 2, 5, 9, 10] [0, 1, 2, 6, 7, 3, 8, 9, 10, 4, 5] rfl rfl rfl rfl (by decide) rfl rfl rfl rfl rfl ⟨by decide, by decide⟩ ⟨by decide, by decide⟩ rfl (Nat.le_of_ble_eq_true rfl) ?_
          refine ks_top_slot (fun u5 => ?_)
          refine ks_iload rfl C d_Trees_firstFrom_125 ?_
          refine ks_cx (ci := 5) (q0 := 0) (kw_trees K t0 t1 t2 x0 n0 c0 _ _ _ ++ kw_nodes K n0 n1 x0 _ ++ kw_chains c0 x0 _ _ ++ kw_pages K x0 x1 x2 _ _ ++ kw_row K r0 r1 _ _) C (c_Nodes_least l D K n0 n1 x0 x1 x2 _ _ _ _ _ (by omega) (by omega)) yw_Nodes_least sel_Nodes_least lk_Trees_94 d_Trees_firstFrom_127 rfl rfl rfl [3, 4, 6, 7, 8] [0, 1, 2, 5, 9, 10] [0, 1, 2, 6, 7, 3, 8, 9, 10, 4, 5] rfl rfl rfl rfl (by decide) rfl rfl rfl rfl rfl ⟨by decide, by decide⟩ ⟨by decide, by decide⟩ rfl (Nat.le_of_ble_eq_true rfl) ?_
          refine ks_top_least (by omega) (fun u6 => ?_)
          exact ks_iret C Z rfl rfl d_Trees_firstFrom_130 rfl rfl ⟨ks_eqN (by rw [← g3, kv_upF, if_pos (by omega)]), rfl⟩
  refine ks_aload_n rfl rfl C d_Trees_firstFrom_0 ?_
  refine ks_iload_n rfl rfl C d_Trees_firstFrom_1 ?_
  refine ks_aload_n rfl rfl C d_Trees_firstFrom_2 ?_
  refine ks_cv (ci := 6) (q0 := 0) (kw_trees K t0 t1 t2 x0 n0 c0 _ _ _ ++ kw_nodes K n0 n1 x0 _ ++ kw_chains c0 x0 _ _ ++ kw_pages K x0 x1 x2 _ _ ++ kw_row K r0 r1 _ _) C (c_Trees_descend l D K t0 t1 t2 n0 n1 c0 x0 x1 x2 r0 r1 _ _ _ _ _ _ _ _ _ _ _ (by omega) (by omega)) yw_Trees_descend sel_Trees_descend lk_Trees_81 d_Trees_firstFrom_3 rfl rfl rfl [0, 1, 2, 3, 4, 5, 6, 7, 8, 9, 10] [] [0, 1, 2, 3, 4, 5, 6, 7, 8, 9, 10] rfl rfl rfl rfl (by decide) rfl rfl rfl rfl rfl ⟨by decide, by decide⟩ ⟨by decide, by decide⟩ rfl (Nat.le_of_ble_eq_true rfl) ?_
  refine ks_aload_n rfl rfl C d_Trees_firstFrom_6 ?_
  refine ks_get (k := 3) C 0 6 in_Trees rfl (by decide) fk_Trees_11 rfl rfl rfl d_Trees_firstFrom_7 ?_
  refine ks_iconst (a := 0) rfl C d_Trees_firstFrom_10 ?_
  refine ks_iald C 1 2 rfl rfl (by omega) (by omega) d_Trees_firstFrom_11 ?_
  refine ks_istore C (by decide) rfl d_Trees_firstFrom_12 ?_
  refine ks_iload_n rfl rfl C d_Trees_firstFrom_14 ?_
  refine ks_ifB_eq (tgt := 29) C (by decide) d_Trees_firstFrom_15 (fun u7 => ?_) (fun u7 => ?_)
  · refine ks_aload_n rfl rfl C d_Trees_firstFrom_29 ?_
    refine ks_get (k := 4) C 0 6 in_Trees rfl (by decide) fk_Trees_17 rfl rfl rfl d_Trees_firstFrom_30 ?_
    refine ks_iconst (a := 0) rfl C d_Trees_firstFrom_33 ?_
    refine ks_iald C 2 2 rfl rfl (by omega) (by omega) d_Trees_firstFrom_34 ?_
    refine ks_istore C (by decide) rfl d_Trees_firstFrom_35 ?_
    refine ks_iload rfl C d_Trees_firstFrom_37 ?_
    refine ks_aload_n rfl rfl C d_Trees_firstFrom_39 ?_
    refine ks_get (k := 1) C 0 6 in_Trees rfl (by decide) fk_Trees_28 rfl rfl rfl d_Trees_firstFrom_40 ?_
    refine ks_iload rfl C d_Trees_firstFrom_43 ?_
    refine ks_cx (ci := 5) (q0 := 0) (kw_trees K t0 t1 t2 x0 n0 c0 _ _ _ ++ kw_nodes K n0 n1 x0 _ ++ kw_chains c0 x0 _ _ ++ kw_pages K x0 x1 x2 _ _ ++ kw_row K r0 r1 _ _) C (c_Nodes_count l D K n0 n1 x0 x1 x2 _ _ _ _ (by omega)) yw_Nodes_count sel_Nodes_count lk_Trees_85 d_Trees_firstFrom_45 rfl rfl rfl [3, 4, 6, 7, 8] [0, 1, 2, 5, 9, 10] [0, 1, 2, 6, 7, 3, 8, 9, 10, 4, 5] rfl rfl rfl rfl (by decide) rfl rfl rfl rfl rfl ⟨by decide, by decide⟩ ⟨by decide, by decide⟩ rfl (Nat.le_of_ble_eq_true rfl) ?_
    refine ks_top_count (fun u8 => ?_)
    refine ks_icmp_ge (tgt := 63) C (by omega) (by omega) (by decide) d_Trees_firstFrom_48 (fun u9 => ?_) (fun u9 => ?_)
    · refine ks_iconst (a := 1) rfl C d_Trees_firstFrom_63 ?_
      refine ks_istore C (by decide) rfl d_Trees_firstFrom_64 ?_
      exact loop (kv_level B (kv_root B t)) 1 _ (by omega) (by omega) (by unfold kv_first; rw [if_neg (show ¬ after = true by rw [u7]; decide), if_neg (by omega)])
    · refine ks_aload_n rfl rfl C d_Trees_firstFrom_51 ?_
      refine ks_get (k := 1) C 0 6 in_Trees rfl (by decide) fk_Trees_28 rfl rfl rfl d_Trees_firstFrom_52 ?_
      refine ks_iload rfl C d_Trees_firstFrom_55 ?_
      refine ks_iload rfl C d_Trees_firstFrom_57 ?_
      refine ks_cx (ci := 5) (q0 := 0) (kw_trees K t0 t1 t2 x0 n0 c0 _ _ _ ++ kw_nodes K n0 n1 x0 _ ++ kw_chains c0 x0 _ _ ++ kw_pages K x0 x1 x2 _ _ ++ kw_row K r0 r1 _ _) C (c_Nodes_slot l D K n0 n1 x0 x1 x2 _ _ _ _ _ (by omega) (by omega)) yw_Nodes_slot sel_Nodes_slot lk_Trees_78 d_Trees_firstFrom_59 rfl rfl rfl [3, 4, 6, 7, 8] [0, 1, 2, 5, 9, 10] [0, 1, 2, 6, 7, 3, 8, 9, 10, 4, 5] rfl rfl rfl rfl (by decide) rfl rfl rfl rfl rfl ⟨by decide, by decide⟩ ⟨by decide, by decide⟩ rfl (Nat.le_of_ble_eq_true rfl) ?_
      refine ks_top_slot (fun u10 => ?_)
      exact ks_iret C Z rfl rfl d_Trees_firstFrom_62 rfl rfl ⟨ks_eqN (by unfold kv_first; rw [if_neg (show ¬ after = true by rw [u7]; decide), if_pos (by omega)]), rfl⟩
  · refine ks_aload_n rfl rfl C d_Trees_firstFrom_18 ?_
    refine ks_iload rfl C d_Trees_firstFrom_19 ?_
    refine ks_aload_n rfl rfl C d_Trees_firstFrom_21 ?_
    refine ks_iconstB true rfl C d_Trees_firstFrom_22 ?_
    refine ks_cx (ci := 6) (q0 := 0) (kw_trees K t0 t1 t2 x0 n0 c0 _ _ _ ++ kw_nodes K n0 n1 x0 _ ++ kw_chains c0 x0 _ _ ++ kw_pages K x0 x1 x2 _ _ ++ kw_row K r0 r1 _ _) C (c_Trees_rank l D K t0 t1 t2 n0 n1 c0 x0 x1 x2 r0 r1 _ _ _ _ _ _ _ _ _ _ _ _ (by omega) (by omega)) yw_Trees_rank sel_Trees_rank lk_Trees_68 d_Trees_firstFrom_23 rfl rfl rfl [0, 1, 2, 3, 4, 5, 6, 7, 8, 9, 10] [] [0, 1, 2, 3, 4, 5, 6, 7, 8, 9, 10] rfl rfl rfl rfl (by decide) rfl rfl rfl rfl rfl ⟨by decide, by decide⟩ ⟨by decide, by decide⟩ rfl (Nat.le_of_ble_eq_true rfl) ?_
    refine ks_top_rank (fun u11 => ?_)
    refine ks_goto (tgt := 35) C (by decide) d_Trees_firstFrom_26 ?_
    refine ks_istore C (by decide) rfl d_Trees_firstFrom_35 ?_
    refine ks_iload rfl C d_Trees_firstFrom_37 ?_
    refine ks_aload_n rfl rfl C d_Trees_firstFrom_39 ?_
    refine ks_get (k := 1) C 0 6 in_Trees rfl (by decide) fk_Trees_28 rfl rfl rfl d_Trees_firstFrom_40 ?_
    refine ks_iload rfl C d_Trees_firstFrom_43 ?_
    refine ks_cx (ci := 5) (q0 := 0) (kw_trees K t0 t1 t2 x0 n0 c0 _ _ _ ++ kw_nodes K n0 n1 x0 _ ++ kw_chains c0 x0 _ _ ++ kw_pages K x0 x1 x2 _ _ ++ kw_row K r0 r1 _ _) C (c_Nodes_count l D K n0 n1 x0 x1 x2 _ _ _ _ (by omega)) yw_Nodes_count sel_Nodes_count lk_Trees_85 d_Trees_firstFrom_45 rfl rfl rfl [3, 4, 6, 7, 8] [0, 1, 2, 5, 9, 10] [0, 1, 2, 6, 7, 3, 8, 9, 10, 4, 5] rfl rfl rfl rfl (by decide) rfl rfl rfl rfl rfl ⟨by decide, by decide⟩ ⟨by decide, by decide⟩ rfl (Nat.le_of_ble_eq_true rfl) ?_
    refine ks_top_count (fun u12 => ?_)
    refine ks_icmp_ge (tgt := 63) C (by omega) (by omega) (by decide) d_Trees_firstFrom_48 (fun u13 => ?_) (fun u13 => ?_)
    · refine ks_iconst (a := 1) rfl C d_Trees_firstFrom_63 ?_
      refine ks_istore C (by decide) rfl d_Trees_firstFrom_64 ?_
      exact loop (kv_level B (kv_root B t)) 1 _ (by omega) (by omega) (by unfold kv_first; rw [if_pos u7, if_neg (by omega)])
    · refine ks_aload_n rfl rfl C d_Trees_firstFrom_51 ?_
      refine ks_get (k := 1) C 0 6 in_Trees rfl (by decide) fk_Trees_28 rfl rfl rfl d_Trees_firstFrom_52 ?_
      refine ks_iload rfl C d_Trees_firstFrom_55 ?_
      refine ks_iload rfl C d_Trees_firstFrom_57 ?_
      refine ks_cx (ci := 5) (q0 := 0) (kw_trees K t0 t1 t2 x0 n0 c0 _ _ _ ++ kw_nodes K n0 n1 x0 _ ++ kw_chains c0 x0 _ _ ++ kw_pages K x0 x1 x2 _ _ ++ kw_row K r0 r1 _ _) C (c_Nodes_slot l D K n0 n1 x0 x1 x2 _ _ _ _ _ (by omega) (by omega)) yw_Nodes_slot sel_Nodes_slot lk_Trees_78 d_Trees_firstFrom_59 rfl rfl rfl [3, 4, 6, 7, 8] [0, 1, 2, 5, 9, 10] [0, 1, 2, 6, 7, 3, 8, 9, 10, 4, 5] rfl rfl rfl rfl (by decide) rfl rfl rfl rfl rfl ⟨by decide, by decide⟩ ⟨by decide, by decide⟩ rfl (Nat.le_of_ble_eq_true rfl) ?_
      refine ks_top_slot (fun u14 => ?_)
      exact ks_iret C Z rfl rfl d_Trees_firstFrom_62 rfl rfl ⟨ks_eqN (by unfold kv_first; rw [if_pos u7, if_pos (by omega)]), rfl⟩
