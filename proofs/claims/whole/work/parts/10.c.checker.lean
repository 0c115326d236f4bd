/-! the checker: walk -/
set_option maxRecDepth 100000 in
set_option maxHeartbeats 16000000 in
theorem c_Checker_walk0 (l : Launch) (D : va_G) (K : Nat → ClassId) : ∀ (lv : Nat) (k0 k1 l0 l1 t0 t1 t2 n0 n1 c0 x0 x1 x2 : Nat) (P : Nat → Nat) (B : Nat → UInt8) (G : Nat → Bool) (Cl : Nat → Bool) (w en sz : Nat) (Lr : Nat → UInt8) (ll : Nat) (pn ps : Nat → Nat) (top pg ca : Nat) (t p : Nat) (h1 : t < 65536) (h2 : p < 65536) (hp : ∀ j, pn j < 65536) (hs : ∀ j, ps j < 65536) (hl : ll ≤ 8448), lv ≤ 4 → ks_M l D (ks_T K) (ks_R (9 + lv)) y_Checker_walk b_Checker_walk 7 none [.ref k0, .int (nI t), .int (nI p), .int (nI lv)] (kw_chk K k0 k1 l0 x0 n0 c0 t0 Cl w en sz ++ kw_row K l0 l1 Lr ll ++ kw_trees K t0 t1 t2 x0 n0 c0 pn ps top ++ kw_nodes K n0 n1 x0 P ++ kw_chains c0 x0 pg ca ++ kw_pages K x0 x1 x2 B G) (ks_f none (kw_chk K k0 k1 l0 x0 n0 c0 t0 (kx_walk B t lv p ((Cl, w), (en, sz), (Lr, ll), (pn, ps, top), (pg, ca))).1.1 (kx_walk B t lv p ((Cl, w), (en, sz), (Lr, ll), (pn, ps, top), (pg, ca))).1.2 (kx_walk B t lv p ((Cl, w), (en, sz), (Lr, ll), (pn, ps, top), (pg, ca))).2.1.1 (kx_walk B t lv p ((Cl, w), (en, sz), (Lr, ll), (pn, ps, top), (pg, ca))).2.1.2 ++ kw_row K l0 l1 (kx_walk B t lv p ((Cl, w), (en, sz), (Lr, ll), (pn, ps, top), (pg, ca))).2.2.1.1 (kx_walk B t lv p ((Cl, w), (en, sz), (Lr, ll), (pn, ps, top), (pg, ca))).2.2.1.2 ++ kw_trees K t0 t1 t2 x0 n0 c0 (kx_walk B t lv p ((Cl, w), (en, sz), (Lr, ll), (pn, ps, top), (pg, ca))).2.2.2.1.1 (kx_walk B t lv p ((Cl, w), (en, sz), (Lr, ll), (pn, ps, top), (pg, ca))).2.2.2.1.2.1 (kx_walk B t lv p ((Cl, w), (en, sz), (Lr, ll), (pn, ps, top), (pg, ca))).2.2.2.1.2.2 ++ kw_nodes K n0 n1 x0 P ++ kw_chains c0 x0 (kx_walk B t lv p ((Cl, w), (en, sz), (Lr, ll), (pn, ps, top), (pg, ca))).2.2.2.2.1 (kx_walk B t lv p ((Cl, w), (en, sz), (Lr, ll), (pn, ps, top), (pg, ca))).2.2.2.2.2 ++ kw_pages K x0 x1 x2 B G)) := by
  intro lv
  induction lv with
  | zero =>
    intro k0 k1 l0 l1 t0 t1 t2 n0 n1 c0 x0 x1 x2 P B G Cl w en sz Lr ll pn ps top pg ca t p h1 h2 hp hs hl hlv
    refine ks_M.of 3 (by decide) (Nat.le_of_ble_eq_true rfl) ?_
    intro E C Z
    have loop : ∀ (f : Nat) (Cl1 : Nat → Bool) (w1 en1 sz1 : Nat) (Lr1 : Nat → UInt8) (ll1 : Nat) (pn1 ps1 : Nat → Nat) (top1 pg1 ca1 : Nat) (i : Nat), i + f = kv_count B p → kv_count B p ≤ 14 → kx_ok ((Cl1, w1), (en1, sz1), (Lr1, ll1), (pn1, ps1, top1), (pg1, ca1)) → kx_wkL (kx_exa B t p) f i ((Cl1, w1), (en1, sz1), (Lr1, ll1), (pn1, ps1, top1), (pg1, ca1)) = kx_walk B t (0) p ((Cl, w), (en, sz), (Lr, ll), (pn, ps, top), (pg, ca)) → ks_w E D 7 (kw_chk K k0 k1 l0 x0 n0 c0 t0 Cl1 w1 en1 sz1 ++ kw_row K l0 l1 Lr1 ll1 ++ kw_trees K t0 t1 t2 x0 n0 c0 pn1 ps1 top1 ++ kw_nodes K n0 n1 x0 P ++ kw_chains c0 x0 pg1 ca1 ++ kw_pages K x0 x1 x2 B G) [some (.ref k0), some (.int (nI t)), some (.int (nI p)), some (.int (nI 0)), some (.int (ks_b (decide (p = kv_root B t)))), some (.int (nI (kv_count B p))), some (.int (nI i))] 0 0 137 [] := by
      intro f
      induction f with
      | zero =>
        intro Cl1 w1 en1 sz1 Lr1 ll1 pn1 ps1 top1 pg1 ca1 i g1 g2 g3 g4
        refine ks_iload rfl C d_Checker_walk_137 ?_
        refine ks_iload rfl C d_Checker_walk_139 ?_
        refine ks_icmp_ge (tgt := 183) C (by omega) (by omega) (by decide) d_Checker_walk_141 (fun u1 => ?_) (fun u1 => ?_)
        · exact ks_vret C Z rfl d_Checker_walk_183 rfl rfl ⟨rfl, by rw [← g4]; rfl⟩
        · exact (by omega : False).elim
      | succ f ih2 =>
        intro Cl1 w1 en1 sz1 Lr1 ll1 pn1 ps1 top1 pg1 ca1 i g1 g2 g3 g4
        refine ks_iload rfl C d_Checker_walk_137 ?_
        refine ks_iload rfl C d_Checker_walk_139 ?_
        refine ks_icmp_ge (tgt := 183) C (by omega) (by omega) (by decide) d_Checker_walk_141 (fun u2 => ?_) (fun u2 => ?_)
        · exact (by omega : False).elim
        · refine ks_iload_n rfl rfl C d_Checker_walk_144 ?_
          refine ks_if_le (tgt := 169) C (by omega) (by decide) d_Checker_walk_145 (fun u3 => ?_) (fun u3 => ?_)
          · refine ks_aload_n rfl rfl C d_Checker_walk_169 ?_
            refine ks_iload_n rfl rfl C d_Checker_walk_170 ?_
            refine ks_iload_n rfl rfl C d_Checker_walk_171 ?_
            refine ks_iload rfl C d_Checker_walk_172 ?_
            refine ks_cv (ci := 7) (q0 := 0) (kw_chk K k0 k1 l0 x0 n0 c0 t0 _ _ _ _ ++ kw_row K l0 l1 _ _ ++ kw_trees K t0 t1 t2 x0 n0 c0 _ _ _ ++ kw_nodes K n0 n1 x0 _ ++ kw_chains c0 x0 _ _ ++ kw_pages K x0 x1 x2 _ _) C (c_Checker_examine l D K k0 k1 l0 l1 t0 t1 t2 n0 n1 c0 x0 x1 x2 _ _ _ _ _ _ _ _ _ _ _ _ _ _ _ _ _ (by omega) (by omega) (by omega) g3.1 g3.2.1 g3.2.2) yw_Checker_examine sel_Checker_examine lk_Checker_111 d_Checker_walk_174 rfl rfl rfl [0, 1, 2, 3, 4, 5, 6, 7, 8, 9, 10, 11, 12] [] [0, 1, 2, 3, 4, 5, 6, 7, 8, 9, 10, 11, 12] rfl rfl rfl rfl (by decide) rfl rfl rfl rfl rfl ⟨by dsimp only [ks_R]; omega, by dsimp only [ks_R]; omega⟩ ⟨by dsimp only [ks_R]; omega, by dsimp only [ks_R]; omega⟩ rfl (Nat.le_of_ble_eq_true rfl) ?_
            refine ks_iinc C rfl (z := 1) rfl (by decide) rfl d_Checker_walk_177 ?_
            refine ks_goto (tgt := 137) C (by decide) d_Checker_walk_180 ?_
            exact ih2 _ _ _ _ _ _ _ _ _ _ _ _ (by omega) g2 (kx_exa_ok g3) (by rw [← g4, kx_wkL])
          · exact (by omega : False).elim
    refine ks_aload_n rfl rfl C d_Checker_walk_0 ?_
    refine ks_iload_n rfl rfl C d_Checker_walk_1 ?_
    refine ks_cx (ci := 7) (q0 := 0) (kw_chk K k0 k1 l0 x0 n0 c0 t0 _ _ _ _ ++ kw_row K l0 l1 _ _ ++ kw_trees K t0 t1 t2 x0 n0 c0 _ _ _ ++ kw_nodes K n0 n1 x0 _ ++ kw_chains c0 x0 _ _ ++ kw_pages K x0 x1 x2 _ _) C (c_Checker_claim l D K k0 k1 l0 x0 x1 x2 n0 c0 t0 _ _ _ _ _ _ _ (by omega)) yw_Checker_claim sel_Checker_claim lk_Checker_98 d_Checker_walk_2 rfl rfl rfl [0, 1, 10, 11, 12] [2, 3, 4, 5, 6, 7, 8, 9] [8, 9, 0, 1, 2, 3, 4, 5, 6, 7, 10, 11, 12] rfl rfl rfl rfl (by decide) rfl rfl rfl rfl rfl ⟨by dsimp only [ks_R]; omega, by dsimp only [ks_R]; omega⟩ ⟨by dsimp only [ks_R]; omega, by dsimp only [ks_R]; omega⟩ rfl (Nat.le_of_ble_eq_true rfl) ?_
    refine ks_ifB_ne (tgt := 9) C (by decide) d_Checker_walk_5 (fun u4 => ?_) (fun u4 => ?_)
    · refine ks_iload_n rfl rfl C d_Checker_walk_9 ?_
      refine ks_aload_n rfl rfl C d_Checker_walk_10 ?_
      refine ks_get (k := 3) C 0 7 in_Checker rfl (by decide) fk_Checker_44 rfl rfl rfl d_Checker_walk_11 ?_
      refine ks_iload_n rfl rfl C d_Checker_walk_14 ?_
      refine ks_cx (ci := 6) (q0 := 0) (kw_chk K k0 k1 l0 x0 n0 c0 t0 _ _ _ _ ++ kw_row K l0 l1 _ _ ++ kw_trees K t0 t1 t2 x0 n0 c0 _ _ _ ++ kw_nodes K n0 n1 x0 _ ++ kw_chains c0 x0 _ _ ++ kw_pages K x0 x1 x2 _ _) C (c_Trees_root l D K t0 t1 t2 n0 n1 c0 x0 x1 x2 _ _ _ _ _ _ _ _ _ (by omega)) yw_Trees_root sel_Trees_root lk_Checker_77 d_Checker_walk_15 rfl rfl rfl [4, 5, 6, 7, 8, 9, 10, 11, 12] [0, 1, 2, 3] [0, 1, 2, 3, 4, 5, 6, 7, 8, 9, 10, 11, 12] rfl rfl rfl rfl (by decide) rfl rfl rfl rfl rfl ⟨by dsimp only [ks_R]; omega, by dsimp only [ks_R]; omega⟩ ⟨by dsimp only [ks_R]; omega, by dsimp only [ks_R]; omega⟩ rfl (Nat.le_of_ble_eq_true rfl) ?_
      refine ks_top_root (fun u5 => ?_)
      refine ks_bool (decide (p = kv_root B t)) 26 (st := []) ?_ (fun J6 => ?_)
      · refine ks_istore C (by decide) rfl d_Checker_walk_26 ?_
        refine ks_aload_n rfl rfl C d_Checker_walk_28 ?_
        refine ks_get (k := 1) C 0 7 in_Checker rfl (by decide) fk_Checker_36 rfl rfl rfl d_Checker_walk_29 ?_
        refine ks_iload_n rfl rfl C d_Checker_walk_32 ?_
        refine ks_cx (ci := 5) (q0 := 0) (kw_chk K k0 k1 l0 x0 n0 c0 t0 _ _ _ _ ++ kw_row K l0 l1 _ _ ++ kw_trees K t0 t1 t2 x0 n0 c0 _ _ _ ++ kw_nodes K n0 n1 x0 _ ++ kw_chains c0 x0 _ _ ++ kw_pages K x0 x1 x2 _ _) C (c_Nodes_count l D K n0 n1 x0 x1 x2 _ _ _ _ (by omega)) yw_Nodes_count sel_Nodes_count lk_Checker_101 d_Checker_walk_33 rfl rfl rfl [7, 8, 10, 11, 12] [0, 1, 2, 3, 4, 5, 6, 9] [0, 1, 2, 3, 4, 5, 6, 8, 9, 7, 10, 11, 12] rfl rfl rfl rfl (by decide) rfl rfl rfl rfl rfl ⟨by dsimp only [ks_R]; omega, by dsimp only [ks_R]; omega⟩ ⟨by dsimp only [ks_R]; omega, by dsimp only [ks_R]; omega⟩ rfl (Nat.le_of_ble_eq_true rfl) ?_
        refine ks_top_count (fun u7 => ?_)
        refine ks_istore C (by decide) rfl d_Checker_walk_36 ?_
        refine ks_aload_n rfl rfl C d_Checker_walk_38 ?_
        refine ks_aload_n rfl rfl C d_Checker_walk_39 ?_
        refine ks_get (k := 0) C 0 7 in_Checker rfl (by decide) fk_Checker_32 rfl rfl rfl d_Checker_walk_40 ?_
        refine ks_iload_n rfl rfl C d_Checker_walk_43 ?_
        refine ks_bipush (a := 32) rfl C d_Checker_walk_44 ?_
        refine ks_imul C d_Checker_walk_46 ?_
        refine ks_iconst (a := 2) rfl C d_Checker_walk_47 ?_
        refine ks_iadd C d_Checker_walk_48 ?_
        refine ks_cx (ci := 1) (q0 := 0) (kw_chk K k0 k1 l0 x0 n0 c0 t0 _ _ _ _ ++ kw_row K l0 l1 _ _ ++ kw_trees K t0 t1 t2 x0 n0 c0 _ _ _ ++ kw_nodes K n0 n1 x0 _ ++ kw_chains c0 x0 _ _ ++ kw_pages K x0 x1 x2 _ _) C (c_Pages_number l D K x0 x1 x2 _ _ _ (by omega)) yw_Pages_number sel_Pages_number lk_Checker_51 d_Checker_walk_49 rfl rfl rfl [10, 11, 12] [0, 1, 2, 3, 4, 5, 6, 7, 8, 9] [0, 1, 2, 3, 4, 5, 6, 7, 8, 9, 10, 11, 12] rfl rfl rfl rfl (by decide) rfl rfl rfl rfl rfl ⟨by dsimp only [ks_R]; omega, by dsimp only [ks_R]; omega⟩ ⟨by dsimp only [ks_R]; omega, by dsimp only [ks_R]; omega⟩ rfl (Nat.le_of_ble_eq_true rfl) ?_
        refine ks_top_num (fun u8 => ?_)
        refine ks_iload rfl C d_Checker_walk_52 ?_
        refine ks_bool (decide (kv_num B (p * 32 + 2) = kv_count B p)) 62 (st := [.ref k0]) ?_ (fun J9 => ?_)
        · refine ks_cv (ci := 7) (q0 := 0) (kw_chk K k0 k1 l0 x0 n0 c0 t0 _ _ _ _ ++ kw_row K l0 l1 _ _ ++ kw_trees K t0 t1 t2 x0 n0 c0 _ _ _ ++ kw_nodes K n0 n1 x0 _ ++ kw_chains c0 x0 _ _ ++ kw_pages K x0 x1 x2 _ _) C (c_Checker_expect l D K k0 k1 l0 x0 n0 c0 t0 _ _ _ _ _) yw_Checker_expect sel_Checker_expect lk_Checker_61 d_Checker_walk_62 rfl rfl rfl [0, 1] [2, 3, 4, 5, 6, 7, 8, 9, 10, 11, 12] [11, 12, 0, 1, 2, 3, 4, 5, 6, 7, 8, 9, 10] rfl rfl rfl rfl (by decide) rfl rfl rfl rfl rfl ⟨by dsimp only [ks_R]; omega, by dsimp only [ks_R]; omega⟩ ⟨by dsimp only [ks_R]; omega, by dsimp only [ks_R]; omega⟩ rfl (Nat.le_of_ble_eq_true rfl) ?_
          refine ks_aload_n rfl rfl C d_Checker_walk_65 ?_
          refine ks_aload_n rfl rfl C d_Checker_walk_66 ?_
          refine ks_get (k := 0) C 0 7 in_Checker rfl (by decide) fk_Checker_32 rfl rfl rfl d_Checker_walk_67 ?_
          refine ks_iload_n rfl rfl C d_Checker_walk_70 ?_
          refine ks_bipush (a := 32) rfl C d_Checker_walk_71 ?_
          refine ks_imul C d_Checker_walk_73 ?_
          refine ks_iconst (a := 0) rfl C d_Checker_walk_74 ?_
          refine ks_iadd C d_Checker_walk_75 ?_
          refine ks_cx (ci := 1) (q0 := 0) (kw_chk K k0 k1 l0 x0 n0 c0 t0 _ _ _ _ ++ kw_row K l0 l1 _ _ ++ kw_trees K t0 t1 t2 x0 n0 c0 _ _ _ ++ kw_nodes K n0 n1 x0 _ ++ kw_chains c0 x0 _ _ ++ kw_pages K x0 x1 x2 _ _) C (c_Pages_number l D K x0 x1 x2 _ _ _ (by omega)) yw_Pages_number sel_Pages_number lk_Checker_51 d_Checker_walk_76 rfl rfl rfl [10, 11, 12] [0, 1, 2, 3, 4, 5, 6, 7, 8, 9] [0, 1, 2, 3, 4, 5, 6, 7, 8, 9, 10, 11, 12] rfl rfl rfl rfl (by decide) rfl rfl rfl rfl rfl ⟨by dsimp only [ks_R]; omega, by dsimp only [ks_R]; omega⟩ ⟨by dsimp only [ks_R]; omega, by dsimp only [ks_R]; omega⟩ rfl (Nat.le_of_ble_eq_true rfl) ?_
          refine ks_top_num (fun u10 => ?_)
          refine ks_iload_n rfl rfl C d_Checker_walk_79 ?_
          refine ks_bool (decide (kv_num B (p * 32 + 0) = 0)) 88 (st := [.ref k0]) ?_ (fun J11 => ?_)
          · refine ks_cv (ci := 7) (q0 := 0) (kw_chk K k0 k1 l0 x0 n0 c0 t0 _ _ _ _ ++ kw_row K l0 l1 _ _ ++ kw_trees K t0 t1 t2 x0 n0 c0 _ _ _ ++ kw_nodes K n0 n1 x0 _ ++ kw_chains c0 x0 _ _ ++ kw_pages K x0 x1 x2 _ _) C (c_Checker_expect l D K k0 k1 l0 x0 n0 c0 t0 _ _ _ _ _) yw_Checker_expect sel_Checker_expect lk_Checker_61 d_Checker_walk_88 rfl rfl rfl [0, 1] [2, 3, 4, 5, 6, 7, 8, 9, 10, 11, 12] [11, 12, 0, 1, 2, 3, 4, 5, 6, 7, 8, 9, 10] rfl rfl rfl rfl (by decide) rfl rfl rfl rfl rfl ⟨by dsimp only [ks_R]; omega, by dsimp only [ks_R]; omega⟩ ⟨by dsimp only [ks_R]; omega, by dsimp only [ks_R]; omega⟩ rfl (Nat.le_of_ble_eq_true rfl) ?_
            refine ks_aload_n rfl rfl C d_Checker_walk_91 ?_
            refine ks_iload rfl C d_Checker_walk_92 ?_
            refine ks_bool (decide ((p = kv_root B t ∧ (0 = 0 ∨ 1 < kv_count B p)) ∨ (p ≠ kv_root B t ∧ ¬ kv_count B p < 7))) 131 (st := [.ref k0]) ?_ (fun J12 => ?_)
            · refine ks_cv (ci := 7) (q0 := 0) (kw_chk K k0 k1 l0 x0 n0 c0 t0 _ _ _ _ ++ kw_row K l0 l1 _ _ ++ kw_trees K t0 t1 t2 x0 n0 c0 _ _ _ ++ kw_nodes K n0 n1 x0 _ ++ kw_chains c0 x0 _ _ ++ kw_pages K x0 x1 x2 _ _) C (c_Checker_expect l D K k0 k1 l0 x0 n0 c0 t0 _ _ _ _ _) yw_Checker_expect sel_Checker_expect lk_Checker_61 d_Checker_walk_131 rfl rfl rfl [0, 1] [2, 3, 4, 5, 6, 7, 8, 9, 10, 11, 12] [11, 12, 0, 1, 2, 3, 4, 5, 6, 7, 8, 9, 10] rfl rfl rfl rfl (by decide) rfl rfl rfl rfl rfl ⟨by dsimp only [ks_R]; omega, by dsimp only [ks_R]; omega⟩ ⟨by dsimp only [ks_R]; omega, by dsimp only [ks_R]; omega⟩ rfl (Nat.le_of_ble_eq_true rfl) ?_
              refine ks_iconst (a := 0) rfl C d_Checker_walk_134 ?_
              refine ks_istore C (by decide) rfl d_Checker_walk_135 ?_
              exact loop (kv_count B p) _ _ _ _ _ _ _ _ _ _ _ 0 (by omega) (by omega) ⟨hp, hs, hl⟩ (by rw [kx_walk, if_pos u4]; rfl)
            · refine ks_ifD_eq (tgt := 115) C (by decide) d_Checker_walk_94 (fun u13 => ?_) (fun u13 => ?_)
              · refine ks_aload_n rfl rfl C d_Checker_walk_115 ?_
                refine ks_get (k := 1) C 0 7 in_Checker rfl (by decide) fk_Checker_36 rfl rfl rfl d_Checker_walk_116 ?_
                refine ks_iload_n rfl rfl C d_Checker_walk_119 ?_
                refine ks_cx (ci := 5) (q0 := 0) (kw_chk K k0 k1 l0 x0 n0 c0 t0 _ _ _ _ ++ kw_row K l0 l1 _ _ ++ kw_trees K t0 t1 t2 x0 n0 c0 _ _ _ ++ kw_nodes K n0 n1 x0 _ ++ kw_chains c0 x0 _ _ ++ kw_pages K x0 x1 x2 _ _) C (c_Nodes_isSparse l D K n0 n1 x0 x1 x2 _ _ _ _ (by omega)) yw_Nodes_isSparse sel_Nodes_isSparse lk_Checker_104 d_Checker_walk_120 rfl rfl rfl [7, 8, 10, 11, 12] [0, 1, 2, 3, 4, 5, 6, 9] [0, 1, 2, 3, 4, 5, 6, 8, 9, 7, 10, 11, 12] rfl rfl rfl rfl (by decide) rfl rfl rfl rfl rfl ⟨by dsimp only [ks_R]; omega, by dsimp only [ks_R]; omega⟩ ⟨by dsimp only [ks_R]; omega, by dsimp only [ks_R]; omega⟩ rfl (Nat.le_of_ble_eq_true rfl) ?_
                refine ks_ifD_ne (tgt := 130) C (by decide) d_Checker_walk_123 (fun u14 => ?_) (fun u14 => ?_)
                · refine ks_iconstB false rfl C d_Checker_walk_130 ?_
                  exact J12 _ (decide_eq_false (by omega)).symm
                · refine ks_iconstB true rfl C d_Checker_walk_126 ?_
                  refine ks_goto (tgt := 131) C (by decide) d_Checker_walk_127 ?_
                  exact J12 _ (decide_eq_true (by omega)).symm
              · refine ks_iload_n rfl rfl C d_Checker_walk_97 ?_
                refine ks_if_eq (tgt := 107) C (by omega) (by decide) d_Checker_walk_98 (fun u15 => ?_) (fun u15 => ?_)
                · refine ks_iconstB true rfl C d_Checker_walk_107 ?_
                  refine ks_goto (tgt := 131) C (by decide) d_Checker_walk_108 ?_
                  exact J12 _ (decide_eq_true (by omega)).symm
                · refine ks_iload rfl C d_Checker_walk_101 ?_
                  refine ks_iconst (a := 1) rfl C d_Checker_walk_103 ?_
                  refine ks_icmp_le (tgt := 111) C (by omega) (by omega) (by decide) d_Checker_walk_104 (fun u16 => ?_) (fun u16 => ?_)
                  · refine ks_iconstB false rfl C d_Checker_walk_111 ?_
                    refine ks_goto (tgt := 131) C (by decide) d_Checker_walk_112 ?_
                    exact J12 _ (decide_eq_false (by omega)).symm
                  · refine ks_iconstB true rfl C d_Checker_walk_107 ?_
                    refine ks_goto (tgt := 131) C (by decide) d_Checker_walk_108 ?_
                    exact J12 _ (decide_eq_true (by omega)).symm
          · refine ks_icmp_ne (tgt := 87) C (by omega) (by omega) (by decide) d_Checker_walk_80 (fun u17 => ?_) (fun u17 => ?_)
            · refine ks_iconstB false rfl C d_Checker_walk_87 ?_
              exact J11 _ (decide_eq_false (by omega)).symm
            · refine ks_iconstB true rfl C d_Checker_walk_83 ?_
              refine ks_goto (tgt := 88) C (by decide) d_Checker_walk_84 ?_
              exact J11 _ (decide_eq_true (by omega)).symm
        · refine ks_icmp_ne (tgt := 61) C (by omega) (by omega) (by decide) d_Checker_walk_54 (fun u18 => ?_) (fun u18 => ?_)
          · refine ks_iconstB false rfl C d_Checker_walk_61 ?_
            exact J9 _ (decide_eq_false (by omega)).symm
          · refine ks_iconstB true rfl C d_Checker_walk_57 ?_
            refine ks_goto (tgt := 62) C (by decide) d_Checker_walk_58 ?_
            exact J9 _ (decide_eq_true (by omega)).symm
      · refine ks_icmp_ne (tgt := 25) C (by omega) (by omega) (by decide) d_Checker_walk_18 (fun u19 => ?_) (fun u19 => ?_)
        · refine ks_iconstB false rfl C d_Checker_walk_25 ?_
          exact J6 _ (decide_eq_false (by omega)).symm
        · refine ks_iconstB true rfl C d_Checker_walk_21 ?_
          refine ks_goto (tgt := 26) C (by decide) d_Checker_walk_22 ?_
          exact J6 _ (decide_eq_true (by omega)).symm
    · exact ks_vret C Z rfl d_Checker_walk_8 rfl rfl ⟨rfl, by rw [kx_walk, if_neg (by rw [u4]; decide)]⟩
  | succ lv ih =>
    intro k0 k1 l0 l1 t0 t1 t2 n0 n1 c0 x0 x1 x2 P B G Cl w en sz Lr ll pn ps top pg ca t p h1 h2 hp hs hl hlv
    refine ks_M.of 3 (by decide) (Nat.le_of_ble_eq_true rfl) ?_
    intro E C Z
    have loop : ∀ (f : Nat) (Cl1 : Nat → Bool) (w1 en1 sz1 : Nat) (Lr1 : Nat → UInt8) (ll1 : Nat) (pn1 ps1 : Nat → Nat) (top1 pg1 ca1 : Nat) (i : Nat), i + f = kv_count B p → kv_count B p ≤ 14 → kx_ok ((Cl1, w1), (en1, sz1), (Lr1, ll1), (pn1, ps1, top1), (pg1, ca1)) → kx_wkL (fun i Y => kx_walk B t lv (kv_slot B p i) Y) f i ((Cl1, w1), (en1, sz1), (Lr1, ll1), (pn1, ps1, top1), (pg1, ca1)) = kx_walk B t (lv + 1) p ((Cl, w), (en, sz), (Lr, ll), (pn, ps, top), (pg, ca)) → ks_w E D 7 (kw_chk K k0 k1 l0 x0 n0 c0 t0 Cl1 w1 en1 sz1 ++ kw_row K l0 l1 Lr1 ll1 ++ kw_trees K t0 t1 t2 x0 n0 c0 pn1 ps1 top1 ++ kw_nodes K n0 n1 x0 P ++ kw_chains c0 x0 pg1 ca1 ++ kw_pages K x0 x1 x2 B G) [some (.ref k0), some (.int (nI t)), some (.int (nI p)), some (.int (nI (lv + 1))), some (.int (ks_b (decide (p = kv_root B t)))), some (.int (nI (kv_count B p))), some (.int (nI i))] 0 0 137 [] := by
      intro f
      induction f with
      | zero =>
        intro Cl1 w1 en1 sz1 Lr1 ll1 pn1 ps1 top1 pg1 ca1 i g1 g2 g3 g4
        refine ks_iload rfl C d_Checker_walk_137 ?_
        refine ks_iload rfl C d_Checker_walk_139 ?_
        refine ks_icmp_ge (tgt := 183) C (by omega) (by omega) (by decide) d_Checker_walk_141 (fun u1 => ?_) (fun u1 => ?_)
        · exact ks_vret C Z rfl d_Checker_walk_183 rfl rfl ⟨rfl, by rw [← g4]; rfl⟩
        · exact (by omega : False).elim
      | succ f ih2 =>
        intro Cl1 w1 en1 sz1 Lr1 ll1 pn1 ps1 top1 pg1 ca1 i g1 g2 g3 g4
        refine ks_iload rfl C d_Checker_walk_137 ?_
        refine ks_iload rfl C d_Checker_walk_139 ?_
        refine ks_icmp_ge (tgt := 183) C (by omega) (by omega) (by decide) d_Checker_walk_141 (fun u2 => ?_) (fun u2 => ?_)
        · exact (by omega : False).elim
        · refine ks_iload_n rfl rfl C d_Checker_walk_144 ?_
          refine ks_if_le (tgt := 169) C (by omega) (by decide) d_Checker_walk_145 (fun u3 => ?_) (fun u3 => ?_)
          · exact (by omega : False).elim
          · refine ks_aload_n rfl rfl C d_Checker_walk_148 ?_
            refine ks_iload_n rfl rfl C d_Checker_walk_149 ?_
            refine ks_aload_n rfl rfl C d_Checker_walk_150 ?_
            refine ks_get (k := 1) C 0 7 in_Checker rfl (by decide) fk_Checker_36 rfl rfl rfl d_Checker_walk_151 ?_
            refine ks_iload_n rfl rfl C d_Checker_walk_154 ?_
            refine ks_iload rfl C d_Checker_walk_155 ?_
            refine ks_cx (ci := 5) (q0 := 0) (kw_chk K k0 k1 l0 x0 n0 c0 t0 _ _ _ _ ++ kw_row K l0 l1 _ _ ++ kw_trees K t0 t1 t2 x0 n0 c0 _ _ _ ++ kw_nodes K n0 n1 x0 _ ++ kw_chains c0 x0 _ _ ++ kw_pages K x0 x1 x2 _ _) C (c_Nodes_slot l D K n0 n1 x0 x1 x2 _ _ _ _ _ (by omega) (by omega)) yw_Nodes_slot sel_Nodes_slot lk_Checker_107 d_Checker_walk_157 rfl rfl rfl [7, 8, 10, 11, 12] [0, 1, 2, 3, 4, 5, 6, 9] [0, 1, 2, 3, 4, 5, 6, 8, 9, 7, 10, 11, 12] rfl rfl rfl rfl (by decide) rfl rfl rfl rfl rfl ⟨by dsimp only [ks_R]; omega, by dsimp only [ks_R]; omega⟩ ⟨by dsimp only [ks_R]; omega, by dsimp only [ks_R]; omega⟩ rfl (Nat.le_of_ble_eq_true rfl) ?_
            refine ks_top_slot (fun u4 => ?_)
            refine ks_iload_n rfl rfl C d_Checker_walk_160 ?_
            refine ks_iconst (a := 1) rfl C d_Checker_walk_161 ?_
            refine ks_isub (by omega) C d_Checker_walk_162 ?_
            refine ks_cv (ci := 7) (q0 := 0) (kw_chk K k0 k1 l0 x0 n0 c0 t0 _ _ _ _ ++ kw_row K l0 l1 _ _ ++ kw_trees K t0 t1 t2 x0 n0 c0 _ _ _ ++ kw_nodes K n0 n1 x0 _ ++ kw_chains c0 x0 _ _ ++ kw_pages K x0 x1 x2 _ _) C (ih k0 k1 l0 l1 t0 t1 t2 n0 n1 c0 x0 x1 x2 _ _ _ _ _ _ _ _ _ _ _ _ _ _ _ _ (by omega) (by omega) g3.1 g3.2.1 g3.2.2 (by omega)) yw_Checker_walk sel_Checker_walk lk_Checker_85 d_Checker_walk_163 rfl rfl rfl [0, 1, 2, 3, 4, 5, 6, 7, 8, 9, 10, 11, 12] [] [0, 1, 2, 3, 4, 5, 6, 7, 8, 9, 10, 11, 12] rfl rfl rfl rfl (by decide) rfl rfl rfl rfl rfl ⟨by dsimp only [ks_R]; omega, by dsimp only [ks_R]; omega⟩ ⟨by dsimp only [ks_R]; omega, by dsimp only [ks_R]; omega⟩ rfl (Nat.le_of_ble_eq_true rfl) ?_
            refine ks_goto (tgt := 177) C (by decide) d_Checker_walk_166 ?_
            refine ks_iinc C rfl (z := 1) rfl (by decide) rfl d_Checker_walk_177 ?_
            refine ks_goto (tgt := 137) C (by decide) d_Checker_walk_180 ?_
            exact ih2 _ _ _ _ _ _ _ _ _ _ _ _ (by omega) g2 (kx_walk_ok _ _ _ g3) (by rw [← g4, kx_wkL])
    refine ks_aload_n rfl rfl C d_Checker_walk_0 ?_
    refine ks_iload_n rfl rfl C d_Checker_walk_1 ?_
    refine ks_cx (ci := 7) (q0 := 0) (kw_chk K k0 k1 l0 x0 n0 c0 t0 _ _ _ _ ++ kw_row K l0 l1 _ _ ++ kw_trees K t0 t1 t2 x0 n0 c0 _ _ _ ++ kw_nodes K n0 n1 x0 _ ++ kw_chains c0 x0 _ _ ++ kw_pages K x0 x1 x2 _ _) C (c_Checker_claim l D K k0 k1 l0 x0 x1 x2 n0 c0 t0 _ _ _ _ _ _ _ (by omega)) yw_Checker_claim sel_Checker_claim lk_Checker_98 d_Checker_walk_2 rfl rfl rfl [0, 1, 10, 11, 12] [2, 3, 4, 5, 6, 7, 8, 9] [8, 9, 0, 1, 2, 3, 4, 5, 6, 7, 10, 11, 12] rfl rfl rfl rfl (by decide) rfl rfl rfl rfl rfl ⟨by dsimp only [ks_R]; omega, by dsimp only [ks_R]; omega⟩ ⟨by dsimp only [ks_R]; omega, by dsimp only [ks_R]; omega⟩ rfl (Nat.le_of_ble_eq_true rfl) ?_
    refine ks_ifB_ne (tgt := 9) C (by decide) d_Checker_walk_5 (fun u5 => ?_) (fun u5 => ?_)
    · refine ks_iload_n rfl rfl C d_Checker_walk_9 ?_
      refine ks_aload_n rfl rfl C d_Checker_walk_10 ?_
      refine ks_get (k := 3) C 0 7 in_Checker rfl (by decide) fk_Checker_44 rfl rfl rfl d_Checker_walk_11 ?_
      refine ks_iload_n rfl rfl C d_Checker_walk_14 ?_
      refine ks_cx (ci := 6) (q0 := 0) (kw_chk K k0 k1 l0 x0 n0 c0 t0 _ _ _ _ ++ kw_row K l0 l1 _ _ ++ kw_trees K t0 t1 t2 x0 n0 c0 _ _ _ ++ kw_nodes K n0 n1 x0 _ ++ kw_chains c0 x0 _ _ ++ kw_pages K x0 x1 x2 _ _) C (c_Trees_root l D K t0 t1 t2 n0 n1 c0 x0 x1 x2 _ _ _ _ _ _ _ _ _ (by omega)) yw_Trees_root sel_Trees_root lk_Checker_77 d_Checker_walk_15 rfl rfl rfl [4, 5, 6, 7, 8, 9, 10, 11, 12] [0, 1, 2, 3] [0, 1, 2, 3, 4, 5, 6, 7, 8, 9, 10, 11, 12] rfl rfl rfl rfl (by decide) rfl rfl rfl rfl rfl ⟨by dsimp only [ks_R]; omega, by dsimp only [ks_R]; omega⟩ ⟨by dsimp only [ks_R]; omega, by dsimp only [ks_R]; omega⟩ rfl (Nat.le_of_ble_eq_true rfl) ?_
      refine ks_top_root (fun u6 => ?_)
      refine ks_bool (decide (p = kv_root B t)) 26 (st := []) ?_ (fun J7 => ?_)
      · refine ks_istore C (by decide) rfl d_Checker_walk_26 ?_
        refine ks_aload_n rfl rfl C d_Checker_walk_28 ?_
        refine ks_get (k := 1) C 0 7 in_Checker rfl (by decide) fk_Checker_36 rfl rfl rfl d_Checker_walk_29 ?_
        refine ks_iload_n rfl rfl C d_Checker_walk_32 ?_
        refine ks_cx (ci := 5) (q0 := 0) (kw_chk K k0 k1 l0 x0 n0 c0 t0 _ _ _ _ ++ kw_row K l0 l1 _ _ ++ kw_trees K t0 t1 t2 x0 n0 c0 _ _ _ ++ kw_nodes K n0 n1 x0 _ ++ kw_chains c0 x0 _ _ ++ kw_pages K x0 x1 x2 _ _) C (c_Nodes_count l D K n0 n1 x0 x1 x2 _ _ _ _ (by omega)) yw_Nodes_count sel_Nodes_count lk_Checker_101 d_Checker_walk_33 rfl rfl rfl [7, 8, 10, 11, 12] [0, 1, 2, 3, 4, 5, 6, 9] [0, 1, 2, 3, 4, 5, 6, 8, 9, 7, 10, 11, 12] rfl rfl rfl rfl (by decide) rfl rfl rfl rfl rfl ⟨by dsimp only [ks_R]; omega, by dsimp only [ks_R]; omega⟩ ⟨by dsimp only [ks_R]; omega, by dsimp only [ks_R]; omega⟩ rfl (Nat.le_of_ble_eq_true rfl) ?_
        refine ks_top_count (fun u8 => ?_)
        refine ks_istore C (by decide) rfl d_Checker_walk_36 ?_
        refine ks_aload_n rfl rfl C d_Checker_walk_38 ?_
        refine ks_aload_n rfl rfl C d_Checker_walk_39 ?_
        refine ks_get (k := 0) C 0 7 in_Checker rfl (by decide) fk_Checker_32 rfl rfl rfl d_Checker_walk_40 ?_
        refine ks_iload_n rfl rfl C d_Checker_walk_43 ?_
        refine ks_bipush (a := 32) rfl C d_Checker_walk_44 ?_
        refine ks_imul C d_Checker_walk_46 ?_
        refine ks_iconst (a := 2) rfl C d_Checker_walk_47 ?_
        refine ks_iadd C d_Checker_walk_48 ?_
        refine ks_cx (ci := 1) (q0 := 0) (kw_chk K k0 k1 l0 x0 n0 c0 t0 _ _ _ _ ++ kw_row K l0 l1 _ _ ++ kw_trees K t0 t1 t2 x0 n0 c0 _ _ _ ++ kw_nodes K n0 n1 x0 _ ++ kw_chains c0 x0 _ _ ++ kw_pages K x0 x1 x2 _ _) C (c_Pages_number l D K x0 x1 x2 _ _ _ (by omega)) yw_Pages_number sel_Pages_number lk_Checker_51 d_Checker_walk_49 rfl rfl rfl [10, 11, 12] [0, 1, 2, 3, 4, 5, 6, 7, 8, 9] [0, 1, 2, 3, 4, 5, 6, 7, 8, 9, 10, 11, 12] rfl rfl rfl rfl (by decide) rfl rfl rfl rfl rfl ⟨by dsimp only [ks_R]; omega, by dsimp only [ks_R]; omega⟩ ⟨by dsimp only [ks_R]; omega, by dsimp only [ks_R]; omega⟩ rfl (Nat.le_of_ble_eq_true rfl) ?_
        refine ks_top_num (fun u9 => ?_)
        refine ks_iload rfl C d_Checker_walk_52 ?_
        refine ks_bool (decide (kv_num B (p * 32 + 2) = kv_count B p)) 62 (st := [.ref k0]) ?_ (fun J10 => ?_)
        · refine ks_cv (ci := 7) (q0 := 0) (kw_chk K k0 k1 l0 x0 n0 c0 t0 _ _ _ _ ++ kw_row K l0 l1 _ _ ++ kw_trees K t0 t1 t2 x0 n0 c0 _ _ _ ++ kw_nodes K n0 n1 x0 _ ++ kw_chains c0 x0 _ _ ++ kw_pages K x0 x1 x2 _ _) C (c_Checker_expect l D K k0 k1 l0 x0 n0 c0 t0 _ _ _ _ _) yw_Checker_expect sel_Checker_expect lk_Checker_61 d_Checker_walk_62 rfl rfl rfl [0, 1] [2, 3, 4, 5, 6, 7, 8, 9, 10, 11, 12] [11, 12, 0, 1, 2, 3, 4, 5, 6, 7, 8, 9, 10] rfl rfl rfl rfl (by decide) rfl rfl rfl rfl rfl ⟨by dsimp only [ks_R]; omega, by dsimp only [ks_R]; omega⟩ ⟨by dsimp only [ks_R]; omega, by dsimp only [ks_R]; omega⟩ rfl (Nat.le_of_ble_eq_true rfl) ?_
          refine ks_aload_n rfl rfl C d_Checker_walk_65 ?_
          refine ks_aload_n rfl rfl C d_Checker_walk_66 ?_
          refine ks_get (k := 0) C 0 7 in_Checker rfl (by decide) fk_Checker_32 rfl rfl rfl d_Checker_walk_67 ?_
          refine ks_iload_n rfl rfl C d_Checker_walk_70 ?_
          refine ks_bipush (a := 32) rfl C d_Checker_walk_71 ?_
          refine ks_imul C d_Checker_walk_73 ?_
          refine ks_iconst (a := 0) rfl C d_Checker_walk_74 ?_
          refine ks_iadd C d_Checker_walk_75 ?_
          refine ks_cx (ci := 1) (q0 := 0) (kw_chk K k0 k1 l0 x0 n0 c0 t0 _ _ _ _ ++ kw_row K l0 l1 _ _ ++ kw_trees K t0 t1 t2 x0 n0 c0 _ _ _ ++ kw_nodes K n0 n1 x0 _ ++ kw_chains c0 x0 _ _ ++ kw_pages K x0 x1 x2 _ _) C (c_Pages_number l D K x0 x1 x2 _ _ _ (by omega)) yw_Pages_number sel_Pages_number lk_Checker_51 d_Checker_walk_76 rfl rfl rfl [10, 11, 12] [0, 1, 2, 3, 4, 5, 6, 7, 8, 9] [0, 1, 2, 3, 4, 5, 6, 7, 8, 9, 10, 11, 12] rfl rfl rfl rfl (by decide) rfl rfl rfl rfl rfl ⟨by dsimp only [ks_R]; omega, by dsimp only [ks_R]; omega⟩ ⟨by dsimp only [ks_R]; omega, by dsimp only [ks_R]; omega⟩ rfl (Nat.le_of_ble_eq_true rfl) ?_
          refine ks_top_num (fun u11 => ?_)
          refine ks_iload_n rfl rfl C d_Checker_walk_79 ?_
          refine ks_bool (decide (kv_num B (p * 32 + 0) = lv + 1)) 88 (st := [.ref k0]) ?_ (fun J12 => ?_)
          · refine ks_cv (ci := 7) (q0 := 0) (kw_chk K k0 k1 l0 x0 n0 c0 t0 _ _ _ _ ++ kw_row K l0 l1 _ _ ++ kw_trees K t0 t1 t2 x0 n0 c0 _ _ _ ++ kw_nodes K n0 n1 x0 _ ++ kw_chains c0 x0 _ _ ++ kw_pages K x0 x1 x2 _ _) C (c_Checker_expect l D K k0 k1 l0 x0 n0 c0 t0 _ _ _ _ _) yw_Checker_expect sel_Checker_expect lk_Checker_61 d_Checker_walk_88 rfl rfl rfl [0, 1] [2, 3, 4, 5, 6, 7, 8, 9, 10, 11, 12] [11, 12, 0, 1, 2, 3, 4, 5, 6, 7, 8, 9, 10] rfl rfl rfl rfl (by decide) rfl rfl rfl rfl rfl ⟨by dsimp only [ks_R]; omega, by dsimp only [ks_R]; omega⟩ ⟨by dsimp only [ks_R]; omega, by dsimp only [ks_R]; omega⟩ rfl (Nat.le_of_ble_eq_true rfl) ?_
            refine ks_aload_n rfl rfl C d_Checker_walk_91 ?_
            refine ks_iload rfl C d_Checker_walk_92 ?_
            refine ks_bool (decide ((p = kv_root B t ∧ (lv + 1 = 0 ∨ 1 < kv_count B p)) ∨ (p ≠ kv_root B t ∧ ¬ kv_count B p < 7))) 131 (st := [.ref k0]) ?_ (fun J13 => ?_)
            · refine ks_cv (ci := 7) (q0 := 0) (kw_chk K k0 k1 l0 x0 n0 c0 t0 _ _ _ _ ++ kw_row K l0 l1 _ _ ++ kw_trees K t0 t1 t2 x0 n0 c0 _ _ _ ++ kw_nodes K n0 n1 x0 _ ++ kw_chains c0 x0 _ _ ++ kw_pages K x0 x1 x2 _ _) C (c_Checker_expect l D K k0 k1 l0 x0 n0 c0 t0 _ _ _ _ _) yw_Checker_expect sel_Checker_expect lk_Checker_61 d_Checker_walk_131 rfl rfl rfl [0, 1] [2, 3, 4, 5, 6, 7, 8, 9, 10, 11, 12] [11, 12, 0, 1, 2, 3, 4, 5, 6, 7, 8, 9, 10] rfl rfl rfl rfl (by decide) rfl rfl rfl rfl rfl ⟨by dsimp only [ks_R]; omega, by dsimp only [ks_R]; omega⟩ ⟨by dsimp only [ks_R]; omega, by dsimp only [ks_R]; omega⟩ rfl (Nat.le_of_ble_eq_true rfl) ?_
              refine ks_iconst (a := 0) rfl C d_Checker_walk_134 ?_
              refine ks_istore C (by decide) rfl d_Checker_walk_135 ?_
              exact loop (kv_count B p) _ _ _ _ _ _ _ _ _ _ _ 0 (by omega) (by omega) ⟨hp, hs, hl⟩ (by rw [kx_walk, if_pos u5]; rfl)
            · refine ks_ifD_eq (tgt := 115) C (by decide) d_Checker_walk_94 (fun u14 => ?_) (fun u14 => ?_)
              · refine ks_aload_n rfl rfl C d_Checker_walk_115 ?_
                refine ks_get (k := 1) C 0 7 in_Checker rfl (by decide) fk_Checker_36 rfl rfl rfl d_Checker_walk_116 ?_
                refine ks_iload_n rfl rfl C d_Checker_walk_119 ?_
                refine ks_cx (ci := 5) (q0 := 0) (kw_chk K k0 k1 l0 x0 n0 c0 t0 _ _ _ _ ++ kw_row K l0 l1 _ _ ++ kw_trees K t0 t1 t2 x0 n0 c0 _ _ _ ++ kw_nodes K n0 n1 x0 _ ++ kw_chains c0 x0 _ _ ++ kw_pages K x0 x1 x2 _ _) C (c_Nodes_isSparse l D K n0 n1 x0 x1 x2 _ _ _ _ (by omega)) yw_Nodes_isSparse sel_Nodes_isSparse lk_Checker_104 d_Checker_walk_120 rfl rfl rfl [7, 8, 10, 11, 12] [0, 1, 2, 3, 4, 5, 6, 9] [0, 1, 2, 3, 4, 5, 6, 8, 9, 7, 10, 11, 12] rfl rfl rfl rfl (by decide) rfl rfl rfl rfl rfl ⟨by dsimp only [ks_R]; omega, by dsimp only [ks_R]; omega⟩ ⟨by dsimp only [ks_R]; omega, by dsimp only [ks_R]; omega⟩ rfl (Nat.le_of_ble_eq_true rfl) ?_
                refine ks_ifD_ne (tgt := 130) C (by decide) d_Checker_walk_123 (fun u15 => ?_) (fun u15 => ?_)
                · refine ks_iconstB false rfl C d_Checker_walk_130 ?_
                  exact J13 _ (decide_eq_false (by omega)).symm
                · refine ks_iconstB true rfl C d_Checker_walk_126 ?_
                  refine ks_goto (tgt := 131) C (by decide) d_Checker_walk_127 ?_
                  exact J13 _ (decide_eq_true (by omega)).symm
              · refine ks_iload_n rfl rfl C d_Checker_walk_97 ?_
                refine ks_if_eq (tgt := 107) C (by omega) (by decide) d_Checker_walk_98 (fun u16 => ?_) (fun u16 => ?_)
                · refine ks_iconstB true rfl C d_Checker_walk_107 ?_
                  refine ks_goto (tgt := 131) C (by decide) d_Checker_walk_108 ?_
                  exact J13 _ (decide_eq_true (by omega)).symm
                · refine ks_iload rfl C d_Checker_walk_101 ?_
                  refine ks_iconst (a := 1) rfl C d_Checker_walk_103 ?_
                  refine ks_icmp_le (tgt := 111) C (by omega) (by omega) (by decide) d_Checker_walk_104 (fun u17 => ?_) (fun u17 => ?_)
                  · refine ks_iconstB false rfl C d_Checker_walk_111 ?_
                    refine ks_goto (tgt := 131) C (by decide) d_Checker_walk_112 ?_
                    exact J13 _ (decide_eq_false (by omega)).symm
                  · refine ks_iconstB true rfl C d_Checker_walk_107 ?_
                    refine ks_goto (tgt := 131) C (by decide) d_Checker_walk_108 ?_
                    exact J13 _ (decide_eq_true (by omega)).symm
          · refine ks_icmp_ne (tgt := 87) C (by omega) (by omega) (by decide) d_Checker_walk_80 (fun u18 => ?_) (fun u18 => ?_)
            · refine ks_iconstB false rfl C d_Checker_walk_87 ?_
              exact J12 _ (decide_eq_false (by omega)).symm
            · refine ks_iconstB true rfl C d_Checker_walk_83 ?_
              refine ks_goto (tgt := 88) C (by decide) d_Checker_walk_84 ?_
              exact J12 _ (decide_eq_true (by omega)).symm
        · refine ks_icmp_ne (tgt := 61) C (by omega) (by omega) (by decide) d_Checker_walk_54 (fun u19 => ?_) (fun u19 => ?_)
          · refine ks_iconstB false rfl C d_Checker_walk_61 ?_
            exact J10 _ (decide_eq_false (by omega)).symm
          · refine ks_iconstB true rfl C d_Checker_walk_57 ?_
            refine ks_goto (tgt := 62) C (by decide) d_Checker_walk_58 ?_
            exact J10 _ (decide_eq_true (by omega)).symm
      · refine ks_icmp_ne (tgt := 25) C (by omega) (by omega) (by decide) d_Checker_walk_18 (fun u20 => ?_) (fun u20 => ?_)
        · refine ks_iconstB false rfl C d_Checker_walk_25 ?_
          exact J7 _ (decide_eq_false (by omega)).symm
        · refine ks_iconstB true rfl C d_Checker_walk_21 ?_
          refine ks_goto (tgt := 26) C (by decide) d_Checker_walk_22 ?_
          exact J7 _ (decide_eq_true (by omega)).symm
    · exact ks_vret C Z rfl d_Checker_walk_8 rfl rfl ⟨rfl, by rw [kx_walk, if_neg (by rw [u5]; decide)]⟩
