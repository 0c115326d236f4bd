/-! the store's calls: entries, transactions, power, what is told -/
set_option maxRecDepth 100000 in
set_option maxHeartbeats 4000000 in
theorem c_Store_put_T1 (l : Launch) (hNT : l.stackTraces = false) (D : va_G) (K : Nat → ClassId) (z0 tk0 tv0 gk0 gv0 d0 x0 m0 c0 t0 k0 : Nat) (fnd opn : Bool) (t : Nat) : kt_M l D (ks_T K) (kt_R 7) y_Store_put b_Store_put 4 (some .boolean) [.ref z0, .int (nI t)] (kw_store z0 tk0 tv0 gk0 gv0 d0 x0 m0 c0 t0 k0 fnd false opn) "java/lang/IllegalStateException" (kw_store z0 tk0 tv0 gk0 gv0 d0 x0 m0 c0 t0 k0 fnd false opn) := by
  refine kt_M.of hNT 2 (by decide) (Nat.le_of_ble_eq_true rfl) ?_
  intro E C Kt Z
  refine ks_aload_n rfl rfl C d_Store_put_0 ?_
  exact ks_callTW (ci := 8) (q0 := 0) ([] : va_W) C Kt Z (c_Store_demandOpen_T1 l hNT D K z0 tk0 tv0 gk0 gv0 d0 x0 m0 c0 t0 k0 _ _) yw_Store_demandOpen sel_Store_demandOpen lk_Store_109 d_Store_put_1 rfl rfl rfl [0] [] [0] rfl rfl rfl rfl (by decide) rfl rfl rfl rfl ⟨by decide, by decide⟩ ⟨by decide, by decide⟩ (Nat.le_of_ble_eq_true rfl) rfl rfl
set_option maxRecDepth 100000 in
set_option maxHeartbeats 4000000 in
theorem c_Store_put_T2 (l : Launch) (hNT : l.stackTraces = false) (D : va_G) (K : Nat → ClassId) (z0 tk0 tv0 gk0 gv0 d0 x0 m0 c0 t0 k0 : Nat) (fnd : Bool) (t : Nat) : kt_M l D (ks_T K) (kt_R 7) y_Store_put b_Store_put 4 (some .boolean) [.ref z0, .int (nI t)] (kw_store z0 tk0 tv0 gk0 gv0 d0 x0 m0 c0 t0 k0 fnd true false) "java/lang/IllegalStateException" (kw_store z0 tk0 tv0 gk0 gv0 d0 x0 m0 c0 t0 k0 fnd true false) := by
  refine kt_M.of hNT 2 (by decide) (Nat.le_of_ble_eq_true rfl) ?_
  intro E C Kt Z
  refine ks_aload_n rfl rfl C d_Store_put_0 ?_
  exact ks_callTW (ci := 8) (q0 := 0) ([] : va_W) C Kt Z (c_Store_demandOpen_T2 l hNT D K z0 tk0 tv0 gk0 gv0 d0 x0 m0 c0 t0 k0 _) yw_Store_demandOpen sel_Store_demandOpen lk_Store_109 d_Store_put_1 rfl rfl rfl [0] [] [0] rfl rfl rfl rfl (by decide) rfl rfl rfl rfl ⟨by decide, by decide⟩ ⟨by decide, by decide⟩ (Nat.le_of_ble_eq_true rfl) rfl rfl
set_option maxRecDepth 100000 in
set_option maxHeartbeats 4000000 in
theorem c_Store_put_T3 (l : Launch) (hNT : l.stackTraces = false) (D : va_G) (K : Nat → ClassId) (z0 tk0 tv0 gk0 gv0 d0 x0 m0 c0 t0 k0 : Nat) (fnd : Bool) (t1 t2 n0 n1 x1 x2 pg ca top : Nat) (pn ps P : Nat → Nat) (B : Nat → UInt8) (G : Nat → Bool) (t : Nat) (h1 : kv_has B t = false) (h0 : t < 4294967296) : kt_M l D (ks_T K) (kt_R 7) y_Store_put b_Store_put 4 (some .boolean) [.ref z0, .int (nI t)] (kw_store z0 tk0 tv0 gk0 gv0 d0 x0 m0 c0 t0 k0 fnd true true ++ kw_trees K t0 t1 t2 x0 n0 c0 pn ps top ++ kw_nodes K n0 n1 x0 P ++ kw_chains c0 x0 pg ca ++ kw_pages K x0 x1 x2 B G) "java/util/NoSuchElementException" (kw_store z0 tk0 tv0 gk0 gv0 d0 x0 m0 c0 t0 k0 fnd true true ++ kw_trees K t0 t1 t2 x0 n0 c0 pn ps top ++ kw_nodes K n0 n1 x0 P ++ kw_chains c0 x0 pg ca ++ kw_pages K x0 x1 x2 B G) := by
  refine kt_M.of hNT 2 (by decide) (Nat.le_of_ble_eq_true rfl) ?_
  intro E C Kt Z
  refine ks_aload_n rfl rfl C d_Store_put_0 ?_
  refine ks_cvW (ci := 8) (q0 := 0) (kw_store z0 tk0 tv0 gk0 gv0 d0 x0 m0 c0 t0 k0 _ _ _ ++ kw_trees K t0 t1 t2 x0 n0 c0 _ _ _ ++ kw_nodes K n0 n1 x0 _ ++ kw_chains c0 x0 _ _ ++ kw_pages K x0 x1 x2 _ _) (kw_trees K t0 t1 t2 x0 n0 c0 _ _ _ ++ kw_nodes K n0 n1 x0 _ ++ kw_chains c0 x0 _ _ ++ kw_pages K x0 x1 x2 _ _) C (c_Store_demandOpen_ok l D K z0 tk0 tv0 gk0 gv0 d0 x0 m0 c0 t0 k0 _) yw_Store_demandOpen sel_Store_demandOpen lk_Store_109 d_Store_put_1 rfl rfl rfl [0] [1, 2, 3, 4, 5, 6, 7, 8, 9] [9, 0, 1, 2, 3, 4, 5, 6, 7, 8] rfl rfl rfl rfl (by decide) rfl rfl rfl rfl rfl ⟨by decide, by decide⟩ ⟨by decide, by decide⟩ rfl (Nat.le_of_ble_eq_true rfl) ?_
  refine ks_aload_n rfl rfl C d_Store_put_4 ?_
  refine ks_iload_n rfl rfl C d_Store_put_5 ?_
  exact ks_callTW (ci := 8) (q0 := 0) ([] : va_W) C Kt Z (c_Store_demandTree_T l hNT D K z0 tk0 tv0 gk0 gv0 d0 x0 m0 c0 t0 k0 _ _ _ t1 t2 n0 n1 x1 x2 _ _ _ _ _ _ _ _ _ h1 (by omega)) yw_Store_demandTree sel_Store_demandTree lk_Store_124 d_Store_put_6 rfl rfl rfl [0, 1, 2, 3, 4, 5, 6, 7, 8, 9] [] [0, 1, 2, 3, 4, 5, 6, 7, 8, 9] rfl rfl rfl rfl (by decide) rfl rfl rfl rfl ⟨by decide, by decide⟩ ⟨by decide, by decide⟩ (Nat.le_of_ble_eq_true rfl) rfl rfl
set_option maxRecDepth 100000 in
set_option maxHeartbeats 4000000 in
theorem c_Store_put_T4 (l : Launch) (hNT : l.stackTraces = false) (D : va_G) (K : Nat → ClassId) (z0 tk0 tv0 gk0 gv0 d0 x0 m0 c0 t0 k0 : Nat) (fnd : Bool) (t1 t2 n0 n1 x1 x2 pg ca top : Nat) (pn ps P : Nat → Nat) (B : Nat → UInt8) (G : Nat → Bool) (tk1 : Nat) (Kb : Nat → UInt8) (kl : Nat) (t : Nat) (h1 : kv_has B t = true) (h0 : t < 4294967296) (h2 : t < 64) (h3 : kl = 0) : kt_M l D (ks_T K) (kt_R 6) y_Store_put b_Store_put 4 (some .boolean) [.ref z0, .int (nI t)] (kw_store z0 tk0 tv0 gk0 gv0 d0 x0 m0 c0 t0 k0 fnd true true ++ kw_trees K t0 t1 t2 x0 n0 c0 pn ps top ++ kw_nodes K n0 n1 x0 P ++ kw_chains c0 x0 pg ca ++ kw_pages K x0 x1 x2 B G ++ kw_row K tk0 tk1 Kb kl) "java/lang/IllegalArgumentException" (kw_store z0 tk0 tv0 gk0 gv0 d0 x0 m0 c0 t0 k0 fnd true true ++ kw_trees K t0 t1 t2 x0 n0 c0 pn ps top ++ kw_nodes K n0 n1 x0 P ++ kw_chains c0 x0 pg ca ++ kw_pages K x0 x1 x2 B G ++ kw_row K tk0 tk1 Kb kl) := by
  refine kt_M.of hNT 2 (by decide) (Nat.le_of_ble_eq_true rfl) ?_
  intro E C Kt Z
  refine ks_aload_n rfl rfl C d_Store_put_0 ?_
  refine ks_cvW (ci := 8) (q0 := 0) (kw_store z0 tk0 tv0 gk0 gv0 d0 x0 m0 c0 t0 k0 _ _ _ ++ kw_trees K t0 t1 t2 x0 n0 c0 _ _ _ ++ kw_nodes K n0 n1 x0 _ ++ kw_chains c0 x0 _ _ ++ kw_pages K x0 x1 x2 _ _ ++ kw_row K tk0 tk1 _ _) (kw_trees K t0 t1 t2 x0 n0 c0 _ _ _ ++ kw_nodes K n0 n1 x0 _ ++ kw_chains c0 x0 _ _ ++ kw_pages K x0 x1 x2 _ _ ++ kw_row K tk0 tk1 _ _) C (c_Store_demandOpen_ok l D K z0 tk0 tv0 gk0 gv0 d0 x0 m0 c0 t0 k0 _) yw_Store_demandOpen sel_Store_demandOpen lk_Store_109 d_Store_put_1 rfl rfl rfl [0] [1, 2, 3, 4, 5, 6, 7, 8, 9, 10, 11] [11, 0, 1, 2, 3, 4, 5, 6, 7, 8, 9, 10] rfl rfl rfl rfl (by decide) rfl rfl rfl rfl rfl ⟨by decide, by decide⟩ ⟨by decide, by decide⟩ rfl (Nat.le_of_ble_eq_true rfl) ?_
  refine ks_aload_n rfl rfl C d_Store_put_4 ?_
  refine ks_iload_n rfl rfl C d_Store_put_5 ?_
  refine ks_cvW (ci := 8) (q0 := 0) (kw_store z0 tk0 tv0 gk0 gv0 d0 x0 m0 c0 t0 k0 _ _ _ ++ kw_trees K t0 t1 t2 x0 n0 c0 _ _ _ ++ kw_nodes K n0 n1 x0 _ ++ kw_chains c0 x0 _ _ ++ kw_pages K x0 x1 x2 _ _ ++ kw_row K tk0 tk1 _ _) (kw_row K tk0 tk1 _ _) C (c_Store_demandTree_ok l D K z0 tk0 tv0 gk0 gv0 d0 x0 m0 c0 t0 k0 _ _ _ t1 t2 n0 n1 x1 x2 _ _ _ _ _ _ _ _ _ h1 (by omega)) yw_Store_demandTree sel_Store_demandTree lk_Store_124 d_Store_put_6 rfl rfl rfl [0, 1, 2, 3, 4, 5, 6, 7, 8, 9] [10, 11] [2, 3, 4, 5, 6, 7, 8, 9, 10, 11, 0, 1] rfl rfl rfl rfl (by decide) rfl rfl rfl rfl rfl ⟨by decide, by decide⟩ ⟨by decide, by decide⟩ rfl (Nat.le_of_ble_eq_true rfl) ?_
  refine ks_aload_n rfl rfl C d_Store_put_9 ?_
  refine ks_get (k := 0) C 0 8 in_Store rfl (by decide) fk_Store_12 rfl rfl rfl d_Store_put_10 ?_
  refine ks_cxW (ci := 0) (q0 := 0) (kw_store z0 tk0 tv0 gk0 gv0 d0 x0 m0 c0 t0 k0 _ _ _ ++ kw_trees K t0 t1 t2 x0 n0 c0 _ _ _ ++ kw_nodes K n0 n1 x0 _ ++ kw_chains c0 x0 _ _ ++ kw_pages K x0 x1 x2 _ _ ++ kw_row K tk0 tk1 _ _) (kw_store z0 tk0 tv0 gk0 gv0 d0 x0 m0 c0 t0 k0 _ _ _ ++ kw_trees K t0 t1 t2 x0 n0 c0 _ _ _ ++ kw_nodes K n0 n1 x0 _ ++ kw_chains c0 x0 _ _ ++ kw_pages K x0 x1 x2 _ _) C (c_Row_length l D K tk0 tk1 _ _) yw_Row_length sel_Row_length lk_Store_105 d_Store_put_13 rfl rfl rfl [10, 11] [0, 1, 2, 3, 4, 5, 6, 7, 8, 9] [0, 1, 2, 3, 4, 5, 6, 7, 8, 9, 10, 11] rfl rfl rfl rfl (by decide) rfl rfl rfl rfl rfl ⟨by decide, by decide⟩ ⟨by decide, by decide⟩ rfl (Nat.le_of_ble_eq_true rfl) ?_
  refine ks_if_ne (tgt := 29) C (by omega) (by decide) d_Store_put_16 (fun u1 => ?_) (fun u1 => ?_)
  · exact (by omega : False).elim
  · exact ks_throw (names := kt_n2) C Kt Z (by decide +kernel) (by decide +kernel) (kt_site kt_wIAE kt_s131) d_Store_put_19 d_Store_put_22 d_Store_put_23 d_Store_put_25 d_Store_put_28 (by decide) (by decide) (by decide) (by decide) rfl rfl rfl
set_option maxRecDepth 100000 in
set_option maxHeartbeats 4000000 in
theorem c_Store_put_T5 (l : Launch) (hNT : l.stackTraces = false) (D : va_G) (K : Nat → ClassId) (z0 tk0 tv0 gk0 gv0 d0 x0 m0 c0 t0 k0 : Nat) (fnd : Bool) (t1 t2 n0 n1 x1 x2 pg ca top : Nat) (pn ps P : Nat → Nat) (B : Nat → UInt8) (G : Nat → Bool) (tk1 : Nat) (Kb : Nat → UInt8) (kl : Nat) (tv1 : Nat) (Vb : Nat → UInt8) (vl : Nat) (t : Nat) (h1 : kv_has B t = true) (h0 : t < 4294967296) (h2 : t < 64) (h3 : 1 ≤ kl) (h4 : kl ≤ 8448) (h5 : vl ≤ 8448) (hp : ∀ j, pn j < 65536) (hs : ∀ j, ps j < 65536) (hz : kv_size B (kv_look B Kb kl t pn ps) ≤ kv_num B 8 + (16 + kl + vl)) (h6 : 36864 < kv_num B 8 + (16 + kl + vl) - kv_size B (kv_look B Kb kl t pn ps)) : kt_M l D (ks_T K) (kt_R 6) y_Store_put b_Store_put 4 (some .boolean) [.ref z0, .int (nI t)] (kw_store z0 tk0 tv0 gk0 gv0 d0 x0 m0 c0 t0 k0 fnd true true ++ kw_trees K t0 t1 t2 x0 n0 c0 pn ps top ++ kw_nodes K n0 n1 x0 P ++ kw_chains c0 x0 pg ca ++ kw_pages K x0 x1 x2 B G ++ kw_row K tk0 tk1 Kb kl ++ kw_row K tv0 tv1 Vb vl) "java/lang/IllegalStateException" (kw_store z0 tk0 tv0 gk0 gv0 d0 x0 m0 c0 t0 k0 fnd true true ++ kw_trees K t0 t1 t2 x0 n0 c0 (kv_desc B Kb kl t pn ps).1 (kv_desc B Kb kl t pn ps).2 (kv_level B (kv_root B t)) ++ kw_nodes K n0 n1 x0 P ++ kw_chains c0 x0 pg ca ++ kw_pages K x0 x1 x2 B G ++ kw_row K tk0 tk1 Kb kl ++ kw_row K tv0 tv1 Vb vl) := by
  refine kt_M.of hNT 2 (by decide) (Nat.le_of_ble_eq_true rfl) ?_
  intro E C Kt Z
  refine ks_aload_n rfl rfl C d_Store_put_0 ?_
  refine ks_cvW (ci := 8) (q0 := 0) (kw_store z0 tk0 tv0 gk0 gv0 d0 x0 m0 c0 t0 k0 _ _ _ ++ kw_trees K t0 t1 t2 x0 n0 c0 _ _ _ ++ kw_nodes K n0 n1 x0 _ ++ kw_chains c0 x0 _ _ ++ kw_pages K x0 x1 x2 _ _ ++ kw_row K tk0 tk1 _ _ ++ kw_row K tv0 tv1 _ _) (kw_trees K t0 t1 t2 x0 n0 c0 _ _ _ ++ kw_nodes K n0 n1 x0 _ ++ kw_chains c0 x0 _ _ ++ kw_pages K x0 x1 x2 _ _ ++ kw_row K tk0 tk1 _ _ ++ kw_row K tv0 tv1 _ _) C (c_Store_demandOpen_ok l D K z0 tk0 tv0 gk0 gv0 d0 x0 m0 c0 t0 k0 _) yw_Store_demandOpen sel_Store_demandOpen lk_Store_109 d_Store_put_1 rfl rfl rfl [0] [1, 2, 3, 4, 5, 6, 7, 8, 9, 10, 11, 12, 13] [13, 0, 1, 2, 3, 4, 5, 6, 7, 8, 9, 10, 11, 12] rfl rfl rfl rfl (by decide) rfl rfl rfl rfl rfl ⟨by decide, by decide⟩ ⟨by decide, by decide⟩ rfl (Nat.le_of_ble_eq_true rfl) ?_
  refine ks_aload_n rfl rfl C d_Store_put_4 ?_
  refine ks_iload_n rfl rfl C d_Store_put_5 ?_
  refine ks_cvW (ci := 8) (q0 := 0) (kw_store z0 tk0 tv0 gk0 gv0 d0 x0 m0 c0 t0 k0 _ _ _ ++ kw_trees K t0 t1 t2 x0 n0 c0 _ _ _ ++ kw_nodes K n0 n1 x0 _ ++ kw_chains c0 x0 _ _ ++ kw_pages K x0 x1 x2 _ _ ++ kw_row K tk0 tk1 _ _ ++ kw_row K tv0 tv1 _ _) (kw_row K tk0 tk1 _ _ ++ kw_row K tv0 tv1 _ _) C (c_Store_demandTree_ok l D K z0 tk0 tv0 gk0 gv0 d0 x0 m0 c0 t0 k0 _ _ _ t1 t2 n0 n1 x1 x2 _ _ _ _ _ _ _ _ _ h1 (by omega)) yw_Store_demandTree sel_Store_demandTree lk_Store_124 d_Store_put_6 rfl rfl rfl [0, 1, 2, 3, 4, 5, 6, 7, 8, 9] [10, 11, 12, 13] [4, 5, 6, 7, 8, 9, 10, 11, 12, 13, 0, 1, 2, 3] rfl rfl rfl rfl (by decide) rfl rfl rfl rfl rfl ⟨by decide, by decide⟩ ⟨by decide, by decide⟩ rfl (Nat.le_of_ble_eq_true rfl) ?_
  refine ks_aload_n rfl rfl C d_Store_put_9 ?_
  refine ks_get (k := 0) C 0 8 in_Store rfl (by decide) fk_Store_12 rfl rfl rfl d_Store_put_10 ?_
  refine ks_cxW (ci := 0) (q0 := 0) (kw_store z0 tk0 tv0 gk0 gv0 d0 x0 m0 c0 t0 k0 _ _ _ ++ kw_trees K t0 t1 t2 x0 n0 c0 _ _ _ ++ kw_nodes K n0 n1 x0 _ ++ kw_chains c0 x0 _ _ ++ kw_pages K x0 x1 x2 _ _ ++ kw_row K tk0 tk1 _ _ ++ kw_row K tv0 tv1 _ _) (kw_store z0 tk0 tv0 gk0 gv0 d0 x0 m0 c0 t0 k0 _ _ _ ++ kw_trees K t0 t1 t2 x0 n0 c0 _ _ _ ++ kw_nodes K n0 n1 x0 _ ++ kw_chains c0 x0 _ _ ++ kw_pages K x0 x1 x2 _ _ ++ kw_row K tv0 tv1 _ _) C (c_Row_length l D K tk0 tk1 _ _) yw_Row_length sel_Row_length lk_Store_105 d_Store_put_13 rfl rfl rfl [10, 11] [0, 1, 2, 3, 4, 5, 6, 7, 8, 9, 12, 13] [0, 1, 2, 3, 4, 5, 6, 7, 8, 9, 12, 13, 10, 11] rfl rfl rfl rfl (by decide) rfl rfl rfl rfl rfl ⟨by decide, by decide⟩ ⟨by decide, by decide⟩ rfl (Nat.le_of_ble_eq_true rfl) ?_
  refine ks_if_ne (tgt := 29) C (by omega) (by decide) d_Store_put_16 (fun u1 => ?_) (fun u1 => ?_)
  · refine ks_aload_n rfl rfl C d_Store_put_29 ?_
    refine ks_get (k := 8) C 0 8 in_Store rfl (by decide) fk_Store_63 rfl rfl rfl d_Store_put_30 ?_
    refine ks_iload_n rfl rfl C d_Store_put_33 ?_
    refine ks_aload_n rfl rfl C d_Store_put_34 ?_
    refine ks_get (k := 0) C 0 8 in_Store rfl (by decide) fk_Store_12 rfl rfl rfl d_Store_put_35 ?_
    refine ks_cxW (ci := 6) (q0 := 0) (kw_store z0 tk0 tv0 gk0 gv0 d0 x0 m0 c0 t0 k0 _ _ _ ++ kw_trees K t0 t1 t2 x0 n0 c0 _ _ _ ++ kw_nodes K n0 n1 x0 _ ++ kw_chains c0 x0 _ _ ++ kw_pages K x0 x1 x2 _ _ ++ kw_row K tk0 tk1 _ _ ++ kw_row K tv0 tv1 _ _) (kw_store z0 tk0 tv0 gk0 gv0 d0 x0 m0 c0 t0 k0 _ _ _ ++ kw_row K tv0 tv1 _ _) C (c_Trees_lookUp l D K t0 t1 t2 n0 n1 c0 x0 x1 x2 tk0 tk1 _ _ _ _ _ _ _ _ _ _ _ (by omega) (by omega)) yw_Trees_lookUp sel_Trees_lookUp lk_Store_133 d_Store_put_38 rfl rfl rfl [1, 2, 3, 4, 5, 6, 7, 8, 9, 10, 11] [0, 12, 13] [0, 3, 4, 5, 6, 7, 8, 9, 10, 11, 12, 13, 1, 2] rfl rfl rfl rfl (by decide) rfl rfl rfl rfl rfl ⟨by decide, by decide⟩ ⟨by decide, by decide⟩ rfl (Nat.le_of_ble_eq_true rfl) ?_
    refine ks_top_look (fun u2 => ?_)
    refine ks_istore_n C rfl (by decide) rfl d_Store_put_41 ?_
    refine ks_bipush (a := 16) rfl C d_Store_put_42 ?_
    refine ks_aload_n rfl rfl C d_Store_put_44 ?_
    refine ks_get (k := 0) C 0 8 in_Store rfl (by decide) fk_Store_12 rfl rfl rfl d_Store_put_45 ?_
    refine ks_cxW (ci := 0) (q0 := 0) (kw_store z0 tk0 tv0 gk0 gv0 d0 x0 m0 c0 t0 k0 _ _ _ ++ kw_trees K t0 t1 t2 x0 n0 c0 _ _ _ ++ kw_nodes K n0 n1 x0 _ ++ kw_chains c0 x0 _ _ ++ kw_pages K x0 x1 x2 _ _ ++ kw_row K tk0 tk1 _ _ ++ kw_row K tv0 tv1 _ _) (kw_store z0 tk0 tv0 gk0 gv0 d0 x0 m0 c0 t0 k0 _ _ _ ++ kw_trees K t0 t1 t2 x0 n0 c0 _ _ _ ++ kw_nodes K n0 n1 x0 _ ++ kw_chains c0 x0 _ _ ++ kw_pages K x0 x1 x2 _ _ ++ kw_row K tv0 tv1 _ _) C (c_Row_length l D K tk0 tk1 _ _) yw_Row_length sel_Row_length lk_Store_105 d_Store_put_48 rfl rfl rfl [10, 11] [0, 1, 2, 3, 4, 5, 6, 7, 8, 9, 12, 13] [0, 1, 2, 3, 4, 5, 6, 7, 8, 9, 12, 13, 10, 11] rfl rfl rfl rfl (by decide) rfl rfl rfl rfl rfl ⟨by decide, by decide⟩ ⟨by decide, by decide⟩ rfl (Nat.le_of_ble_eq_true rfl) ?_
    refine ks_iadd C d_Store_put_51 ?_
    refine ks_aload_n rfl rfl C d_Store_put_52 ?_
    refine ks_get (k := 1) C 0 8 in_Store rfl (by decide) fk_Store_16 rfl rfl rfl d_Store_put_53 ?_
    refine ks_cxW (ci := 0) (q0 := 0) (kw_store z0 tk0 tv0 gk0 gv0 d0 x0 m0 c0 t0 k0 _ _ _ ++ kw_trees K t0 t1 t2 x0 n0 c0 _ _ _ ++ kw_nodes K n0 n1 x0 _ ++ kw_chains c0 x0 _ _ ++ kw_pages K x0 x1 x2 _ _ ++ kw_row K tk0 tk1 _ _ ++ kw_row K tv0 tv1 _ _) (kw_store z0 tk0 tv0 gk0 gv0 d0 x0 m0 c0 t0 k0 _ _ _ ++ kw_trees K t0 t1 t2 x0 n0 c0 _ _ _ ++ kw_nodes K n0 n1 x0 _ ++ kw_chains c0 x0 _ _ ++ kw_pages K x0 x1 x2 _ _ ++ kw_row K tk0 tk1 _ _) C (c_Row_length l D K tv0 tv1 _ _) yw_Row_length sel_Row_length lk_Store_105 d_Store_put_56 rfl rfl rfl [12, 13] [0, 1, 2, 3, 4, 5, 6, 7, 8, 9, 10, 11] [0, 1, 2, 3, 4, 5, 6, 7, 8, 9, 10, 11, 12, 13] rfl rfl rfl rfl (by decide) rfl rfl rfl rfl rfl ⟨by decide, by decide⟩ ⟨by decide, by decide⟩ rfl (Nat.le_of_ble_eq_true rfl) ?_
    refine ks_iadd C d_Store_put_59 ?_
    refine ks_aload_n rfl rfl C d_Store_put_60 ?_
    refine ks_get (k := 7) C 0 8 in_Store rfl (by decide) fk_Store_54 rfl rfl rfl d_Store_put_61 ?_
    refine ks_iload_n rfl rfl C d_Store_put_64 ?_
    refine ks_cxW (ci := 4) (q0 := 0) (kw_store z0 tk0 tv0 gk0 gv0 d0 x0 m0 c0 t0 k0 _ _ _ ++ kw_trees K t0 t1 t2 x0 n0 c0 _ _ _ ++ kw_nodes K n0 n1 x0 _ ++ kw_chains c0 x0 _ _ ++ kw_pages K x0 x1 x2 _ _ ++ kw_row K tk0 tk1 _ _ ++ kw_row K tv0 tv1 _ _) (kw_store z0 tk0 tv0 gk0 gv0 d0 x0 m0 c0 t0 k0 _ _ _ ++ kw_trees K t0 t1 t2 x0 n0 c0 _ _ _ ++ kw_nodes K n0 n1 x0 _ ++ kw_row K tk0 tk1 _ _ ++ kw_row K tv0 tv1 _ _) C (c_Chains_size l D K c0 x0 x1 x2 _ _ _ _ _ (by omega)) yw_Chains_size sel_Chains_size lk_Store_137 d_Store_put_65 rfl rfl rfl [6, 7, 8, 9] [0, 1, 2, 3, 4, 5, 10, 11, 12, 13] [0, 1, 2, 3, 4, 5, 10, 11, 12, 13, 6, 7, 8, 9] rfl rfl rfl rfl (by decide) rfl rfl rfl rfl rfl ⟨by decide, by decide⟩ ⟨by decide, by decide⟩ rfl (Nat.le_of_ble_eq_true rfl) ?_
    refine ks_top_size (fun u3 => ?_)
    refine ks_isubI C d_Store_put_68 ?_
    refine ks_istore_n C rfl (by decide) rfl d_Store_put_69 ?_
    refine ks_aload_n rfl rfl C d_Store_put_70 ?_
    refine ks_get (k := 5) C 0 8 in_Store rfl (by decide) fk_Store_35 rfl rfl rfl d_Store_put_71 ?_
    refine ks_bipush (a := 8) rfl C d_Store_put_74 ?_
    refine ks_cxW (ci := 1) (q0 := 0) (kw_store z0 tk0 tv0 gk0 gv0 d0 x0 m0 c0 t0 k0 _ _ _ ++ kw_trees K t0 t1 t2 x0 n0 c0 _ _ _ ++ kw_nodes K n0 n1 x0 _ ++ kw_chains c0 x0 _ _ ++ kw_pages K x0 x1 x2 _ _ ++ kw_row K tk0 tk1 _ _ ++ kw_row K tv0 tv1 _ _) (kw_store z0 tk0 tv0 gk0 gv0 d0 x0 m0 c0 t0 k0 _ _ _ ++ kw_trees K t0 t1 t2 x0 n0 c0 _ _ _ ++ kw_nodes K n0 n1 x0 _ ++ kw_chains c0 x0 _ _ ++ kw_row K tk0 tk1 _ _ ++ kw_row K tv0 tv1 _ _) C (c_Pages_number l D K x0 x1 x2 _ _ _ (by omega)) yw_Pages_number sel_Pages_number lk_Store_140 d_Store_put_76 rfl rfl rfl [7, 8, 9] [0, 1, 2, 3, 4, 5, 6, 10, 11, 12, 13] [0, 1, 2, 3, 4, 5, 6, 11, 12, 13, 7, 8, 9, 10] rfl rfl rfl rfl (by decide) rfl rfl rfl rfl rfl ⟨by decide, by decide⟩ ⟨by decide, by decide⟩ rfl (Nat.le_of_ble_eq_true rfl) ?_
    refine ks_top_num (fun u4 => ?_)
    refine ks_iload_n rfl rfl C d_Store_put_79 ?_
    refine ks_iaddI C d_Store_put_80 ?_
    rw [ks_as3 hz]
    refine ks_ldc ck_Store_143 C d_Store_put_81 ?_
    refine ks_icmp_le (tgt := 96) C (by omega) (by omega) (by decide) d_Store_put_83 (fun u5 => ?_) (fun u5 => ?_)
    · exact (by omega : False).elim
    · exact ks_throw (names := kt_n2) C Kt Z (by decide +kernel) (by decide +kernel) (kt_site kt_wISE kt_s144) d_Store_put_86 d_Store_put_89 d_Store_put_90 d_Store_put_92 d_Store_put_95 (by decide) (by decide) (by decide) (by decide) rfl rfl rfl
  · exact (by omega : False).elim
set_option maxRecDepth 100000 in
set_option maxHeartbeats 4000000 in
theorem c_Store_put_new (l : Launch) (D : va_G) (K : Nat → ClassId) (z0 tk0 tv0 gk0 gv0 d0 x0 m0 c0 t0 k0 : Nat) (fnd : Bool) (t1 t2 n0 n1 x1 x2 pg ca top : Nat) (pn ps P : Nat → Nat) (B : Nat → UInt8) (G : Nat → Bool) (tk1 : Nat) (Kb : Nat → UInt8) (kl : Nat) (tv1 : Nat) (Vb : Nat → UInt8) (vl : Nat) (t : Nat) (h1 : kv_has B t = true) (h0 : t < 4294967296) (h2 : t < 64) (h3 : 1 ≤ kl) (h4 : kl ≤ 8448) (h5 : vl ≤ 8448) (hp : ∀ j, pn j < 65536) (hs : ∀ j, ps j < 65536) (hz : kv_size B (kv_look B Kb kl t pn ps) ≤ kv_num B 8 + (16 + kl + vl)) (h6 : kv_num B 8 + (16 + kl + vl) - kv_size B (kv_look B Kb kl t pn ps) ≤ 36864) (h7 : (kv_look B Kb kl t pn ps) = 0) : ks_M l D (ks_T K) (ks_R 7) y_Store_put b_Store_put 4 (some .boolean) [.ref z0, .int (nI t)] (kw_store z0 tk0 tv0 gk0 gv0 d0 x0 m0 c0 t0 k0 fnd true true ++ kw_trees K t0 t1 t2 x0 n0 c0 pn ps top ++ kw_nodes K n0 n1 x0 P ++ kw_chains c0 x0 pg ca ++ kw_pages K x0 x1 x2 B G ++ kw_row K tk0 tk1 Kb kl ++ kw_row K tv0 tv1 Vb vl) (ks_f (some (.int (ks_b false))) (kw_store z0 tk0 tv0 gk0 gv0 d0 x0 m0 c0 t0 k0 fnd true true ++ kw_trees K t0 t1 t2 x0 n0 c0 (kv_desc B Kb kl t pn ps).1 (kv_desc B Kb kl t pn ps).2 (kv_level B (kv_root B t)) ++ kw_nodes K n0 n1 x0 (kv_insH (B, G) P t (kv_level B (kv_root B t)) (kv_desc B Kb kl t pn ps).1 (kv_desc B Kb kl t pn ps).2 Kb kl Vb vl).1.2 ++ kw_chains c0 x0 (kv_insH (B, G) P t (kv_level B (kv_root B t)) (kv_desc B Kb kl t pn ps).1 (kv_desc B Kb kl t pn ps).2 Kb kl Vb vl).2.1 (kv_insH (B, G) P t (kv_level B (kv_root B t)) (kv_desc B Kb kl t pn ps).1 (kv_desc B Kb kl t pn ps).2 Kb kl Vb vl).2.2 ++ kw_pages K x0 x1 x2 (kv_insH (B, G) P t (kv_level B (kv_root B t)) (kv_desc B Kb kl t pn ps).1 (kv_desc B Kb kl t pn ps).2 Kb kl Vb vl).1.1.1 (kv_insH (B, G) P t (kv_level B (kv_root B t)) (kv_desc B Kb kl t pn ps).1 (kv_desc B Kb kl t pn ps).2 Kb kl Vb vl).1.1.2 ++ kw_row K tk0 tk1 Kb kl ++ kw_row K tv0 tv1 Vb vl)) := by
  refine ks_M.of 2 (by decide) (Nat.le_of_ble_eq_true rfl) ?_
  intro E C Z
  refine ks_aload_n rfl rfl C d_Store_put_0 ?_
  refine ks_cvW (ci := 8) (q0 := 0) (kw_store z0 tk0 tv0 gk0 gv0 d0 x0 m0 c0 t0 k0 _ _ _ ++ kw_trees K t0 t1 t2 x0 n0 c0 _ _ _ ++ kw_nodes K n0 n1 x0 _ ++ kw_chains c0 x0 _ _ ++ kw_pages K x0 x1 x2 _ _ ++ kw_row K tk0 tk1 _ _ ++ kw_row K tv0 tv1 _ _) (kw_trees K t0 t1 t2 x0 n0 c0 _ _ _ ++ kw_nodes K n0 n1 x0 _ ++ kw_chains c0 x0 _ _ ++ kw_pages K x0 x1 x2 _ _ ++ kw_row K tk0 tk1 _ _ ++ kw_row K tv0 tv1 _ _) C (c_Store_demandOpen_ok l D K z0 tk0 tv0 gk0 gv0 d0 x0 m0 c0 t0 k0 _) yw_Store_demandOpen sel_Store_demandOpen lk_Store_109 d_Store_put_1 rfl rfl rfl [0] [1, 2, 3, 4, 5, 6, 7, 8, 9, 10, 11, 12, 13] [13, 0, 1, 2, 3, 4, 5, 6, 7, 8, 9, 10, 11, 12] rfl rfl rfl rfl (by decide) rfl rfl rfl rfl rfl ⟨by decide, by decide⟩ ⟨by decide, by decide⟩ rfl (Nat.le_of_ble_eq_true rfl) ?_
  refine ks_aload_n rfl rfl C d_Store_put_4 ?_
  refine ks_iload_n rfl rfl C d_Store_put_5 ?_
  refine ks_cvW (ci := 8) (q0 := 0) (kw_store z0 tk0 tv0 gk0 gv0 d0 x0 m0 c0 t0 k0 _ _ _ ++ kw_trees K t0 t1 t2 x0 n0 c0 _ _ _ ++ kw_nodes K n0 n1 x0 _ ++ kw_chains c0 x0 _ _ ++ kw_pages K x0 x1 x2 _ _ ++ kw_row K tk0 tk1 _ _ ++ kw_row K tv0 tv1 _ _) (kw_row K tk0 tk1 _ _ ++ kw_row K tv0 tv1 _ _) C (c_Store_demandTree_ok l D K z0 tk0 tv0 gk0 gv0 d0 x0 m0 c0 t0 k0 _ _ _ t1 t2 n0 n1 x1 x2 _ _ _ _ _ _ _ _ _ h1 (by omega)) yw_Store_demandTree sel_Store_demandTree lk_Store_124 d_Store_put_6 rfl rfl rfl [0, 1, 2, 3, 4, 5, 6, 7, 8, 9] [10, 11, 12, 13] [4, 5, 6, 7, 8, 9, 10, 11, 12, 13, 0, 1, 2, 3] rfl rfl rfl rfl (by decide) rfl rfl rfl rfl rfl ⟨by decide, by decide⟩ ⟨by decide, by decide⟩ rfl (Nat.le_of_ble_eq_true rfl) ?_
  refine ks_aload_n rfl rfl C d_Store_put_9 ?_
  refine ks_get (k := 0) C 0 8 in_Store rfl (by decide) fk_Store_12 rfl rfl rfl d_Store_put_10 ?_
  refine ks_cxW (ci := 0) (q0 := 0) (kw_store z0 tk0 tv0 gk0 gv0 d0 x0 m0 c0 t0 k0 _ _ _ ++ kw_trees K t0 t1 t2 x0 n0 c0 _ _ _ ++ kw_nodes K n0 n1 x0 _ ++ kw_chains c0 x0 _ _ ++ kw_pages K x0 x1 x2 _ _ ++ kw_row K tk0 tk1 _ _ ++ kw_row K tv0 tv1 _ _) (kw_store z0 tk0 tv0 gk0 gv0 d0 x0 m0 c0 t0 k0 _ _ _ ++ kw_trees K t0 t1 t2 x0 n0 c0 _ _ _ ++ kw_nodes K n0 n1 x0 _ ++ kw_chains c0 x0 _ _ ++ kw_pages K x0 x1 x2 _ _ ++ kw_row K tv0 tv1 _ _) C (c_Row_length l D K tk0 tk1 _ _) yw_Row_length sel_Row_length lk_Store_105 d_Store_put_13 rfl rfl rfl [10, 11] [0, 1, 2, 3, 4, 5, 6, 7, 8, 9, 12, 13] [0, 1, 2, 3, 4, 5, 6, 7, 8, 9, 12, 13, 10, 11] rfl rfl rfl rfl (by decide) rfl rfl rfl rfl rfl ⟨by decide, by decide⟩ ⟨by decide, by decide⟩ rfl (Nat.le_of_ble_eq_true rfl) ?_
  refine ks_if_ne (tgt := 29) C (by omega) (by decide) d_Store_put_16 (fun u1 => ?_) (fun u1 => ?_)
  · refine ks_aload_n rfl rfl C d_Store_put_29 ?_
    refine ks_get (k := 8) C 0 8 in_Store rfl (by decide) fk_Store_63 rfl rfl rfl d_Store_put_30 ?_
    refine ks_iload_n rfl rfl C d_Store_put_33 ?_
    refine ks_aload_n rfl rfl C d_Store_put_34 ?_
    refine ks_get (k := 0) C 0 8 in_Store rfl (by decide) fk_Store_12 rfl rfl rfl d_Store_put_35 ?_
    refine ks_cxW (ci := 6) (q0 := 0) (kw_store z0 tk0 tv0 gk0 gv0 d0 x0 m0 c0 t0 k0 _ _ _ ++ kw_trees K t0 t1 t2 x0 n0 c0 _ _ _ ++ kw_nodes K n0 n1 x0 _ ++ kw_chains c0 x0 _ _ ++ kw_pages K x0 x1 x2 _ _ ++ kw_row K tk0 tk1 _ _ ++ kw_row K tv0 tv1 _ _) (kw_store z0 tk0 tv0 gk0 gv0 d0 x0 m0 c0 t0 k0 _ _ _ ++ kw_row K tv0 tv1 _ _) C (c_Trees_lookUp l D K t0 t1 t2 n0 n1 c0 x0 x1 x2 tk0 tk1 _ _ _ _ _ _ _ _ _ _ _ (by omega) (by omega)) yw_Trees_lookUp sel_Trees_lookUp lk_Store_133 d_Store_put_38 rfl rfl rfl [1, 2, 3, 4, 5, 6, 7, 8, 9, 10, 11] [0, 12, 13] [0, 3, 4, 5, 6, 7, 8, 9, 10, 11, 12, 13, 1, 2] rfl rfl rfl rfl (by decide) rfl rfl rfl rfl rfl ⟨by decide, by decide⟩ ⟨by decide, by decide⟩ rfl (Nat.le_of_ble_eq_true rfl) ?_
    refine ks_top_look (fun u2 => ?_)
    refine ks_istore_n C rfl (by decide) rfl d_Store_put_41 ?_
    refine ks_bipush (a := 16) rfl C d_Store_put_42 ?_
    refine ks_aload_n rfl rfl C d_Store_put_44 ?_
    refine ks_get (k := 0) C 0 8 in_Store rfl (by decide) fk_Store_12 rfl rfl rfl d_Store_put_45 ?_
    refine ks_cxW (ci := 0) (q0 := 0) (kw_store z0 tk0 tv0 gk0 gv0 d0 x0 m0 c0 t0 k0 _ _ _ ++ kw_trees K t0 t1 t2 x0 n0 c0 _ _ _ ++ kw_nodes K n0 n1 x0 _ ++ kw_chains c0 x0 _ _ ++ kw_pages K x0 x1 x2 _ _ ++ kw_row K tk0 tk1 _ _ ++ kw_row K tv0 tv1 _ _) (kw_store z0 tk0 tv0 gk0 gv0 d0 x0 m0 c0 t0 k0 _ _ _ ++ kw_trees K t0 t1 t2 x0 n0 c0 _ _ _ ++ kw_nodes K n0 n1 x0 _ ++ kw_chains c0 x0 _ _ ++ kw_pages K x0 x1 x2 _ _ ++ kw_row K tv0 tv1 _ _) C (c_Row_length l D K tk0 tk1 _ _) yw_Row_length sel_Row_length lk_Store_105 d_Store_put_48 rfl rfl rfl [10, 11] [0, 1, 2, 3, 4, 5, 6, 7, 8, 9, 12, 13] [0, 1, 2, 3, 4, 5, 6, 7, 8, 9, 12, 13, 10, 11] rfl rfl rfl rfl (by decide) rfl rfl rfl rfl rfl ⟨by decide, by decide⟩ ⟨by decide, by decide⟩ rfl (Nat.le_of_ble_eq_true rfl) ?_
    refine ks_iadd C d_Store_put_51 ?_
    refine ks_aload_n rfl rfl C d_Store_put_52 ?_
    refine ks_get (k := 1) C 0 8 in_Store rfl (by decide) fk_Store_16 rfl rfl rfl d_Store_put_53 ?_
    refine ks_cxW (ci := 0) (q0 := 0) (kw_store z0 tk0 tv0 gk0 gv0 d0 x0 m0 c0 t0 k0 _ _ _ ++ kw_trees K t0 t1 t2 x0 n0 c0 _ _ _ ++ kw_nodes K n0 n1 x0 _ ++ kw_chains c0 x0 _ _ ++ kw_pages K x0 x1 x2 _ _ ++ kw_row K tk0 tk1 _ _ ++ kw_row K tv0 tv1 _ _) (kw_store z0 tk0 tv0 gk0 gv0 d0 x0 m0 c0 t0 k0 _ _ _ ++ kw_trees K t0 t1 t2 x0 n0 c0 _ _ _ ++ kw_nodes K n0 n1 x0 _ ++ kw_chains c0 x0 _ _ ++ kw_pages K x0 x1 x2 _ _ ++ kw_row K tk0 tk1 _ _) C (c_Row_length l D K tv0 tv1 _ _) yw_Row_length sel_Row_length lk_Store_105 d_Store_put_56 rfl rfl rfl [12, 13] [0, 1, 2, 3, 4, 5, 6, 7, 8, 9, 10, 11] [0, 1, 2, 3, 4, 5, 6, 7, 8, 9, 10, 11, 12, 13] rfl rfl rfl rfl (by decide) rfl rfl rfl rfl rfl ⟨by decide, by decide⟩ ⟨by decide, by decide⟩ rfl (Nat.le_of_ble_eq_true rfl) ?_
    refine ks_iadd C d_Store_put_59 ?_
    refine ks_aload_n rfl rfl C d_Store_put_60 ?_
    refine ks_get (k := 7) C 0 8 in_Store rfl (by decide) fk_Store_54 rfl rfl rfl d_Store_put_61 ?_
    refine ks_iload_n rfl rfl C d_Store_put_64 ?_
    refine ks_cxW (ci := 4) (q0 := 0) (kw_store z0 tk0 tv0 gk0 gv0 d0 x0 m0 c0 t0 k0 _ _ _ ++ kw_trees K t0 t1 t2 x0 n0 c0 _ _ _ ++ kw_nodes K n0 n1 x0 _ ++ kw_chains c0 x0 _ _ ++ kw_pages K x0 x1 x2 _ _ ++ kw_row K tk0 tk1 _ _ ++ kw_row K tv0 tv1 _ _) (kw_store z0 tk0 tv0 gk0 gv0 d0 x0 m0 c0 t0 k0 _ _ _ ++ kw_trees K t0 t1 t2 x0 n0 c0 _ _ _ ++ kw_nodes K n0 n1 x0 _ ++ kw_row K tk0 tk1 _ _ ++ kw_row K tv0 tv1 _ _) C (c_Chains_size l D K c0 x0 x1 x2 _ _ _ _ _ (by omega)) yw_Chains_size sel_Chains_size lk_Store_137 d_Store_put_65 rfl rfl rfl [6, 7, 8, 9] [0, 1, 2, 3, 4, 5, 10, 11, 12, 13] [0, 1, 2, 3, 4, 5, 10, 11, 12, 13, 6, 7, 8, 9] rfl rfl rfl rfl (by decide) rfl rfl rfl rfl rfl ⟨by decide, by decide⟩ ⟨by decide, by decide⟩ rfl (Nat.le_of_ble_eq_true rfl) ?_
    refine ks_top_size (fun u3 => ?_)
    refine ks_isubI C d_Store_put_68 ?_
    refine ks_istore_n C rfl (by decide) rfl d_Store_put_69 ?_
    refine ks_aload_n rfl rfl C d_Store_put_70 ?_
    refine ks_get (k := 5) C 0 8 in_Store rfl (by decide) fk_Store_35 rfl rfl rfl d_Store_put_71 ?_
    refine ks_bipush (a := 8) rfl C d_Store_put_74 ?_
    refine ks_cxW (ci := 1) (q0 := 0) (kw_store z0 tk0 tv0 gk0 gv0 d0 x0 m0 c0 t0 k0 _ _ _ ++ kw_trees K t0 t1 t2 x0 n0 c0 _ _ _ ++ kw_nodes K n0 n1 x0 _ ++ kw_chains c0 x0 _ _ ++ kw_pages K x0 x1 x2 _ _ ++ kw_row K tk0 tk1 _ _ ++ kw_row K tv0 tv1 _ _) (kw_store z0 tk0 tv0 gk0 gv0 d0 x0 m0 c0 t0 k0 _ _ _ ++ kw_trees K t0 t1 t2 x0 n0 c0 _ _ _ ++ kw_nodes K n0 n1 x0 _ ++ kw_chains c0 x0 _ _ ++ kw_row K tk0 tk1 _ _ ++ kw_row K tv0 tv1 _ _) C (c_Pages_number l D K x0 x1 x2 _ _ _ (by omega)) yw_Pages_number sel_Pages_number lk_Store_140 d_Store_put_76 rfl rfl rfl [7, 8, 9] [0, 1, 2, 3, 4, 5, 6, 10, 11, 12, 13] [0, 1, 2, 3, 4, 5, 6, 11, 12, 13, 7, 8, 9, 10] rfl rfl rfl rfl (by decide) rfl rfl rfl rfl rfl ⟨by decide, by decide⟩ ⟨by decide, by decide⟩ rfl (Nat.le_of_ble_eq_true rfl) ?_
    refine ks_top_num (fun u4 => ?_)
    refine ks_iload_n rfl rfl C d_Store_put_79 ?_
    refine ks_iaddI C d_Store_put_80 ?_
    rw [ks_as3 hz]
    refine ks_ldc ck_Store_143 C d_Store_put_81 ?_
    refine ks_icmp_le (tgt := 96) C (by omega) (by omega) (by decide) d_Store_put_83 (fun u5 => ?_) (fun u5 => ?_)
    · refine ks_iload_n rfl rfl C d_Store_put_96 ?_
      refine ks_if_eq (tgt := 118) C (by omega) (by decide) d_Store_put_97 (fun u6 => ?_) (fun u6 => ?_)
      · refine ks_aload_n rfl rfl C d_Store_put_118 ?_
        refine ks_get (k := 8) C 0 8 in_Store rfl (by decide) fk_Store_63 rfl rfl rfl d_Store_put_119 ?_
        refine ks_iload_n rfl rfl C d_Store_put_122 ?_
        refine ks_aload_n rfl rfl C d_Store_put_123 ?_
        refine ks_get (k := 0) C 0 8 in_Store rfl (by decide) fk_Store_12 rfl rfl rfl d_Store_put_124 ?_
        refine ks_aload_n rfl rfl C d_Store_put_127 ?_
        refine ks_get (k := 1) C 0 8 in_Store rfl (by decide) fk_Store_16 rfl rfl rfl d_Store_put_128 ?_
        refine ks_cvW (ci := 6) (q0 := 0) (kw_store z0 tk0 tv0 gk0 gv0 d0 x0 m0 c0 t0 k0 _ _ _ ++ kw_trees K t0 t1 t2 x0 n0 c0 _ _ _ ++ kw_nodes K n0 n1 x0 _ ++ kw_chains c0 x0 _ _ ++ kw_pages K x0 x1 x2 _ _ ++ kw_row K tk0 tk1 _ _ ++ kw_row K tv0 tv1 _ _) (kw_store z0 tk0 tv0 gk0 gv0 d0 x0 m0 c0 t0 k0 _ _ _) C (c_Trees_insertHere l D K t0 t1 t2 n0 n1 c0 x0 x1 x2 tk0 tk1 tv0 tv1 _ _ _ _ _ _ _ _ _ _ _ _ _ (by omega) (by omega) (by omega) (Nat.min_le_right _ _) (fun j => (kv_desc_all B Kb kl t pn ps hp hs j).1) (fun j => (kv_desc_all B Kb kl t pn ps hp hs j).2)) yw_Trees_insertHere sel_Trees_insertHere lk_Store_150 d_Store_put_131 rfl rfl rfl [1, 2, 3, 4, 5, 6, 7, 8, 9, 10, 11, 12, 13] [0] [0, 1, 2, 3, 4, 5, 6, 7, 8, 9, 10, 11, 12, 13] rfl rfl rfl rfl (by decide) rfl rfl rfl rfl rfl ⟨by decide, by decide⟩ ⟨by decide, by decide⟩ rfl (Nat.le_of_ble_eq_true rfl) ?_
        refine ks_iload_n rfl rfl C d_Store_put_134 ?_
        refine ks_if_eq (tgt := 142) C (by omega) (by decide) d_Store_put_135 (fun u7 => ?_) (fun u7 => ?_)
        · refine ks_iconstB false rfl C d_Store_put_142 ?_
          exact ks_iret C Z rfl (ks_nb1 _) d_Store_put_143 rfl rfl ⟨rfl, rfl⟩
        · exact (by omega : False).elim
      · exact (by omega : False).elim
    · exact (by omega : False).elim
  · exact (by omega : False).elim
set_option maxRecDepth 100000 in
set_option maxHeartbeats 4000000 in
theorem c_Store_put_old (l : Launch) (D : va_G) (K : Nat → ClassId) (z0 tk0 tv0 gk0 gv0 d0 x0 m0 c0 t0 k0 : Nat) (fnd : Bool) (t1 t2 n0 n1 x1 x2 pg ca top : Nat) (pn ps P : Nat → Nat) (B : Nat → UInt8) (G : Nat → Bool) (tk1 : Nat) (Kb : Nat → UInt8) (kl : Nat) (tv1 : Nat) (Vb : Nat → UInt8) (vl : Nat) (t : Nat) (h1 : kv_has B t = true) (h0 : t < 4294967296) (h2 : t < 64) (h3 : 1 ≤ kl) (h4 : kl ≤ 8448) (h5 : vl ≤ 8448) (hp : ∀ j, pn j < 65536) (hs : ∀ j, ps j < 65536) (hz : kv_size B (kv_look B Kb kl t pn ps) ≤ kv_num B 8 + (16 + kl + vl)) (h6 : kv_num B 8 + (16 + kl + vl) - kv_size B (kv_look B Kb kl t pn ps) ≤ 36864) (h7 : (kv_look B Kb kl t pn ps) ≠ 0) : ks_M l D (ks_T K) (ks_R 6) y_Store_put b_Store_put 4 (some .boolean) [.ref z0, .int (nI t)] (kw_store z0 tk0 tv0 gk0 gv0 d0 x0 m0 c0 t0 k0 fnd true true ++ kw_trees K t0 t1 t2 x0 n0 c0 pn ps top ++ kw_nodes K n0 n1 x0 P ++ kw_chains c0 x0 pg ca ++ kw_pages K x0 x1 x2 B G ++ kw_row K tk0 tk1 Kb kl ++ kw_row K tv0 tv1 Vb vl) (ks_f (some (.int (ks_b true))) (kw_store z0 tk0 tv0 gk0 gv0 d0 x0 m0 c0 t0 k0 fnd true true ++ kw_trees K t0 t1 t2 x0 n0 c0 (kv_desc B Kb kl t pn ps).1 (kv_desc B Kb kl t pn ps).2 (kv_level B (kv_root B t)) ++ kw_nodes K n0 n1 x0 P ++ kw_chains c0 x0 (kv_repl (B, G) ((kv_desc B Kb kl t pn ps).1 0) ((kv_desc B Kb kl t pn ps).2 0) Kb kl Vb vl).2.1 (kv_repl (B, G) ((kv_desc B Kb kl t pn ps).1 0) ((kv_desc B Kb kl t pn ps).2 0) Kb kl Vb vl).2.2 ++ kw_pages K x0 x1 x2 (kv_repl (B, G) ((kv_desc B Kb kl t pn ps).1 0) ((kv_desc B Kb kl t pn ps).2 0) Kb kl Vb vl).1.1 (kv_repl (B, G) ((kv_desc B Kb kl t pn ps).1 0) ((kv_desc B Kb kl t pn ps).2 0) Kb kl Vb vl).1.2 ++ kw_row K tk0 tk1 Kb kl ++ kw_row K tv0 tv1 Vb vl)) := by
  refine ks_M.of 2 (by decide) (Nat.le_of_ble_eq_true rfl) ?_
  intro E C Z
  refine ks_aload_n rfl rfl C d_Store_put_0 ?_
  refine ks_cvW (ci := 8) (q0 := 0) (kw_store z0 tk0 tv0 gk0 gv0 d0 x0 m0 c0 t0 k0 _ _ _ ++ kw_trees K t0 t1 t2 x0 n0 c0 _ _ _ ++ kw_nodes K n0 n1 x0 _ ++ kw_chains c0 x0 _ _ ++ kw_pages K x0 x1 x2 _ _ ++ kw_row K tk0 tk1 _ _ ++ kw_row K tv0 tv1 _ _) (kw_trees K t0 t1 t2 x0 n0 c0 _ _ _ ++ kw_nodes K n0 n1 x0 _ ++ kw_chains c0 x0 _ _ ++ kw_pages K x0 x1 x2 _ _ ++ kw_row K tk0 tk1 _ _ ++ kw_row K tv0 tv1 _ _) C (c_Store_demandOpen_ok l D K z0 tk0 tv0 gk0 gv0 d0 x0 m0 c0 t0 k0 _) yw_Store_demandOpen sel_Store_demandOpen lk_Store_109 d_Store_put_1 rfl rfl rfl [0] [1, 2, 3, 4, 5, 6, 7, 8, 9, 10, 11, 12, 13] [13, 0, 1, 2, 3, 4, 5, 6, 7, 8, 9, 10, 11, 12] rfl rfl rfl rfl (by decide) rfl rfl rfl rfl rfl ⟨by decide, by decide⟩ ⟨by decide, by decide⟩ rfl (Nat.le_of_ble_eq_true rfl) ?_
  refine ks_aload_n rfl rfl C d_Store_put_4 ?_
  refine ks_iload_n rfl rfl C d_Store_put_5 ?_
  refine ks_cvW (ci := 8) (q0 := 0) (kw_store z0 tk0 tv0 gk0 gv0 d0 x0 m0 c0 t0 k0 _ _ _ ++ kw_trees K t0 t1 t2 x0 n0 c0 _ _ _ ++ kw_nodes K n0 n1 x0 _ ++ kw_chains c0 x0 _ _ ++ kw_pages K x0 x1 x2 _ _ ++ kw_row K tk0 tk1 _ _ ++ kw_row K tv0 tv1 _ _) (kw_row K tk0 tk1 _ _ ++ kw_row K tv0 tv1 _ _) C (c_Store_demandTree_ok l D K z0 tk0 tv0 gk0 gv0 d0 x0 m0 c0 t0 k0 _ _ _ t1 t2 n0 n1 x1 x2 _ _ _ _ _ _ _ _ _ h1 (by omega)) yw_Store_demandTree sel_Store_demandTree lk_Store_124 d_Store_put_6 rfl rfl rfl [0, 1, 2, 3, 4, 5, 6, 7, 8, 9] [10, 11, 12, 13] [4, 5, 6, 7, 8, 9, 10, 11, 12, 13, 0, 1, 2, 3] rfl rfl rfl rfl (by decide) rfl rfl rfl rfl rfl ⟨by decide, by decide⟩ ⟨by decide, by decide⟩ rfl (Nat.le_of_ble_eq_true rfl) ?_
  refine ks_aload_n rfl rfl C d_Store_put_9 ?_
  refine ks_get (k := 0) C 0 8 in_Store rfl (by decide) fk_Store_12 rfl rfl rfl d_Store_put_10 ?_
  refine ks_cxW (ci := 0) (q0 := 0) (kw_store z0 tk0 tv0 gk0 gv0 d0 x0 m0 c0 t0 k0 _ _ _ ++ kw_trees K t0 t1 t2 x0 n0 c0 _ _ _ ++ kw_nodes K n0 n1 x0 _ ++ kw_chains c0 x0 _ _ ++ kw_pages K x0 x1 x2 _ _ ++ kw_row K tk0 tk1 _ _ ++ kw_row K tv0 tv1 _ _) (kw_store z0 tk0 tv0 gk0 gv0 d0 x0 m0 c0 t0 k0 _ _ _ ++ kw_trees K t0 t1 t2 x0 n0 c0 _ _ _ ++ kw_nodes K n0 n1 x0 _ ++ kw_chains c0 x0 _ _ ++ kw_pages K x0 x1 x2 _ _ ++ kw_row K tv0 tv1 _ _) C (c_Row_length l D K tk0 tk1 _ _) yw_Row_length sel_Row_length lk_Store_105 d_Store_put_13 rfl rfl rfl [10, 11] [0, 1, 2, 3, 4, 5, 6, 7, 8, 9, 12, 13] [0, 1, 2, 3, 4, 5, 6, 7, 8, 9, 12, 13, 10, 11] rfl rfl rfl rfl (by decide) rfl rfl rfl rfl rfl ⟨by decide, by decide⟩ ⟨by decide, by decide⟩ rfl (Nat.le_of_ble_eq_true rfl) ?_
  refine ks_if_ne (tgt := 29) C (by omega) (by decide) d_Store_put_16 (fun u1 => ?_) (fun u1 => ?_)
  · refine ks_aload_n rfl rfl C d_Store_put_29 ?_
    refine ks_get (k := 8) C 0 8 in_Store rfl (by decide) fk_Store_63 rfl rfl rfl d_Store_put_30 ?_
    refine ks_iload_n rfl rfl C d_Store_put_33 ?_
    refine ks_aload_n rfl rfl C d_Store_put_34 ?_
    refine ks_get (k := 0) C 0 8 in_Store rfl (by decide) fk_Store_12 rfl rfl rfl d_Store_put_35 ?_
    refine ks_cxW (ci := 6) (q0 := 0) (kw_store z0 tk0 tv0 gk0 gv0 d0 x0 m0 c0 t0 k0 _ _ _ ++ kw_trees K t0 t1 t2 x0 n0 c0 _ _ _ ++ kw_nodes K n0 n1 x0 _ ++ kw_chains c0 x0 _ _ ++ kw_pages K x0 x1 x2 _ _ ++ kw_row K tk0 tk1 _ _ ++ kw_row K tv0 tv1 _ _) (kw_store z0 tk0 tv0 gk0 gv0 d0 x0 m0 c0 t0 k0 _ _ _ ++ kw_row K tv0 tv1 _ _) C (c_Trees_lookUp l D K t0 t1 t2 n0 n1 c0 x0 x1 x2 tk0 tk1 _ _ _ _ _ _ _ _ _ _ _ (by omega) (by omega)) yw_Trees_lookUp sel_Trees_lookUp lk_Store_133 d_Store_put_38 rfl rfl rfl [1, 2, 3, 4, 5, 6, 7, 8, 9, 10, 11] [0, 12, 13] [0, 3, 4, 5, 6, 7, 8, 9, 10, 11, 12, 13, 1, 2] rfl rfl rfl rfl (by decide) rfl rfl rfl rfl rfl ⟨by decide, by decide⟩ ⟨by decide, by decide⟩ rfl (Nat.le_of_ble_eq_true rfl) ?_
    refine ks_top_look (fun u2 => ?_)
    refine ks_istore_n C rfl (by decide) rfl d_Store_put_41 ?_
    refine ks_bipush (a := 16) rfl C d_Store_put_42 ?_
    refine ks_aload_n rfl rfl C d_Store_put_44 ?_
    refine ks_get (k := 0) C 0 8 in_Store rfl (by decide) fk_Store_12 rfl rfl rfl d_Store_put_45 ?_
    refine ks_cxW (ci := 0) (q0 := 0) (kw_store z0 tk0 tv0 gk0 gv0 d0 x0 m0 c0 t0 k0 _ _ _ ++ kw_trees K t0 t1 t2 x0 n0 c0 _ _ _ ++ kw_nodes K n0 n1 x0 _ ++ kw_chains c0 x0 _ _ ++ kw_pages K x0 x1 x2 _ _ ++ kw_row K tk0 tk1 _ _ ++ kw_row K tv0 tv1 _ _) (kw_store z0 tk0 tv0 gk0 gv0 d0 x0 m0 c0 t0 k0 _ _ _ ++ kw_trees K t0 t1 t2 x0 n0 c0 _ _ _ ++ kw_nodes K n0 n1 x0 _ ++ kw_chains c0 x0 _ _ ++ kw_pages K x0 x1 x2 _ _ ++ kw_row K tv0 tv1 _ _) C (c_Row_length l D K tk0 tk1 _ _) yw_Row_length sel_Row_length lk_Store_105 d_Store_put_48 rfl rfl rfl [10, 11] [0, 1, 2, 3, 4, 5, 6, 7, 8, 9, 12, 13] [0, 1, 2, 3, 4, 5, 6, 7, 8, 9, 12, 13, 10, 11] rfl rfl rfl rfl (by decide) rfl rfl rfl rfl rfl ⟨by decide, by decide⟩ ⟨by decide, by decide⟩ rfl (Nat.le_of_ble_eq_true rfl) ?_
    refine ks_iadd C d_Store_put_51 ?_
    refine ks_aload_n rfl rfl C d_Store_put_52 ?_
    refine ks_get (k := 1) C 0 8 in_Store rfl (by decide) fk_Store_16 rfl rfl rfl d_Store_put_53 ?_
    refine ks_cxW (ci := 0) (q0 := 0) (kw_store z0 tk0 tv0 gk0 gv0 d0 x0 m0 c0 t0 k0 _ _ _ ++ kw_trees K t0 t1 t2 x0 n0 c0 _ _ _ ++ kw_nodes K n0 n1 x0 _ ++ kw_chains c0 x0 _ _ ++ kw_pages K x0 x1 x2 _ _ ++ kw_row K tk0 tk1 _ _ ++ kw_row K tv0 tv1 _ _) (kw_store z0 tk0 tv0 gk0 gv0 d0 x0 m0 c0 t0 k0 _ _ _ ++ kw_trees K t0 t1 t2 x0 n0 c0 _ _ _ ++ kw_nodes K n0 n1 x0 _ ++ kw_chains c0 x0 _ _ ++ kw_pages K x0 x1 x2 _ _ ++ kw_row K tk0 tk1 _ _) C (c_Row_length l D K tv0 tv1 _ _) yw_Row_length sel_Row_length lk_Store_105 d_Store_put_56 rfl rfl rfl [12, 13] [0, 1, 2, 3, 4, 5, 6, 7, 8, 9, 10, 11] [0, 1, 2, 3, 4, 5, 6, 7, 8, 9, 10, 11, 12, 13] rfl rfl rfl rfl (by decide) rfl rfl rfl rfl rfl ⟨by decide, by decide⟩ ⟨by decide, by decide⟩ rfl (Nat.le_of_ble_eq_true rfl) ?_
    refine ks_iadd C d_Store_put_59 ?_
    refine ks_aload_n rfl rfl C d_Store_put_60 ?_
    refine ks_get (k := 7) C 0 8 in_Store rfl (by decide) fk_Store_54 rfl rfl rfl d_Store_put_61 ?_
    refine ks_iload_n rfl rfl C d_Store_put_64 ?_
    refine ks_cxW (ci := 4) (q0 := 0) (kw_store z0 tk0 tv0 gk0 gv0 d0 x0 m0 c0 t0 k0 _ _ _ ++ kw_trees K t0 t1 t2 x0 n0 c0 _ _ _ ++ kw_nodes K n0 n1 x0 _ ++ kw_chains c0 x0 _ _ ++ kw_pages K x0 x1 x2 _ _ ++ kw_row K tk0 tk1 _ _ ++ kw_row K tv0 tv1 _ _) (kw_store z0 tk0 tv0 gk0 gv0 d0 x0 m0 c0 t0 k0 _ _ _ ++ kw_trees K t0 t1 t2 x0 n0 c0 _ _ _ ++ kw_nodes K n0 n1 x0 _ ++ kw_row K tk0 tk1 _ _ ++ kw_row K tv0 tv1 _ _) C (c_Chains_size l D K c0 x0 x1 x2 _ _ _ _ _ (by omega)) yw_Chains_size sel_Chains_size lk_Store_137 d_Store_put_65 rfl rfl rfl [6, 7, 8, 9] [0, 1, 2, 3, 4, 5, 10, 11, 12, 13] [0, 1, 2, 3, 4, 5, 10, 11, 12, 13, 6, 7, 8, 9] rfl rfl rfl rfl (by decide) rfl rfl rfl rfl rfl ⟨by decide, by decide⟩ ⟨by decide, by decide⟩ rfl (Nat.le_of_ble_eq_true rfl) ?_
    refine ks_top_size (fun u3 => ?_)
    refine ks_isubI C d_Store_put_68 ?_
    refine ks_istore_n C rfl (by decide) rfl d_Store_put_69 ?_
    refine ks_aload_n rfl rfl C d_Store_put_70 ?_
    refine ks_get (k := 5) C 0 8 in_Store rfl (by decide) fk_Store_35 rfl rfl rfl d_Store_put_71 ?_
    refine ks_bipush (a := 8) rfl C d_Store_put_74 ?_
    refine ks_cxW (ci := 1) (q0 := 0) (kw_store z0 tk0 tv0 gk0 gv0 d0 x0 m0 c0 t0 k0 _ _ _ ++ kw_trees K t0 t1 t2 x0 n0 c0 _ _ _ ++ kw_nodes K n0 n1 x0 _ ++ kw_chains c0 x0 _ _ ++ kw_pages K x0 x1 x2 _ _ ++ kw_row K tk0 tk1 _ _ ++ kw_row K tv0 tv1 _ _) (kw_store z0 tk0 tv0 gk0 gv0 d0 x0 m0 c0 t0 k0 _ _ _ ++ kw_trees K t0 t1 t2 x0 n0 c0 _ _ _ ++ kw_nodes K n0 n1 x0 _ ++ kw_chains c0 x0 _ _ ++ kw_row K tk0 tk1 _ _ ++ kw_row K tv0 tv1 _ _) C (c_Pages_number l D K x0 x1 x2 _ _ _ (by omega)) yw_Pages_number sel_Pages_number lk_Store_140 d_Store_put_76 rfl rfl rfl [7, 8, 9] [0, 1, 2, 3, 4, 5, 6, 10, 11, 12, 13] [0, 1, 2, 3, 4, 5, 6, 11, 12, 13, 7, 8, 9, 10] rfl rfl rfl rfl (by decide) rfl rfl rfl rfl rfl ⟨by decide, by decide⟩ ⟨by decide, by decide⟩ rfl (Nat.le_of_ble_eq_true rfl) ?_
    refine ks_top_num (fun u4 => ?_)
    refine ks_iload_n rfl rfl C d_Store_put_79 ?_
    refine ks_iaddI C d_Store_put_80 ?_
    rw [ks_as3 hz]
    refine ks_ldc ck_Store_143 C d_Store_put_81 ?_
    refine ks_icmp_le (tgt := 96) C (by omega) (by omega) (by decide) d_Store_put_83 (fun u5 => ?_) (fun u5 => ?_)
    · refine ks_iload_n rfl rfl C d_Store_put_96 ?_
      refine ks_if_eq (tgt := 118) C (by omega) (by decide) d_Store_put_97 (fun u6 => ?_) (fun u6 => ?_)
      · exact (by omega : False).elim
      · refine ks_aload_n rfl rfl C d_Store_put_100 ?_
        refine ks_get (k := 8) C 0 8 in_Store rfl (by decide) fk_Store_63 rfl rfl rfl d_Store_put_101 ?_
        refine ks_aload_n rfl rfl C d_Store_put_104 ?_
        refine ks_get (k := 0) C 0 8 in_Store rfl (by decide) fk_Store_12 rfl rfl rfl d_Store_put_105 ?_
        refine ks_aload_n rfl rfl C d_Store_put_108 ?_
        refine ks_get (k := 1) C 0 8 in_Store rfl (by decide) fk_Store_16 rfl rfl rfl d_Store_put_109 ?_
        refine ks_cvW (ci := 6) (q0 := 0) (kw_store z0 tk0 tv0 gk0 gv0 d0 x0 m0 c0 t0 k0 _ _ _ ++ kw_trees K t0 t1 t2 x0 n0 c0 _ _ _ ++ kw_nodes K n0 n1 x0 _ ++ kw_chains c0 x0 _ _ ++ kw_pages K x0 x1 x2 _ _ ++ kw_row K tk0 tk1 _ _ ++ kw_row K tv0 tv1 _ _) (kw_store z0 tk0 tv0 gk0 gv0 d0 x0 m0 c0 t0 k0 _ _ _) C (c_Trees_replaceHere l D K t0 t1 t2 n0 n1 c0 x0 x1 x2 tk0 tk1 tv0 tv1 _ _ _ _ _ _ _ _ _ _ _ _ (by omega) (by omega) (fun j => (kv_desc_all B Kb kl t pn ps hp hs j).1) (fun j => (kv_desc_all B Kb kl t pn ps hp hs j).2)) yw_Trees_replaceHere sel_Trees_replaceHere lk_Store_146 d_Store_put_112 rfl rfl rfl [1, 2, 3, 4, 5, 6, 7, 8, 9, 10, 11, 12, 13] [0] [0, 1, 2, 3, 4, 5, 6, 7, 8, 9, 10, 11, 12, 13] rfl rfl rfl rfl (by decide) rfl rfl rfl rfl rfl ⟨by decide, by decide⟩ ⟨by decide, by decide⟩ rfl (Nat.le_of_ble_eq_true rfl) ?_
        refine ks_goto (tgt := 134) C (by decide) d_Store_put_115 ?_
        refine ks_iload_n rfl rfl C d_Store_put_134 ?_
        refine ks_if_eq (tgt := 142) C (by omega) (by decide) d_Store_put_135 (fun u7 => ?_) (fun u7 => ?_)
        · exact (by omega : False).elim
        · refine ks_iconstB true rfl C d_Store_put_138 ?_
          refine ks_goto (tgt := 143) C (by decide) d_Store_put_139 ?_
          exact ks_iret C Z rfl (ks_nb1 _) d_Store_put_143 rfl rfl ⟨rfl, rfl⟩
    · exact (by omega : False).elim
  · exact (by omega : False).elim
set_option maxRecDepth 100000 in
set_option maxHeartbeats 4000000 in
theorem c_Store_remove_T1 (l : Launch) (hNT : l.stackTraces = false) (D : va_G) (K : Nat → ClassId) (z0 tk0 tv0 gk0 gv0 d0 x0 m0 c0 t0 k0 : Nat) (fnd opn : Bool) (t : Nat) : kt_M l D (ks_T K) (kt_R 7) y_Store_remove b_Store_remove 3 (some .boolean) [.ref z0, .int (nI t)] (kw_store z0 tk0 tv0 gk0 gv0 d0 x0 m0 c0 t0 k0 fnd false opn) "java/lang/IllegalStateException" (kw_store z0 tk0 tv0 gk0 gv0 d0 x0 m0 c0 t0 k0 fnd false opn) := by
  refine kt_M.of hNT 1 (by decide) (Nat.le_of_ble_eq_true rfl) ?_
  intro E C Kt Z
  refine ks_aload_n rfl rfl C d_Store_remove_0 ?_
  exact ks_callTW (ci := 8) (q0 := 0) ([] : va_W) C Kt Z (c_Store_demandOpen_T1 l hNT D K z0 tk0 tv0 gk0 gv0 d0 x0 m0 c0 t0 k0 _ _) yw_Store_demandOpen sel_Store_demandOpen lk_Store_109 d_Store_remove_1 rfl rfl rfl [0] [] [0] rfl rfl rfl rfl (by decide) rfl rfl rfl rfl ⟨by decide, by decide⟩ ⟨by decide, by decide⟩ (Nat.le_of_ble_eq_true rfl) rfl rfl
set_option maxRecDepth 100000 in
set_option maxHeartbeats 4000000 in
theorem c_Store_remove_T2 (l : Launch) (hNT : l.stackTraces = false) (D : va_G) (K : Nat → ClassId) (z0 tk0 tv0 gk0 gv0 d0 x0 m0 c0 t0 k0 : Nat) (fnd : Bool) (t : Nat) : kt_M l D (ks_T K) (kt_R 7) y_Store_remove b_Store_remove 3 (some .boolean) [.ref z0, .int (nI t)] (kw_store z0 tk0 tv0 gk0 gv0 d0 x0 m0 c0 t0 k0 fnd true false) "java/lang/IllegalStateException" (kw_store z0 tk0 tv0 gk0 gv0 d0 x0 m0 c0 t0 k0 fnd true false) := by
  refine kt_M.of hNT 1 (by decide) (Nat.le_of_ble_eq_true rfl) ?_
  intro E C Kt Z
  refine ks_aload_n rfl rfl C d_Store_remove_0 ?_
  exact ks_callTW (ci := 8) (q0 := 0) ([] : va_W) C Kt Z (c_Store_demandOpen_T2 l hNT D K z0 tk0 tv0 gk0 gv0 d0 x0 m0 c0 t0 k0 _) yw_Store_demandOpen sel_Store_demandOpen lk_Store_109 d_Store_remove_1 rfl rfl rfl [0] [] [0] rfl rfl rfl rfl (by decide) rfl rfl rfl rfl ⟨by decide, by decide⟩ ⟨by decide, by decide⟩ (Nat.le_of_ble_eq_true rfl) rfl rfl
set_option maxRecDepth 100000 in
set_option maxHeartbeats 4000000 in
theorem c_Store_remove_T3 (l : Launch) (hNT : l.stackTraces = false) (D : va_G) (K : Nat → ClassId) (z0 tk0 tv0 gk0 gv0 d0 x0 m0 c0 t0 k0 : Nat) (fnd : Bool) (t1 t2 n0 n1 x1 x2 pg ca top : Nat) (pn ps P : Nat → Nat) (B : Nat → UInt8) (G : Nat → Bool) (t : Nat) (h1 : kv_has B t = false) (h0 : t < 4294967296) : kt_M l D (ks_T K) (kt_R 7) y_Store_remove b_Store_remove 3 (some .boolean) [.ref z0, .int (nI t)] (kw_store z0 tk0 tv0 gk0 gv0 d0 x0 m0 c0 t0 k0 fnd true true ++ kw_trees K t0 t1 t2 x0 n0 c0 pn ps top ++ kw_nodes K n0 n1 x0 P ++ kw_chains c0 x0 pg ca ++ kw_pages K x0 x1 x2 B G) "java/util/NoSuchElementException" (kw_store z0 tk0 tv0 gk0 gv0 d0 x0 m0 c0 t0 k0 fnd true true ++ kw_trees K t0 t1 t2 x0 n0 c0 pn ps top ++ kw_nodes K n0 n1 x0 P ++ kw_chains c0 x0 pg ca ++ kw_pages K x0 x1 x2 B G) := by
  refine kt_M.of hNT 1 (by decide) (Nat.le_of_ble_eq_true rfl) ?_
  intro E C Kt Z
  refine ks_aload_n rfl rfl C d_Store_remove_0 ?_
  refine ks_cvW (ci := 8) (q0 := 0) (kw_store z0 tk0 tv0 gk0 gv0 d0 x0 m0 c0 t0 k0 _ _ _ ++ kw_trees K t0 t1 t2 x0 n0 c0 _ _ _ ++ kw_nodes K n0 n1 x0 _ ++ kw_chains c0 x0 _ _ ++ kw_pages K x0 x1 x2 _ _) (kw_trees K t0 t1 t2 x0 n0 c0 _ _ _ ++ kw_nodes K n0 n1 x0 _ ++ kw_chains c0 x0 _ _ ++ kw_pages K x0 x1 x2 _ _) C (c_Store_demandOpen_ok l D K z0 tk0 tv0 gk0 gv0 d0 x0 m0 c0 t0 k0 _) yw_Store_demandOpen sel_Store_demandOpen lk_Store_109 d_Store_remove_1 rfl rfl rfl [0] [1, 2, 3, 4, 5, 6, 7, 8, 9] [9, 0, 1, 2, 3, 4, 5, 6, 7, 8] rfl rfl rfl rfl (by decide) rfl rfl rfl rfl rfl ⟨by decide, by decide⟩ ⟨by decide, by decide⟩ rfl (Nat.le_of_ble_eq_true rfl) ?_
  refine ks_aload_n rfl rfl C d_Store_remove_4 ?_
  refine ks_iload_n rfl rfl C d_Store_remove_5 ?_
  exact ks_callTW (ci := 8) (q0 := 0) ([] : va_W) C Kt Z (c_Store_demandTree_T l hNT D K z0 tk0 tv0 gk0 gv0 d0 x0 m0 c0 t0 k0 _ _ _ t1 t2 n0 n1 x1 x2 _ _ _ _ _ _ _ _ _ h1 (by omega)) yw_Store_demandTree sel_Store_demandTree lk_Store_124 d_Store_remove_6 rfl rfl rfl [0, 1, 2, 3, 4, 5, 6, 7, 8, 9] [] [0, 1, 2, 3, 4, 5, 6, 7, 8, 9] rfl rfl rfl rfl (by decide) rfl rfl rfl rfl ⟨by decide, by decide⟩ ⟨by decide, by decide⟩ (Nat.le_of_ble_eq_true rfl) rfl rfl
set_option maxRecDepth 100000 in
set_option maxHeartbeats 4000000 in
theorem c_Store_remove_no (l : Launch) (D : va_G) (K : Nat → ClassId) (z0 tk0 tv0 gk0 gv0 d0 x0 m0 c0 t0 k0 : Nat) (fnd : Bool) (t1 t2 n0 n1 x1 x2 pg ca top : Nat) (pn ps P : Nat → Nat) (B : Nat → UInt8) (G : Nat → Bool) (tk1 : Nat) (Kb : Nat → UInt8) (kl : Nat) (t : Nat) (h1 : kv_has B t = true) (h0 : t < 4294967296) (h2 : t < 64) (h4 : kl ≤ 8448) (hp : ∀ j, pn j < 65536) (hs : ∀ j, ps j < 65536) (h7 : (kv_look B Kb kl t pn ps) = 0) : ks_M l D (ks_T K) (ks_R 5) y_Store_remove b_Store_remove 3 (some .boolean) [.ref z0, .int (nI t)] (kw_store z0 tk0 tv0 gk0 gv0 d0 x0 m0 c0 t0 k0 fnd true true ++ kw_trees K t0 t1 t2 x0 n0 c0 pn ps top ++ kw_nodes K n0 n1 x0 P ++ kw_chains c0 x0 pg ca ++ kw_pages K x0 x1 x2 B G ++ kw_row K tk0 tk1 Kb kl) (ks_f (some (.int (ks_b false))) (kw_store z0 tk0 tv0 gk0 gv0 d0 x0 m0 c0 t0 k0 fnd true true ++ kw_trees K t0 t1 t2 x0 n0 c0 (kv_desc B Kb kl t pn ps).1 (kv_desc B Kb kl t pn ps).2 (kv_level B (kv_root B t)) ++ kw_nodes K n0 n1 x0 P ++ kw_chains c0 x0 pg ca ++ kw_pages K x0 x1 x2 B G ++ kw_row K tk0 tk1 Kb kl)) := by
  refine ks_M.of 1 (by decide) (Nat.le_of_ble_eq_true rfl) ?_
  intro E C Z
  refine ks_aload_n rfl rfl C d_Store_remove_0 ?_
  refine ks_cvW (ci := 8) (q0 := 0) (kw_store z0 tk0 tv0 gk0 gv0 d0 x0 m0 c0 t0 k0 _ _ _ ++ kw_trees K t0 t1 t2 x0 n0 c0 _ _ _ ++ kw_nodes K n0 n1 x0 _ ++ kw_chains c0 x0 _ _ ++ kw_pages K x0 x1 x2 _ _ ++ kw_row K tk0 tk1 _ _) (kw_trees K t0 t1 t2 x0 n0 c0 _ _ _ ++ kw_nodes K n0 n1 x0 _ ++ kw_chains c0 x0 _ _ ++ kw_pages K x0 x1 x2 _ _ ++ kw_row K tk0 tk1 _ _) C (c_Store_demandOpen_ok l D K z0 tk0 tv0 gk0 gv0 d0 x0 m0 c0 t0 k0 _) yw_Store_demandOpen sel_Store_demandOpen lk_Store_109 d_Store_remove_1 rfl rfl rfl [0] [1, 2, 3, 4, 5, 6, 7, 8, 9, 10, 11] [11, 0, 1, 2, 3, 4, 5, 6, 7, 8, 9, 10] rfl rfl rfl rfl (by decide) rfl rfl rfl rfl rfl ⟨by decide, by decide⟩ ⟨by decide, by decide⟩ rfl (Nat.le_of_ble_eq_true rfl) ?_
  refine ks_aload_n rfl rfl C d_Store_remove_4 ?_
  refine ks_iload_n rfl rfl C d_Store_remove_5 ?_
  refine ks_cvW (ci := 8) (q0 := 0) (kw_store z0 tk0 tv0 gk0 gv0 d0 x0 m0 c0 t0 k0 _ _ _ ++ kw_trees K t0 t1 t2 x0 n0 c0 _ _ _ ++ kw_nodes K n0 n1 x0 _ ++ kw_chains c0 x0 _ _ ++ kw_pages K x0 x1 x2 _ _ ++ kw_row K tk0 tk1 _ _) (kw_row K tk0 tk1 _ _) C (c_Store_demandTree_ok l D K z0 tk0 tv0 gk0 gv0 d0 x0 m0 c0 t0 k0 _ _ _ t1 t2 n0 n1 x1 x2 _ _ _ _ _ _ _ _ _ h1 (by omega)) yw_Store_demandTree sel_Store_demandTree lk_Store_124 d_Store_remove_6 rfl rfl rfl [0, 1, 2, 3, 4, 5, 6, 7, 8, 9] [10, 11] [2, 3, 4, 5, 6, 7, 8, 9, 10, 11, 0, 1] rfl rfl rfl rfl (by decide) rfl rfl rfl rfl rfl ⟨by decide, by decide⟩ ⟨by decide, by decide⟩ rfl (Nat.le_of_ble_eq_true rfl) ?_
  refine ks_aload_n rfl rfl C d_Store_remove_9 ?_
  refine ks_get (k := 8) C 0 8 in_Store rfl (by decide) fk_Store_63 rfl rfl rfl d_Store_remove_10 ?_
  refine ks_iload_n rfl rfl C d_Store_remove_13 ?_
  refine ks_aload_n rfl rfl C d_Store_remove_14 ?_
  refine ks_get (k := 0) C 0 8 in_Store rfl (by decide) fk_Store_12 rfl rfl rfl d_Store_remove_15 ?_
  refine ks_cxW (ci := 6) (q0 := 0) (kw_store z0 tk0 tv0 gk0 gv0 d0 x0 m0 c0 t0 k0 _ _ _ ++ kw_trees K t0 t1 t2 x0 n0 c0 _ _ _ ++ kw_nodes K n0 n1 x0 _ ++ kw_chains c0 x0 _ _ ++ kw_pages K x0 x1 x2 _ _ ++ kw_row K tk0 tk1 _ _) (kw_store z0 tk0 tv0 gk0 gv0 d0 x0 m0 c0 t0 k0 _ _ _) C (c_Trees_lookUp l D K t0 t1 t2 n0 n1 c0 x0 x1 x2 tk0 tk1 _ _ _ _ _ _ _ _ _ _ _ (by omega) (by omega)) yw_Trees_lookUp sel_Trees_lookUp lk_Store_133 d_Store_remove_18 rfl rfl rfl [1, 2, 3, 4, 5, 6, 7, 8, 9, 10, 11] [0] [0, 1, 2, 3, 4, 5, 6, 7, 8, 9, 10, 11] rfl rfl rfl rfl (by decide) rfl rfl rfl rfl rfl ⟨by decide, by decide⟩ ⟨by decide, by decide⟩ rfl (Nat.le_of_ble_eq_true rfl) ?_
  refine ks_top_look (fun u1 => ?_)
  refine ks_istore_n C rfl (by decide) rfl d_Store_remove_21 ?_
  refine ks_iload_n rfl rfl C d_Store_remove_22 ?_
  refine ks_if_eq (tgt := 34) C (by omega) (by decide) d_Store_remove_23 (fun u2 => ?_) (fun u2 => ?_)
  · refine ks_iload_n rfl rfl C d_Store_remove_34 ?_
    refine ks_if_eq (tgt := 42) C (by omega) (by decide) d_Store_remove_35 (fun u3 => ?_) (fun u3 => ?_)
    · refine ks_iconstB false rfl C d_Store_remove_42 ?_
      exact ks_iret C Z rfl (ks_nb1 _) d_Store_remove_43 rfl rfl ⟨rfl, rfl⟩
    · exact (by omega : False).elim
  · exact (by omega : False).elim
set_option maxRecDepth 100000 in
set_option maxHeartbeats 4000000 in
theorem c_Store_remove_ok (l : Launch) (D : va_G) (K : Nat → ClassId) (z0 tk0 tv0 gk0 gv0 d0 x0 m0 c0 t0 k0 : Nat) (fnd : Bool) (t1 t2 n0 n1 x1 x2 pg ca top : Nat) (pn ps P : Nat → Nat) (B : Nat → UInt8) (G : Nat → Bool) (tk1 : Nat) (Kb : Nat → UInt8) (kl : Nat) (t : Nat) (h1 : kv_has B t = true) (h0 : t < 4294967296) (h2 : t < 64) (h4 : kl ≤ 8448) (hp : ∀ j, pn j < 65536) (hs : ∀ j, ps j < 65536) (h7 : (kv_look B Kb kl t pn ps) ≠ 0) : ks_M l D (ks_T K) (ks_R 6) y_Store_remove b_Store_remove 3 (some .boolean) [.ref z0, .int (nI t)] (kw_store z0 tk0 tv0 gk0 gv0 d0 x0 m0 c0 t0 k0 fnd true true ++ kw_trees K t0 t1 t2 x0 n0 c0 pn ps top ++ kw_nodes K n0 n1 x0 P ++ kw_chains c0 x0 pg ca ++ kw_pages K x0 x1 x2 B G ++ kw_row K tk0 tk1 Kb kl) (ks_f (some (.int (ks_b true))) (kw_store z0 tk0 tv0 gk0 gv0 d0 x0 m0 c0 t0 k0 fnd true true ++ kw_trees K t0 t1 t2 x0 n0 c0 (kv_desc B Kb kl t pn ps).1 (kv_desc B Kb kl t pn ps).2 (kv_level B (kv_root B t)) ++ kw_nodes K n0 n1 x0 (kv_delH (B, G) P t (kv_level B (kv_root B t)) (kv_desc B Kb kl t pn ps).1 (kv_desc B Kb kl t pn ps).2).2 ++ kw_chains c0 x0 pg ca ++ kw_pages K x0 x1 x2 (kv_delH (B, G) P t (kv_level B (kv_root B t)) (kv_desc B Kb kl t pn ps).1 (kv_desc B Kb kl t pn ps).2).1.1 (kv_delH (B, G) P t (kv_level B (kv_root B t)) (kv_desc B Kb kl t pn ps).1 (kv_desc B Kb kl t pn ps).2).1.2 ++ kw_row K tk0 tk1 Kb kl)) := by
  refine ks_M.of 1 (by decide) (Nat.le_of_ble_eq_true rfl) ?_
  intro E C Z
  refine ks_aload_n rfl rfl C d_Store_remove_0 ?_
  refine ks_cvW (ci := 8) (q0 := 0) (kw_store z0 tk0 tv0 gk0 gv0 d0 x0 m0 c0 t0 k0 _ _ _ ++ kw_trees K t0 t1 t2 x0 n0 c0 _ _ _ ++ kw_nodes K n0 n1 x0 _ ++ kw_chains c0 x0 _ _ ++ kw_pages K x0 x1 x2 _ _ ++ kw_row K tk0 tk1 _ _) (kw_trees K t0 t1 t2 x0 n0 c0 _ _ _ ++ kw_nodes K n0 n1 x0 _ ++ kw_chains c0 x0 _ _ ++ kw_pages K x0 x1 x2 _ _ ++ kw_row K tk0 tk1 _ _) C (c_Store_demandOpen_ok l D K z0 tk0 tv0 gk0 gv0 d0 x0 m0 c0 t0 k0 _) yw_Store_demandOpen sel_Store_demandOpen lk_Store_109 d_Store_remove_1 rfl rfl rfl [0] [1, 2, 3, 4, 5, 6, 7, 8, 9, 10, 11] [11, 0, 1, 2, 3, 4, 5, 6, 7, 8, 9, 10] rfl rfl rfl rfl (by decide) rfl rfl rfl rfl rfl ⟨by decide, by decide⟩ ⟨by decide, by decide⟩ rfl (Nat.le_of_ble_eq_true rfl) ?_
  refine ks_aload_n rfl rfl C d_Store_remove_4 ?_
  refine ks_iload_n rfl rfl C d_Store_remove_5 ?_
  refine ks_cvW (ci := 8) (q0 := 0) (kw_store z0 tk0 tv0 gk0 gv0 d0 x0 m0 c0 t0 k0 _ _ _ ++ kw_trees K t0 t1 t2 x0 n0 c0 _ _ _ ++ kw_nodes K n0 n1 x0 _ ++ kw_chains c0 x0 _ _ ++ kw_pages K x0 x1 x2 _ _ ++ kw_row K tk0 tk1 _ _) (kw_row K tk0 tk1 _ _) C (c_Store_demandTree_ok l D K z0 tk0 tv0 gk0 gv0 d0 x0 m0 c0 t0 k0 _ _ _ t1 t2 n0 n1 x1 x2 _ _ _ _ _ _ _ _ _ h1 (by omega)) yw_Store_demandTree sel_Store_demandTree lk_Store_124 d_Store_remove_6 rfl rfl rfl [0, 1, 2, 3, 4, 5, 6, 7, 8, 9] [10, 11] [2, 3, 4, 5, 6, 7, 8, 9, 10, 11, 0, 1] rfl rfl rfl rfl (by decide) rfl rfl rfl rfl rfl ⟨by decide, by decide⟩ ⟨by decide, by decide⟩ rfl (Nat.le_of_ble_eq_true rfl) ?_
  refine ks_aload_n rfl rfl C d_Store_remove_9 ?_
  refine ks_get (k := 8) C 0 8 in_Store rfl (by decide) fk_Store_63 rfl rfl rfl d_Store_remove_10 ?_
  refine ks_iload_n rfl rfl C d_Store_remove_13 ?_
  refine ks_aload_n rfl rfl C d_Store_remove_14 ?_
  refine ks_get (k := 0) C 0 8 in_Store rfl (by decide) fk_Store_12 rfl rfl rfl d_Store_remove_15 ?_
  refine ks_cxW (ci := 6) (q0 := 0) (kw_store z0 tk0 tv0 gk0 gv0 d0 x0 m0 c0 t0 k0 _ _ _ ++ kw_trees K t0 t1 t2 x0 n0 c0 _ _ _ ++ kw_nodes K n0 n1 x0 _ ++ kw_chains c0 x0 _ _ ++ kw_pages K x0 x1 x2 _ _ ++ kw_row K tk0 tk1 _ _) (kw_store z0 tk0 tv0 gk0 gv0 d0 x0 m0 c0 t0 k0 _ _ _) C (c_Trees_lookUp l D K t0 t1 t2 n0 n1 c0 x0 x1 x2 tk0 tk1 _ _ _ _ _ _ _ _ _ _ _ (by omega) (by omega)) yw_Trees_lookUp sel_Trees_lookUp lk_Store_133 d_Store_remove_18 rfl rfl rfl [1, 2, 3, 4, 5, 6, 7, 8, 9, 10, 11] [0] [0, 1, 2, 3, 4, 5, 6, 7, 8, 9, 10, 11] rfl rfl rfl rfl (by decide) rfl rfl rfl rfl rfl ⟨by decide, by decide⟩ ⟨by decide, by decide⟩ rfl (Nat.le_of_ble_eq_true rfl) ?_
  refine ks_top_look (fun u1 => ?_)
  refine ks_istore_n C rfl (by decide) rfl d_Store_remove_21 ?_
  refine ks_iload_n rfl rfl C d_Store_remove_22 ?_
  refine ks_if_eq (tgt := 34) C (by omega) (by decide) d_Store_remove_23 (fun u2 => ?_) (fun u2 => ?_)
  · exact (by omega : False).elim
  · refine ks_aload_n rfl rfl C d_Store_remove_26 ?_
    refine ks_get (k := 8) C 0 8 in_Store rfl (by decide) fk_Store_63 rfl rfl rfl d_Store_remove_27 ?_
    refine ks_iload_n rfl rfl C d_Store_remove_30 ?_
    refine ks_cvW (ci := 6) (q0 := 0) (kw_store z0 tk0 tv0 gk0 gv0 d0 x0 m0 c0 t0 k0 _ _ _ ++ kw_trees K t0 t1 t2 x0 n0 c0 _ _ _ ++ kw_nodes K n0 n1 x0 _ ++ kw_chains c0 x0 _ _ ++ kw_pages K x0 x1 x2 _ _ ++ kw_row K tk0 tk1 _ _) (kw_store z0 tk0 tv0 gk0 gv0 d0 x0 m0 c0 t0 k0 _ _ _ ++ kw_row K tk0 tk1 _ _) C (c_Trees_deleteHere l D K t0 t1 t2 n0 n1 c0 x0 x1 x2 _ _ _ _ _ _ _ _ _ (by omega) (Nat.min_le_right _ _) (fun j => (kv_desc_all B Kb kl t pn ps hp hs j).1) (fun j => (kv_desc_all B Kb kl t pn ps hp hs j).2)) yw_Trees_deleteHere sel_Trees_deleteHere lk_Store_154 d_Store_remove_31 rfl rfl rfl [1, 2, 3, 4, 5, 6, 7, 8, 9] [0, 10, 11] [0, 3, 4, 5, 6, 7, 8, 9, 10, 11, 1, 2] rfl rfl rfl rfl (by decide) rfl rfl rfl rfl rfl ⟨by decide, by decide⟩ ⟨by decide, by decide⟩ rfl (Nat.le_of_ble_eq_true rfl) ?_
    refine ks_iload_n rfl rfl C d_Store_remove_34 ?_
    refine ks_if_eq (tgt := 42) C (by omega) (by decide) d_Store_remove_35 (fun u3 => ?_) (fun u3 => ?_)
    · exact (by omega : False).elim
    · refine ks_iconstB true rfl C d_Store_remove_38 ?_
      refine ks_goto (tgt := 43) C (by decide) d_Store_remove_39 ?_
      exact ks_iret C Z rfl (ks_nb1 _) d_Store_remove_43 rfl rfl ⟨rfl, rfl⟩
set_option maxRecDepth 100000 in
set_option maxHeartbeats 4000000 in
theorem c_Store_seek_T1 (l : Launch) (hNT : l.stackTraces = false) (D : va_G) (K : Nat → ClassId) (z0 tk0 tv0 gk0 gv0 d0 x0 m0 c0 t0 k0 : Nat) (fnd opn : Bool) (t : Nat) (after : Bool) : kt_M l D (ks_T K) (kt_R 7) y_Store_seek b_Store_seek 4 (some .boolean) [.ref z0, .int (nI t), .int (ks_b after)] (kw_store z0 tk0 tv0 gk0 gv0 d0 x0 m0 c0 t0 k0 fnd false opn) "java/lang/IllegalStateException" (kw_store z0 tk0 tv0 gk0 gv0 d0 x0 m0 c0 t0 k0 fnd false opn) := by
  refine kt_M.of hNT 1 (by decide) (Nat.le_of_ble_eq_true rfl) ?_
  intro E C Kt Z
  refine ks_aload_n rfl rfl C d_Store_seek_0 ?_
  exact ks_callTW (ci := 8) (q0 := 0) ([] : va_W) C Kt Z (c_Store_demandOn_T l hNT D K z0 tk0 tv0 gk0 gv0 d0 x0 m0 c0 t0 k0 _ _) yw_Store_demandOn sel_Store_demandOn lk_Store_157 d_Store_seek_1 rfl rfl rfl [0] [] [0] rfl rfl rfl rfl (by decide) rfl rfl rfl rfl ⟨by decide, by decide⟩ ⟨by decide, by decide⟩ (Nat.le_of_ble_eq_true rfl) rfl rfl
set_option maxRecDepth 100000 in
set_option maxHeartbeats 4000000 in
theorem c_Store_seek_T3 (l : Launch) (hNT : l.stackTraces = false) (D : va_G) (K : Nat → ClassId) (z0 tk0 tv0 gk0 gv0 d0 x0 m0 c0 t0 k0 : Nat) (fnd opn : Bool) (t1 t2 n0 n1 x1 x2 pg ca top : Nat) (pn ps P : Nat → Nat) (B : Nat → UInt8) (G : Nat → Bool) (t : Nat) (after : Bool) (h1 : kv_has B t = false) (h0 : t < 4294967296) : kt_M l D (ks_T K) (kt_R 7) y_Store_seek b_Store_seek 4 (some .boolean) [.ref z0, .int (nI t), .int (ks_b after)] (kw_store z0 tk0 tv0 gk0 gv0 d0 x0 m0 c0 t0 k0 fnd true opn ++ kw_trees K t0 t1 t2 x0 n0 c0 pn ps top ++ kw_nodes K n0 n1 x0 P ++ kw_chains c0 x0 pg ca ++ kw_pages K x0 x1 x2 B G) "java/util/NoSuchElementException" (kw_store z0 tk0 tv0 gk0 gv0 d0 x0 m0 c0 t0 k0 fnd true opn ++ kw_trees K t0 t1 t2 x0 n0 c0 pn ps top ++ kw_nodes K n0 n1 x0 P ++ kw_chains c0 x0 pg ca ++ kw_pages K x0 x1 x2 B G) := by
  refine kt_M.of hNT 1 (by decide) (Nat.le_of_ble_eq_true rfl) ?_
  intro E C Kt Z
  refine ks_aload_n rfl rfl C d_Store_seek_0 ?_
  refine ks_cvW (ci := 8) (q0 := 0) (kw_store z0 tk0 tv0 gk0 gv0 d0 x0 m0 c0 t0 k0 _ _ _ ++ kw_trees K t0 t1 t2 x0 n0 c0 _ _ _ ++ kw_nodes K n0 n1 x0 _ ++ kw_chains c0 x0 _ _ ++ kw_pages K x0 x1 x2 _ _) (kw_trees K t0 t1 t2 x0 n0 c0 _ _ _ ++ kw_nodes K n0 n1 x0 _ ++ kw_chains c0 x0 _ _ ++ kw_pages K x0 x1 x2 _ _) C (c_Store_demandOn_ok l D K z0 tk0 tv0 gk0 gv0 d0 x0 m0 c0 t0 k0 _ _) yw_Store_demandOn sel_Store_demandOn lk_Store_157 d_Store_seek_1 rfl rfl rfl [0] [1, 2, 3, 4, 5, 6, 7, 8, 9] [9, 0, 1, 2, 3, 4, 5, 6, 7, 8] rfl rfl rfl rfl (by decide) rfl rfl rfl rfl rfl ⟨by decide, by decide⟩ ⟨by decide, by decide⟩ rfl (Nat.le_of_ble_eq_true rfl) ?_
  refine ks_aload_n rfl rfl C d_Store_seek_4 ?_
  refine ks_iload_n rfl rfl C d_Store_seek_5 ?_
  exact ks_callTW (ci := 8) (q0 := 0) ([] : va_W) C Kt Z (c_Store_demandTree_T l hNT D K z0 tk0 tv0 gk0 gv0 d0 x0 m0 c0 t0 k0 _ _ _ t1 t2 n0 n1 x1 x2 _ _ _ _ _ _ _ _ _ h1 (by omega)) yw_Store_demandTree sel_Store_demandTree lk_Store_124 d_Store_seek_6 rfl rfl rfl [0, 1, 2, 3, 4, 5, 6, 7, 8, 9] [] [0, 1, 2, 3, 4, 5, 6, 7, 8, 9] rfl rfl rfl rfl (by decide) rfl rfl rfl rfl ⟨by decide, by decide⟩ ⟨by decide, by decide⟩ (Nat.le_of_ble_eq_true rfl) rfl rfl
set_option maxRecDepth 100000 in
set_option maxHeartbeats 4000000 in
theorem c_Store_seek_no (l : Launch) (D : va_G) (K : Nat → ClassId) (z0 tk0 tv0 gk0 gv0 d0 x0 m0 c0 t0 k0 : Nat) (fnd opn : Bool) (t1 t2 n0 n1 x1 x2 pg ca top : Nat) (pn ps P : Nat → Nat) (B : Nat → UInt8) (G : Nat → Bool) (tk1 : Nat) (Kb : Nat → UInt8) (kl : Nat) (gk1 : Nat) (Gb : Nat → UInt8) (gl : Nat) (gv1 : Nat) (Eb : Nat → UInt8) (el : Nat) (t : Nat) (after : Bool) (h1 : kv_has B t = true) (h0 : t < 4294967296) (h2 : t < 64) (h4 : kl ≤ 8448) (hp : ∀ j, pn j < 65536) (hs : ∀ j, ps j < 65536) (h7 : (kv_first B Kb kl t after pn ps) = 0) : ks_M l D (ks_T K) (ks_R 5) y_Store_seek b_Store_seek 4 (some .boolean) [.ref z0, .int (nI t), .int (ks_b after)] (kw_store z0 tk0 tv0 gk0 gv0 d0 x0 m0 c0 t0 k0 fnd true opn ++ kw_trees K t0 t1 t2 x0 n0 c0 pn ps top ++ kw_nodes K n0 n1 x0 P ++ kw_chains c0 x0 pg ca ++ kw_pages K x0 x1 x2 B G ++ kw_row K tk0 tk1 Kb kl ++ kw_row K gk0 gk1 Gb gl ++ kw_row K gv0 gv1 Eb el) (ks_f (some (.int (ks_b false))) (kw_store z0 tk0 tv0 gk0 gv0 d0 x0 m0 c0 t0 k0 false true opn ++ kw_trees K t0 t1 t2 x0 n0 c0 (kv_desc B Kb kl t pn ps).1 (kv_desc B Kb kl t pn ps).2 (kv_level B (kv_root B t)) ++ kw_nodes K n0 n1 x0 P ++ kw_chains c0 x0 pg ca ++ kw_pages K x0 x1 x2 B G ++ kw_row K tk0 tk1 Kb kl ++ kw_row K gk0 gk1 Gb 0 ++ kw_row K gv0 gv1 Eb 0)) := by
  refine ks_M.of 1 (by decide) (Nat.le_of_ble_eq_true rfl) ?_
  intro E C Z
  refine ks_aload_n rfl rfl C d_Store_seek_0 ?_
  refine ks_cvW (ci := 8) (q0 := 0) (kw_store z0 tk0 tv0 gk0 gv0 d0 x0 m0 c0 t0 k0 _ _ _ ++ kw_trees K t0 t1 t2 x0 n0 c0 _ _ _ ++ kw_nodes K n0 n1 x0 _ ++ kw_chains c0 x0 _ _ ++ kw_pages K x0 x1 x2 _ _ ++ kw_row K tk0 tk1 _ _ ++ kw_row K gk0 gk1 _ _ ++ kw_row K gv0 gv1 _ _) (kw_trees K t0 t1 t2 x0 n0 c0 _ _ _ ++ kw_nodes K n0 n1 x0 _ ++ kw_chains c0 x0 _ _ ++ kw_pages K x0 x1 x2 _ _ ++ kw_row K tk0 tk1 _ _ ++ kw_row K gk0 gk1 _ _ ++ kw_row K gv0 gv1 _ _) C (c_Store_demandOn_ok l D K z0 tk0 tv0 gk0 gv0 d0 x0 m0 c0 t0 k0 _ _) yw_Store_demandOn sel_Store_demandOn lk_Store_157 d_Store_seek_1 rfl rfl rfl [0] [1, 2, 3, 4, 5, 6, 7, 8, 9, 10, 11, 12, 13, 14, 15] [15, 0, 1, 2, 3, 4, 5, 6, 7, 8, 9, 10, 11, 12, 13, 14] rfl rfl rfl rfl (by decide) rfl rfl rfl rfl rfl ⟨by decide, by decide⟩ ⟨by decide, by decide⟩ rfl (Nat.le_of_ble_eq_true rfl) ?_
  refine ks_aload_n rfl rfl C d_Store_seek_4 ?_
  refine ks_iload_n rfl rfl C d_Store_seek_5 ?_
  refine ks_cvW (ci := 8) (q0 := 0) (kw_store z0 tk0 tv0 gk0 gv0 d0 x0 m0 c0 t0 k0 _ _ _ ++ kw_trees K t0 t1 t2 x0 n0 c0 _ _ _ ++ kw_nodes K n0 n1 x0 _ ++ kw_chains c0 x0 _ _ ++ kw_pages K x0 x1 x2 _ _ ++ kw_row K tk0 tk1 _ _ ++ kw_row K gk0 gk1 _ _ ++ kw_row K gv0 gv1 _ _) (kw_row K tk0 tk1 _ _ ++ kw_row K gk0 gk1 _ _ ++ kw_row K gv0 gv1 _ _) C (c_Store_demandTree_ok l D K z0 tk0 tv0 gk0 gv0 d0 x0 m0 c0 t0 k0 _ _ _ t1 t2 n0 n1 x1 x2 _ _ _ _ _ _ _ _ _ h1 (by omega)) yw_Store_demandTree sel_Store_demandTree lk_Store_124 d_Store_seek_6 rfl rfl rfl [0, 1, 2, 3, 4, 5, 6, 7, 8, 9] [10, 11, 12, 13, 14, 15] [6, 7, 8, 9, 10, 11, 12, 13, 14, 15, 0, 1, 2, 3, 4, 5] rfl rfl rfl rfl (by decide) rfl rfl rfl rfl rfl ⟨by decide, by decide⟩ ⟨by decide, by decide⟩ rfl (Nat.le_of_ble_eq_true rfl) ?_
  refine ks_aload_n rfl rfl C d_Store_seek_9 ?_
  refine ks_get (k := 8) C 0 8 in_Store rfl (by decide) fk_Store_63 rfl rfl rfl d_Store_seek_10 ?_
  refine ks_iload_n rfl rfl C d_Store_seek_13 ?_
  refine ks_aload_n rfl rfl C d_Store_seek_14 ?_
  refine ks_get (k := 0) C 0 8 in_Store rfl (by decide) fk_Store_12 rfl rfl rfl d_Store_seek_15 ?_
  refine ks_iload_n rfl rfl C d_Store_seek_18 ?_
  refine ks_cxW (ci := 6) (q0 := 0) (kw_store z0 tk0 tv0 gk0 gv0 d0 x0 m0 c0 t0 k0 _ _ _ ++ kw_trees K t0 t1 t2 x0 n0 c0 _ _ _ ++ kw_nodes K n0 n1 x0 _ ++ kw_chains c0 x0 _ _ ++ kw_pages K x0 x1 x2 _ _ ++ kw_row K tk0 tk1 _ _ ++ kw_row K gk0 gk1 _ _ ++ kw_row K gv0 gv1 _ _) (kw_store z0 tk0 tv0 gk0 gv0 d0 x0 m0 c0 t0 k0 _ _ _ ++ kw_row K gk0 gk1 _ _ ++ kw_row K gv0 gv1 _ _) C (c_Trees_firstFrom l D K t0 t1 t2 n0 n1 c0 x0 x1 x2 tk0 tk1 _ _ _ _ _ _ _ _ _ _ _ _ (by omega) (by omega) hp hs) yw_Trees_firstFrom sel_Trees_firstFrom lk_Store_160 d_Store_seek_19 rfl rfl rfl [1, 2, 3, 4, 5, 6, 7, 8, 9, 10, 11] [0, 12, 13, 14, 15] [0, 5, 6, 7, 8, 9, 10, 11, 12, 13, 14, 15, 1, 2, 3, 4] rfl rfl rfl rfl (by decide) rfl rfl rfl rfl rfl ⟨by decide, by decide⟩ ⟨by decide, by decide⟩ rfl (Nat.le_of_ble_eq_true rfl) ?_
  refine ks_top_first (fun u1 => ?_)
  refine ks_istore_n C rfl (by decide) rfl d_Store_seek_22 ?_
  refine ks_aload_n rfl rfl C d_Store_seek_23 ?_
  refine ks_iload_n rfl rfl C d_Store_seek_24 ?_
  refine ks_if_eq (tgt := 32) C (by omega) (by decide) d_Store_seek_25 (fun u2 => ?_) (fun u2 => ?_)
  · refine ks_iconstB false rfl C d_Store_seek_32 ?_
    refine ks_put (k := 10) (ws' := (kw_store z0 tk0 tv0 gk0 gv0 d0 x0 m0 c0 t0 k0 _ _ _ ++ kw_trees K t0 t1 t2 x0 n0 c0 _ _ _ ++ kw_nodes K n0 n1 x0 _ ++ kw_chains c0 x0 _ _ ++ kw_pages K x0 x1 x2 _ _ ++ kw_row K tk0 tk1 _ _ ++ kw_row K gk0 gk1 _ _ ++ kw_row K gv0 gv1 _ _)) C 0 8 t_Store ty_Store nm_Store in_Store rfl (by decide) fk_Store_76 rfl rfl (ks_nb1 _) (ks_fb1 _) rfl (Nat.le_of_ble_eq_true rfl) rfl d_Store_seek_33 ?_
    refine ks_aload_n rfl rfl C d_Store_seek_36 ?_
    refine ks_get (k := 2) C 0 8 in_Store rfl (by decide) fk_Store_19 rfl rfl rfl d_Store_seek_37 ?_
    refine ks_cvW (ci := 0) (q0 := 0) (kw_store z0 tk0 tv0 gk0 gv0 d0 x0 m0 c0 t0 k0 _ _ _ ++ kw_trees K t0 t1 t2 x0 n0 c0 _ _ _ ++ kw_nodes K n0 n1 x0 _ ++ kw_chains c0 x0 _ _ ++ kw_pages K x0 x1 x2 _ _ ++ kw_row K tk0 tk1 _ _ ++ kw_row K gk0 gk1 _ _ ++ kw_row K gv0 gv1 _ _) (kw_store z0 tk0 tv0 gk0 gv0 d0 x0 m0 c0 t0 k0 _ _ _ ++ kw_trees K t0 t1 t2 x0 n0 c0 _ _ _ ++ kw_nodes K n0 n1 x0 _ ++ kw_chains c0 x0 _ _ ++ kw_pages K x0 x1 x2 _ _ ++ kw_row K tk0 tk1 _ _ ++ kw_row K gv0 gv1 _ _) C (c_Row_clear l D K gk0 gk1 _ _) yw_Row_clear sel_Row_clear lk_Store_164 d_Store_seek_40 rfl rfl rfl [12, 13] [0, 1, 2, 3, 4, 5, 6, 7, 8, 9, 10, 11, 14, 15] [0, 1, 2, 3, 4, 5, 6, 7, 8, 9, 10, 11, 14, 15, 12, 13] rfl rfl rfl rfl (by decide) rfl rfl rfl rfl rfl ⟨by decide, by decide⟩ ⟨by decide, by decide⟩ rfl (Nat.le_of_ble_eq_true rfl) ?_
    refine ks_aload_n rfl rfl C d_Store_seek_43 ?_
    refine ks_get (k := 3) C 0 8 in_Store rfl (by decide) fk_Store_22 rfl rfl rfl d_Store_seek_44 ?_
    refine ks_cvW (ci := 0) (q0 := 0) (kw_store z0 tk0 tv0 gk0 gv0 d0 x0 m0 c0 t0 k0 _ _ _ ++ kw_trees K t0 t1 t2 x0 n0 c0 _ _ _ ++ kw_nodes K n0 n1 x0 _ ++ kw_chains c0 x0 _ _ ++ kw_pages K x0 x1 x2 _ _ ++ kw_row K tk0 tk1 _ _ ++ kw_row K gk0 gk1 _ _ ++ kw_row K gv0 gv1 _ _) (kw_store z0 tk0 tv0 gk0 gv0 d0 x0 m0 c0 t0 k0 _ _ _ ++ kw_trees K t0 t1 t2 x0 n0 c0 _ _ _ ++ kw_nodes K n0 n1 x0 _ ++ kw_chains c0 x0 _ _ ++ kw_pages K x0 x1 x2 _ _ ++ kw_row K tk0 tk1 _ _ ++ kw_row K gk0 gk1 _ _) C (c_Row_clear l D K gv0 gv1 _ _) yw_Row_clear sel_Row_clear lk_Store_164 d_Store_seek_47 rfl rfl rfl [14, 15] [0, 1, 2, 3, 4, 5, 6, 7, 8, 9, 10, 11, 12, 13] [0, 1, 2, 3, 4, 5, 6, 7, 8, 9, 10, 11, 12, 13, 14, 15] rfl rfl rfl rfl (by decide) rfl rfl rfl rfl rfl ⟨by decide, by decide⟩ ⟨by decide, by decide⟩ rfl (Nat.le_of_ble_eq_true rfl) ?_
    refine ks_aload_n rfl rfl C d_Store_seek_50 ?_
    refine ks_get (k := 10) C 0 8 in_Store rfl (by decide) fk_Store_76 rfl rfl rfl d_Store_seek_51 ?_
    refine ks_ifB_eq (tgt := 73) C (by decide) d_Store_seek_54 (fun _ => ?_) (fun h => absurd h (by decide))
    refine ks_aload_n rfl rfl C d_Store_seek_73 ?_
    refine ks_get (k := 10) C 0 8 in_Store rfl (by decide) fk_Store_76 rfl rfl rfl d_Store_seek_74 ?_
    exact ks_iret C Z rfl (ks_nb1 _) d_Store_seek_77 rfl rfl ⟨rfl, rfl⟩
  · exact (by omega : False).elim
set_option maxRecDepth 100000 in
set_option maxHeartbeats 4000000 in
theorem c_Store_seek_ok (l : Launch) (D : va_G) (K : Nat → ClassId) (z0 tk0 tv0 gk0 gv0 d0 x0 m0 c0 t0 k0 : Nat) (fnd opn : Bool) (t1 t2 n0 n1 x1 x2 pg ca top : Nat) (pn ps P : Nat → Nat) (B : Nat → UInt8) (G : Nat → Bool) (tk1 : Nat) (Kb : Nat → UInt8) (kl : Nat) (gk1 : Nat) (Gb : Nat → UInt8) (gl : Nat) (gv1 : Nat) (Eb : Nat → UInt8) (el : Nat) (t : Nat) (after : Bool) (h1 : kv_has B t = true) (h0 : t < 4294967296) (h2 : t < 64) (h4 : kl ≤ 8448) (hp : ∀ j, pn j < 65536) (hs : ∀ j, ps j < 65536) (h7 : (kv_first B Kb kl t after pn ps) ≠ 0) : ks_M l D (ks_T K) (ks_R 5) y_Store_seek b_Store_seek 4 (some .boolean) [.ref z0, .int (nI t), .int (ks_b after)] (kw_store z0 tk0 tv0 gk0 gv0 d0 x0 m0 c0 t0 k0 fnd true opn ++ kw_trees K t0 t1 t2 x0 n0 c0 pn ps top ++ kw_nodes K n0 n1 x0 P ++ kw_chains c0 x0 pg ca ++ kw_pages K x0 x1 x2 B G ++ kw_row K tk0 tk1 Kb kl ++ kw_row K gk0 gk1 Gb gl ++ kw_row K gv0 gv1 Eb el) (ks_f (some (.int (ks_b true))) (kw_store z0 tk0 tv0 gk0 gv0 d0 x0 m0 c0 t0 k0 true true opn ++ kw_trees K t0 t1 t2 x0 n0 c0 (kv_desc B Kb kl t pn ps).1 (kv_desc B Kb kl t pn ps).2 (kv_level B (kv_root B t)) ++ kw_nodes K n0 n1 x0 P ++ kw_chains c0 x0 (kv_rdL B (kv_num B ((kv_first B Kb kl t after pn ps) * 32 + 4)) 2720 Eb 0 (kv_rdL B (kv_num B ((kv_first B Kb kl t after pn ps) * 32 + 2)) 2720 Gb 0 (kv_first B Kb kl t after pn ps) 6).2.1 (kv_rdL B (kv_num B ((kv_first B Kb kl t after pn ps) * 32 + 2)) 2720 Gb 0 (kv_first B Kb kl t after pn ps) 6).2.2).2.1 (kv_rdL B (kv_num B ((kv_first B Kb kl t after pn ps) * 32 + 4)) 2720 Eb 0 (kv_rdL B (kv_num B ((kv_first B Kb kl t after pn ps) * 32 + 2)) 2720 Gb 0 (kv_first B Kb kl t after pn ps) 6).2.1 (kv_rdL B (kv_num B ((kv_first B Kb kl t after pn ps) * 32 + 2)) 2720 Gb 0 (kv_first B Kb kl t after pn ps) 6).2.2).2.2 ++ kw_pages K x0 x1 x2 B G ++ kw_row K tk0 tk1 Kb kl ++ kw_row K gk0 gk1 (kv_rdL B (kv_num B ((kv_first B Kb kl t after pn ps) * 32 + 2)) 2720 Gb 0 (kv_first B Kb kl t after pn ps) 6).1.1 (kv_rdL B (kv_num B ((kv_first B Kb kl t after pn ps) * 32 + 2)) 2720 Gb 0 (kv_first B Kb kl t after pn ps) 6).1.2 ++ kw_row K gv0 gv1 (kv_rdL B (kv_num B ((kv_first B Kb kl t after pn ps) * 32 + 4)) 2720 Eb 0 (kv_rdL B (kv_num B ((kv_first B Kb kl t after pn ps) * 32 + 2)) 2720 Gb 0 (kv_first B Kb kl t after pn ps) 6).2.1 (kv_rdL B (kv_num B ((kv_first B Kb kl t after pn ps) * 32 + 2)) 2720 Gb 0 (kv_first B Kb kl t after pn ps) 6).2.2).1.1 (kv_rdL B (kv_num B ((kv_first B Kb kl t after pn ps) * 32 + 4)) 2720 Eb 0 (kv_rdL B (kv_num B ((kv_first B Kb kl t after pn ps) * 32 + 2)) 2720 Gb 0 (kv_first B Kb kl t after pn ps) 6).2.1 (kv_rdL B (kv_num B ((kv_first B Kb kl t after pn ps) * 32 + 2)) 2720 Gb 0 (kv_first B Kb kl t after pn ps) 6).2.2).1.2)) := by
  refine ks_M.of 1 (by decide) (Nat.le_of_ble_eq_true rfl) ?_
  intro E C Z
  refine ks_aload_n rfl rfl C d_Store_seek_0 ?_
  refine ks_cvW (ci := 8) (q0 := 0) (kw_store z0 tk0 tv0 gk0 gv0 d0 x0 m0 c0 t0 k0 _ _ _ ++ kw_trees K t0 t1 t2 x0 n0 c0 _ _ _ ++ kw_nodes K n0 n1 x0 _ ++ kw_chains c0 x0 _ _ ++ kw_pages K x0 x1 x2 _ _ ++ kw_row K tk0 tk1 _ _ ++ kw_row K gk0 gk1 _ _ ++ kw_row K gv0 gv1 _ _) (kw_trees K t0 t1 t2 x0 n0 c0 _ _ _ ++ kw_nodes K n0 n1 x0 _ ++ kw_chains c0 x0 _ _ ++ kw_pages K x0 x1 x2 _ _ ++ kw_row K tk0 tk1 _ _ ++ kw_row K gk0 gk1 _ _ ++ kw_row K gv0 gv1 _ _) C (c_Store_demandOn_ok l D K z0 tk0 tv0 gk0 gv0 d0 x0 m0 c0 t0 k0 _ _) yw_Store_demandOn sel_Store_demandOn lk_Store_157 d_Store_seek_1 rfl rfl rfl [0] [1, 2, 3, 4, 5, 6, 7, 8, 9, 10, 11, 12, 13, 14, 15] [15, 0, 1, 2, 3, 4, 5, 6, 7, 8, 9, 10, 11, 12, 13, 14] rfl rfl rfl rfl (by decide) rfl rfl rfl rfl rfl ⟨by decide, by decide⟩ ⟨by decide, by decide⟩ rfl (Nat.le_of_ble_eq_true rfl) ?_
  refine ks_aload_n rfl rfl C d_Store_seek_4 ?_
  refine ks_iload_n rfl rfl C d_Store_seek_5 ?_
  refine ks_cvW (ci := 8) (q0 := 0) (kw_store z0 tk0 tv0 gk0 gv0 d0 x0 m0 c0 t0 k0 _ _ _ ++ kw_trees K t0 t1 t2 x0 n0 c0 _ _ _ ++ kw_nodes K n0 n1 x0 _ ++ kw_chains c0 x0 _ _ ++ kw_pages K x0 x1 x2 _ _ ++ kw_row K tk0 tk1 _ _ ++ kw_row K gk0 gk1 _ _ ++ kw_row K gv0 gv1 _ _) (kw_row K tk0 tk1 _ _ ++ kw_row K gk0 gk1 _ _ ++ kw_row K gv0 gv1 _ _) C (c_Store_demandTree_ok l D K z0 tk0 tv0 gk0 gv0 d0 x0 m0 c0 t0 k0 _ _ _ t1 t2 n0 n1 x1 x2 _ _ _ _ _ _ _ _ _ h1 (by omega)) yw_Store_demandTree sel_Store_demandTree lk_Store_124 d_Store_seek_6 rfl rfl rfl [0, 1, 2, 3, 4, 5, 6, 7, 8, 9] [10, 11, 12, 13, 14, 15] [6, 7, 8, 9, 10, 11, 12, 13, 14, 15, 0, 1, 2, 3, 4, 5] rfl rfl rfl rfl (by decide) rfl rfl rfl rfl rfl ⟨by decide, by decide⟩ ⟨by decide, by decide⟩ rfl (Nat.le_of_ble_eq_true rfl) ?_
  refine ks_aload_n rfl rfl C d_Store_seek_9 ?_
  refine ks_get (k := 8) C 0 8 in_Store rfl (by decide) fk_Store_63 rfl rfl rfl d_Store_seek_10 ?_
  refine ks_iload_n rfl rfl C d_Store_seek_13 ?_
  refine ks_aload_n rfl rfl C d_Store_seek_14 ?_
  refine ks_get (k := 0) C 0 8 in_Store rfl (by decide) fk_Store_12 rfl rfl rfl d_Store_seek_15 ?_
  refine ks_iload_n rfl rfl C d_Store_seek_18 ?_
  refine ks_cxW (ci := 6) (q0 := 0) (kw_store z0 tk0 tv0 gk0 gv0 d0 x0 m0 c0 t0 k0 _ _ _ ++ kw_trees K t0 t1 t2 x0 n0 c0 _ _ _ ++ kw_nodes K n0 n1 x0 _ ++ kw_chains c0 x0 _ _ ++ kw_pages K x0 x1 x2 _ _ ++ kw_row K tk0 tk1 _ _ ++ kw_row K gk0 gk1 _ _ ++ kw_row K gv0 gv1 _ _) (kw_store z0 tk0 tv0 gk0 gv0 d0 x0 m0 c0 t0 k0 _ _ _ ++ kw_row K gk0 gk1 _ _ ++ kw_row K gv0 gv1 _ _) C (c_Trees_firstFrom l D K t0 t1 t2 n0 n1 c0 x0 x1 x2 tk0 tk1 _ _ _ _ _ _ _ _ _ _ _ _ (by omega) (by omega) hp hs) yw_Trees_firstFrom sel_Trees_firstFrom lk_Store_160 d_Store_seek_19 rfl rfl rfl [1, 2, 3, 4, 5, 6, 7, 8, 9, 10, 11] [0, 12, 13, 14, 15] [0, 5, 6, 7, 8, 9, 10, 11, 12, 13, 14, 15, 1, 2, 3, 4] rfl rfl rfl rfl (by decide) rfl rfl rfl rfl rfl ⟨by decide, by decide⟩ ⟨by decide, by decide⟩ rfl (Nat.le_of_ble_eq_true rfl) ?_
  refine ks_top_first (fun u1 => ?_)
  refine ks_istore_n C rfl (by decide) rfl d_Store_seek_22 ?_
  refine ks_aload_n rfl rfl C d_Store_seek_23 ?_
  refine ks_iload_n rfl rfl C d_Store_seek_24 ?_
  refine ks_if_eq (tgt := 32) C (by omega) (by decide) d_Store_seek_25 (fun u2 => ?_) (fun u2 => ?_)
  · exact (by omega : False).elim
  · refine ks_iconstB true rfl C d_Store_seek_28 ?_
    refine ks_goto (tgt := 33) C (by decide) d_Store_seek_29 ?_
    refine ks_put (k := 10) (ws' := (kw_store z0 tk0 tv0 gk0 gv0 d0 x0 m0 c0 t0 k0 _ _ _ ++ kw_trees K t0 t1 t2 x0 n0 c0 _ _ _ ++ kw_nodes K n0 n1 x0 _ ++ kw_chains c0 x0 _ _ ++ kw_pages K x0 x1 x2 _ _ ++ kw_row K tk0 tk1 _ _ ++ kw_row K gk0 gk1 _ _ ++ kw_row K gv0 gv1 _ _)) C 0 8 t_Store ty_Store nm_Store in_Store rfl (by decide) fk_Store_76 rfl rfl (ks_nb1 _) (ks_fb1 _) rfl (Nat.le_of_ble_eq_true rfl) rfl d_Store_seek_33 ?_
    refine ks_aload_n rfl rfl C d_Store_seek_36 ?_
    refine ks_get (k := 2) C 0 8 in_Store rfl (by decide) fk_Store_19 rfl rfl rfl d_Store_seek_37 ?_
    refine ks_cvW (ci := 0) (q0 := 0) (kw_store z0 tk0 tv0 gk0 gv0 d0 x0 m0 c0 t0 k0 _ _ _ ++ kw_trees K t0 t1 t2 x0 n0 c0 _ _ _ ++ kw_nodes K n0 n1 x0 _ ++ kw_chains c0 x0 _ _ ++ kw_pages K x0 x1 x2 _ _ ++ kw_row K tk0 tk1 _ _ ++ kw_row K gk0 gk1 _ _ ++ kw_row K gv0 gv1 _ _) (kw_store z0 tk0 tv0 gk0 gv0 d0 x0 m0 c0 t0 k0 _ _ _ ++ kw_trees K t0 t1 t2 x0 n0 c0 _ _ _ ++ kw_nodes K n0 n1 x0 _ ++ kw_chains c0 x0 _ _ ++ kw_pages K x0 x1 x2 _ _ ++ kw_row K tk0 tk1 _ _ ++ kw_row K gv0 gv1 _ _) C (c_Row_clear l D K gk0 gk1 _ _) yw_Row_clear sel_Row_clear lk_Store_164 d_Store_seek_40 rfl rfl rfl [12, 13] [0, 1, 2, 3, 4, 5, 6, 7, 8, 9, 10, 11, 14, 15] [0, 1, 2, 3, 4, 5, 6, 7, 8, 9, 10, 11, 14, 15, 12, 13] rfl rfl rfl rfl (by decide) rfl rfl rfl rfl rfl ⟨by decide, by decide⟩ ⟨by decide, by decide⟩ rfl (Nat.le_of_ble_eq_true rfl) ?_
    refine ks_aload_n rfl rfl C d_Store_seek_43 ?_
    refine ks_get (k := 3) C 0 8 in_Store rfl (by decide) fk_Store_22 rfl rfl rfl d_Store_seek_44 ?_
    refine ks_cvW (ci := 0) (q0 := 0) (kw_store z0 tk0 tv0 gk0 gv0 d0 x0 m0 c0 t0 k0 _ _ _ ++ kw_trees K t0 t1 t2 x0 n0 c0 _ _ _ ++ kw_nodes K n0 n1 x0 _ ++ kw_chains c0 x0 _ _ ++ kw_pages K x0 x1 x2 _ _ ++ kw_row K tk0 tk1 _ _ ++ kw_row K gk0 gk1 _ _ ++ kw_row K gv0 gv1 _ _) (kw_store z0 tk0 tv0 gk0 gv0 d0 x0 m0 c0 t0 k0 _ _ _ ++ kw_trees K t0 t1 t2 x0 n0 c0 _ _ _ ++ kw_nodes K n0 n1 x0 _ ++ kw_chains c0 x0 _ _ ++ kw_pages K x0 x1 x2 _ _ ++ kw_row K tk0 tk1 _ _ ++ kw_row K gk0 gk1 _ _) C (c_Row_clear l D K gv0 gv1 _ _) yw_Row_clear sel_Row_clear lk_Store_164 d_Store_seek_47 rfl rfl rfl [14, 15] [0, 1, 2, 3, 4, 5, 6, 7, 8, 9, 10, 11, 12, 13] [0, 1, 2, 3, 4, 5, 6, 7, 8, 9, 10, 11, 12, 13, 14, 15] rfl rfl rfl rfl (by decide) rfl rfl rfl rfl rfl ⟨by decide, by decide⟩ ⟨by decide, by decide⟩ rfl (Nat.le_of_ble_eq_true rfl) ?_
    refine ks_aload_n rfl rfl C d_Store_seek_50 ?_
    refine ks_get (k := 10) C 0 8 in_Store rfl (by decide) fk_Store_76 rfl rfl rfl d_Store_seek_51 ?_
    refine ks_ifB_eq (tgt := 73) C (by decide) d_Store_seek_54 (fun h => absurd h (by decide)) (fun _ => ?_)
    refine ks_aload_n rfl rfl C d_Store_seek_57 ?_
    refine ks_get (k := 7) C 0 8 in_Store rfl (by decide) fk_Store_54 rfl rfl rfl d_Store_seek_58 ?_
    refine ks_iload_n rfl rfl C d_Store_seek_61 ?_
    refine ks_aload_n rfl rfl C d_Store_seek_62 ?_
    refine ks_get (k := 2) C 0 8 in_Store rfl (by decide) fk_Store_19 rfl rfl rfl d_Store_seek_63 ?_
    refine ks_aload_n rfl rfl C d_Store_seek_66 ?_
    refine ks_get (k := 3) C 0 8 in_Store rfl (by decide) fk_Store_22 rfl rfl rfl d_Store_seek_67 ?_
    refine ks_cvW (ci := 4) (q0 := 0) (kw_store z0 tk0 tv0 gk0 gv0 d0 x0 m0 c0 t0 k0 _ _ _ ++ kw_trees K t0 t1 t2 x0 n0 c0 _ _ _ ++ kw_nodes K n0 n1 x0 _ ++ kw_chains c0 x0 _ _ ++ kw_pages K x0 x1 x2 _ _ ++ kw_row K tk0 tk1 _ _ ++ kw_row K gk0 gk1 _ _ ++ kw_row K gv0 gv1 _ _) (kw_store z0 tk0 tv0 gk0 gv0 d0 x0 m0 c0 t0 k0 _ _ _ ++ kw_trees K t0 t1 t2 x0 n0 c0 _ _ _ ++ kw_nodes K n0 n1 x0 _ ++ kw_row K tk0 tk1 _ _) C (c_Chains_copyTo l D K c0 x0 x1 x2 gk0 gk1 gv0 gv1 _ _ _ _ _ _ _ _ _ (by omega)) yw_Chains_copyTo sel_Chains_copyTo lk_Store_167 d_Store_seek_70 rfl rfl rfl [6, 7, 8, 9, 12, 13, 14, 15] [0, 1, 2, 3, 4, 5, 10, 11] [0, 1, 2, 3, 4, 5, 8, 9, 10, 11, 6, 7, 12, 13, 14, 15] rfl rfl rfl rfl (by decide) rfl rfl rfl rfl rfl ⟨by decide, by decide⟩ ⟨by decide, by decide⟩ rfl (Nat.le_of_ble_eq_true rfl) ?_
    refine ks_aload_n rfl rfl C d_Store_seek_73 ?_
    refine ks_get (k := 10) C 0 8 in_Store rfl (by decide) fk_Store_76 rfl rfl rfl d_Store_seek_74 ?_
    exact ks_iret C Z rfl (ks_nb1 _) d_Store_seek_77 rfl rfl ⟨rfl, rfl⟩
set_option maxRecDepth 100000 in
set_option maxHeartbeats 4000000 in
theorem c_Store_take_T (l : Launch) (hNT : l.stackTraces = false) (D : va_G) (K : Nat → ClassId) (z0 tk0 tv0 gk0 gv0 d0 x0 m0 c0 t0 k0 : Nat) (on opn : Bool) : kt_M l D (ks_T K) (kt_R 7) y_Store_take b_Store_take 1 (some .int) [.ref z0] (kw_store z0 tk0 tv0 gk0 gv0 d0 x0 m0 c0 t0 k0 false on opn) "java/util/NoSuchElementException" (kw_store z0 tk0 tv0 gk0 gv0 d0 x0 m0 c0 t0 k0 false on opn) := by
  refine kt_M.of hNT 0 (by decide) (Nat.le_of_ble_eq_true rfl) ?_
  intro E C Kt Z
  refine ks_aload_n rfl rfl C d_Store_take_0 ?_
  exact ks_callTW (ci := 8) (q0 := 0) ([] : va_W) C Kt Z (c_Store_demandFound_T l hNT D K z0 tk0 tv0 gk0 gv0 d0 x0 m0 c0 t0 k0 _ _) yw_Store_demandFound sel_Store_demandFound lk_Store_170 d_Store_take_1 rfl rfl rfl [0] [] [0] rfl rfl rfl rfl (by decide) rfl rfl rfl rfl ⟨by decide, by decide⟩ ⟨by decide, by decide⟩ (Nat.le_of_ble_eq_true rfl) rfl rfl
set_option maxRecDepth 100000 in
set_option maxHeartbeats 4000000 in
theorem c_Store_take_ok (l : Launch) (D : va_G) (K : Nat → ClassId) (z0 tk0 tv0 gk0 gv0 d0 x0 m0 c0 t0 k0 : Nat) (on opn : Bool) (tk1 : Nat) (Kb : Nat → UInt8) (kl : Nat) (gk1 : Nat) (Gb : Nat → UInt8) (gl : Nat) (h1 : gl ≤ 8448) : ks_M l D (ks_T K) (ks_R 3) y_Store_take b_Store_take 1 (some .int) [.ref z0] (kw_store z0 tk0 tv0 gk0 gv0 d0 x0 m0 c0 t0 k0 true on opn ++ kw_row K tk0 tk1 Kb kl ++ kw_row K gk0 gk1 Gb gl) (ks_f (some (.int (nI ((kv_from Kb 0 Gb 8448 0 gl).2)))) (kw_store z0 tk0 tv0 gk0 gv0 d0 x0 m0 c0 t0 k0 true on opn ++ kw_row K tk0 tk1 (kv_from Kb 0 Gb 8448 0 gl).1 (kv_from Kb 0 Gb 8448 0 gl).2 ++ kw_row K gk0 gk1 Gb gl)) := by
  refine ks_M.of 0 (by decide) (Nat.le_of_ble_eq_true rfl) ?_
  intro E C Z
  refine ks_aload_n rfl rfl C d_Store_take_0 ?_
  refine ks_cvW (ci := 8) (q0 := 0) (kw_store z0 tk0 tv0 gk0 gv0 d0 x0 m0 c0 t0 k0 _ _ _ ++ kw_row K tk0 tk1 _ _ ++ kw_row K gk0 gk1 _ _) (kw_row K tk0 tk1 _ _ ++ kw_row K gk0 gk1 _ _) C (c_Store_demandFound_ok l D K z0 tk0 tv0 gk0 gv0 d0 x0 m0 c0 t0 k0 _ _) yw_Store_demandFound sel_Store_demandFound lk_Store_170 d_Store_take_1 rfl rfl rfl [0] [1, 2, 3, 4] [4, 0, 1, 2, 3] rfl rfl rfl rfl (by decide) rfl rfl rfl rfl rfl ⟨by decide, by decide⟩ ⟨by decide, by decide⟩ rfl (Nat.le_of_ble_eq_true rfl) ?_
  refine ks_aload_n rfl rfl C d_Store_take_4 ?_
  refine ks_get (k := 0) C 0 8 in_Store rfl (by decide) fk_Store_12 rfl rfl rfl d_Store_take_5 ?_
  refine ks_aload_n rfl rfl C d_Store_take_8 ?_
  refine ks_get (k := 2) C 0 8 in_Store rfl (by decide) fk_Store_19 rfl rfl rfl d_Store_take_9 ?_
  refine ks_cvW (ci := 0) (q0 := 0) (kw_store z0 tk0 tv0 gk0 gv0 d0 x0 m0 c0 t0 k0 _ _ _ ++ kw_row K tk0 tk1 _ _ ++ kw_row K gk0 gk1 _ _) (kw_store z0 tk0 tv0 gk0 gv0 d0 x0 m0 c0 t0 k0 _ _ _) C (c_Row_become l D K tk0 tk1 gk0 gk1 _ _ _ _ (by omega)) yw_Row_become sel_Row_become lk_Store_173 d_Store_take_12 rfl rfl rfl [1, 2, 3, 4] [0] [0, 1, 2, 3, 4] rfl rfl rfl rfl (by decide) rfl rfl rfl rfl rfl ⟨by decide, by decide⟩ ⟨by decide, by decide⟩ rfl (Nat.le_of_ble_eq_true rfl) ?_
  refine ks_aload_n rfl rfl C d_Store_take_15 ?_
  refine ks_get (k := 0) C 0 8 in_Store rfl (by decide) fk_Store_12 rfl rfl rfl d_Store_take_16 ?_
  refine ks_cxW (ci := 0) (q0 := 0) (kw_store z0 tk0 tv0 gk0 gv0 d0 x0 m0 c0 t0 k0 _ _ _ ++ kw_row K tk0 tk1 _ _ ++ kw_row K gk0 gk1 _ _) (kw_store z0 tk0 tv0 gk0 gv0 d0 x0 m0 c0 t0 k0 _ _ _ ++ kw_row K gk0 gk1 _ _) C (c_Row_length l D K tk0 tk1 _ _) yw_Row_length sel_Row_length lk_Store_105 d_Store_take_19 rfl rfl rfl [1, 2] [0, 3, 4] [0, 3, 4, 1, 2] rfl rfl rfl rfl (by decide) rfl rfl rfl rfl rfl ⟨by decide, by decide⟩ ⟨by decide, by decide⟩ rfl (Nat.le_of_ble_eq_true rfl) ?_
  exact ks_iret C Z rfl rfl d_Store_take_22 rfl rfl ⟨rfl, rfl⟩
set_option maxRecDepth 100000 in
set_option maxHeartbeats 4000000 in
theorem c_Store_found_T0 (l : Launch) (hNT : l.stackTraces = false) (D : va_G) (K : Nat → ClassId) (z0 tk0 tv0 gk0 gv0 d0 x0 m0 c0 t0 k0 : Nat) (fnd on opn : Bool) (wt fr : Nat) (h1 : wt < 4294967296) (h2 : 1 < wt) : kt_M l D (ks_T K) (kt_R 6) y_Store_found b_Store_found 3 (some .long) [.ref z0, .int (nI wt), .int (nI fr)] (kw_store z0 tk0 tv0 gk0 gv0 d0 x0 m0 c0 t0 k0 fnd on opn) "java/lang/IllegalArgumentException" (kw_store z0 tk0 tv0 gk0 gv0 d0 x0 m0 c0 t0 k0 fnd on opn) := by
  refine kt_M.of hNT 0 (by decide) (Nat.le_of_ble_eq_true rfl) ?_
  intro E C Kt Z
  refine ks_iload_n rfl rfl C d_Store_found_0 ?_
  refine ks_ifR_eq (tgt := 19) C (by omega) (by decide) d_Store_found_1 (fun u1 => ?_) (fun u1 => ?_)
  · exact (by omega : False).elim
  · refine ks_iload_n rfl rfl C d_Store_found_4 ?_
    refine ks_iconst (a := 1) rfl C d_Store_found_5 ?_
    refine ks_icmpR_eq (tgt := 19) C (by omega) (by omega) (by decide) d_Store_found_6 (fun u2 => ?_) (fun u2 => ?_)
    · exact (by omega : False).elim
    · exact ks_throw (names := kt_n2) C Kt Z (by decide +kernel) (by decide +kernel) (kt_site kt_wIAE kt_s177) d_Store_found_9 d_Store_found_12 d_Store_found_13 d_Store_found_15 d_Store_found_18 (by decide) (by decide) (by decide) (by decide) rfl rfl rfl
set_option maxRecDepth 100000 in
set_option maxHeartbeats 4000000 in
theorem c_Store_found_T1 (l : Launch) (hNT : l.stackTraces = false) (D : va_G) (K : Nat → ClassId) (z0 tk0 tv0 gk0 gv0 d0 x0 m0 c0 t0 k0 : Nat) (on opn : Bool) (wt fr : Nat) (h1 : wt < 4294967296) (h2 : wt ≤ 1) : kt_M l D (ks_T K) (kt_R 7) y_Store_found b_Store_found 3 (some .long) [.ref z0, .int (nI wt), .int (nI fr)] (kw_store z0 tk0 tv0 gk0 gv0 d0 x0 m0 c0 t0 k0 false on opn) "java/util/NoSuchElementException" (kw_store z0 tk0 tv0 gk0 gv0 d0 x0 m0 c0 t0 k0 false on opn) := by
  refine kt_M.of hNT 0 (by decide) (Nat.le_of_ble_eq_true rfl) ?_
  intro E C Kt Z
  refine ks_iload_n rfl rfl C d_Store_found_0 ?_
  refine ks_ifR_eq (tgt := 19) C (by omega) (by decide) d_Store_found_1 (fun u1 => ?_) (fun u1 => ?_)
  · refine ks_aload_n rfl rfl C d_Store_found_19 ?_
    exact ks_callTW (ci := 8) (q0 := 0) ([] : va_W) C Kt Z (c_Store_demandFound_T l hNT D K z0 tk0 tv0 gk0 gv0 d0 x0 m0 c0 t0 k0 _ _) yw_Store_demandFound sel_Store_demandFound lk_Store_170 d_Store_found_20 rfl rfl rfl [0] [] [0] rfl rfl rfl rfl (by decide) rfl rfl rfl rfl ⟨by decide, by decide⟩ ⟨by decide, by decide⟩ (Nat.le_of_ble_eq_true rfl) rfl rfl
  · refine ks_iload_n rfl rfl C d_Store_found_4 ?_
    refine ks_iconst (a := 1) rfl C d_Store_found_5 ?_
    refine ks_icmpR_eq (tgt := 19) C (by omega) (by omega) (by decide) d_Store_found_6 (fun u2 => ?_) (fun u2 => ?_)
    · refine ks_aload_n rfl rfl C d_Store_found_19 ?_
      exact ks_callTW (ci := 8) (q0 := 0) ([] : va_W) C Kt Z (c_Store_demandFound_T l hNT D K z0 tk0 tv0 gk0 gv0 d0 x0 m0 c0 t0 k0 _ _) yw_Store_demandFound sel_Store_demandFound lk_Store_170 d_Store_found_20 rfl rfl rfl [0] [] [0] rfl rfl rfl rfl (by decide) rfl rfl rfl rfl ⟨by decide, by decide⟩ ⟨by decide, by decide⟩ (Nat.le_of_ble_eq_true rfl) rfl rfl
    · exact (by omega : False).elim
set_option maxRecDepth 100000 in
set_option maxHeartbeats 4000000 in
theorem c_Store_found_0 (l : Launch) (D : va_G) (K : Nat → ClassId) (z0 tk0 tv0 gk0 gv0 d0 x0 m0 c0 t0 k0 : Nat) (on opn : Bool) (gk1 : Nat) (Gb : Nat → UInt8) (gl : Nat) (wt fr : Nat) (h1 : wt < 4294967296) (h2 : wt = 0) (h3 : gl ≤ 8448) (h4 : fr < 4294967296) : ks_M l D (ks_T K) (ks_R 2) y_Store_found b_Store_found 3 (some .long) [.ref z0, .int (nI wt), .int (nI fr)] (kw_store z0 tk0 tv0 gk0 gv0 d0 x0 m0 c0 t0 k0 true on opn ++ kw_row K gk0 gk1 Gb gl) (ks_f (some (.long (kv_wordAt Gb gl fr))) (kw_store z0 tk0 tv0 gk0 gv0 d0 x0 m0 c0 t0 k0 true on opn ++ kw_row K gk0 gk1 Gb gl)) := by
  refine ks_M.of 0 (by decide) (Nat.le_of_ble_eq_true rfl) ?_
  intro E C Z
  refine ks_iload_n rfl rfl C d_Store_found_0 ?_
  refine ks_ifR_eq (tgt := 19) C (by omega) (by decide) d_Store_found_1 (fun u1 => ?_) (fun u1 => ?_)
  · refine ks_aload_n rfl rfl C d_Store_found_19 ?_
    refine ks_cvW (ci := 8) (q0 := 0) (kw_store z0 tk0 tv0 gk0 gv0 d0 x0 m0 c0 t0 k0 _ _ _ ++ kw_row K gk0 gk1 _ _) (kw_row K gk0 gk1 _ _) C (c_Store_demandFound_ok l D K z0 tk0 tv0 gk0 gv0 d0 x0 m0 c0 t0 k0 _ _) yw_Store_demandFound sel_Store_demandFound lk_Store_170 d_Store_found_20 rfl rfl rfl [0] [1, 2] [2, 0, 1] rfl rfl rfl rfl (by decide) rfl rfl rfl rfl rfl ⟨by decide, by decide⟩ ⟨by decide, by decide⟩ rfl (Nat.le_of_ble_eq_true rfl) ?_
    refine ks_iload_n rfl rfl C d_Store_found_23 ?_
    refine ks_ifR_ne (tgt := 38) C (by omega) (by decide) d_Store_found_24 (fun u2 => ?_) (fun u2 => ?_)
    · exact (by omega : False).elim
    · refine ks_aload_n rfl rfl C d_Store_found_27 ?_
      refine ks_get (k := 2) C 0 8 in_Store rfl (by decide) fk_Store_19 rfl rfl rfl d_Store_found_28 ?_
      refine ks_iload_n rfl rfl C d_Store_found_31 ?_
      refine ks_cxW (ci := 0) (q0 := 0) (kw_store z0 tk0 tv0 gk0 gv0 d0 x0 m0 c0 t0 k0 _ _ _ ++ kw_row K gk0 gk1 _ _) (kw_store z0 tk0 tv0 gk0 gv0 d0 x0 m0 c0 t0 k0 _ _ _) C (c_Row_wordR l D K gk0 gk1 _ _ _ (by omega) (by omega)) yw_Row_word sel_Row_word lk_Store_179 d_Store_found_32 rfl rfl rfl [1, 2] [0] [0, 1, 2] rfl rfl rfl rfl (by decide) rfl rfl rfl rfl rfl ⟨by decide, by decide⟩ ⟨by decide, by decide⟩ rfl (Nat.le_of_ble_eq_true rfl) ?_
      refine ks_goto (tgt := 46) C (by decide) d_Store_found_35 ?_
      exact ks_lret C Z rfl d_Store_found_46 rfl rfl ⟨rfl, rfl⟩
  · exact (by omega : False).elim
set_option maxRecDepth 100000 in
set_option maxHeartbeats 4000000 in
theorem c_Store_found_1 (l : Launch) (D : va_G) (K : Nat → ClassId) (z0 tk0 tv0 gk0 gv0 d0 x0 m0 c0 t0 k0 : Nat) (on opn : Bool) (gv1 : Nat) (Eb : Nat → UInt8) (el : Nat) (wt fr : Nat) (h1 : wt < 4294967296) (h2 : wt = 1) (h3 : el ≤ 8448) (h4 : fr < 4294967296) : ks_M l D (ks_T K) (ks_R 2) y_Store_found b_Store_found 3 (some .long) [.ref z0, .int (nI wt), .int (nI fr)] (kw_store z0 tk0 tv0 gk0 gv0 d0 x0 m0 c0 t0 k0 true on opn ++ kw_row K gv0 gv1 Eb el) (ks_f (some (.long (kv_wordAt Eb el fr))) (kw_store z0 tk0 tv0 gk0 gv0 d0 x0 m0 c0 t0 k0 true on opn ++ kw_row K gv0 gv1 Eb el)) := by
  refine ks_M.of 0 (by decide) (Nat.le_of_ble_eq_true rfl) ?_
  intro E C Z
  refine ks_iload_n rfl rfl C d_Store_found_0 ?_
  refine ks_ifR_eq (tgt := 19) C (by omega) (by decide) d_Store_found_1 (fun u1 => ?_) (fun u1 => ?_)
  · exact (by omega : False).elim
  · refine ks_iload_n rfl rfl C d_Store_found_4 ?_
    refine ks_iconst (a := 1) rfl C d_Store_found_5 ?_
    refine ks_icmpR_eq (tgt := 19) C (by omega) (by omega) (by decide) d_Store_found_6 (fun u2 => ?_) (fun u2 => ?_)
    · refine ks_aload_n rfl rfl C d_Store_found_19 ?_
      refine ks_cvW (ci := 8) (q0 := 0) (kw_store z0 tk0 tv0 gk0 gv0 d0 x0 m0 c0 t0 k0 _ _ _ ++ kw_row K gv0 gv1 _ _) (kw_row K gv0 gv1 _ _) C (c_Store_demandFound_ok l D K z0 tk0 tv0 gk0 gv0 d0 x0 m0 c0 t0 k0 _ _) yw_Store_demandFound sel_Store_demandFound lk_Store_170 d_Store_found_20 rfl rfl rfl [0] [1, 2] [2, 0, 1] rfl rfl rfl rfl (by decide) rfl rfl rfl rfl rfl ⟨by decide, by decide⟩ ⟨by decide, by decide⟩ rfl (Nat.le_of_ble_eq_true rfl) ?_
      refine ks_iload_n rfl rfl C d_Store_found_23 ?_
      refine ks_ifR_ne (tgt := 38) C (by omega) (by decide) d_Store_found_24 (fun u3 => ?_) (fun u3 => ?_)
      · refine ks_aload_n rfl rfl C d_Store_found_38 ?_
        refine ks_get (k := 3) C 0 8 in_Store rfl (by decide) fk_Store_22 rfl rfl rfl d_Store_found_39 ?_
        refine ks_iload_n rfl rfl C d_Store_found_42 ?_
        refine ks_cxW (ci := 0) (q0 := 0) (kw_store z0 tk0 tv0 gk0 gv0 d0 x0 m0 c0 t0 k0 _ _ _ ++ kw_row K gv0 gv1 _ _) (kw_store z0 tk0 tv0 gk0 gv0 d0 x0 m0 c0 t0 k0 _ _ _) C (c_Row_wordR l D K gv0 gv1 _ _ _ (by omega) (by omega)) yw_Row_word sel_Row_word lk_Store_179 d_Store_found_43 rfl rfl rfl [1, 2] [0] [0, 1, 2] rfl rfl rfl rfl (by decide) rfl rfl rfl rfl rfl ⟨by decide, by decide⟩ ⟨by decide, by decide⟩ rfl (Nat.le_of_ble_eq_true rfl) ?_
        exact ks_lret C Z rfl d_Store_found_46 rfl rfl ⟨rfl, rfl⟩
      · exact (by omega : False).elim
    · exact (by omega : False).elim
