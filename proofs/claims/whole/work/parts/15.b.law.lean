/-! the law's own calls of the store -/
set_option maxRecDepth 100000 in
set_option maxHeartbeats 4000000 in
theorem c_Law_put_T1 (l : Launch) (hNT : l.stackTraces = false) (D : va_G) (K : Nat → ClassId) (z0 tk0 tv0 gk0 gv0 d0 x0 m0 c0 t0 k0 : Nat) (fnd opn : Bool) (t : Nat) (o0 : Nat) (O : Nat → Int64) : kh_M l D (ks_T K) (kt_R 16) y_Law_put b_Law_put 4 (some .int) [(0, 16, 19, 15), (0, 16, 22, 32), (0, 16, 25, 13)] [.ref z0, .int (nI t), .ref o0] (kw_store z0 tk0 tv0 gk0 gv0 d0 x0 m0 c0 t0 k0 fnd false opn ++ kw_out K o0 O) (ks_f (some (.int (nI 1))) (kw_store z0 tk0 tv0 gk0 gv0 d0 x0 m0 c0 t0 k0 fnd false opn ++ kw_out K o0 O)) := by
  refine kh_M.of 1 (by decide) (Nat.le_of_ble_eq_true rfl) ?_
  intro E C Kh Z
  refine ks_aload_n rfl rfl C d_Law_put_0 ?_
  refine ks_iconst (a := 0) rfl C d_Law_put_1 ?_
  refine ks_aload_n rfl rfl C d_Law_put_2 ?_
  refine ks_iload_n rfl rfl C d_Law_put_3 ?_
  refine ks_callCW (ci := 8) (q0 := 0) (kw_store z0 tk0 tv0 gk0 gv0 d0 x0 m0 c0 t0 k0 _ _ _ ++ kw_out K o0 _) (kw_out K o0 _) C Kh (c_Store_put_T1 l hNT D K z0 tk0 tv0 gk0 gv0 d0 x0 m0 c0 t0 k0 _ _ _) yw_Store_put sel_Store_put lk_Law_34 d_Law_put_4 rfl rfl rfl [0] [1] [1, 0] rfl rfl rfl rfl (by decide) rfl rfl rfl rfl ⟨by decide, by decide⟩ ⟨by decide, by decide⟩ (Nat.le_of_ble_eq_true rfl) [] (0, 16, 19, 15) [(0, 16, 22, 32), (0, 16, 25, 13)] rfl (fun z hz => by cases hz) rfl (by decide) kk_Law_15 kt_cISE (by decide) (fun q => ?_)
  refine ks_astore_n C rfl (by decide) rfl d_Law_put_19 ?_
  refine ks_iconst (a := 1) rfl C d_Law_put_20 ?_
  exact ks_iret C Z rfl rfl d_Law_put_21 rfl rfl ⟨rfl, rfl⟩
set_option maxRecDepth 100000 in
set_option maxHeartbeats 4000000 in
theorem c_Law_put_T2 (l : Launch) (hNT : l.stackTraces = false) (D : va_G) (K : Nat → ClassId) (z0 tk0 tv0 gk0 gv0 d0 x0 m0 c0 t0 k0 : Nat) (fnd : Bool) (t : Nat) (o0 : Nat) (O : Nat → Int64) : kh_M l D (ks_T K) (kt_R 16) y_Law_put b_Law_put 4 (some .int) [(0, 16, 19, 15), (0, 16, 22, 32), (0, 16, 25, 13)] [.ref z0, .int (nI t), .ref o0] (kw_store z0 tk0 tv0 gk0 gv0 d0 x0 m0 c0 t0 k0 fnd true false ++ kw_out K o0 O) (ks_f (some (.int (nI 1))) (kw_store z0 tk0 tv0 gk0 gv0 d0 x0 m0 c0 t0 k0 fnd true false ++ kw_out K o0 O)) := by
  refine kh_M.of 1 (by decide) (Nat.le_of_ble_eq_true rfl) ?_
  intro E C Kh Z
  refine ks_aload_n rfl rfl C d_Law_put_0 ?_
  refine ks_iconst (a := 0) rfl C d_Law_put_1 ?_
  refine ks_aload_n rfl rfl C d_Law_put_2 ?_
  refine ks_iload_n rfl rfl C d_Law_put_3 ?_
  refine ks_callCW (ci := 8) (q0 := 0) (kw_store z0 tk0 tv0 gk0 gv0 d0 x0 m0 c0 t0 k0 _ _ _ ++ kw_out K o0 _) (kw_out K o0 _) C Kh (c_Store_put_T2 l hNT D K z0 tk0 tv0 gk0 gv0 d0 x0 m0 c0 t0 k0 _ _) yw_Store_put sel_Store_put lk_Law_34 d_Law_put_4 rfl rfl rfl [0] [1] [1, 0] rfl rfl rfl rfl (by decide) rfl rfl rfl rfl ⟨by decide, by decide⟩ ⟨by decide, by decide⟩ (Nat.le_of_ble_eq_true rfl) [] (0, 16, 19, 15) [(0, 16, 22, 32), (0, 16, 25, 13)] rfl (fun z hz => by cases hz) rfl (by decide) kk_Law_15 kt_cISE (by decide) (fun q => ?_)
  refine ks_astore_n C rfl (by decide) rfl d_Law_put_19 ?_
  refine ks_iconst (a := 1) rfl C d_Law_put_20 ?_
  exact ks_iret C Z rfl rfl d_Law_put_21 rfl rfl ⟨rfl, rfl⟩
set_option maxRecDepth 100000 in
set_option maxHeartbeats 4000000 in
theorem c_Law_put_T3 (l : Launch) (hNT : l.stackTraces = false) (D : va_G) (K : Nat → ClassId) (z0 tk0 tv0 gk0 gv0 d0 x0 m0 c0 t0 k0 : Nat) (fnd : Bool) (t1 t2 n0 n1 x1 x2 pg ca top : Nat) (pn ps P : Nat → Nat) (B : Nat → UInt8) (G : Nat → Bool) (t : Nat) (h1 : kv_has B t = false) (h0 : t < 4294967296) (o0 : Nat) (O : Nat → Int64) : kh_M l D (ks_T K) (kt_R 16) y_Law_put b_Law_put 4 (some .int) [(0, 16, 19, 15), (0, 16, 22, 32), (0, 16, 25, 13)] [.ref z0, .int (nI t), .ref o0] (kw_store z0 tk0 tv0 gk0 gv0 d0 x0 m0 c0 t0 k0 fnd true true ++ kw_trees K t0 t1 t2 x0 n0 c0 pn ps top ++ kw_nodes K n0 n1 x0 P ++ kw_chains c0 x0 pg ca ++ kw_pages K x0 x1 x2 B G ++ kw_out K o0 O) (ks_f (some (.int (nI 2))) (kw_store z0 tk0 tv0 gk0 gv0 d0 x0 m0 c0 t0 k0 fnd true true ++ kw_trees K t0 t1 t2 x0 n0 c0 pn ps top ++ kw_nodes K n0 n1 x0 P ++ kw_chains c0 x0 pg ca ++ kw_pages K x0 x1 x2 B G ++ kw_out K o0 O)) := by
  refine kh_M.of 1 (by decide) (Nat.le_of_ble_eq_true rfl) ?_
  intro E C Kh Z
  refine ks_aload_n rfl rfl C d_Law_put_0 ?_
  refine ks_iconst (a := 0) rfl C d_Law_put_1 ?_
  refine ks_aload_n rfl rfl C d_Law_put_2 ?_
  refine ks_iload_n rfl rfl C d_Law_put_3 ?_
  refine ks_callCW (ci := 8) (q0 := 0) (kw_store z0 tk0 tv0 gk0 gv0 d0 x0 m0 c0 t0 k0 _ _ _ ++ kw_trees K t0 t1 t2 x0 n0 c0 _ _ _ ++ kw_nodes K n0 n1 x0 _ ++ kw_chains c0 x0 _ _ ++ kw_pages K x0 x1 x2 _ _ ++ kw_out K o0 _) (kw_out K o0 _) C Kh (c_Store_put_T3 l hNT D K z0 tk0 tv0 gk0 gv0 d0 x0 m0 c0 t0 k0 _ t1 t2 n0 n1 x1 x2 _ _ _ _ _ _ _ _ _ h1 h0) yw_Store_put sel_Store_put lk_Law_34 d_Law_put_4 rfl rfl rfl [0, 1, 2, 3, 4, 5, 6, 7, 8, 9] [10] [1, 2, 3, 4, 5, 6, 7, 8, 9, 10, 0] rfl rfl rfl rfl (by decide) rfl rfl rfl rfl ⟨by decide, by decide⟩ ⟨by decide, by decide⟩ (Nat.le_of_ble_eq_true rfl) [(0, 16, 19, 15)] (0, 16, 22, 32) [(0, 16, 25, 13)] rfl (fun z hz => by rcases List.mem_cons.mp hz with rfl | hz; exact ⟨by decide, _, by decide, by decide, kk_Law_15⟩; cases hz) rfl (by decide) kk_Law_32 kt_cNSE (by decide) (fun q => ?_)
  refine ks_astore_n C rfl (by decide) rfl d_Law_put_22 ?_
  refine ks_iconst (a := 2) rfl C d_Law_put_23 ?_
  exact ks_iret C Z rfl rfl d_Law_put_24 rfl rfl ⟨rfl, rfl⟩
set_option maxRecDepth 100000 in
set_option maxHeartbeats 4000000 in
theorem c_Law_put_T4 (l : Launch) (hNT : l.stackTraces = false) (D : va_G) (K : Nat → ClassId) (z0 tk0 tv0 gk0 gv0 d0 x0 m0 c0 t0 k0 : Nat) (fnd : Bool) (t1 t2 n0 n1 x1 x2 pg ca top : Nat) (pn ps P : Nat → Nat) (B : Nat → UInt8) (G : Nat → Bool) (tk1 : Nat) (Kb : Nat → UInt8) (kl : Nat) (t : Nat) (h1 : kv_has B t = true) (h0 : t < 4294967296) (h2 : t < 64) (h3 : kl = 0) (o0 : Nat) (O : Nat → Int64) : kh_M l D (ks_T K) (kt_R 16) y_Law_put b_Law_put 4 (some .int) [(0, 16, 19, 15), (0, 16, 22, 32), (0, 16, 25, 13)] [.ref z0, .int (nI t), .ref o0] (kw_store z0 tk0 tv0 gk0 gv0 d0 x0 m0 c0 t0 k0 fnd true true ++ kw_trees K t0 t1 t2 x0 n0 c0 pn ps top ++ kw_nodes K n0 n1 x0 P ++ kw_chains c0 x0 pg ca ++ kw_pages K x0 x1 x2 B G ++ kw_row K tk0 tk1 Kb kl ++ kw_out K o0 O) (ks_f (some (.int (nI 3))) (kw_store z0 tk0 tv0 gk0 gv0 d0 x0 m0 c0 t0 k0 fnd true true ++ kw_trees K t0 t1 t2 x0 n0 c0 pn ps top ++ kw_nodes K n0 n1 x0 P ++ kw_chains c0 x0 pg ca ++ kw_pages K x0 x1 x2 B G ++ kw_row K tk0 tk1 Kb kl ++ kw_out K o0 O)) := by
  refine kh_M.of 1 (by decide) (Nat.le_of_ble_eq_true rfl) ?_
  intro E C Kh Z
  refine ks_aload_n rfl rfl C d_Law_put_0 ?_
  refine ks_iconst (a := 0) rfl C d_Law_put_1 ?_
  refine ks_aload_n rfl rfl C d_Law_put_2 ?_
  refine ks_iload_n rfl rfl C d_Law_put_3 ?_
  refine ks_callCW (ci := 8) (q0 := 0) (kw_store z0 tk0 tv0 gk0 gv0 d0 x0 m0 c0 t0 k0 _ _ _ ++ kw_trees K t0 t1 t2 x0 n0 c0 _ _ _ ++ kw_nodes K n0 n1 x0 _ ++ kw_chains c0 x0 _ _ ++ kw_pages K x0 x1 x2 _ _ ++ kw_row K tk0 tk1 _ _ ++ kw_out K o0 _) (kw_out K o0 _) C Kh (c_Store_put_T4 l hNT D K z0 tk0 tv0 gk0 gv0 d0 x0 m0 c0 t0 k0 _ t1 t2 n0 n1 x1 x2 _ _ _ _ _ _ _ _ tk1 _ _ _ h1 h0 h2 h3) yw_Store_put sel_Store_put lk_Law_34 d_Law_put_4 rfl rfl rfl [0, 1, 2, 3, 4, 5, 6, 7, 8, 9, 10, 11] [12] [1, 2, 3, 4, 5, 6, 7, 8, 9, 10, 11, 12, 0] rfl rfl rfl rfl (by decide) rfl rfl rfl rfl ⟨by decide, by decide⟩ ⟨by decide, by decide⟩ (Nat.le_of_ble_eq_true rfl) [(0, 16, 19, 15), (0, 16, 22, 32)] (0, 16, 25, 13) [] rfl (fun z hz => by rcases List.mem_cons.mp hz with rfl | hz; exact ⟨by decide, _, by decide, by decide, kk_Law_15⟩; rcases List.mem_cons.mp hz with rfl | hz; exact ⟨by decide, _, by decide, by decide, kk_Law_32⟩; cases hz) rfl (by decide) kk_Law_13 kt_cIAE (by decide) (fun q => ?_)
  refine ks_astore_n C rfl (by decide) rfl d_Law_put_25 ?_
  refine ks_iconst (a := 3) rfl C d_Law_put_26 ?_
  exact ks_iret C Z rfl rfl d_Law_put_27 rfl rfl ⟨rfl, rfl⟩
set_option maxRecDepth 100000 in
set_option maxHeartbeats 4000000 in
theorem c_Law_put_T5 (l : Launch) (hNT : l.stackTraces = false) (D : va_G) (K : Nat → ClassId) (z0 tk0 tv0 gk0 gv0 d0 x0 m0 c0 t0 k0 : Nat) (fnd : Bool) (t1 t2 n0 n1 x1 x2 pg ca top : Nat) (pn ps P : Nat → Nat) (B : Nat → UInt8) (G : Nat → Bool) (tk1 : Nat) (Kb : Nat → UInt8) (kl : Nat) (tv1 : Nat) (Vb : Nat → UInt8) (vl : Nat) (t : Nat) (h1 : kv_has B t = true) (h0 : t < 4294967296) (h2 : t < 64) (h3 : 1 ≤ kl) (h4 : kl ≤ 8448) (h5 : vl ≤ 8448) (hp : ∀ j, pn j < 65536) (hs : ∀ j, ps j < 65536) (hz : kv_size B (kv_look B Kb kl t pn ps) ≤ kv_num B 8 + (16 + kl + vl)) (h6 : 36864 < kv_num B 8 + (16 + kl + vl) - kv_size B (kv_look B Kb kl t pn ps)) (o0 : Nat) (O : Nat → Int64) : kh_M l D (ks_T K) (kt_R 16) y_Law_put b_Law_put 4 (some .int) [(0, 16, 19, 15), (0, 16, 22, 32), (0, 16, 25, 13)] [.ref z0, .int (nI t), .ref o0] (kw_store z0 tk0 tv0 gk0 gv0 d0 x0 m0 c0 t0 k0 fnd true true ++ kw_trees K t0 t1 t2 x0 n0 c0 pn ps top ++ kw_nodes K n0 n1 x0 P ++ kw_chains c0 x0 pg ca ++ kw_pages K x0 x1 x2 B G ++ kw_row K tk0 tk1 Kb kl ++ kw_row K tv0 tv1 Vb vl ++ kw_out K o0 O) (ks_f (some (.int (nI 1))) (kw_store z0 tk0 tv0 gk0 gv0 d0 x0 m0 c0 t0 k0 fnd true true ++ kw_trees K t0 t1 t2 x0 n0 c0 (kv_desc B Kb kl t pn ps).1 (kv_desc B Kb kl t pn ps).2 (kv_level B (kv_root B t)) ++ kw_nodes K n0 n1 x0 P ++ kw_chains c0 x0 pg ca ++ kw_pages K x0 x1 x2 B G ++ kw_row K tk0 tk1 Kb kl ++ kw_row K tv0 tv1 Vb vl ++ kw_out K o0 O)) := by
  refine kh_M.of 1 (by decide) (Nat.le_of_ble_eq_true rfl) ?_
  intro E C Kh Z
  refine ks_aload_n rfl rfl C d_Law_put_0 ?_
  refine ks_iconst (a := 0) rfl C d_Law_put_1 ?_
  refine ks_aload_n rfl rfl C d_Law_put_2 ?_
  refine ks_iload_n rfl rfl C d_Law_put_3 ?_
  refine ks_callCW (ci := 8) (q0 := 0) (kw_store z0 tk0 tv0 gk0 gv0 d0 x0 m0 c0 t0 k0 _ _ _ ++ kw_trees K t0 t1 t2 x0 n0 c0 _ _ _ ++ kw_nodes K n0 n1 x0 _ ++ kw_chains c0 x0 _ _ ++ kw_pages K x0 x1 x2 _ _ ++ kw_row K tk0 tk1 _ _ ++ kw_row K tv0 tv1 _ _ ++ kw_out K o0 _) (kw_out K o0 _) C Kh (c_Store_put_T5 l hNT D K z0 tk0 tv0 gk0 gv0 d0 x0 m0 c0 t0 k0 _ t1 t2 n0 n1 x1 x2 _ _ _ _ _ _ _ _ tk1 _ _ tv1 _ _ _ h1 h0 h2 h3 h4 h5 hp hs hz h6) yw_Store_put sel_Store_put lk_Law_34 d_Law_put_4 rfl rfl rfl [0, 1, 2, 3, 4, 5, 6, 7, 8, 9, 10, 11, 12, 13] [14] [1, 2, 3, 4, 5, 6, 7, 8, 9, 10, 11, 12, 13, 14, 0] rfl rfl rfl rfl (by decide) rfl rfl rfl rfl ⟨by decide, by decide⟩ ⟨by decide, by decide⟩ (Nat.le_of_ble_eq_true rfl) [] (0, 16, 19, 15) [(0, 16, 22, 32), (0, 16, 25, 13)] rfl (fun z hz => by cases hz) rfl (by decide) kk_Law_15 kt_cISE (by decide) (fun q => ?_)
  refine ks_astore_n C rfl (by decide) rfl d_Law_put_19 ?_
  refine ks_iconst (a := 1) rfl C d_Law_put_20 ?_
  exact ks_iret C Z rfl rfl d_Law_put_21 rfl rfl ⟨rfl, rfl⟩
set_option maxRecDepth 100000 in
set_option maxHeartbeats 4000000 in
theorem c_Law_put_new (l : Launch) (hNT : l.stackTraces = false) (D : va_G) (K : Nat → ClassId) (z0 tk0 tv0 gk0 gv0 d0 x0 m0 c0 t0 k0 : Nat) (fnd : Bool) (t1 t2 n0 n1 x1 x2 pg ca top : Nat) (pn ps P : Nat → Nat) (B : Nat → UInt8) (G : Nat → Bool) (tk1 : Nat) (Kb : Nat → UInt8) (kl : Nat) (tv1 : Nat) (Vb : Nat → UInt8) (vl : Nat) (t : Nat) (h1 : kv_has B t = true) (h0 : t < 4294967296) (h2 : t < 64) (h3 : 1 ≤ kl) (h4 : kl ≤ 8448) (h5 : vl ≤ 8448) (hp : ∀ j, pn j < 65536) (hs : ∀ j, ps j < 65536) (hz : kv_size B (kv_look B Kb kl t pn ps) ≤ kv_num B 8 + (16 + kl + vl)) (h6 : kv_num B 8 + (16 + kl + vl) - kv_size B (kv_look B Kb kl t pn ps) ≤ 36864) (h7 : (kv_look B Kb kl t pn ps) = 0) (o0 : Nat) (O : Nat → Int64) : kh_M l D (ks_T K) (kt_R 16) y_Law_put b_Law_put 4 (some .int) [(0, 16, 19, 15), (0, 16, 22, 32), (0, 16, 25, 13)] [.ref z0, .int (nI t), .ref o0] (kw_store z0 tk0 tv0 gk0 gv0 d0 x0 m0 c0 t0 k0 fnd true true ++ kw_trees K t0 t1 t2 x0 n0 c0 pn ps top ++ kw_nodes K n0 n1 x0 P ++ kw_chains c0 x0 pg ca ++ kw_pages K x0 x1 x2 B G ++ kw_row K tk0 tk1 Kb kl ++ kw_row K tv0 tv1 Vb vl ++ kw_out K o0 O) (ks_f (some (.int (nI 0))) (kw_store z0 tk0 tv0 gk0 gv0 d0 x0 m0 c0 t0 k0 fnd true true ++ kw_trees K t0 t1 t2 x0 n0 c0 (kv_desc B Kb kl t pn ps).1 (kv_desc B Kb kl t pn ps).2 (kv_level B (kv_root B t)) ++ kw_nodes K n0 n1 x0 (kv_insH (B, G) P t (kv_level B (kv_root B t)) (kv_desc B Kb kl t pn ps).1 (kv_desc B Kb kl t pn ps).2 Kb kl Vb vl).1.2 ++ kw_chains c0 x0 (kv_insH (B, G) P t (kv_level B (kv_root B t)) (kv_desc B Kb kl t pn ps).1 (kv_desc B Kb kl t pn ps).2 Kb kl Vb vl).2.1 (kv_insH (B, G) P t (kv_level B (kv_root B t)) (kv_desc B Kb kl t pn ps).1 (kv_desc B Kb kl t pn ps).2 Kb kl Vb vl).2.2 ++ kw_pages K x0 x1 x2 (kv_insH (B, G) P t (kv_level B (kv_root B t)) (kv_desc B Kb kl t pn ps).1 (kv_desc B Kb kl t pn ps).2 Kb kl Vb vl).1.1.1 (kv_insH (B, G) P t (kv_level B (kv_root B t)) (kv_desc B Kb kl t pn ps).1 (kv_desc B Kb kl t pn ps).2 Kb kl Vb vl).1.1.2 ++ kw_row K tk0 tk1 Kb kl ++ kw_row K tv0 tv1 Vb vl ++ kw_out K o0 (va_up O 0 (0)))) := by
  refine kh_M.of 1 (by decide) (Nat.le_of_ble_eq_true rfl) ?_
  intro E C Kh Z
  refine ks_aload_n rfl rfl C d_Law_put_0 ?_
  refine ks_iconst (a := 0) rfl C d_Law_put_1 ?_
  refine ks_aload_n rfl rfl C d_Law_put_2 ?_
  refine ks_iload_n rfl rfl C d_Law_put_3 ?_
  refine ks_cxW (ci := 8) (q0 := 0) (kw_store z0 tk0 tv0 gk0 gv0 d0 x0 m0 c0 t0 k0 _ _ _ ++ kw_trees K t0 t1 t2 x0 n0 c0 _ _ _ ++ kw_nodes K n0 n1 x0 _ ++ kw_chains c0 x0 _ _ ++ kw_pages K x0 x1 x2 _ _ ++ kw_row K tk0 tk1 _ _ ++ kw_row K tv0 tv1 _ _ ++ kw_out K o0 _) (kw_out K o0 _) C (c_Store_put_new l D K z0 tk0 tv0 gk0 gv0 d0 x0 m0 c0 t0 k0 _ t1 t2 n0 n1 x1 x2 _ _ _ _ _ _ _ _ tk1 _ _ tv1 _ _ _ h1 h0 h2 h3 h4 h5 hp hs hz h6 h7) yw_Store_put sel_Store_put lk_Law_34 d_Law_put_4 rfl rfl rfl [0, 1, 2, 3, 4, 5, 6, 7, 8, 9, 10, 11, 12, 13] [14] [1, 2, 3, 4, 5, 6, 7, 8, 9, 10, 11, 12, 13, 14, 0] rfl rfl rfl rfl (by decide) rfl rfl rfl rfl rfl ⟨by decide, by decide⟩ ⟨by decide, by decide⟩ rfl (Nat.le_of_ble_eq_true rfl) ?_
  refine ks_ifB_eq (tgt := 14) C (by decide) d_Law_put_7 (fun _ => ?_) (fun h => absurd h (by decide))
  refine ks_lconst rfl C d_Law_put_14 ?_
  refine ks_last (ws' := (kw_store z0 tk0 tv0 gk0 gv0 d0 x0 m0 c0 t0 k0 _ _ _ ++ kw_trees K t0 t1 t2 x0 n0 c0 _ _ _ ++ kw_nodes K n0 n1 x0 _ ++ kw_chains c0 x0 _ _ ++ kw_pages K x0 x1 x2 _ _ ++ kw_row K tk0 tk1 _ _ ++ kw_row K tv0 tv1 _ _ ++ kw_out K o0 _)) C 14 3 rfl rfl (by omega) (by omega) rfl d_Law_put_15 ?_
  refine ks_goto (tgt := 28) C (by decide) d_Law_put_16 ?_
  refine ks_iconst (a := 0) rfl C d_Law_put_28 ?_
  refine ks_more (cs' := 1) (ss' := 6) (by decide) (by decide) ?_
  exact ks_iret C Z rfl rfl d_Law_put_29 rfl rfl ⟨rfl, rfl⟩
set_option maxRecDepth 100000 in
set_option maxHeartbeats 4000000 in
theorem c_Law_put_old (l : Launch) (hNT : l.stackTraces = false) (D : va_G) (K : Nat → ClassId) (z0 tk0 tv0 gk0 gv0 d0 x0 m0 c0 t0 k0 : Nat) (fnd : Bool) (t1 t2 n0 n1 x1 x2 pg ca top : Nat) (pn ps P : Nat → Nat) (B : Nat → UInt8) (G : Nat → Bool) (tk1 : Nat) (Kb : Nat → UInt8) (kl : Nat) (tv1 : Nat) (Vb : Nat → UInt8) (vl : Nat) (t : Nat) (h1 : kv_has B t = true) (h0 : t < 4294967296) (h2 : t < 64) (h3 : 1 ≤ kl) (h4 : kl ≤ 8448) (h5 : vl ≤ 8448) (hp : ∀ j, pn j < 65536) (hs : ∀ j, ps j < 65536) (hz : kv_size B (kv_look B Kb kl t pn ps) ≤ kv_num B 8 + (16 + kl + vl)) (h6 : kv_num B 8 + (16 + kl + vl) - kv_size B (kv_look B Kb kl t pn ps) ≤ 36864) (h7 : (kv_look B Kb kl t pn ps) ≠ 0) (o0 : Nat) (O : Nat → Int64) : kh_M l D (ks_T K) (kt_R 16) y_Law_put b_Law_put 4 (some .int) [(0, 16, 19, 15), (0, 16, 22, 32), (0, 16, 25, 13)] [.ref z0, .int (nI t), .ref o0] (kw_store z0 tk0 tv0 gk0 gv0 d0 x0 m0 c0 t0 k0 fnd true true ++ kw_trees K t0 t1 t2 x0 n0 c0 pn ps top ++ kw_nodes K n0 n1 x0 P ++ kw_chains c0 x0 pg ca ++ kw_pages K x0 x1 x2 B G ++ kw_row K tk0 tk1 Kb kl ++ kw_row K tv0 tv1 Vb vl ++ kw_out K o0 O) (ks_f (some (.int (nI 0))) (kw_store z0 tk0 tv0 gk0 gv0 d0 x0 m0 c0 t0 k0 fnd true true ++ kw_trees K t0 t1 t2 x0 n0 c0 (kv_desc B Kb kl t pn ps).1 (kv_desc B Kb kl t pn ps).2 (kv_level B (kv_root B t)) ++ kw_nodes K n0 n1 x0 P ++ kw_chains c0 x0 (kv_repl (B, G) ((kv_desc B Kb kl t pn ps).1 0) ((kv_desc B Kb kl t pn ps).2 0) Kb kl Vb vl).2.1 (kv_repl (B, G) ((kv_desc B Kb kl t pn ps).1 0) ((kv_desc B Kb kl t pn ps).2 0) Kb kl Vb vl).2.2 ++ kw_pages K x0 x1 x2 (kv_repl (B, G) ((kv_desc B Kb kl t pn ps).1 0) ((kv_desc B Kb kl t pn ps).2 0) Kb kl Vb vl).1.1 (kv_repl (B, G) ((kv_desc B Kb kl t pn ps).1 0) ((kv_desc B Kb kl t pn ps).2 0) Kb kl Vb vl).1.2 ++ kw_row K tk0 tk1 Kb kl ++ kw_row K tv0 tv1 Vb vl ++ kw_out K o0 (va_up O 0 (1)))) := by
  refine kh_M.of 1 (by decide) (Nat.le_of_ble_eq_true rfl) ?_
  intro E C Kh Z
  refine ks_aload_n rfl rfl C d_Law_put_0 ?_
  refine ks_iconst (a := 0) rfl C d_Law_put_1 ?_
  refine ks_aload_n rfl rfl C d_Law_put_2 ?_
  refine ks_iload_n rfl rfl C d_Law_put_3 ?_
  refine ks_cxW (ci := 8) (q0 := 0) (kw_store z0 tk0 tv0 gk0 gv0 d0 x0 m0 c0 t0 k0 _ _ _ ++ kw_trees K t0 t1 t2 x0 n0 c0 _ _ _ ++ kw_nodes K n0 n1 x0 _ ++ kw_chains c0 x0 _ _ ++ kw_pages K x0 x1 x2 _ _ ++ kw_row K tk0 tk1 _ _ ++ kw_row K tv0 tv1 _ _ ++ kw_out K o0 _) (kw_out K o0 _) C (c_Store_put_old l D K z0 tk0 tv0 gk0 gv0 d0 x0 m0 c0 t0 k0 _ t1 t2 n0 n1 x1 x2 _ _ _ _ _ _ _ _ tk1 _ _ tv1 _ _ _ h1 h0 h2 h3 h4 h5 hp hs hz h6 h7) yw_Store_put sel_Store_put lk_Law_34 d_Law_put_4 rfl rfl rfl [0, 1, 2, 3, 4, 5, 6, 7, 8, 9, 10, 11, 12, 13] [14] [1, 2, 3, 4, 5, 6, 7, 8, 9, 10, 11, 12, 13, 14, 0] rfl rfl rfl rfl (by decide) rfl rfl rfl rfl rfl ⟨by decide, by decide⟩ ⟨by decide, by decide⟩ rfl (Nat.le_of_ble_eq_true rfl) ?_
  refine ks_ifB_eq (tgt := 14) C (by decide) d_Law_put_7 (fun h => absurd h (by decide)) (fun _ => ?_)
  refine ks_lconst rfl C d_Law_put_10 ?_
  refine ks_goto (tgt := 15) C (by decide) d_Law_put_11 ?_
  refine ks_last (ws' := (kw_store z0 tk0 tv0 gk0 gv0 d0 x0 m0 c0 t0 k0 _ _ _ ++ kw_trees K t0 t1 t2 x0 n0 c0 _ _ _ ++ kw_nodes K n0 n1 x0 _ ++ kw_chains c0 x0 _ _ ++ kw_pages K x0 x1 x2 _ _ ++ kw_row K tk0 tk1 _ _ ++ kw_row K tv0 tv1 _ _ ++ kw_out K o0 _)) C 14 3 rfl rfl (by omega) (by omega) rfl d_Law_put_15 ?_
  refine ks_goto (tgt := 28) C (by decide) d_Law_put_16 ?_
  refine ks_iconst (a := 0) rfl C d_Law_put_28 ?_
  refine ks_more (cs' := 1) (ss' := 6) (by decide) (by decide) ?_
  exact ks_iret C Z rfl rfl d_Law_put_29 rfl rfl ⟨rfl, rfl⟩
set_option maxRecDepth 100000 in
set_option maxHeartbeats 4000000 in
theorem c_Law_remove_T1 (l : Launch) (hNT : l.stackTraces = false) (D : va_G) (K : Nat → ClassId) (z0 tk0 tv0 gk0 gv0 d0 x0 m0 c0 t0 k0 : Nat) (fnd opn : Bool) (t : Nat) (o0 : Nat) (O : Nat → Int64) : kh_M l D (ks_T K) (kt_R 16) y_Law_remove b_Law_remove 4 (some .int) [(0, 16, 19, 15), (0, 16, 22, 32)] [.ref z0, .int (nI t), .ref o0] (kw_store z0 tk0 tv0 gk0 gv0 d0 x0 m0 c0 t0 k0 fnd false opn ++ kw_out K o0 O) (ks_f (some (.int (nI 1))) (kw_store z0 tk0 tv0 gk0 gv0 d0 x0 m0 c0 t0 k0 fnd false opn ++ kw_out K o0 O)) := by
  refine kh_M.of 1 (by decide) (Nat.le_of_ble_eq_true rfl) ?_
  intro E C Kh Z
  refine ks_aload_n rfl rfl C d_Law_remove_0 ?_
  refine ks_iconst (a := 0) rfl C d_Law_remove_1 ?_
  refine ks_aload_n rfl rfl C d_Law_remove_2 ?_
  refine ks_iload_n rfl rfl C d_Law_remove_3 ?_
  refine ks_callCW (ci := 8) (q0 := 0) (kw_store z0 tk0 tv0 gk0 gv0 d0 x0 m0 c0 t0 k0 _ _ _ ++ kw_out K o0 _) (kw_out K o0 _) C Kh (c_Store_remove_T1 l hNT D K z0 tk0 tv0 gk0 gv0 d0 x0 m0 c0 t0 k0 _ _ _) yw_Store_remove sel_Store_remove lk_Law_38 d_Law_remove_4 rfl rfl rfl [0] [1] [1, 0] rfl rfl rfl rfl (by decide) rfl rfl rfl rfl ⟨by decide, by decide⟩ ⟨by decide, by decide⟩ (Nat.le_of_ble_eq_true rfl) [] (0, 16, 19, 15) [(0, 16, 22, 32)] rfl (fun z hz => by cases hz) rfl (by decide) kk_Law_15 kt_cISE (by decide) (fun q => ?_)
  refine ks_astore_n C rfl (by decide) rfl d_Law_remove_19 ?_
  refine ks_iconst (a := 1) rfl C d_Law_remove_20 ?_
  exact ks_iret C Z rfl rfl d_Law_remove_21 rfl rfl ⟨rfl, rfl⟩
set_option maxRecDepth 100000 in
set_option maxHeartbeats 4000000 in
theorem c_Law_remove_T2 (l : Launch) (hNT : l.stackTraces = false) (D : va_G) (K : Nat → ClassId) (z0 tk0 tv0 gk0 gv0 d0 x0 m0 c0 t0 k0 : Nat) (fnd : Bool) (t : Nat) (o0 : Nat) (O : Nat → Int64) : kh_M l D (ks_T K) (kt_R 16) y_Law_remove b_Law_remove 4 (some .int) [(0, 16, 19, 15), (0, 16, 22, 32)] [.ref z0, .int (nI t), .ref o0] (kw_store z0 tk0 tv0 gk0 gv0 d0 x0 m0 c0 t0 k0 fnd true false ++ kw_out K o0 O) (ks_f (some (.int (nI 1))) (kw_store z0 tk0 tv0 gk0 gv0 d0 x0 m0 c0 t0 k0 fnd true false ++ kw_out K o0 O)) := by
  refine kh_M.of 1 (by decide) (Nat.le_of_ble_eq_true rfl) ?_
  intro E C Kh Z
  refine ks_aload_n rfl rfl C d_Law_remove_0 ?_
  refine ks_iconst (a := 0) rfl C d_Law_remove_1 ?_
  refine ks_aload_n rfl rfl C d_Law_remove_2 ?_
  refine ks_iload_n rfl rfl C d_Law_remove_3 ?_
  refine ks_callCW (ci := 8) (q0 := 0) (kw_store z0 tk0 tv0 gk0 gv0 d0 x0 m0 c0 t0 k0 _ _ _ ++ kw_out K o0 _) (kw_out K o0 _) C Kh (c_Store_remove_T2 l hNT D K z0 tk0 tv0 gk0 gv0 d0 x0 m0 c0 t0 k0 _ _) yw_Store_remove sel_Store_remove lk_Law_38 d_Law_remove_4 rfl rfl rfl [0] [1] [1, 0] rfl rfl rfl rfl (by decide) rfl rfl rfl rfl ⟨by decide, by decide⟩ ⟨by decide, by decide⟩ (Nat.le_of_ble_eq_true rfl) [] (0, 16, 19, 15) [(0, 16, 22, 32)] rfl (fun z hz => by cases hz) rfl (by decide) kk_Law_15 kt_cISE (by decide) (fun q => ?_)
  refine ks_astore_n C rfl (by decide) rfl d_Law_remove_19 ?_
  refine ks_iconst (a := 1) rfl C d_Law_remove_20 ?_
  exact ks_iret C Z rfl rfl d_Law_remove_21 rfl rfl ⟨rfl, rfl⟩
set_option maxRecDepth 100000 in
set_option maxHeartbeats 4000000 in
theorem c_Law_remove_T3 (l : Launch) (hNT : l.stackTraces = false) (D : va_G) (K : Nat → ClassId) (z0 tk0 tv0 gk0 gv0 d0 x0 m0 c0 t0 k0 : Nat) (fnd : Bool) (t1 t2 n0 n1 x1 x2 pg ca top : Nat) (pn ps P : Nat → Nat) (B : Nat → UInt8) (G : Nat → Bool) (t : Nat) (h1 : kv_has B t = false) (h0 : t < 4294967296) (o0 : Nat) (O : Nat → Int64) : kh_M l D (ks_T K) (kt_R 16) y_Law_remove b_Law_remove 4 (some .int) [(0, 16, 19, 15), (0, 16, 22, 32)] [.ref z0, .int (nI t), .ref o0] (kw_store z0 tk0 tv0 gk0 gv0 d0 x0 m0 c0 t0 k0 fnd true true ++ kw_trees K t0 t1 t2 x0 n0 c0 pn ps top ++ kw_nodes K n0 n1 x0 P ++ kw_chains c0 x0 pg ca ++ kw_pages K x0 x1 x2 B G ++ kw_out K o0 O) (ks_f (some (.int (nI 2))) (kw_store z0 tk0 tv0 gk0 gv0 d0 x0 m0 c0 t0 k0 fnd true true ++ kw_trees K t0 t1 t2 x0 n0 c0 pn ps top ++ kw_nodes K n0 n1 x0 P ++ kw_chains c0 x0 pg ca ++ kw_pages K x0 x1 x2 B G ++ kw_out K o0 O)) := by
  refine kh_M.of 1 (by decide) (Nat.le_of_ble_eq_true rfl) ?_
  intro E C Kh Z
  refine ks_aload_n rfl rfl C d_Law_remove_0 ?_
  refine ks_iconst (a := 0) rfl C d_Law_remove_1 ?_
  refine ks_aload_n rfl rfl C d_Law_remove_2 ?_
  refine ks_iload_n rfl rfl C d_Law_remove_3 ?_
  refine ks_callCW (ci := 8) (q0 := 0) (kw_store z0 tk0 tv0 gk0 gv0 d0 x0 m0 c0 t0 k0 _ _ _ ++ kw_trees K t0 t1 t2 x0 n0 c0 _ _ _ ++ kw_nodes K n0 n1 x0 _ ++ kw_chains c0 x0 _ _ ++ kw_pages K x0 x1 x2 _ _ ++ kw_out K o0 _) (kw_out K o0 _) C Kh (c_Store_remove_T3 l hNT D K z0 tk0 tv0 gk0 gv0 d0 x0 m0 c0 t0 k0 _ t1 t2 n0 n1 x1 x2 _ _ _ _ _ _ _ _ _ h1 h0) yw_Store_remove sel_Store_remove lk_Law_38 d_Law_remove_4 rfl rfl rfl [0, 1, 2, 3, 4, 5, 6, 7, 8, 9] [10] [1, 2, 3, 4, 5, 6, 7, 8, 9, 10, 0] rfl rfl rfl rfl (by decide) rfl rfl rfl rfl ⟨by decide, by decide⟩ ⟨by decide, by decide⟩ (Nat.le_of_ble_eq_true rfl) [(0, 16, 19, 15)] (0, 16, 22, 32) [] rfl (fun z hz => by rcases List.mem_cons.mp hz with rfl | hz; exact ⟨by decide, _, by decide, by decide, kk_Law_15⟩; cases hz) rfl (by decide) kk_Law_32 kt_cNSE (by decide) (fun q => ?_)
  refine ks_astore_n C rfl (by decide) rfl d_Law_remove_22 ?_
  refine ks_iconst (a := 2) rfl C d_Law_remove_23 ?_
  exact ks_iret C Z rfl rfl d_Law_remove_24 rfl rfl ⟨rfl, rfl⟩
set_option maxRecDepth 100000 in
set_option maxHeartbeats 4000000 in
theorem c_Law_remove_no (l : Launch) (hNT : l.stackTraces = false) (D : va_G) (K : Nat → ClassId) (z0 tk0 tv0 gk0 gv0 d0 x0 m0 c0 t0 k0 : Nat) (fnd : Bool) (t1 t2 n0 n1 x1 x2 pg ca top : Nat) (pn ps P : Nat → Nat) (B : Nat → UInt8) (G : Nat → Bool) (tk1 : Nat) (Kb : Nat → UInt8) (kl : Nat) (t : Nat) (h1 : kv_has B t = true) (h0 : t < 4294967296) (h2 : t < 64) (h4 : kl ≤ 8448) (hp : ∀ j, pn j < 65536) (hs : ∀ j, ps j < 65536) (h7 : (kv_look B Kb kl t pn ps) = 0) (o0 : Nat) (O : Nat → Int64) : kh_M l D (ks_T K) (kt_R 16) y_Law_remove b_Law_remove 4 (some .int) [(0, 16, 19, 15), (0, 16, 22, 32)] [.ref z0, .int (nI t), .ref o0] (kw_store z0 tk0 tv0 gk0 gv0 d0 x0 m0 c0 t0 k0 fnd true true ++ kw_trees K t0 t1 t2 x0 n0 c0 pn ps top ++ kw_nodes K n0 n1 x0 P ++ kw_chains c0 x0 pg ca ++ kw_pages K x0 x1 x2 B G ++ kw_row K tk0 tk1 Kb kl ++ kw_out K o0 O) (ks_f (some (.int (nI 0))) (kw_store z0 tk0 tv0 gk0 gv0 d0 x0 m0 c0 t0 k0 fnd true true ++ kw_trees K t0 t1 t2 x0 n0 c0 (kv_desc B Kb kl t pn ps).1 (kv_desc B Kb kl t pn ps).2 (kv_level B (kv_root B t)) ++ kw_nodes K n0 n1 x0 P ++ kw_chains c0 x0 pg ca ++ kw_pages K x0 x1 x2 B G ++ kw_row K tk0 tk1 Kb kl ++ kw_out K o0 (va_up O 0 (0)))) := by
  refine kh_M.of 1 (by decide) (Nat.le_of_ble_eq_true rfl) ?_
  intro E C Kh Z
  refine ks_aload_n rfl rfl C d_Law_remove_0 ?_
  refine ks_iconst (a := 0) rfl C d_Law_remove_1 ?_
  refine ks_aload_n rfl rfl C d_Law_remove_2 ?_
  refine ks_iload_n rfl rfl C d_Law_remove_3 ?_
  refine ks_cxW (ci := 8) (q0 := 0) (kw_store z0 tk0 tv0 gk0 gv0 d0 x0 m0 c0 t0 k0 _ _ _ ++ kw_trees K t0 t1 t2 x0 n0 c0 _ _ _ ++ kw_nodes K n0 n1 x0 _ ++ kw_chains c0 x0 _ _ ++ kw_pages K x0 x1 x2 _ _ ++ kw_row K tk0 tk1 _ _ ++ kw_out K o0 _) (kw_out K o0 _) C (c_Store_remove_no l D K z0 tk0 tv0 gk0 gv0 d0 x0 m0 c0 t0 k0 _ t1 t2 n0 n1 x1 x2 _ _ _ _ _ _ _ _ tk1 _ _ _ h1 h0 h2 h4 hp hs h7) yw_Store_remove sel_Store_remove lk_Law_38 d_Law_remove_4 rfl rfl rfl [0, 1, 2, 3, 4, 5, 6, 7, 8, 9, 10, 11] [12] [1, 2, 3, 4, 5, 6, 7, 8, 9, 10, 11, 12, 0] rfl rfl rfl rfl (by decide) rfl rfl rfl rfl rfl ⟨by decide, by decide⟩ ⟨by decide, by decide⟩ rfl (Nat.le_of_ble_eq_true rfl) ?_
  refine ks_ifB_eq (tgt := 14) C (by decide) d_Law_remove_7 (fun _ => ?_) (fun h => absurd h (by decide))
  refine ks_lconst rfl C d_Law_remove_14 ?_
  refine ks_last (ws' := (kw_store z0 tk0 tv0 gk0 gv0 d0 x0 m0 c0 t0 k0 _ _ _ ++ kw_trees K t0 t1 t2 x0 n0 c0 _ _ _ ++ kw_nodes K n0 n1 x0 _ ++ kw_chains c0 x0 _ _ ++ kw_pages K x0 x1 x2 _ _ ++ kw_row K tk0 tk1 _ _ ++ kw_out K o0 _)) C 12 3 rfl rfl (by omega) (by omega) rfl d_Law_remove_15 ?_
  refine ks_goto (tgt := 25) C (by decide) d_Law_remove_16 ?_
  refine ks_iconst (a := 0) rfl C d_Law_remove_25 ?_
  refine ks_more (cs' := 1) (ss' := 6) (by decide) (by decide) ?_
  exact ks_iret C Z rfl rfl d_Law_remove_26 rfl rfl ⟨rfl, rfl⟩
set_option maxRecDepth 100000 in
set_option maxHeartbeats 4000000 in
theorem c_Law_remove_ok (l : Launch) (hNT : l.stackTraces = false) (D : va_G) (K : Nat → ClassId) (z0 tk0 tv0 gk0 gv0 d0 x0 m0 c0 t0 k0 : Nat) (fnd : Bool) (t1 t2 n0 n1 x1 x2 pg ca top : Nat) (pn ps P : Nat → Nat) (B : Nat → UInt8) (G : Nat → Bool) (tk1 : Nat) (Kb : Nat → UInt8) (kl : Nat) (t : Nat) (h1 : kv_has B t = true) (h0 : t < 4294967296) (h2 : t < 64) (h4 : kl ≤ 8448) (hp : ∀ j, pn j < 65536) (hs : ∀ j, ps j < 65536) (h7 : (kv_look B Kb kl t pn ps) ≠ 0) (o0 : Nat) (O : Nat → Int64) : kh_M l D (ks_T K) (kt_R 16) y_Law_remove b_Law_remove 4 (some .int) [(0, 16, 19, 15), (0, 16, 22, 32)] [.ref z0, .int (nI t), .ref o0] (kw_store z0 tk0 tv0 gk0 gv0 d0 x0 m0 c0 t0 k0 fnd true true ++ kw_trees K t0 t1 t2 x0 n0 c0 pn ps top ++ kw_nodes K n0 n1 x0 P ++ kw_chains c0 x0 pg ca ++ kw_pages K x0 x1 x2 B G ++ kw_row K tk0 tk1 Kb kl ++ kw_out K o0 O) (ks_f (some (.int (nI 0))) (kw_store z0 tk0 tv0 gk0 gv0 d0 x0 m0 c0 t0 k0 fnd true true ++ kw_trees K t0 t1 t2 x0 n0 c0 (kv_desc B Kb kl t pn ps).1 (kv_desc B Kb kl t pn ps).2 (kv_level B (kv_root B t)) ++ kw_nodes K n0 n1 x0 (kv_delH (B, G) P t (kv_level B (kv_root B t)) (kv_desc B Kb kl t pn ps).1 (kv_desc B Kb kl t pn ps).2).2 ++ kw_chains c0 x0 pg ca ++ kw_pages K x0 x1 x2 (kv_delH (B, G) P t (kv_level B (kv_root B t)) (kv_desc B Kb kl t pn ps).1 (kv_desc B Kb kl t pn ps).2).1.1 (kv_delH (B, G) P t (kv_level B (kv_root B t)) (kv_desc B Kb kl t pn ps).1 (kv_desc B Kb kl t pn ps).2).1.2 ++ kw_row K tk0 tk1 Kb kl ++ kw_out K o0 (va_up O 0 (1)))) := by
  refine kh_M.of 1 (by decide) (Nat.le_of_ble_eq_true rfl) ?_
  intro E C Kh Z
  refine ks_aload_n rfl rfl C d_Law_remove_0 ?_
  refine ks_iconst (a := 0) rfl C d_Law_remove_1 ?_
  refine ks_aload_n rfl rfl C d_Law_remove_2 ?_
  refine ks_iload_n rfl rfl C d_Law_remove_3 ?_
  refine ks_cxW (ci := 8) (q0 := 0) (kw_store z0 tk0 tv0 gk0 gv0 d0 x0 m0 c0 t0 k0 _ _ _ ++ kw_trees K t0 t1 t2 x0 n0 c0 _ _ _ ++ kw_nodes K n0 n1 x0 _ ++ kw_chains c0 x0 _ _ ++ kw_pages K x0 x1 x2 _ _ ++ kw_row K tk0 tk1 _ _ ++ kw_out K o0 _) (kw_out K o0 _) C (c_Store_remove_ok l D K z0 tk0 tv0 gk0 gv0 d0 x0 m0 c0 t0 k0 _ t1 t2 n0 n1 x1 x2 _ _ _ _ _ _ _ _ tk1 _ _ _ h1 h0 h2 h4 hp hs h7) yw_Store_remove sel_Store_remove lk_Law_38 d_Law_remove_4 rfl rfl rfl [0, 1, 2, 3, 4, 5, 6, 7, 8, 9, 10, 11] [12] [1, 2, 3, 4, 5, 6, 7, 8, 9, 10, 11, 12, 0] rfl rfl rfl rfl (by decide) rfl rfl rfl rfl rfl ⟨by decide, by decide⟩ ⟨by decide, by decide⟩ rfl (Nat.le_of_ble_eq_true rfl) ?_
  refine ks_ifB_eq (tgt := 14) C (by decide) d_Law_remove_7 (fun h => absurd h (by decide)) (fun _ => ?_)
  refine ks_lconst rfl C d_Law_remove_10 ?_
  refine ks_goto (tgt := 15) C (by decide) d_Law_remove_11 ?_
  refine ks_last (ws' := (kw_store z0 tk0 tv0 gk0 gv0 d0 x0 m0 c0 t0 k0 _ _ _ ++ kw_trees K t0 t1 t2 x0 n0 c0 _ _ _ ++ kw_nodes K n0 n1 x0 _ ++ kw_chains c0 x0 _ _ ++ kw_pages K x0 x1 x2 _ _ ++ kw_row K tk0 tk1 _ _ ++ kw_out K o0 _)) C 12 3 rfl rfl (by omega) (by omega) rfl d_Law_remove_15 ?_
  refine ks_goto (tgt := 25) C (by decide) d_Law_remove_16 ?_
  refine ks_iconst (a := 0) rfl C d_Law_remove_25 ?_
  refine ks_more (cs' := 1) (ss' := 6) (by decide) (by decide) ?_
  exact ks_iret C Z rfl rfl d_Law_remove_26 rfl rfl ⟨rfl, rfl⟩
set_option maxRecDepth 100000 in
set_option maxHeartbeats 4000000 in
theorem c_Law_seek_T1 (l : Launch) (hNT : l.stackTraces = false) (D : va_G) (K : Nat → ClassId) (z0 tk0 tv0 gk0 gv0 d0 x0 m0 c0 t0 k0 : Nat) (fnd opn : Bool) (t : Nat) (after : Bool) (o0 : Nat) (O : Nat → Int64) : kh_M l D (ks_T K) (kt_R 16) y_Law_seek b_Law_seek 5 (some .int) [(0, 17, 20, 15), (0, 17, 24, 32)] [.ref z0, .int (nI t), .int (ks_b after), .ref o0] (kw_store z0 tk0 tv0 gk0 gv0 d0 x0 m0 c0 t0 k0 fnd false opn ++ kw_out K o0 O) (ks_f (some (.int (nI 1))) (kw_store z0 tk0 tv0 gk0 gv0 d0 x0 m0 c0 t0 k0 fnd false opn ++ kw_out K o0 O)) := by
  refine kh_M.of 1 (by decide) (Nat.le_of_ble_eq_true rfl) ?_
  intro E C Kh Z
  refine ks_aload_n rfl rfl C d_Law_seek_0 ?_
  refine ks_iconst (a := 0) rfl C d_Law_seek_1 ?_
  refine ks_aload_n rfl rfl C d_Law_seek_2 ?_
  refine ks_iload_n rfl rfl C d_Law_seek_3 ?_
  refine ks_iload_n rfl rfl C d_Law_seek_4 ?_
  refine ks_callCW (ci := 8) (q0 := 0) (kw_store z0 tk0 tv0 gk0 gv0 d0 x0 m0 c0 t0 k0 _ _ _ ++ kw_out K o0 _) (kw_out K o0 _) C Kh (c_Store_seek_T1 l hNT D K z0 tk0 tv0 gk0 gv0 d0 x0 m0 c0 t0 k0 _ _ _ _) yw_Store_seek sel_Store_seek lk_Law_41 d_Law_seek_5 rfl rfl rfl [0] [1] [1, 0] rfl rfl rfl rfl (by decide) rfl rfl rfl rfl ⟨by decide, by decide⟩ ⟨by decide, by decide⟩ (Nat.le_of_ble_eq_true rfl) [] (0, 17, 20, 15) [(0, 17, 24, 32)] rfl (fun z hz => by cases hz) rfl (by decide) kk_Law_15 kt_cISE (by decide) (fun q => ?_)
  refine ks_astore C (by decide) rfl d_Law_seek_20 ?_
  refine ks_iconst (a := 1) rfl C d_Law_seek_22 ?_
  exact ks_iret C Z rfl rfl d_Law_seek_23 rfl rfl ⟨rfl, rfl⟩
set_option maxRecDepth 100000 in
set_option maxHeartbeats 4000000 in
theorem c_Law_seek_T3 (l : Launch) (hNT : l.stackTraces = false) (D : va_G) (K : Nat → ClassId) (z0 tk0 tv0 gk0 gv0 d0 x0 m0 c0 t0 k0 : Nat) (fnd opn : Bool) (t1 t2 n0 n1 x1 x2 pg ca top : Nat) (pn ps P : Nat → Nat) (B : Nat → UInt8) (G : Nat → Bool) (t : Nat) (after : Bool) (h1 : kv_has B t = false) (h0 : t < 4294967296) (o0 : Nat) (O : Nat → Int64) : kh_M l D (ks_T K) (kt_R 16) y_Law_seek b_Law_seek 5 (some .int) [(0, 17, 20, 15), (0, 17, 24, 32)] [.ref z0, .int (nI t), .int (ks_b after), .ref o0] (kw_store z0 tk0 tv0 gk0 gv0 d0 x0 m0 c0 t0 k0 fnd true opn ++ kw_trees K t0 t1 t2 x0 n0 c0 pn ps top ++ kw_nodes K n0 n1 x0 P ++ kw_chains c0 x0 pg ca ++ kw_pages K x0 x1 x2 B G ++ kw_out K o0 O) (ks_f (some (.int (nI 2))) (kw_store z0 tk0 tv0 gk0 gv0 d0 x0 m0 c0 t0 k0 fnd true opn ++ kw_trees K t0 t1 t2 x0 n0 c0 pn ps top ++ kw_nodes K n0 n1 x0 P ++ kw_chains c0 x0 pg ca ++ kw_pages K x0 x1 x2 B G ++ kw_out K o0 O)) := by
  refine kh_M.of 1 (by decide) (Nat.le_of_ble_eq_true rfl) ?_
  intro E C Kh Z
  refine ks_aload_n rfl rfl C d_Law_seek_0 ?_
  refine ks_iconst (a := 0) rfl C d_Law_seek_1 ?_
  refine ks_aload_n rfl rfl C d_Law_seek_2 ?_
  refine ks_iload_n rfl rfl C d_Law_seek_3 ?_
  refine ks_iload_n rfl rfl C d_Law_seek_4 ?_
  refine ks_callCW (ci := 8) (q0 := 0) (kw_store z0 tk0 tv0 gk0 gv0 d0 x0 m0 c0 t0 k0 _ _ _ ++ kw_trees K t0 t1 t2 x0 n0 c0 _ _ _ ++ kw_nodes K n0 n1 x0 _ ++ kw_chains c0 x0 _ _ ++ kw_pages K x0 x1 x2 _ _ ++ kw_out K o0 _) (kw_out K o0 _) C Kh (c_Store_seek_T3 l hNT D K z0 tk0 tv0 gk0 gv0 d0 x0 m0 c0 t0 k0 _ _ t1 t2 n0 n1 x1 x2 _ _ _ _ _ _ _ _ _ _ h1 h0) yw_Store_seek sel_Store_seek lk_Law_41 d_Law_seek_5 rfl rfl rfl [0, 1, 2, 3, 4, 5, 6, 7, 8, 9] [10] [1, 2, 3, 4, 5, 6, 7, 8, 9, 10, 0] rfl rfl rfl rfl (by decide) rfl rfl rfl rfl ⟨by decide, by decide⟩ ⟨by decide, by decide⟩ (Nat.le_of_ble_eq_true rfl) [(0, 17, 20, 15)] (0, 17, 24, 32) [] rfl (fun z hz => by rcases List.mem_cons.mp hz with rfl | hz; exact ⟨by decide, _, by decide, by decide, kk_Law_15⟩; cases hz) rfl (by decide) kk_Law_32 kt_cNSE (by decide) (fun q => ?_)
  refine ks_astore C (by decide) rfl d_Law_seek_24 ?_
  refine ks_iconst (a := 2) rfl C d_Law_seek_26 ?_
  exact ks_iret C Z rfl rfl d_Law_seek_27 rfl rfl ⟨rfl, rfl⟩
set_option maxRecDepth 100000 in
set_option maxHeartbeats 4000000 in
theorem c_Law_seek_no (l : Launch) (hNT : l.stackTraces = false) (D : va_G) (K : Nat → ClassId) (z0 tk0 tv0 gk0 gv0 d0 x0 m0 c0 t0 k0 : Nat) (fnd opn : Bool) (t1 t2 n0 n1 x1 x2 pg ca top : Nat) (pn ps P : Nat → Nat) (B : Nat → UInt8) (G : Nat → Bool) (tk1 : Nat) (Kb : Nat → UInt8) (kl : Nat) (gk1 : Nat) (Gb : Nat → UInt8) (gl : Nat) (gv1 : Nat) (Eb : Nat → UInt8) (el : Nat) (t : Nat) (after : Bool) (h1 : kv_has B t = true) (h0 : t < 4294967296) (h2 : t < 64) (h4 : kl ≤ 8448) (hp : ∀ j, pn j < 65536) (hs : ∀ j, ps j < 65536) (h7 : (kv_first B Kb kl t after pn ps) = 0) (o0 : Nat) (O : Nat → Int64) : kh_M l D (ks_T K) (kt_R 16) y_Law_seek b_Law_seek 5 (some .int) [(0, 17, 20, 15), (0, 17, 24, 32)] [.ref z0, .int (nI t), .int (ks_b after), .ref o0] (kw_store z0 tk0 tv0 gk0 gv0 d0 x0 m0 c0 t0 k0 fnd true opn ++ kw_trees K t0 t1 t2 x0 n0 c0 pn ps top ++ kw_nodes K n0 n1 x0 P ++ kw_chains c0 x0 pg ca ++ kw_pages K x0 x1 x2 B G ++ kw_row K tk0 tk1 Kb kl ++ kw_row K gk0 gk1 Gb gl ++ kw_row K gv0 gv1 Eb el ++ kw_out K o0 O) (ks_f (some (.int (nI 0))) (kw_store z0 tk0 tv0 gk0 gv0 d0 x0 m0 c0 t0 k0 false true opn ++ kw_trees K t0 t1 t2 x0 n0 c0 (kv_desc B Kb kl t pn ps).1 (kv_desc B Kb kl t pn ps).2 (kv_level B (kv_root B t)) ++ kw_nodes K n0 n1 x0 P ++ kw_chains c0 x0 pg ca ++ kw_pages K x0 x1 x2 B G ++ kw_row K tk0 tk1 Kb kl ++ kw_row K gk0 gk1 Gb 0 ++ kw_row K gv0 gv1 Eb 0 ++ kw_out K o0 (va_up O 0 (0)))) := by
  refine kh_M.of 1 (by decide) (Nat.le_of_ble_eq_true rfl) ?_
  intro E C Kh Z
  refine ks_aload_n rfl rfl C d_Law_seek_0 ?_
  refine ks_iconst (a := 0) rfl C d_Law_seek_1 ?_
  refine ks_aload_n rfl rfl C d_Law_seek_2 ?_
  refine ks_iload_n rfl rfl C d_Law_seek_3 ?_
  refine ks_iload_n rfl rfl C d_Law_seek_4 ?_
  refine ks_cxW (ci := 8) (q0 := 0) (kw_store z0 tk0 tv0 gk0 gv0 d0 x0 m0 c0 t0 k0 _ _ _ ++ kw_trees K t0 t1 t2 x0 n0 c0 _ _ _ ++ kw_nodes K n0 n1 x0 _ ++ kw_chains c0 x0 _ _ ++ kw_pages K x0 x1 x2 _ _ ++ kw_row K tk0 tk1 _ _ ++ kw_row K gk0 gk1 _ _ ++ kw_row K gv0 gv1 _ _ ++ kw_out K o0 _) (kw_out K o0 _) C (c_Store_seek_no l D K z0 tk0 tv0 gk0 gv0 d0 x0 m0 c0 t0 k0 _ _ t1 t2 n0 n1 x1 x2 _ _ _ _ _ _ _ _ tk1 _ _ gk1 _ _ gv1 _ _ _ _ h1 h0 h2 h4 hp hs h7) yw_Store_seek sel_Store_seek lk_Law_41 d_Law_seek_5 rfl rfl rfl [0, 1, 2, 3, 4, 5, 6, 7, 8, 9, 10, 11, 12, 13, 14, 15] [16] [1, 2, 3, 4, 5, 6, 7, 8, 9, 10, 11, 12, 13, 14, 15, 16, 0] rfl rfl rfl rfl (by decide) rfl rfl rfl rfl rfl ⟨by decide, by decide⟩ ⟨by decide, by decide⟩ rfl (Nat.le_of_ble_eq_true rfl) ?_
  refine ks_ifB_eq (tgt := 15) C (by decide) d_Law_seek_8 (fun _ => ?_) (fun h => absurd h (by decide))
  refine ks_lconst rfl C d_Law_seek_15 ?_
  refine ks_last (ws' := (kw_store z0 tk0 tv0 gk0 gv0 d0 x0 m0 c0 t0 k0 _ _ _ ++ kw_trees K t0 t1 t2 x0 n0 c0 _ _ _ ++ kw_nodes K n0 n1 x0 _ ++ kw_chains c0 x0 _ _ ++ kw_pages K x0 x1 x2 _ _ ++ kw_row K tk0 tk1 _ _ ++ kw_row K gk0 gk1 _ _ ++ kw_row K gv0 gv1 _ _ ++ kw_out K o0 _)) C 16 3 rfl rfl (by omega) (by omega) rfl d_Law_seek_16 ?_
  refine ks_goto (tgt := 28) C (by decide) d_Law_seek_17 ?_
  refine ks_iconst (a := 0) rfl C d_Law_seek_28 ?_
  refine ks_more (cs' := 1) (ss' := 6) (by decide) (by decide) ?_
  exact ks_iret C Z rfl rfl d_Law_seek_29 rfl rfl ⟨rfl, rfl⟩
set_option maxRecDepth 100000 in
set_option maxHeartbeats 4000000 in
theorem c_Law_seek_ok (l : Launch) (hNT : l.stackTraces = false) (D : va_G) (K : Nat → ClassId) (z0 tk0 tv0 gk0 gv0 d0 x0 m0 c0 t0 k0 : Nat) (fnd opn : Bool) (t1 t2 n0 n1 x1 x2 pg ca top : Nat) (pn ps P : Nat → Nat) (B : Nat → UInt8) (G : Nat → Bool) (tk1 : Nat) (Kb : Nat → UInt8) (kl : Nat) (gk1 : Nat) (Gb : Nat → UInt8) (gl : Nat) (gv1 : Nat) (Eb : Nat → UInt8) (el : Nat) (t : Nat) (after : Bool) (h1 : kv_has B t = true) (h0 : t < 4294967296) (h2 : t < 64) (h4 : kl ≤ 8448) (hp : ∀ j, pn j < 65536) (hs : ∀ j, ps j < 65536) (h7 : (kv_first B Kb kl t after pn ps) ≠ 0) (o0 : Nat) (O : Nat → Int64) : kh_M l D (ks_T K) (kt_R 16) y_Law_seek b_Law_seek 5 (some .int) [(0, 17, 20, 15), (0, 17, 24, 32)] [.ref z0, .int (nI t), .int (ks_b after), .ref o0] (kw_store z0 tk0 tv0 gk0 gv0 d0 x0 m0 c0 t0 k0 fnd true opn ++ kw_trees K t0 t1 t2 x0 n0 c0 pn ps top ++ kw_nodes K n0 n1 x0 P ++ kw_chains c0 x0 pg ca ++ kw_pages K x0 x1 x2 B G ++ kw_row K tk0 tk1 Kb kl ++ kw_row K gk0 gk1 Gb gl ++ kw_row K gv0 gv1 Eb el ++ kw_out K o0 O) (ks_f (some (.int (nI 0))) (kw_store z0 tk0 tv0 gk0 gv0 d0 x0 m0 c0 t0 k0 true true opn ++ kw_trees K t0 t1 t2 x0 n0 c0 (kv_desc B Kb kl t pn ps).1 (kv_desc B Kb kl t pn ps).2 (kv_level B (kv_root B t)) ++ kw_nodes K n0 n1 x0 P ++ kw_chains c0 x0 (kv_rdL B (kv_num B ((kv_first B Kb kl t after pn ps) * 32 + 4)) 2720 Eb 0 (kv_rdL B (kv_num B ((kv_first B Kb kl t after pn ps) * 32 + 2)) 2720 Gb 0 (kv_first B Kb kl t after pn ps) 6).2.1 (kv_rdL B (kv_num B ((kv_first B Kb kl t after pn ps) * 32 + 2)) 2720 Gb 0 (kv_first B Kb kl t after pn ps) 6).2.2).2.1 (kv_rdL B (kv_num B ((kv_first B Kb kl t after pn ps) * 32 + 4)) 2720 Eb 0 (kv_rdL B (kv_num B ((kv_first B Kb kl t after pn ps) * 32 + 2)) 2720 Gb 0 (kv_first B Kb kl t after pn ps) 6).2.1 (kv_rdL B (kv_num B ((kv_first B Kb kl t after pn ps) * 32 + 2)) 2720 Gb 0 (kv_first B Kb kl t after pn ps) 6).2.2).2.2 ++ kw_pages K x0 x1 x2 B G ++ kw_row K tk0 tk1 Kb kl ++ kw_row K gk0 gk1 (kv_rdL B (kv_num B ((kv_first B Kb kl t after pn ps) * 32 + 2)) 2720 Gb 0 (kv_first B Kb kl t after pn ps) 6).1.1 (kv_rdL B (kv_num B ((kv_first B Kb kl t after pn ps) * 32 + 2)) 2720 Gb 0 (kv_first B Kb kl t after pn ps) 6).1.2 ++ kw_row K gv0 gv1 (kv_rdL B (kv_num B ((kv_first B Kb kl t after pn ps) * 32 + 4)) 2720 Eb 0 (kv_rdL B (kv_num B ((kv_first B Kb kl t after pn ps) * 32 + 2)) 2720 Gb 0 (kv_first B Kb kl t after pn ps) 6).2.1 (kv_rdL B (kv_num B ((kv_first B Kb kl t after pn ps) * 32 + 2)) 2720 Gb 0 (kv_first B Kb kl t after pn ps) 6).2.2).1.1 (kv_rdL B (kv_num B ((kv_first B Kb kl t after pn ps) * 32 + 4)) 2720 Eb 0 (kv_rdL B (kv_num B ((kv_first B Kb kl t after pn ps) * 32 + 2)) 2720 Gb 0 (kv_first B Kb kl t after pn ps) 6).2.1 (kv_rdL B (kv_num B ((kv_first B Kb kl t after pn ps) * 32 + 2)) 2720 Gb 0 (kv_first B Kb kl t after pn ps) 6).2.2).1.2 ++ kw_out K o0 (va_up O 0 (1)))) := by
  refine kh_M.of 1 (by decide) (Nat.le_of_ble_eq_true rfl) ?_
  intro E C Kh Z
  refine ks_aload_n rfl rfl C d_Law_seek_0 ?_
  refine ks_iconst (a := 0) rfl C d_Law_seek_1 ?_
  refine ks_aload_n rfl rfl C d_Law_seek_2 ?_
  refine ks_iload_n rfl rfl C d_Law_seek_3 ?_
  refine ks_iload_n rfl rfl C d_Law_seek_4 ?_
  refine ks_cxW (ci := 8) (q0 := 0) (kw_store z0 tk0 tv0 gk0 gv0 d0 x0 m0 c0 t0 k0 _ _ _ ++ kw_trees K t0 t1 t2 x0 n0 c0 _ _ _ ++ kw_nodes K n0 n1 x0 _ ++ kw_chains c0 x0 _ _ ++ kw_pages K x0 x1 x2 _ _ ++ kw_row K tk0 tk1 _ _ ++ kw_row K gk0 gk1 _ _ ++ kw_row K gv0 gv1 _ _ ++ kw_out K o0 _) (kw_out K o0 _) C (c_Store_seek_ok l D K z0 tk0 tv0 gk0 gv0 d0 x0 m0 c0 t0 k0 _ _ t1 t2 n0 n1 x1 x2 _ _ _ _ _ _ _ _ tk1 _ _ gk1 _ _ gv1 _ _ _ _ h1 h0 h2 h4 hp hs h7) yw_Store_seek sel_Store_seek lk_Law_41 d_Law_seek_5 rfl rfl rfl [0, 1, 2, 3, 4, 5, 6, 7, 8, 9, 10, 11, 12, 13, 14, 15] [16] [1, 2, 3, 4, 5, 6, 7, 8, 9, 10, 11, 12, 13, 14, 15, 16, 0] rfl rfl rfl rfl (by decide) rfl rfl rfl rfl rfl ⟨by decide, by decide⟩ ⟨by decide, by decide⟩ rfl (Nat.le_of_ble_eq_true rfl) ?_
  refine ks_ifB_eq (tgt := 15) C (by decide) d_Law_seek_8 (fun h => absurd h (by decide)) (fun _ => ?_)
  refine ks_lconst rfl C d_Law_seek_11 ?_
  refine ks_goto (tgt := 16) C (by decide) d_Law_seek_12 ?_
  refine ks_last (ws' := (kw_store z0 tk0 tv0 gk0 gv0 d0 x0 m0 c0 t0 k0 _ _ _ ++ kw_trees K t0 t1 t2 x0 n0 c0 _ _ _ ++ kw_nodes K n0 n1 x0 _ ++ kw_chains c0 x0 _ _ ++ kw_pages K x0 x1 x2 _ _ ++ kw_row K tk0 tk1 _ _ ++ kw_row K gk0 gk1 _ _ ++ kw_row K gv0 gv1 _ _ ++ kw_out K o0 _)) C 16 3 rfl rfl (by omega) (by omega) rfl d_Law_seek_16 ?_
  refine ks_goto (tgt := 28) C (by decide) d_Law_seek_17 ?_
  refine ks_iconst (a := 0) rfl C d_Law_seek_28 ?_
  refine ks_more (cs' := 1) (ss' := 6) (by decide) (by decide) ?_
  exact ks_iret C Z rfl rfl d_Law_seek_29 rfl rfl ⟨rfl, rfl⟩
