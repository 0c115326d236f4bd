/-! the law's own calls of the store -/
set_option maxRecDepth 100000 in
set_option maxHeartbeats 4000000 in
theorem c_Law_take_T (l : Launch) (hNT : l.stackTraces = false) (D : va_G) (K : Nat → ClassId) (z0 tk0 tv0 gk0 gv0 d0 x0 m0 c0 t0 k0 : Nat) (on opn : Bool) (o0 : Nat) (O : Nat → Int64) : kh_M l D (ks_T K) (kt_R 16) y_Law_take b_Law_take 3 (some .int) [(0, 8, 11, 32)] [.ref z0, .ref o0] (kw_store z0 tk0 tv0 gk0 gv0 d0 x0 m0 c0 t0 k0 false on opn ++ kw_out K o0 O) (ks_f (some (.int (nI 1))) (kw_store z0 tk0 tv0 gk0 gv0 d0 x0 m0 c0 t0 k0 false on opn ++ kw_out K o0 O)) := by
  refine kh_M.of 1 (by decide) (Nat.le_of_ble_eq_true rfl) ?_
  intro E C Kh Z
  refine ks_aload_n rfl rfl C d_Law_take_0 ?_
  refine ks_iconst (a := 0) rfl C d_Law_take_1 ?_
  refine ks_aload_n rfl rfl C d_Law_take_2 ?_
  refine ks_callCW (ci := 8) (q0 := 0) (kw_store z0 tk0 tv0 gk0 gv0 d0 x0 m0 c0 t0 k0 _ _ _ ++ kw_out K o0 _) (kw_out K o0 _) C Kh (c_Store_take_T l hNT D K z0 tk0 tv0 gk0 gv0 d0 x0 m0 c0 t0 k0 _ _) yw_Store_take sel_Store_take lk_Law_45 d_Law_take_3 rfl rfl rfl [0] [1] [1, 0] rfl rfl rfl rfl (by decide) rfl rfl rfl rfl ⟨by decide, by decide⟩ ⟨by decide, by decide⟩ (Nat.le_of_ble_eq_true rfl) [] (0, 8, 11, 32) [] rfl (fun z hz => by cases hz) rfl (by decide) kk_Law_32 kt_cNSE (by decide) (fun q => ?_)
  refine ks_astore_n C rfl (by decide) rfl d_Law_take_11 ?_
  refine ks_iconst (a := 1) rfl C d_Law_take_12 ?_
  exact ks_iret C Z rfl rfl d_Law_take_13 rfl rfl ⟨rfl, rfl⟩
set_option maxRecDepth 100000 in
set_option maxHeartbeats 4000000 in
theorem c_Law_take_ok (l : Launch) (hNT : l.stackTraces = false) (D : va_G) (K : Nat → ClassId) (z0 tk0 tv0 gk0 gv0 d0 x0 m0 c0 t0 k0 : Nat) (on opn : Bool) (tk1 : Nat) (Kb : Nat → UInt8) (kl : Nat) (gk1 : Nat) (Gb : Nat → UInt8) (gl : Nat) (h1 : gl ≤ 8448) (o0 : Nat) (O : Nat → Int64) : kh_M l D (ks_T K) (kt_R 16) y_Law_take b_Law_take 3 (some .int) [(0, 8, 11, 32)] [.ref z0, .ref o0] (kw_store z0 tk0 tv0 gk0 gv0 d0 x0 m0 c0 t0 k0 true on opn ++ kw_row K tk0 tk1 Kb kl ++ kw_row K gk0 gk1 Gb gl ++ kw_out K o0 O) (ks_f (some (.int (nI 0))) (kw_store z0 tk0 tv0 gk0 gv0 d0 x0 m0 c0 t0 k0 true on opn ++ kw_row K tk0 tk1 (kv_from Kb 0 Gb 8448 0 gl).1 (kv_from Kb 0 Gb 8448 0 gl).2 ++ kw_row K gk0 gk1 Gb gl ++ kw_out K o0 (va_up O 0 ((nI ((kv_from Kb 0 Gb 8448 0 gl).2)).toInt64)))) := by
  refine kh_M.of 1 (by decide) (Nat.le_of_ble_eq_true rfl) ?_
  intro E C Kh Z
  refine ks_aload_n rfl rfl C d_Law_take_0 ?_
  refine ks_iconst (a := 0) rfl C d_Law_take_1 ?_
  refine ks_aload_n rfl rfl C d_Law_take_2 ?_
  refine ks_cxW (ci := 8) (q0 := 0) (kw_store z0 tk0 tv0 gk0 gv0 d0 x0 m0 c0 t0 k0 _ _ _ ++ kw_row K tk0 tk1 _ _ ++ kw_row K gk0 gk1 _ _ ++ kw_out K o0 _) (kw_out K o0 _) C (c_Store_take_ok l D K z0 tk0 tv0 gk0 gv0 d0 x0 m0 c0 t0 k0 _ _ tk1 _ _ gk1 _ _ h1) yw_Store_take sel_Store_take lk_Law_45 d_Law_take_3 rfl rfl rfl [0, 1, 2, 3, 4] [5] [1, 2, 3, 4, 5, 0] rfl rfl rfl rfl (by decide) rfl rfl rfl rfl rfl ⟨by decide, by decide⟩ ⟨by decide, by decide⟩ rfl (Nat.le_of_ble_eq_true rfl) ?_
  refine ks_i2l C d_Law_take_6 ?_
  refine ks_last (ws' := (kw_store z0 tk0 tv0 gk0 gv0 d0 x0 m0 c0 t0 k0 _ _ _ ++ kw_row K tk0 tk1 _ _ ++ kw_row K gk0 gk1 _ _ ++ kw_out K o0 _)) C 5 3 rfl rfl (by omega) (by omega) rfl d_Law_take_7 ?_
  refine ks_goto (tgt := 14) C (by decide) d_Law_take_8 ?_
  refine ks_iconst (a := 0) rfl C d_Law_take_14 ?_
  refine ks_more (cs' := 1) (ss' := 6) (by decide) (by decide) ?_
  exact ks_iret C Z rfl rfl d_Law_take_15 rfl rfl ⟨rfl, rfl⟩
set_option maxRecDepth 100000 in
set_option maxHeartbeats 4000000 in
theorem c_Law_found_T0 (l : Launch) (hNT : l.stackTraces = false) (D : va_G) (K : Nat → ClassId) (z0 tk0 tv0 gk0 gv0 d0 x0 m0 c0 t0 k0 : Nat) (fnd on opn : Bool) (wt fr : Nat) (h1 : wt < 4294967296) (h2 : 1 < wt) (o0 : Nat) (O : Nat → Int64) : kh_M l D (ks_T K) (kt_R 16) y_Law_found b_Law_found 5 (some .int) [(0, 9, 12, 13), (0, 9, 16, 32)] [.ref z0, .int (nI wt), .int (nI fr), .ref o0] (kw_store z0 tk0 tv0 gk0 gv0 d0 x0 m0 c0 t0 k0 fnd on opn ++ kw_out K o0 O) (ks_f (some (.int (nI 1))) (kw_store z0 tk0 tv0 gk0 gv0 d0 x0 m0 c0 t0 k0 fnd on opn ++ kw_out K o0 O)) := by
  refine kh_M.of 1 (by decide) (Nat.le_of_ble_eq_true rfl) ?_
  intro E C Kh Z
  refine ks_aload_n rfl rfl C d_Law_found_0 ?_
  refine ks_iconst (a := 0) rfl C d_Law_found_1 ?_
  refine ks_aload_n rfl rfl C d_Law_found_2 ?_
  refine ks_iload_n rfl rfl C d_Law_found_3 ?_
  refine ks_iload_n rfl rfl C d_Law_found_4 ?_
  refine ks_callCW (ci := 8) (q0 := 0) (kw_store z0 tk0 tv0 gk0 gv0 d0 x0 m0 c0 t0 k0 _ _ _ ++ kw_out K o0 _) (kw_out K o0 _) C Kh (c_Store_found_T0 l hNT D K z0 tk0 tv0 gk0 gv0 d0 x0 m0 c0 t0 k0 _ _ _ _ _ h1 h2) yw_Store_found sel_Store_found lk_Law_48 d_Law_found_5 rfl rfl rfl [0] [1] [1, 0] rfl rfl rfl rfl (by decide) rfl rfl rfl rfl ⟨by decide, by decide⟩ ⟨by decide, by decide⟩ (Nat.le_of_ble_eq_true rfl) [] (0, 9, 12, 13) [(0, 9, 16, 32)] rfl (fun z hz => by cases hz) rfl (by decide) kk_Law_13 kt_cIAE (by decide) (fun q => ?_)
  refine ks_astore C (by decide) rfl d_Law_found_12 ?_
  refine ks_iconst (a := 1) rfl C d_Law_found_14 ?_
  exact ks_iret C Z rfl rfl d_Law_found_15 rfl rfl ⟨rfl, rfl⟩
set_option maxRecDepth 100000 in
set_option maxHeartbeats 4000000 in
theorem c_Law_found_T1 (l : Launch) (hNT : l.stackTraces = false) (D : va_G) (K : Nat → ClassId) (z0 tk0 tv0 gk0 gv0 d0 x0 m0 c0 t0 k0 : Nat) (on opn : Bool) (wt fr : Nat) (h1 : wt < 4294967296) (h2 : wt ≤ 1) (o0 : Nat) (O : Nat → Int64) : kh_M l D (ks_T K) (kt_R 16) y_Law_found b_Law_found 5 (some .int) [(0, 9, 12, 13), (0, 9, 16, 32)] [.ref z0, .int (nI wt), .int (nI fr), .ref o0] (kw_store z0 tk0 tv0 gk0 gv0 d0 x0 m0 c0 t0 k0 false on opn ++ kw_out K o0 O) (ks_f (some (.int (nI 2))) (kw_store z0 tk0 tv0 gk0 gv0 d0 x0 m0 c0 t0 k0 false on opn ++ kw_out K o0 O)) := by
  refine kh_M.of 1 (by decide) (Nat.le_of_ble_eq_true rfl) ?_
  intro E C Kh Z
  refine ks_aload_n rfl rfl C d_Law_found_0 ?_
  refine ks_iconst (a := 0) rfl C d_Law_found_1 ?_
  refine ks_aload_n rfl rfl C d_Law_found_2 ?_
  refine ks_iload_n rfl rfl C d_Law_found_3 ?_
  refine ks_iload_n rfl rfl C d_Law_found_4 ?_
  refine ks_callCW (ci := 8) (q0 := 0) (kw_store z0 tk0 tv0 gk0 gv0 d0 x0 m0 c0 t0 k0 _ _ _ ++ kw_out K o0 _) (kw_out K o0 _) C Kh (c_Store_found_T1 l hNT D K z0 tk0 tv0 gk0 gv0 d0 x0 m0 c0 t0 k0 _ _ _ _ h1 h2) yw_Store_found sel_Store_found lk_Law_48 d_Law_found_5 rfl rfl rfl [0] [1] [1, 0] rfl rfl rfl rfl (by decide) rfl rfl rfl rfl ⟨by decide, by decide⟩ ⟨by decide, by decide⟩ (Nat.le_of_ble_eq_true rfl) [(0, 9, 12, 13)] (0, 9, 16, 32) [] rfl (fun z hz => by rcases List.mem_cons.mp hz with rfl | hz; exact ⟨by decide, _, by decide, by decide, kk_Law_13⟩; cases hz) rfl (by decide) kk_Law_32 kt_cNSE (by decide) (fun q => ?_)
  refine ks_astore C (by decide) rfl d_Law_found_16 ?_
  refine ks_iconst (a := 2) rfl C d_Law_found_18 ?_
  exact ks_iret C Z rfl rfl d_Law_found_19 rfl rfl ⟨rfl, rfl⟩
set_option maxRecDepth 100000 in
set_option maxHeartbeats 4000000 in
theorem c_Law_found_0 (l : Launch) (hNT : l.stackTraces = false) (D : va_G) (K : Nat → ClassId) (z0 tk0 tv0 gk0 gv0 d0 x0 m0 c0 t0 k0 : Nat) (on opn : Bool) (gk1 : Nat) (Gb : Nat → UInt8) (gl : Nat) (wt fr : Nat) (h1 : wt < 4294967296) (h2 : wt = 0) (h3 : gl ≤ 8448) (h4 : fr < 4294967296) (o0 : Nat) (O : Nat → Int64) : kh_M l D (ks_T K) (kt_R 16) y_Law_found b_Law_found 5 (some .int) [(0, 9, 12, 13), (0, 9, 16, 32)] [.ref z0, .int (nI wt), .int (nI fr), .ref o0] (kw_store z0 tk0 tv0 gk0 gv0 d0 x0 m0 c0 t0 k0 true on opn ++ kw_row K gk0 gk1 Gb gl ++ kw_out K o0 O) (ks_f (some (.int (nI 0))) (kw_store z0 tk0 tv0 gk0 gv0 d0 x0 m0 c0 t0 k0 true on opn ++ kw_row K gk0 gk1 Gb gl ++ kw_out K o0 (va_up O 0 (kv_wordAt Gb gl fr)))) := by
  refine kh_M.of 1 (by decide) (Nat.le_of_ble_eq_true rfl) ?_
  intro E C Kh Z
  refine ks_aload_n rfl rfl C d_Law_found_0 ?_
  refine ks_iconst (a := 0) rfl C d_Law_found_1 ?_
  refine ks_aload_n rfl rfl C d_Law_found_2 ?_
  refine ks_iload_n rfl rfl C d_Law_found_3 ?_
  refine ks_iload_n rfl rfl C d_Law_found_4 ?_
  refine ks_cxW (ci := 8) (q0 := 0) (kw_store z0 tk0 tv0 gk0 gv0 d0 x0 m0 c0 t0 k0 _ _ _ ++ kw_row K gk0 gk1 _ _ ++ kw_out K o0 _) (kw_out K o0 _) C (c_Store_found_0 l D K z0 tk0 tv0 gk0 gv0 d0 x0 m0 c0 t0 k0 _ _ gk1 _ _ _ _ h1 h2 h3 h4) yw_Store_found sel_Store_found lk_Law_48 d_Law_found_5 rfl rfl rfl [0, 1, 2] [3] [1, 2, 3, 0] rfl rfl rfl rfl (by decide) rfl rfl rfl rfl rfl ⟨by decide, by decide⟩ ⟨by decide, by decide⟩ rfl (Nat.le_of_ble_eq_true rfl) ?_
  refine ks_last (ws' := (kw_store z0 tk0 tv0 gk0 gv0 d0 x0 m0 c0 t0 k0 _ _ _ ++ kw_row K gk0 gk1 _ _ ++ kw_out K o0 _)) C 3 3 rfl rfl (by omega) (by omega) rfl d_Law_found_8 ?_
  refine ks_goto (tgt := 20) C (by decide) d_Law_found_9 ?_
  refine ks_iconst (a := 0) rfl C d_Law_found_20 ?_
  refine ks_more (cs' := 1) (ss' := 6) (by decide) (by decide) ?_
  exact ks_iret C Z rfl rfl d_Law_found_21 rfl rfl ⟨rfl, rfl⟩
set_option maxRecDepth 100000 in
set_option maxHeartbeats 4000000 in
theorem c_Law_found_1 (l : Launch) (hNT : l.stackTraces = false) (D : va_G) (K : Nat → ClassId) (z0 tk0 tv0 gk0 gv0 d0 x0 m0 c0 t0 k0 : Nat) (on opn : Bool) (gv1 : Nat) (Eb : Nat → UInt8) (el : Nat) (wt fr : Nat) (h1 : wt < 4294967296) (h2 : wt = 1) (h3 : el ≤ 8448) (h4 : fr < 4294967296) (o0 : Nat) (O : Nat → Int64) : kh_M l D (ks_T K) (kt_R 16) y_Law_found b_Law_found 5 (some .int) [(0, 9, 12, 13), (0, 9, 16, 32)] [.ref z0, .int (nI wt), .int (nI fr), .ref o0] (kw_store z0 tk0 tv0 gk0 gv0 d0 x0 m0 c0 t0 k0 true on opn ++ kw_row K gv0 gv1 Eb el ++ kw_out K o0 O) (ks_f (some (.int (nI 0))) (kw_store z0 tk0 tv0 gk0 gv0 d0 x0 m0 c0 t0 k0 true on opn ++ kw_row K gv0 gv1 Eb el ++ kw_out K o0 (va_up O 0 (kv_wordAt Eb el fr)))) := by
  refine kh_M.of 1 (by decide) (Nat.le_of_ble_eq_true rfl) ?_
  intro E C Kh Z
  refine ks_aload_n rfl rfl C d_Law_found_0 ?_
  refine ks_iconst (a := 0) rfl C d_Law_found_1 ?_
  refine ks_aload_n rfl rfl C d_Law_found_2 ?_
  refine ks_iload_n rfl rfl C d_Law_found_3 ?_
  refine ks_iload_n rfl rfl C d_Law_found_4 ?_
  refine ks_cxW (ci := 8) (q0 := 0) (kw_store z0 tk0 tv0 gk0 gv0 d0 x0 m0 c0 t0 k0 _ _ _ ++ kw_row K gv0 gv1 _ _ ++ kw_out K o0 _) (kw_out K o0 _) C (c_Store_found_1 l D K z0 tk0 tv0 gk0 gv0 d0 x0 m0 c0 t0 k0 _ _ gv1 _ _ _ _ h1 h2 h3 h4) yw_Store_found sel_Store_found lk_Law_48 d_Law_found_5 rfl rfl rfl [0, 1, 2] [3] [1, 2, 3, 0] rfl rfl rfl rfl (by decide) rfl rfl rfl rfl rfl ⟨by decide, by decide⟩ ⟨by decide, by decide⟩ rfl (Nat.le_of_ble_eq_true rfl) ?_
  refine ks_last (ws' := (kw_store z0 tk0 tv0 gk0 gv0 d0 x0 m0 c0 t0 k0 _ _ _ ++ kw_row K gv0 gv1 _ _ ++ kw_out K o0 _)) C 3 3 rfl rfl (by omega) (by omega) rfl d_Law_found_8 ?_
  refine ks_goto (tgt := 20) C (by decide) d_Law_found_9 ?_
  refine ks_iconst (a := 0) rfl C d_Law_found_20 ?_
  refine ks_more (cs' := 1) (ss' := 6) (by decide) (by decide) ?_
  exact ks_iret C Z rfl rfl d_Law_found_21 rfl rfl ⟨rfl, rfl⟩
set_option maxRecDepth 100000 in
set_option maxHeartbeats 4000000 in
theorem c_Law_begin_T1 (l : Launch) (hNT : l.stackTraces = false) (D : va_G) (K : Nat → ClassId) (z0 tk0 tv0 gk0 gv0 d0 x0 m0 c0 t0 k0 : Nat) (fnd opn : Bool) : kh_M l D (ks_T K) (kt_R 16) y_Law_begin b_Law_begin 2 (some .int) [(0, 4, 7, 15)] [.ref z0] (kw_store z0 tk0 tv0 gk0 gv0 d0 x0 m0 c0 t0 k0 fnd false opn) (ks_f (some (.int (nI 1))) (kw_store z0 tk0 tv0 gk0 gv0 d0 x0 m0 c0 t0 k0 fnd false opn)) := by
  refine kh_M.of 1 (by decide) (Nat.le_of_ble_eq_true rfl) ?_
  intro E C Kh Z
  refine ks_aload_n rfl rfl C d_Law_begin_0 ?_
  refine ks_callCW (ci := 8) (q0 := 0) (kw_store z0 tk0 tv0 gk0 gv0 d0 x0 m0 c0 t0 k0 _ _ _) ([] : va_W) C Kh (c_Store_begin_T1 l hNT D K z0 tk0 tv0 gk0 gv0 d0 x0 m0 c0 t0 k0 _ _) yw_Store_begin sel_Store_begin lk_Law_52 d_Law_begin_1 rfl rfl rfl [0] [] [0] rfl rfl rfl rfl (by decide) rfl rfl rfl rfl ⟨by decide, by decide⟩ ⟨by decide, by decide⟩ (Nat.le_of_ble_eq_true rfl) [] (0, 4, 7, 15) [] rfl (fun z hz => by cases hz) rfl (by decide) kk_Law_15 kt_cISE (by decide) (fun q => ?_)
  refine ks_astore_n C rfl (by decide) rfl d_Law_begin_7 ?_
  refine ks_iconst (a := 1) rfl C d_Law_begin_8 ?_
  exact ks_iret C Z rfl rfl d_Law_begin_9 rfl rfl ⟨rfl, rfl⟩
set_option maxRecDepth 100000 in
set_option maxHeartbeats 4000000 in
theorem c_Law_begin_T2 (l : Launch) (hNT : l.stackTraces = false) (D : va_G) (K : Nat → ClassId) (z0 tk0 tv0 gk0 gv0 d0 x0 m0 c0 t0 k0 : Nat) (fnd : Bool) : kh_M l D (ks_T K) (kt_R 16) y_Law_begin b_Law_begin 2 (some .int) [(0, 4, 7, 15)] [.ref z0] (kw_store z0 tk0 tv0 gk0 gv0 d0 x0 m0 c0 t0 k0 fnd true true) (ks_f (some (.int (nI 1))) (kw_store z0 tk0 tv0 gk0 gv0 d0 x0 m0 c0 t0 k0 fnd true true)) := by
  refine kh_M.of 1 (by decide) (Nat.le_of_ble_eq_true rfl) ?_
  intro E C Kh Z
  refine ks_aload_n rfl rfl C d_Law_begin_0 ?_
  refine ks_callCW (ci := 8) (q0 := 0) (kw_store z0 tk0 tv0 gk0 gv0 d0 x0 m0 c0 t0 k0 _ _ _) ([] : va_W) C Kh (c_Store_begin_T2 l hNT D K z0 tk0 tv0 gk0 gv0 d0 x0 m0 c0 t0 k0 _) yw_Store_begin sel_Store_begin lk_Law_52 d_Law_begin_1 rfl rfl rfl [0] [] [0] rfl rfl rfl rfl (by decide) rfl rfl rfl rfl ⟨by decide, by decide⟩ ⟨by decide, by decide⟩ (Nat.le_of_ble_eq_true rfl) [] (0, 4, 7, 15) [] rfl (fun z hz => by cases hz) rfl (by decide) kk_Law_15 kt_cISE (by decide) (fun q => ?_)
  refine ks_astore_n C rfl (by decide) rfl d_Law_begin_7 ?_
  refine ks_iconst (a := 1) rfl C d_Law_begin_8 ?_
  exact ks_iret C Z rfl rfl d_Law_begin_9 rfl rfl ⟨rfl, rfl⟩
set_option maxRecDepth 100000 in
set_option maxHeartbeats 4000000 in
theorem c_Law_begin_ok (l : Launch) (hNT : l.stackTraces = false) (D : va_G) (K : Nat → ClassId) (z0 tk0 tv0 gk0 gv0 d0 x0 m0 c0 t0 k0 : Nat) (fnd : Bool) : kh_M l D (ks_T K) (kt_R 16) y_Law_begin b_Law_begin 2 (some .int) [(0, 4, 7, 15)] [.ref z0] (kw_store z0 tk0 tv0 gk0 gv0 d0 x0 m0 c0 t0 k0 fnd true false) (ks_f (some (.int (nI 0))) (kw_store z0 tk0 tv0 gk0 gv0 d0 x0 m0 c0 t0 k0 fnd true true)) := by
  refine kh_M.of 1 (by decide) (Nat.le_of_ble_eq_true rfl) ?_
  intro E C Kh Z
  refine ks_aload_n rfl rfl C d_Law_begin_0 ?_
  refine ks_cvW (ci := 8) (q0 := 0) (kw_store z0 tk0 tv0 gk0 gv0 d0 x0 m0 c0 t0 k0 _ _ _) ([] : va_W) C (c_Store_begin_ok l D K z0 tk0 tv0 gk0 gv0 d0 x0 m0 c0 t0 k0 _) yw_Store_begin sel_Store_begin lk_Law_52 d_Law_begin_1 rfl rfl rfl [0] [] [0] rfl rfl rfl rfl (by decide) rfl rfl rfl rfl rfl ⟨by decide, by decide⟩ ⟨by decide, by decide⟩ rfl (Nat.le_of_ble_eq_true rfl) ?_
  refine ks_goto (tgt := 10) C (by decide) d_Law_begin_4 ?_
  refine ks_iconst (a := 0) rfl C d_Law_begin_10 ?_
  refine ks_more (cs' := 1) (ss' := 6) (by decide) (by decide) ?_
  exact ks_iret C Z rfl rfl d_Law_begin_11 rfl rfl ⟨rfl, rfl⟩
set_option maxRecDepth 100000 in
set_option maxHeartbeats 4000000 in
theorem c_Law_commit_T1 (l : Launch) (hNT : l.stackTraces = false) (D : va_G) (K : Nat → ClassId) (z0 tk0 tv0 gk0 gv0 d0 x0 m0 c0 t0 k0 : Nat) (fnd opn : Bool) : kh_M l D (ks_T K) (kt_R 16) y_Law_commit b_Law_commit 2 (some .int) [(0, 4, 7, 15), (0, 4, 10, 58)] [.ref z0] (kw_store z0 tk0 tv0 gk0 gv0 d0 x0 m0 c0 t0 k0 fnd false opn) (ks_f (some (.int (nI 1))) (kw_store z0 tk0 tv0 gk0 gv0 d0 x0 m0 c0 t0 k0 fnd false opn)) := by
  refine kh_M.of 1 (by decide) (Nat.le_of_ble_eq_true rfl) ?_
  intro E C Kh Z
  refine ks_aload_n rfl rfl C d_Law_commit_0 ?_
  refine ks_callCW (ci := 8) (q0 := 0) (kw_store z0 tk0 tv0 gk0 gv0 d0 x0 m0 c0 t0 k0 _ _ _) ([] : va_W) C Kh (c_Store_commit_T1 l hNT D K z0 tk0 tv0 gk0 gv0 d0 x0 m0 c0 t0 k0 _ _) yw_Store_commit sel_Store_commit lk_Law_55 d_Law_commit_1 rfl rfl rfl [0] [] [0] rfl rfl rfl rfl (by decide) rfl rfl rfl rfl ⟨by decide, by decide⟩ ⟨by decide, by decide⟩ (Nat.le_of_ble_eq_true rfl) [] (0, 4, 7, 15) [(0, 4, 10, 58)] rfl (fun z hz => by cases hz) rfl (by decide) kk_Law_15 kt_cISE (by decide) (fun q => ?_)
  refine ks_astore_n C rfl (by decide) rfl d_Law_commit_7 ?_
  refine ks_iconst (a := 1) rfl C d_Law_commit_8 ?_
  exact ks_iret C Z rfl rfl d_Law_commit_9 rfl rfl ⟨rfl, rfl⟩
set_option maxRecDepth 100000 in
set_option maxHeartbeats 4000000 in
theorem c_Law_commit_T2 (l : Launch) (hNT : l.stackTraces = false) (D : va_G) (K : Nat → ClassId) (z0 tk0 tv0 gk0 gv0 d0 x0 m0 c0 t0 k0 : Nat) (fnd : Bool) : kh_M l D (ks_T K) (kt_R 16) y_Law_commit b_Law_commit 2 (some .int) [(0, 4, 7, 15), (0, 4, 10, 58)] [.ref z0] (kw_store z0 tk0 tv0 gk0 gv0 d0 x0 m0 c0 t0 k0 fnd true false) (ks_f (some (.int (nI 1))) (kw_store z0 tk0 tv0 gk0 gv0 d0 x0 m0 c0 t0 k0 fnd true false)) := by
  refine kh_M.of 1 (by decide) (Nat.le_of_ble_eq_true rfl) ?_
  intro E C Kh Z
  refine ks_aload_n rfl rfl C d_Law_commit_0 ?_
  refine ks_callCW (ci := 8) (q0 := 0) (kw_store z0 tk0 tv0 gk0 gv0 d0 x0 m0 c0 t0 k0 _ _ _) ([] : va_W) C Kh (c_Store_commit_T2 l hNT D K z0 tk0 tv0 gk0 gv0 d0 x0 m0 c0 t0 k0 _) yw_Store_commit sel_Store_commit lk_Law_55 d_Law_commit_1 rfl rfl rfl [0] [] [0] rfl rfl rfl rfl (by decide) rfl rfl rfl rfl ⟨by decide, by decide⟩ ⟨by decide, by decide⟩ (Nat.le_of_ble_eq_true rfl) [] (0, 4, 7, 15) [(0, 4, 10, 58)] rfl (fun z hz => by cases hz) rfl (by decide) kk_Law_15 kt_cISE (by decide) (fun q => ?_)
  refine ks_astore_n C rfl (by decide) rfl d_Law_commit_7 ?_
  refine ks_iconst (a := 1) rfl C d_Law_commit_8 ?_
  exact ks_iret C Z rfl rfl d_Law_commit_9 rfl rfl ⟨rfl, rfl⟩
set_option maxRecDepth 100000 in
set_option maxHeartbeats 4000000 in
theorem c_Law_commit_ok (l : Launch) (hNT : l.stackTraces = false) (D : va_G) (K : Nat → ClassId) (z0 tk0 tv0 gk0 gv0 d0 x0 m0 c0 t0 k0 : Nat) (fnd : Bool) (d1 d2 d3 : Nat) (F J Rc : Nat → UInt8) (jl fw fk fb : Nat) (x1 x2 : Nat) (B : Nat → UInt8) (G : Nat → Bool) (m1 s0 s1 s2 s3 s4 : Nat) (S0 S1 S2 S3 S4 : Nat → UInt8) (cnt : Nat) (h1 : (kv_save F J Rc jl fw fk fb B G).1 = true) (h5 : cnt ≤ 5) (h2 : jl ≤ 92480) (hw : fw ≤ 4) (hk : fk ≤ 1000) (hb : fb ≤ 300) : kh_M l D (ks_T K) (kt_R 16) y_Law_commit b_Law_commit 2 (some .int) [(0, 4, 7, 15), (0, 4, 10, 58)] [.ref z0] (kw_store z0 tk0 tv0 gk0 gv0 d0 x0 m0 c0 t0 k0 fnd true true ++ kw_disk K d0 d1 d2 d3 F J Rc jl fw fk fb ++ kw_pages K x0 x1 x2 B G ++ kw_marks K m0 m1 s0 s1 s2 s3 s4 S0 S1 S2 S3 S4 cnt) (ks_f (some (.int (nI 0))) (kw_store z0 tk0 tv0 gk0 gv0 d0 x0 m0 c0 t0 k0 fnd true false ++ kw_disk K d0 d1 d2 d3 (kv_save F J Rc jl fw fk fb B G).2.1 (kv_soL F G fw fk fb 2720 0 true 0 J jl Rc).2.1 (kv_soL F G fw fk fb 2720 0 true 0 J jl Rc).2.2.2 (kv_save F J Rc jl fw fk fb B G).2.2 fw fk fb ++ kw_pages K x0 x1 x2 B (kv_clr G 2720) ++ kw_marks K m0 m1 s0 s1 s2 s3 s4 S0 S1 S2 S3 S4 0)) := by
  refine kh_M.of 1 (by decide) (Nat.le_of_ble_eq_true rfl) ?_
  intro E C Kh Z
  refine ks_aload_n rfl rfl C d_Law_commit_0 ?_
  refine ks_cvW (ci := 8) (q0 := 0) (kw_store z0 tk0 tv0 gk0 gv0 d0 x0 m0 c0 t0 k0 _ _ _ ++ kw_disk K d0 d1 d2 d3 _ _ _ _ _ _ _ ++ kw_pages K x0 x1 x2 _ _ ++ kw_marks K m0 m1 s0 s1 s2 s3 s4 _ _ _ _ _ _) ([] : va_W) C (c_Store_commit_ok l D K z0 tk0 tv0 gk0 gv0 d0 x0 m0 c0 t0 k0 _ d1 d2 d3 _ _ _ _ _ _ _ x1 x2 _ _ m1 s0 s1 s2 s3 s4 _ _ _ _ _ _ h1 h5 h2 hw hk hb) yw_Store_commit sel_Store_commit lk_Law_55 d_Law_commit_1 rfl rfl rfl [0, 1, 2, 3, 4, 5, 6, 7, 8, 9, 10, 11, 12, 13, 14] [] [0, 1, 2, 3, 4, 5, 6, 7, 8, 9, 10, 11, 12, 13, 14] rfl rfl rfl rfl (by decide) rfl rfl rfl rfl rfl ⟨by decide, by decide⟩ ⟨by decide, by decide⟩ rfl (Nat.le_of_ble_eq_true rfl) ?_
  refine ks_goto (tgt := 13) C (by decide) d_Law_commit_4 ?_
  refine ks_iconst (a := 0) rfl C d_Law_commit_13 ?_
  refine ks_more (cs' := 1) (ss' := 6) (by decide) (by decide) ?_
  exact ks_iret C Z rfl rfl d_Law_commit_14 rfl rfl ⟨rfl, rfl⟩
set_option maxRecDepth 100000 in
set_option maxHeartbeats 4000000 in
theorem c_Law_commit_T3 (l : Launch) (hNT : l.stackTraces = false) (D : va_G) (K : Nat → ClassId) (z0 tk0 tv0 gk0 gv0 d0 x0 m0 c0 t0 k0 : Nat) (fnd : Bool) (tk1 : Nat) (Kb : Nat → UInt8) (kl : Nat) (tv1 : Nat) (Vb : Nat → UInt8) (vl : Nat) (gk1 : Nat) (Gb : Nat → UInt8) (gl : Nat) (gv1 : Nat) (Eb : Nat → UInt8) (el : Nat) (d1 d2 d3 : Nat) (F J Rc : Nat → UInt8) (jl fw fk fb : Nat) (x1 x2 : Nat) (B : Nat → UInt8) (G : Nat → Bool) (m1 s0 s1 s2 s3 s4 : Nat) (S0 S1 S2 S3 S4 : Nat → UInt8) (cnt : Nat) (h1 : (kv_save F J Rc jl fw fk fb B G).1 = false) (h5 : cnt ≤ 5) (h2 : jl ≤ 92480) (hw : fw ≤ 4) (hk : fk ≤ 1000) (hb : fb ≤ 300) : kh_M l D (ks_T K) (kt_R 16) y_Law_commit b_Law_commit 2 (some .int) [(0, 4, 7, 15), (0, 4, 10, 58)] [.ref z0] (kw_store z0 tk0 tv0 gk0 gv0 d0 x0 m0 c0 t0 k0 fnd true true ++ kw_row K tk0 tk1 Kb kl ++ kw_row K tv0 tv1 Vb vl ++ kw_row K gk0 gk1 Gb gl ++ kw_row K gv0 gv1 Eb el ++ kw_disk K d0 d1 d2 d3 F J Rc jl fw fk fb ++ kw_pages K x0 x1 x2 B G ++ kw_marks K m0 m1 s0 s1 s2 s3 s4 S0 S1 S2 S3 S4 cnt) (ks_f (some (.int (nI 2))) (kw_store z0 tk0 tv0 gk0 gv0 d0 x0 m0 c0 t0 k0 false false false ++ kw_row K tk0 tk1 Kb 0 ++ kw_row K tv0 tv1 Vb 0 ++ kw_row K gk0 gk1 Gb 0 ++ kw_row K gv0 gv1 Eb 0 ++ kw_disk K d0 d1 d2 d3 (kv_save F J Rc jl fw fk fb B G).2.1 (kv_soL F G fw fk fb 2720 0 true 0 J jl Rc).2.1 (kv_soL F G fw fk fb 2720 0 true 0 J jl Rc).2.2.2 (kv_save F J Rc jl fw fk fb B G).2.2 fw fk fb ++ kw_pages K x0 x1 x2 B G ++ kw_marks K m0 m1 s0 s1 s2 s3 s4 S0 S1 S2 S3 S4 0)) := by
  refine kh_M.of 1 (by decide) (Nat.le_of_ble_eq_true rfl) ?_
  intro E C Kh Z
  refine ks_aload_n rfl rfl C d_Law_commit_0 ?_
  refine ks_callCW (ci := 8) (q0 := 0) (kw_store z0 tk0 tv0 gk0 gv0 d0 x0 m0 c0 t0 k0 _ _ _ ++ kw_row K tk0 tk1 _ _ ++ kw_row K tv0 tv1 _ _ ++ kw_row K gk0 gk1 _ _ ++ kw_row K gv0 gv1 _ _ ++ kw_disk K d0 d1 d2 d3 _ _ _ _ _ _ _ ++ kw_pages K x0 x1 x2 _ _ ++ kw_marks K m0 m1 s0 s1 s2 s3 s4 _ _ _ _ _ _) ([] : va_W) C Kh (c_Store_commit_T3 l hNT D K z0 tk0 tv0 gk0 gv0 d0 x0 m0 c0 t0 k0 _ tk1 _ _ tv1 _ _ gk1 _ _ gv1 _ _ d1 d2 d3 _ _ _ _ _ _ _ x1 x2 _ _ m1 s0 s1 s2 s3 s4 _ _ _ _ _ _ h1 h5 h2 hw hk hb) yw_Store_commit sel_Store_commit lk_Law_55 d_Law_commit_1 rfl rfl rfl [0, 1, 2, 3, 4, 5, 6, 7, 8, 9, 10, 11, 12, 13, 14, 15, 16, 17, 18, 19, 20, 21, 22] [] [0, 1, 2, 3, 4, 5, 6, 7, 8, 9, 10, 11, 12, 13, 14, 15, 16, 17, 18, 19, 20, 21, 22] rfl rfl rfl rfl (by decide) rfl rfl rfl rfl ⟨by decide, by decide⟩ ⟨by decide, by decide⟩ (Nat.le_of_ble_eq_true rfl) [(0, 4, 7, 15)] (0, 4, 10, 58) [] rfl (fun z hz => by rcases List.mem_cons.mp hz with rfl | hz; exact ⟨by decide, _, by decide, by decide, kk_Law_15⟩; cases hz) rfl (by decide) kk_Law_58 kt_cAE (by decide) (fun q => ?_)
  refine ks_astore_n C rfl (by decide) rfl d_Law_commit_10 ?_
  refine ks_iconst (a := 2) rfl C d_Law_commit_11 ?_
  exact ks_iret C Z rfl rfl d_Law_commit_12 rfl rfl ⟨rfl, rfl⟩
set_option maxRecDepth 100000 in
set_option maxHeartbeats 4000000 in
theorem c_Law_rollback_T1 (l : Launch) (hNT : l.stackTraces = false) (D : va_G) (K : Nat → ClassId) (z0 tk0 tv0 gk0 gv0 d0 x0 m0 c0 t0 k0 : Nat) (fnd opn : Bool) : kh_M l D (ks_T K) (kt_R 16) y_Law_rollback b_Law_rollback 2 (some .int) [(0, 4, 7, 15)] [.ref z0] (kw_store z0 tk0 tv0 gk0 gv0 d0 x0 m0 c0 t0 k0 fnd false opn) (ks_f (some (.int (nI 1))) (kw_store z0 tk0 tv0 gk0 gv0 d0 x0 m0 c0 t0 k0 fnd false opn)) := by
  refine kh_M.of 1 (by decide) (Nat.le_of_ble_eq_true rfl) ?_
  intro E C Kh Z
  refine ks_aload_n rfl rfl C d_Law_rollback_0 ?_
  refine ks_callCW (ci := 8) (q0 := 0) (kw_store z0 tk0 tv0 gk0 gv0 d0 x0 m0 c0 t0 k0 _ _ _) ([] : va_W) C Kh (c_Store_rollback_T1 l hNT D K z0 tk0 tv0 gk0 gv0 d0 x0 m0 c0 t0 k0 _ _) yw_Store_rollback sel_Store_rollback lk_Law_60 d_Law_rollback_1 rfl rfl rfl [0] [] [0] rfl rfl rfl rfl (by decide) rfl rfl rfl rfl ⟨by decide, by decide⟩ ⟨by decide, by decide⟩ (Nat.le_of_ble_eq_true rfl) [] (0, 4, 7, 15) [] rfl (fun z hz => by cases hz) rfl (by decide) kk_Law_15 kt_cISE (by decide) (fun q => ?_)
  refine ks_astore_n C rfl (by decide) rfl d_Law_rollback_7 ?_
  refine ks_iconst (a := 1) rfl C d_Law_rollback_8 ?_
  exact ks_iret C Z rfl rfl d_Law_rollback_9 rfl rfl ⟨rfl, rfl⟩
set_option maxRecDepth 100000 in
set_option maxHeartbeats 4000000 in
theorem c_Law_rollback_T2 (l : Launch) (hNT : l.stackTraces = false) (D : va_G) (K : Nat → ClassId) (z0 tk0 tv0 gk0 gv0 d0 x0 m0 c0 t0 k0 : Nat) (fnd : Bool) : kh_M l D (ks_T K) (kt_R 16) y_Law_rollback b_Law_rollback 2 (some .int) [(0, 4, 7, 15)] [.ref z0] (kw_store z0 tk0 tv0 gk0 gv0 d0 x0 m0 c0 t0 k0 fnd true false) (ks_f (some (.int (nI 1))) (kw_store z0 tk0 tv0 gk0 gv0 d0 x0 m0 c0 t0 k0 fnd true false)) := by
  refine kh_M.of 1 (by decide) (Nat.le_of_ble_eq_true rfl) ?_
  intro E C Kh Z
  refine ks_aload_n rfl rfl C d_Law_rollback_0 ?_
  refine ks_callCW (ci := 8) (q0 := 0) (kw_store z0 tk0 tv0 gk0 gv0 d0 x0 m0 c0 t0 k0 _ _ _) ([] : va_W) C Kh (c_Store_rollback_T2 l hNT D K z0 tk0 tv0 gk0 gv0 d0 x0 m0 c0 t0 k0 _) yw_Store_rollback sel_Store_rollback lk_Law_60 d_Law_rollback_1 rfl rfl rfl [0] [] [0] rfl rfl rfl rfl (by decide) rfl rfl rfl rfl ⟨by decide, by decide⟩ ⟨by decide, by decide⟩ (Nat.le_of_ble_eq_true rfl) [] (0, 4, 7, 15) [] rfl (fun z hz => by cases hz) rfl (by decide) kk_Law_15 kt_cISE (by decide) (fun q => ?_)
  refine ks_astore_n C rfl (by decide) rfl d_Law_rollback_7 ?_
  refine ks_iconst (a := 1) rfl C d_Law_rollback_8 ?_
  exact ks_iret C Z rfl rfl d_Law_rollback_9 rfl rfl ⟨rfl, rfl⟩
set_option maxRecDepth 100000 in
set_option maxHeartbeats 4000000 in
theorem c_Law_rollback_ok (l : Launch) (hNT : l.stackTraces = false) (D : va_G) (K : Nat → ClassId) (z0 tk0 tv0 gk0 gv0 d0 x0 m0 c0 t0 k0 : Nat) (fnd : Bool) (d1 d2 d3 : Nat) (F J Rc : Nat → UInt8) (jl fw fk fb : Nat) (x1 x2 : Nat) (B : Nat → UInt8) (G : Nat → Bool) (m1 s0 s1 s2 s3 s4 : Nat) (S0 S1 S2 S3 S4 : Nat → UInt8) (cnt : Nat) (h5 : cnt ≤ 5) : kh_M l D (ks_T K) (kt_R 16) y_Law_rollback b_Law_rollback 2 (some .int) [(0, 4, 7, 15)] [.ref z0] (kw_store z0 tk0 tv0 gk0 gv0 d0 x0 m0 c0 t0 k0 fnd true true ++ kw_disk K d0 d1 d2 d3 F J Rc jl fw fk fb ++ kw_pages K x0 x1 x2 B G ++ kw_marks K m0 m1 s0 s1 s2 s3 s4 S0 S1 S2 S3 S4 cnt) (ks_f (some (.int (nI 0))) (kw_store z0 tk0 tv0 gk0 gv0 d0 x0 m0 c0 t0 k0 fnd true false ++ kw_disk K d0 d1 d2 d3 F J Rc jl fw fk fb ++ kw_pages K x0 x1 x2 (kv_undo B G F 2720) (kv_clr G 2720) ++ kw_marks K m0 m1 s0 s1 s2 s3 s4 S0 S1 S2 S3 S4 0)) := by
  refine kh_M.of 1 (by decide) (Nat.le_of_ble_eq_true rfl) ?_
  intro E C Kh Z
  refine ks_aload_n rfl rfl C d_Law_rollback_0 ?_
  refine ks_cvW (ci := 8) (q0 := 0) (kw_store z0 tk0 tv0 gk0 gv0 d0 x0 m0 c0 t0 k0 _ _ _ ++ kw_disk K d0 d1 d2 d3 _ _ _ _ _ _ _ ++ kw_pages K x0 x1 x2 _ _ ++ kw_marks K m0 m1 s0 s1 s2 s3 s4 _ _ _ _ _ _) ([] : va_W) C (c_Store_rollback_ok l D K z0 tk0 tv0 gk0 gv0 d0 x0 m0 c0 t0 k0 _ d1 d2 d3 _ _ _ _ _ _ _ x1 x2 _ _ m1 s0 s1 s2 s3 s4 _ _ _ _ _ _ h5) yw_Store_rollback sel_Store_rollback lk_Law_60 d_Law_rollback_1 rfl rfl rfl [0, 1, 2, 3, 4, 5, 6, 7, 8, 9, 10, 11, 12, 13, 14] [] [0, 1, 2, 3, 4, 5, 6, 7, 8, 9, 10, 11, 12, 13, 14] rfl rfl rfl rfl (by decide) rfl rfl rfl rfl rfl ⟨by decide, by decide⟩ ⟨by decide, by decide⟩ rfl (Nat.le_of_ble_eq_true rfl) ?_
  refine ks_goto (tgt := 10) C (by decide) d_Law_rollback_4 ?_
  refine ks_iconst (a := 0) rfl C d_Law_rollback_10 ?_
  refine ks_more (cs' := 1) (ss' := 6) (by decide) (by decide) ?_
  exact ks_iret C Z rfl rfl d_Law_rollback_11 rfl rfl ⟨rfl, rfl⟩
