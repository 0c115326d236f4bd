/-! the law's own calls of the store -/
set_option maxRecDepth 100000 in
set_option maxHeartbeats 4000000 in
theorem c_Law_mark_T1 (l : Launch) (hNT : l.stackTraces = false) (D : va_G) (K : Nat → ClassId) (z0 tk0 tv0 gk0 gv0 d0 x0 m0 c0 t0 k0 : Nat) (fnd opn : Bool) (o0 : Nat) (O : Nat → Int64) : kh_M l D (ks_T K) (kt_R 16) y_Law_mark b_Law_mark 3 (some .int) [(0, 8, 11, 15)] [.ref z0, .ref o0] (kw_store z0 tk0 tv0 gk0 gv0 d0 x0 m0 c0 t0 k0 fnd false opn ++ kw_out K o0 O) (ks_f (some (.int (nI 1))) (kw_store z0 tk0 tv0 gk0 gv0 d0 x0 m0 c0 t0 k0 fnd false opn ++ kw_out K o0 O)) := by
  refine kh_M.of 1 (by decide) (Nat.le_of_ble_eq_true rfl) ?_
  intro E C Kh Z
  refine ks_aload_n rfl rfl C d_Law_mark_0 ?_
  refine ks_iconst (a := 0) rfl C d_Law_mark_1 ?_
  refine ks_aload_n rfl rfl C d_Law_mark_2 ?_
  refine ks_callCW (ci := 8) (q0 := 0) (kw_store z0 tk0 tv0 gk0 gv0 d0 x0 m0 c0 t0 k0 _ _ _ ++ kw_out K o0 _) (kw_out K o0 _) C Kh (c_Store_mark_T1 l hNT D K z0 tk0 tv0 gk0 gv0 d0 x0 m0 c0 t0 k0 _ _) yw_Store_mark sel_Store_mark lk_Law_63 d_Law_mark_3 rfl rfl rfl [0] [1] [1, 0] rfl rfl rfl rfl (by decide) rfl rfl rfl rfl ⟨by decide, by decide⟩ ⟨by decide, by decide⟩ (Nat.le_of_ble_eq_true rfl) [] (0, 8, 11, 15) [] rfl (fun z hz => by cases hz) rfl (by decide) kk_Law_15 kt_cISE (by decide) (fun q => ?_)
  refine ks_astore_n C rfl (by decide) rfl d_Law_mark_11 ?_
  refine ks_iconst (a := 1) rfl C d_Law_mark_12 ?_
  exact ks_iret C Z rfl rfl d_Law_mark_13 rfl rfl ⟨rfl, rfl⟩
set_option maxRecDepth 100000 in
set_option maxHeartbeats 4000000 in
theorem c_Law_mark_T2 (l : Launch) (hNT : l.stackTraces = false) (D : va_G) (K : Nat → ClassId) (z0 tk0 tv0 gk0 gv0 d0 x0 m0 c0 t0 k0 : Nat) (fnd : Bool) (o0 : Nat) (O : Nat → Int64) : kh_M l D (ks_T K) (kt_R 16) y_Law_mark b_Law_mark 3 (some .int) [(0, 8, 11, 15)] [.ref z0, .ref o0] (kw_store z0 tk0 tv0 gk0 gv0 d0 x0 m0 c0 t0 k0 fnd true false ++ kw_out K o0 O) (ks_f (some (.int (nI 1))) (kw_store z0 tk0 tv0 gk0 gv0 d0 x0 m0 c0 t0 k0 fnd true false ++ kw_out K o0 O)) := by
  refine kh_M.of 1 (by decide) (Nat.le_of_ble_eq_true rfl) ?_
  intro E C Kh Z
  refine ks_aload_n rfl rfl C d_Law_mark_0 ?_
  refine ks_iconst (a := 0) rfl C d_Law_mark_1 ?_
  refine ks_aload_n rfl rfl C d_Law_mark_2 ?_
  refine ks_callCW (ci := 8) (q0 := 0) (kw_store z0 tk0 tv0 gk0 gv0 d0 x0 m0 c0 t0 k0 _ _ _ ++ kw_out K o0 _) (kw_out K o0 _) C Kh (c_Store_mark_T2 l hNT D K z0 tk0 tv0 gk0 gv0 d0 x0 m0 c0 t0 k0 _) yw_Store_mark sel_Store_mark lk_Law_63 d_Law_mark_3 rfl rfl rfl [0] [1] [1, 0] rfl rfl rfl rfl (by decide) rfl rfl rfl rfl ⟨by decide, by decide⟩ ⟨by decide, by decide⟩ (Nat.le_of_ble_eq_true rfl) [] (0, 8, 11, 15) [] rfl (fun z hz => by cases hz) rfl (by decide) kk_Law_15 kt_cISE (by decide) (fun q => ?_)
  refine ks_astore_n C rfl (by decide) rfl d_Law_mark_11 ?_
  refine ks_iconst (a := 1) rfl C d_Law_mark_12 ?_
  exact ks_iret C Z rfl rfl d_Law_mark_13 rfl rfl ⟨rfl, rfl⟩
set_option maxRecDepth 100000 in
set_option maxHeartbeats 4000000 in
theorem c_Law_mark_T3 (l : Launch) (hNT : l.stackTraces = false) (D : va_G) (K : Nat → ClassId) (z0 tk0 tv0 gk0 gv0 d0 x0 m0 c0 t0 k0 : Nat) (fnd : Bool) (m1 s0 s1 s2 s3 s4 : Nat) (S0 S1 S2 S3 S4 : Nat → UInt8) (cnt : Nat) (h1 : cnt = 5) (o0 : Nat) (O : Nat → Int64) : kh_M l D (ks_T K) (kt_R 16) y_Law_mark b_Law_mark 3 (some .int) [(0, 8, 11, 15)] [.ref z0, .ref o0] (kw_store z0 tk0 tv0 gk0 gv0 d0 x0 m0 c0 t0 k0 fnd true true ++ kw_marks K m0 m1 s0 s1 s2 s3 s4 S0 S1 S2 S3 S4 cnt ++ kw_out K o0 O) (ks_f (some (.int (nI 1))) (kw_store z0 tk0 tv0 gk0 gv0 d0 x0 m0 c0 t0 k0 fnd true true ++ kw_marks K m0 m1 s0 s1 s2 s3 s4 S0 S1 S2 S3 S4 cnt ++ kw_out K o0 O)) := by
  refine kh_M.of 1 (by decide) (Nat.le_of_ble_eq_true rfl) ?_
  intro E C Kh Z
  refine ks_aload_n rfl rfl C d_Law_mark_0 ?_
  refine ks_iconst (a := 0) rfl C d_Law_mark_1 ?_
  refine ks_aload_n rfl rfl C d_Law_mark_2 ?_
  refine ks_callCW (ci := 8) (q0 := 0) (kw_store z0 tk0 tv0 gk0 gv0 d0 x0 m0 c0 t0 k0 _ _ _ ++ kw_marks K m0 m1 s0 s1 s2 s3 s4 _ _ _ _ _ _ ++ kw_out K o0 _) (kw_out K o0 _) C Kh (c_Store_mark_T3 l hNT D K z0 tk0 tv0 gk0 gv0 d0 x0 m0 c0 t0 k0 _ m1 s0 s1 s2 s3 s4 _ _ _ _ _ _ h1) yw_Store_mark sel_Store_mark lk_Law_63 d_Law_mark_3 rfl rfl rfl [0, 1, 2, 3, 4, 5, 6, 7] [8] [1, 2, 3, 4, 5, 6, 7, 8, 0] rfl rfl rfl rfl (by decide) rfl rfl rfl rfl ⟨by decide, by decide⟩ ⟨by decide, by decide⟩ (Nat.le_of_ble_eq_true rfl) [] (0, 8, 11, 15) [] rfl (fun z hz => by cases hz) rfl (by decide) kk_Law_15 kt_cISE (by decide) (fun q => ?_)
  refine ks_astore_n C rfl (by decide) rfl d_Law_mark_11 ?_
  refine ks_iconst (a := 1) rfl C d_Law_mark_12 ?_
  exact ks_iret C Z rfl rfl d_Law_mark_13 rfl rfl ⟨rfl, rfl⟩
set_option maxRecDepth 100000 in
set_option maxHeartbeats 4000000 in
theorem c_Law_mark_0 (l : Launch) (hNT : l.stackTraces = false) (D : va_G) (K : Nat → ClassId) (z0 tk0 tv0 gk0 gv0 d0 x0 m0 c0 t0 k0 : Nat) (fnd : Bool) (m1 s0 s1 s2 s3 s4 : Nat) (S0 S1 S2 S3 S4 : Nat → UInt8) (x1 x2 : Nat) (B : Nat → UInt8) (G : Nat → Bool) (o0 : Nat) (O : Nat → Int64) : kh_M l D (ks_T K) (kt_R 16) y_Law_mark b_Law_mark 3 (some .int) [(0, 8, 11, 15)] [.ref z0, .ref o0] (kw_store z0 tk0 tv0 gk0 gv0 d0 x0 m0 c0 t0 k0 fnd true true ++ kw_marks K m0 m1 s0 s1 s2 s3 s4 S0 S1 S2 S3 S4 0 ++ kw_pages K x0 x1 x2 B G ++ kw_out K o0 O) (ks_f (some (.int (nI 0))) (kw_store z0 tk0 tv0 gk0 gv0 d0 x0 m0 c0 t0 k0 fnd true true ++ kw_marks K m0 m1 s0 s1 s2 s3 s4 (va_cpy B S0 0 0 (288 + kv_used B * 32)) S1 S2 S3 S4 1 ++ kw_pages K x0 x1 x2 B G ++ kw_out K o0 (va_up O 0 ((nI (1)).toInt64)))) := by
  refine kh_M.of 1 (by decide) (Nat.le_of_ble_eq_true rfl) ?_
  intro E C Kh Z
  refine ks_aload_n rfl rfl C d_Law_mark_0 ?_
  refine ks_iconst (a := 0) rfl C d_Law_mark_1 ?_
  refine ks_aload_n rfl rfl C d_Law_mark_2 ?_
  refine ks_cxW (ci := 8) (q0 := 0) (kw_store z0 tk0 tv0 gk0 gv0 d0 x0 m0 c0 t0 k0 _ _ _ ++ kw_marks K m0 m1 s0 s1 s2 s3 s4 _ _ _ _ _ _ ++ kw_pages K x0 x1 x2 _ _ ++ kw_out K o0 _) (kw_out K o0 _) C (c_Store_mark_0 l D K z0 tk0 tv0 gk0 gv0 d0 x0 m0 c0 t0 k0 _ m1 s0 s1 s2 s3 s4 _ _ _ _ _ x1 x2 _ _) yw_Store_mark sel_Store_mark lk_Law_63 d_Law_mark_3 rfl rfl rfl [0, 1, 2, 3, 4, 5, 6, 7, 8, 9, 10] [11] [1, 2, 3, 4, 5, 6, 7, 8, 9, 10, 11, 0] rfl rfl rfl rfl (by decide) rfl rfl rfl rfl rfl ⟨by decide, by decide⟩ ⟨by decide, by decide⟩ rfl (Nat.le_of_ble_eq_true rfl) ?_
  refine ks_i2l C d_Law_mark_6 ?_
  refine ks_last (ws' := (kw_store z0 tk0 tv0 gk0 gv0 d0 x0 m0 c0 t0 k0 _ _ _ ++ kw_marks K m0 m1 s0 s1 s2 s3 s4 _ _ _ _ _ _ ++ kw_pages K x0 x1 x2 _ _ ++ kw_out K o0 _)) C 11 3 rfl rfl (by omega) (by omega) rfl d_Law_mark_7 ?_
  refine ks_goto (tgt := 14) C (by decide) d_Law_mark_8 ?_
  refine ks_iconst (a := 0) rfl C d_Law_mark_14 ?_
  refine ks_more (cs' := 1) (ss' := 6) (by decide) (by decide) ?_
  exact ks_iret C Z rfl rfl d_Law_mark_15 rfl rfl ⟨rfl, rfl⟩
set_option maxRecDepth 100000 in
set_option maxHeartbeats 4000000 in
theorem c_Law_mark_1 (l : Launch) (hNT : l.stackTraces = false) (D : va_G) (K : Nat → ClassId) (z0 tk0 tv0 gk0 gv0 d0 x0 m0 c0 t0 k0 : Nat) (fnd : Bool) (m1 s0 s1 s2 s3 s4 : Nat) (S0 S1 S2 S3 S4 : Nat → UInt8) (x1 x2 : Nat) (B : Nat → UInt8) (G : Nat → Bool) (o0 : Nat) (O : Nat → Int64) : kh_M l D (ks_T K) (kt_R 16) y_Law_mark b_Law_mark 3 (some .int) [(0, 8, 11, 15)] [.ref z0, .ref o0] (kw_store z0 tk0 tv0 gk0 gv0 d0 x0 m0 c0 t0 k0 fnd true true ++ kw_marks K m0 m1 s0 s1 s2 s3 s4 S0 S1 S2 S3 S4 1 ++ kw_pages K x0 x1 x2 B G ++ kw_out K o0 O) (ks_f (some (.int (nI 0))) (kw_store z0 tk0 tv0 gk0 gv0 d0 x0 m0 c0 t0 k0 fnd true true ++ kw_marks K m0 m1 s0 s1 s2 s3 s4 S0 (va_cpy B S1 0 0 (288 + kv_used B * 32)) S2 S3 S4 2 ++ kw_pages K x0 x1 x2 B G ++ kw_out K o0 (va_up O 0 ((nI (2)).toInt64)))) := by
  refine kh_M.of 1 (by decide) (Nat.le_of_ble_eq_true rfl) ?_
  intro E C Kh Z
  refine ks_aload_n rfl rfl C d_Law_mark_0 ?_
  refine ks_iconst (a := 0) rfl C d_Law_mark_1 ?_
  refine ks_aload_n rfl rfl C d_Law_mark_2 ?_
  refine ks_cxW (ci := 8) (q0 := 0) (kw_store z0 tk0 tv0 gk0 gv0 d0 x0 m0 c0 t0 k0 _ _ _ ++ kw_marks K m0 m1 s0 s1 s2 s3 s4 _ _ _ _ _ _ ++ kw_pages K x0 x1 x2 _ _ ++ kw_out K o0 _) (kw_out K o0 _) C (c_Store_mark_1 l D K z0 tk0 tv0 gk0 gv0 d0 x0 m0 c0 t0 k0 _ m1 s0 s1 s2 s3 s4 _ _ _ _ _ x1 x2 _ _) yw_Store_mark sel_Store_mark lk_Law_63 d_Law_mark_3 rfl rfl rfl [0, 1, 2, 3, 4, 5, 6, 7, 8, 9, 10] [11] [1, 2, 3, 4, 5, 6, 7, 8, 9, 10, 11, 0] rfl rfl rfl rfl (by decide) rfl rfl rfl rfl rfl ⟨by decide, by decide⟩ ⟨by decide, by decide⟩ rfl (Nat.le_of_ble_eq_true rfl) ?_
  refine ks_i2l C d_Law_mark_6 ?_
  refine ks_last (ws' := (kw_store z0 tk0 tv0 gk0 gv0 d0 x0 m0 c0 t0 k0 _ _ _ ++ kw_marks K m0 m1 s0 s1 s2 s3 s4 _ _ _ _ _ _ ++ kw_pages K x0 x1 x2 _ _ ++ kw_out K o0 _)) C 11 3 rfl rfl (by omega) (by omega) rfl d_Law_mark_7 ?_
  refine ks_goto (tgt := 14) C (by decide) d_Law_mark_8 ?_
  refine ks_iconst (a := 0) rfl C d_Law_mark_14 ?_
  refine ks_more (cs' := 1) (ss' := 6) (by decide) (by decide) ?_
  exact ks_iret C Z rfl rfl d_Law_mark_15 rfl rfl ⟨rfl, rfl⟩
set_option maxRecDepth 100000 in
set_option maxHeartbeats 4000000 in
theorem c_Law_mark_2 (l : Launch) (hNT : l.stackTraces = false) (D : va_G) (K : Nat → ClassId) (z0 tk0 tv0 gk0 gv0 d0 x0 m0 c0 t0 k0 : Nat) (fnd : Bool) (m1 s0 s1 s2 s3 s4 : Nat) (S0 S1 S2 S3 S4 : Nat → UInt8) (x1 x2 : Nat) (B : Nat → UInt8) (G : Nat → Bool) (o0 : Nat) (O : Nat → Int64) : kh_M l D (ks_T K) (kt_R 16) y_Law_mark b_Law_mark 3 (some .int) [(0, 8, 11, 15)] [.ref z0, .ref o0] (kw_store z0 tk0 tv0 gk0 gv0 d0 x0 m0 c0 t0 k0 fnd true true ++ kw_marks K m0 m1 s0 s1 s2 s3 s4 S0 S1 S2 S3 S4 2 ++ kw_pages K x0 x1 x2 B G ++ kw_out K o0 O) (ks_f (some (.int (nI 0))) (kw_store z0 tk0 tv0 gk0 gv0 d0 x0 m0 c0 t0 k0 fnd true true ++ kw_marks K m0 m1 s0 s1 s2 s3 s4 S0 S1 (va_cpy B S2 0 0 (288 + kv_used B * 32)) S3 S4 3 ++ kw_pages K x0 x1 x2 B G ++ kw_out K o0 (va_up O 0 ((nI (3)).toInt64)))) := by
  refine kh_M.of 1 (by decide) (Nat.le_of_ble_eq_true rfl) ?_
  intro E C Kh Z
  refine ks_aload_n rfl rfl C d_Law_mark_0 ?_
  refine ks_iconst (a := 0) rfl C d_Law_mark_1 ?_
  refine ks_aload_n rfl rfl C d_Law_mark_2 ?_
  refine ks_cxW (ci := 8) (q0 := 0) (kw_store z0 tk0 tv0 gk0 gv0 d0 x0 m0 c0 t0 k0 _ _ _ ++ kw_marks K m0 m1 s0 s1 s2 s3 s4 _ _ _ _ _ _ ++ kw_pages K x0 x1 x2 _ _ ++ kw_out K o0 _) (kw_out K o0 _) C (c_Store_mark_2 l D K z0 tk0 tv0 gk0 gv0 d0 x0 m0 c0 t0 k0 _ m1 s0 s1 s2 s3 s4 _ _ _ _ _ x1 x2 _ _) yw_Store_mark sel_Store_mark lk_Law_63 d_Law_mark_3 rfl rfl rfl [0, 1, 2, 3, 4, 5, 6, 7, 8, 9, 10] [11] [1, 2, 3, 4, 5, 6, 7, 8, 9, 10, 11, 0] rfl rfl rfl rfl (by decide) rfl rfl rfl rfl rfl ⟨by decide, by decide⟩ ⟨by decide, by decide⟩ rfl (Nat.le_of_ble_eq_true rfl) ?_
  refine ks_i2l C d_Law_mark_6 ?_
  refine ks_last (ws' := (kw_store z0 tk0 tv0 gk0 gv0 d0 x0 m0 c0 t0 k0 _ _ _ ++ kw_marks K m0 m1 s0 s1 s2 s3 s4 _ _ _ _ _ _ ++ kw_pages K x0 x1 x2 _ _ ++ kw_out K o0 _)) C 11 3 rfl rfl (by omega) (by omega) rfl d_Law_mark_7 ?_
  refine ks_goto (tgt := 14) C (by decide) d_Law_mark_8 ?_
  refine ks_iconst (a := 0) rfl C d_Law_mark_14 ?_
  refine ks_more (cs' := 1) (ss' := 6) (by decide) (by decide) ?_
  exact ks_iret C Z rfl rfl d_Law_mark_15 rfl rfl ⟨rfl, rfl⟩
set_option maxRecDepth 100000 in
set_option maxHeartbeats 4000000 in
theorem c_Law_mark_3 (l : Launch) (hNT : l.stackTraces = false) (D : va_G) (K : Nat → ClassId) (z0 tk0 tv0 gk0 gv0 d0 x0 m0 c0 t0 k0 : Nat) (fnd : Bool) (m1 s0 s1 s2 s3 s4 : Nat) (S0 S1 S2 S3 S4 : Nat → UInt8) (x1 x2 : Nat) (B : Nat → UInt8) (G : Nat → Bool) (o0 : Nat) (O : Nat → Int64) : kh_M l D (ks_T K) (kt_R 16) y_Law_mark b_Law_mark 3 (some .int) [(0, 8, 11, 15)] [.ref z0, .ref o0] (kw_store z0 tk0 tv0 gk0 gv0 d0 x0 m0 c0 t0 k0 fnd true true ++ kw_marks K m0 m1 s0 s1 s2 s3 s4 S0 S1 S2 S3 S4 3 ++ kw_pages K x0 x1 x2 B G ++ kw_out K o0 O) (ks_f (some (.int (nI 0))) (kw_store z0 tk0 tv0 gk0 gv0 d0 x0 m0 c0 t0 k0 fnd true true ++ kw_marks K m0 m1 s0 s1 s2 s3 s4 S0 S1 S2 (va_cpy B S3 0 0 (288 + kv_used B * 32)) S4 4 ++ kw_pages K x0 x1 x2 B G ++ kw_out K o0 (va_up O 0 ((nI (4)).toInt64)))) := by
  refine kh_M.of 1 (by decide) (Nat.le_of_ble_eq_true rfl) ?_
  intro E C Kh Z
  refine ks_aload_n rfl rfl C d_Law_mark_0 ?_
  refine ks_iconst (a := 0) rfl C d_Law_mark_1 ?_
  refine ks_aload_n rfl rfl C d_Law_mark_2 ?_
  refine ks_cxW (ci := 8) (q0 := 0) (kw_store z0 tk0 tv0 gk0 gv0 d0 x0 m0 c0 t0 k0 _ _ _ ++ kw_marks K m0 m1 s0 s1 s2 s3 s4 _ _ _ _ _ _ ++ kw_pages K x0 x1 x2 _ _ ++ kw_out K o0 _) (kw_out K o0 _) C (c_Store_mark_3 l D K z0 tk0 tv0 gk0 gv0 d0 x0 m0 c0 t0 k0 _ m1 s0 s1 s2 s3 s4 _ _ _ _ _ x1 x2 _ _) yw_Store_mark sel_Store_mark lk_Law_63 d_Law_mark_3 rfl rfl rfl [0, 1, 2, 3, 4, 5, 6, 7, 8, 9, 10] [11] [1, 2, 3, 4, 5, 6, 7, 8, 9, 10, 11, 0] rfl rfl rfl rfl (by decide) rfl rfl rfl rfl rfl ⟨by decide, by decide⟩ ⟨by decide, by decide⟩ rfl (Nat.le_of_ble_eq_true rfl) ?_
  refine ks_i2l C d_Law_mark_6 ?_
  refine ks_last (ws' := (kw_store z0 tk0 tv0 gk0 gv0 d0 x0 m0 c0 t0 k0 _ _ _ ++ kw_marks K m0 m1 s0 s1 s2 s3 s4 _ _ _ _ _ _ ++ kw_pages K x0 x1 x2 _ _ ++ kw_out K o0 _)) C 11 3 rfl rfl (by omega) (by omega) rfl d_Law_mark_7 ?_
  refine ks_goto (tgt := 14) C (by decide) d_Law_mark_8 ?_
  refine ks_iconst (a := 0) rfl C d_Law_mark_14 ?_
  refine ks_more (cs' := 1) (ss' := 6) (by decide) (by decide) ?_
  exact ks_iret C Z rfl rfl d_Law_mark_15 rfl rfl ⟨rfl, rfl⟩
set_option maxRecDepth 100000 in
set_option maxHeartbeats 4000000 in
theorem c_Law_mark_4 (l : Launch) (hNT : l.stackTraces = false) (D : va_G) (K : Nat → ClassId) (z0 tk0 tv0 gk0 gv0 d0 x0 m0 c0 t0 k0 : Nat) (fnd : Bool) (m1 s0 s1 s2 s3 s4 : Nat) (S0 S1 S2 S3 S4 : Nat → UInt8) (x1 x2 : Nat) (B : Nat → UInt8) (G : Nat → Bool) (o0 : Nat) (O : Nat → Int64) : kh_M l D (ks_T K) (kt_R 16) y_Law_mark b_Law_mark 3 (some .int) [(0, 8, 11, 15)] [.ref z0, .ref o0] (kw_store z0 tk0 tv0 gk0 gv0 d0 x0 m0 c0 t0 k0 fnd true true ++ kw_marks K m0 m1 s0 s1 s2 s3 s4 S0 S1 S2 S3 S4 4 ++ kw_pages K x0 x1 x2 B G ++ kw_out K o0 O) (ks_f (some (.int (nI 0))) (kw_store z0 tk0 tv0 gk0 gv0 d0 x0 m0 c0 t0 k0 fnd true true ++ kw_marks K m0 m1 s0 s1 s2 s3 s4 S0 S1 S2 S3 (va_cpy B S4 0 0 (288 + kv_used B * 32)) 5 ++ kw_pages K x0 x1 x2 B G ++ kw_out K o0 (va_up O 0 ((nI (5)).toInt64)))) := by
  refine kh_M.of 1 (by decide) (Nat.le_of_ble_eq_true rfl) ?_
  intro E C Kh Z
  refine ks_aload_n rfl rfl C d_Law_mark_0 ?_
  refine ks_iconst (a := 0) rfl C d_Law_mark_1 ?_
  refine ks_aload_n rfl rfl C d_Law_mark_2 ?_
  refine ks_cxW (ci := 8) (q0 := 0) (kw_store z0 tk0 tv0 gk0 gv0 d0 x0 m0 c0 t0 k0 _ _ _ ++ kw_marks K m0 m1 s0 s1 s2 s3 s4 _ _ _ _ _ _ ++ kw_pages K x0 x1 x2 _ _ ++ kw_out K o0 _) (kw_out K o0 _) C (c_Store_mark_4 l D K z0 tk0 tv0 gk0 gv0 d0 x0 m0 c0 t0 k0 _ m1 s0 s1 s2 s3 s4 _ _ _ _ _ x1 x2 _ _) yw_Store_mark sel_Store_mark lk_Law_63 d_Law_mark_3 rfl rfl rfl [0, 1, 2, 3, 4, 5, 6, 7, 8, 9, 10] [11] [1, 2, 3, 4, 5, 6, 7, 8, 9, 10, 11, 0] rfl rfl rfl rfl (by decide) rfl rfl rfl rfl rfl ⟨by decide, by decide⟩ ⟨by decide, by decide⟩ rfl (Nat.le_of_ble_eq_true rfl) ?_
  refine ks_i2l C d_Law_mark_6 ?_
  refine ks_last (ws' := (kw_store z0 tk0 tv0 gk0 gv0 d0 x0 m0 c0 t0 k0 _ _ _ ++ kw_marks K m0 m1 s0 s1 s2 s3 s4 _ _ _ _ _ _ ++ kw_pages K x0 x1 x2 _ _ ++ kw_out K o0 _)) C 11 3 rfl rfl (by omega) (by omega) rfl d_Law_mark_7 ?_
  refine ks_goto (tgt := 14) C (by decide) d_Law_mark_8 ?_
  refine ks_iconst (a := 0) rfl C d_Law_mark_14 ?_
  refine ks_more (cs' := 1) (ss' := 6) (by decide) (by decide) ?_
  exact ks_iret C Z rfl rfl d_Law_mark_15 rfl rfl ⟨rfl, rfl⟩
set_option maxRecDepth 100000 in
set_option maxHeartbeats 4000000 in
theorem c_Law_back_T1 (l : Launch) (hNT : l.stackTraces = false) (D : va_G) (K : Nat → ClassId) (z0 tk0 tv0 gk0 gv0 d0 x0 m0 c0 t0 k0 : Nat) (fnd opn : Bool) (m : Nat) : kh_M l D (ks_T K) (kt_R 16) y_Law_back b_Law_back 3 (some .int) [(0, 5, 8, 15), (0, 5, 11, 70)] [.ref z0, .int (nI m)] (kw_store z0 tk0 tv0 gk0 gv0 d0 x0 m0 c0 t0 k0 fnd false opn) (ks_f (some (.int (nI 1))) (kw_store z0 tk0 tv0 gk0 gv0 d0 x0 m0 c0 t0 k0 fnd false opn)) := by
  refine kh_M.of 1 (by decide) (Nat.le_of_ble_eq_true rfl) ?_
  intro E C Kh Z
  refine ks_aload_n rfl rfl C d_Law_back_0 ?_
  refine ks_iload_n rfl rfl C d_Law_back_1 ?_
  refine ks_callCW (ci := 8) (q0 := 0) (kw_store z0 tk0 tv0 gk0 gv0 d0 x0 m0 c0 t0 k0 _ _ _) ([] : va_W) C Kh (c_Store_back_T1 l hNT D K z0 tk0 tv0 gk0 gv0 d0 x0 m0 c0 t0 k0 _ _ _) yw_Store_back sel_Store_back lk_Law_66 d_Law_back_2 rfl rfl rfl [0] [] [0] rfl rfl rfl rfl (by decide) rfl rfl rfl rfl ⟨by decide, by decide⟩ ⟨by decide, by decide⟩ (Nat.le_of_ble_eq_true rfl) [] (0, 5, 8, 15) [(0, 5, 11, 70)] rfl (fun z hz => by cases hz) rfl (by decide) kk_Law_15 kt_cISE (by decide) (fun q => ?_)
  refine ks_astore_n C rfl (by decide) rfl d_Law_back_8 ?_
  refine ks_iconst (a := 1) rfl C d_Law_back_9 ?_
  exact ks_iret C Z rfl rfl d_Law_back_10 rfl rfl ⟨rfl, rfl⟩
set_option maxRecDepth 100000 in
set_option maxHeartbeats 4000000 in
theorem c_Law_back_T2 (l : Launch) (hNT : l.stackTraces = false) (D : va_G) (K : Nat → ClassId) (z0 tk0 tv0 gk0 gv0 d0 x0 m0 c0 t0 k0 : Nat) (fnd : Bool) (m : Nat) : kh_M l D (ks_T K) (kt_R 16) y_Law_back b_Law_back 3 (some .int) [(0, 5, 8, 15), (0, 5, 11, 70)] [.ref z0, .int (nI m)] (kw_store z0 tk0 tv0 gk0 gv0 d0 x0 m0 c0 t0 k0 fnd true false) (ks_f (some (.int (nI 1))) (kw_store z0 tk0 tv0 gk0 gv0 d0 x0 m0 c0 t0 k0 fnd true false)) := by
  refine kh_M.of 1 (by decide) (Nat.le_of_ble_eq_true rfl) ?_
  intro E C Kh Z
  refine ks_aload_n rfl rfl C d_Law_back_0 ?_
  refine ks_iload_n rfl rfl C d_Law_back_1 ?_
  refine ks_callCW (ci := 8) (q0 := 0) (kw_store z0 tk0 tv0 gk0 gv0 d0 x0 m0 c0 t0 k0 _ _ _) ([] : va_W) C Kh (c_Store_back_T2 l hNT D K z0 tk0 tv0 gk0 gv0 d0 x0 m0 c0 t0 k0 _ _) yw_Store_back sel_Store_back lk_Law_66 d_Law_back_2 rfl rfl rfl [0] [] [0] rfl rfl rfl rfl (by decide) rfl rfl rfl rfl ⟨by decide, by decide⟩ ⟨by decide, by decide⟩ (Nat.le_of_ble_eq_true rfl) [] (0, 5, 8, 15) [(0, 5, 11, 70)] rfl (fun z hz => by cases hz) rfl (by decide) kk_Law_15 kt_cISE (by decide) (fun q => ?_)
  refine ks_astore_n C rfl (by decide) rfl d_Law_back_8 ?_
  refine ks_iconst (a := 1) rfl C d_Law_back_9 ?_
  exact ks_iret C Z rfl rfl d_Law_back_10 rfl rfl ⟨rfl, rfl⟩
set_option maxRecDepth 100000 in
set_option maxHeartbeats 4000000 in
theorem c_Law_back_T3 (l : Launch) (hNT : l.stackTraces = false) (D : va_G) (K : Nat → ClassId) (z0 tk0 tv0 gk0 gv0 d0 x0 m0 c0 t0 k0 : Nat) (fnd : Bool) (m1 s0 s1 s2 s3 s4 : Nat) (S0 S1 S2 S3 S4 : Nat → UInt8) (cnt : Nat) (m : Nat) (h1 : m = 0 ∨ cnt < m) (h2 : m < 4294967296) (h3 : cnt ≤ 5) : kh_M l D (ks_T K) (kt_R 16) y_Law_back b_Law_back 3 (some .int) [(0, 5, 8, 15), (0, 5, 11, 70)] [.ref z0, .int (nI m)] (kw_store z0 tk0 tv0 gk0 gv0 d0 x0 m0 c0 t0 k0 fnd true true ++ kw_marks K m0 m1 s0 s1 s2 s3 s4 S0 S1 S2 S3 S4 cnt) (ks_f (some (.int (nI 2))) (kw_store z0 tk0 tv0 gk0 gv0 d0 x0 m0 c0 t0 k0 fnd true true ++ kw_marks K m0 m1 s0 s1 s2 s3 s4 S0 S1 S2 S3 S4 cnt)) := by
  refine kh_M.of 1 (by decide) (Nat.le_of_ble_eq_true rfl) ?_
  intro E C Kh Z
  refine ks_aload_n rfl rfl C d_Law_back_0 ?_
  refine ks_iload_n rfl rfl C d_Law_back_1 ?_
  refine ks_callCW (ci := 8) (q0 := 0) (kw_store z0 tk0 tv0 gk0 gv0 d0 x0 m0 c0 t0 k0 _ _ _ ++ kw_marks K m0 m1 s0 s1 s2 s3 s4 _ _ _ _ _ _) ([] : va_W) C Kh (c_Store_back_T3 l hNT D K z0 tk0 tv0 gk0 gv0 d0 x0 m0 c0 t0 k0 _ m1 s0 s1 s2 s3 s4 _ _ _ _ _ _ _ h1 h2 h3) yw_Store_back sel_Store_back lk_Law_66 d_Law_back_2 rfl rfl rfl [0, 1, 2, 3, 4, 5, 6, 7] [] [0, 1, 2, 3, 4, 5, 6, 7] rfl rfl rfl rfl (by decide) rfl rfl rfl rfl ⟨by decide, by decide⟩ ⟨by decide, by decide⟩ (Nat.le_of_ble_eq_true rfl) [(0, 5, 8, 15)] (0, 5, 11, 70) [] rfl (fun z hz => by rcases List.mem_cons.mp hz with rfl | hz; exact ⟨by decide, _, by decide, by decide, kk_Law_15⟩; cases hz) rfl (by decide) kk_Law_70 kt_cIOB (by decide) (fun q => ?_)
  refine ks_astore_n C rfl (by decide) rfl d_Law_back_11 ?_
  refine ks_iconst (a := 2) rfl C d_Law_back_12 ?_
  exact ks_iret C Z rfl rfl d_Law_back_13 rfl rfl ⟨rfl, rfl⟩
set_option maxRecDepth 100000 in
set_option maxHeartbeats 4000000 in
theorem c_Law_back_1 (l : Launch) (hNT : l.stackTraces = false) (D : va_G) (K : Nat → ClassId) (z0 tk0 tv0 gk0 gv0 d0 x0 m0 c0 t0 k0 : Nat) (fnd : Bool) (m1 s0 s1 s2 s3 s4 : Nat) (S0 S1 S2 S3 S4 : Nat → UInt8) (cnt : Nat) (x1 x2 : Nat) (B : Nat → UInt8) (G : Nat → Bool) (h1 : 1 ≤ cnt) (h3 : cnt ≤ 5) : kh_M l D (ks_T K) (kt_R 16) y_Law_back b_Law_back 3 (some .int) [(0, 5, 8, 15), (0, 5, 11, 70)] [.ref z0, .int (nI 1)] (kw_store z0 tk0 tv0 gk0 gv0 d0 x0 m0 c0 t0 k0 fnd true true ++ kw_marks K m0 m1 s0 s1 s2 s3 s4 S0 S1 S2 S3 S4 cnt ++ kw_pages K x0 x1 x2 B G) (ks_f (some (.int (nI 0))) (kw_store z0 tk0 tv0 gk0 gv0 d0 x0 m0 c0 t0 k0 fnd true true ++ kw_marks K m0 m1 s0 s1 s2 s3 s4 S0 S1 S2 S3 S4 (if 1 < cnt then 1 else cnt) ++ kw_pages K x0 x1 x2 (kv_load B S0) G)) := by
  refine kh_M.of 1 (by decide) (Nat.le_of_ble_eq_true rfl) ?_
  intro E C Kh Z
  refine ks_aload_n rfl rfl C d_Law_back_0 ?_
  refine ks_iload_n rfl rfl C d_Law_back_1 ?_
  refine ks_cvW (ci := 8) (q0 := 0) (kw_store z0 tk0 tv0 gk0 gv0 d0 x0 m0 c0 t0 k0 _ _ _ ++ kw_marks K m0 m1 s0 s1 s2 s3 s4 _ _ _ _ _ _ ++ kw_pages K x0 x1 x2 _ _) ([] : va_W) C (c_Store_back_1 l D K z0 tk0 tv0 gk0 gv0 d0 x0 m0 c0 t0 k0 _ m1 s0 s1 s2 s3 s4 _ _ _ _ _ _ x1 x2 _ _ h1 h3) yw_Store_back sel_Store_back lk_Law_66 d_Law_back_2 rfl rfl rfl [0, 1, 2, 3, 4, 5, 6, 7, 8, 9, 10] [] [0, 1, 2, 3, 4, 5, 6, 7, 8, 9, 10] rfl rfl rfl rfl (by decide) rfl rfl rfl rfl rfl ⟨by decide, by decide⟩ ⟨by decide, by decide⟩ rfl (Nat.le_of_ble_eq_true rfl) ?_
  refine ks_goto (tgt := 14) C (by decide) d_Law_back_5 ?_
  refine ks_iconst (a := 0) rfl C d_Law_back_14 ?_
  refine ks_more (cs' := 1) (ss' := 6) (by decide) (by decide) ?_
  exact ks_iret C Z rfl rfl d_Law_back_15 rfl rfl ⟨rfl, rfl⟩
set_option maxRecDepth 100000 in
set_option maxHeartbeats 4000000 in
theorem c_Law_back_2 (l : Launch) (hNT : l.stackTraces = false) (D : va_G) (K : Nat → ClassId) (z0 tk0 tv0 gk0 gv0 d0 x0 m0 c0 t0 k0 : Nat) (fnd : Bool) (m1 s0 s1 s2 s3 s4 : Nat) (S0 S1 S2 S3 S4 : Nat → UInt8) (cnt : Nat) (x1 x2 : Nat) (B : Nat → UInt8) (G : Nat → Bool) (h1 : 2 ≤ cnt) (h3 : cnt ≤ 5) : kh_M l D (ks_T K) (kt_R 16) y_Law_back b_Law_back 3 (some .int) [(0, 5, 8, 15), (0, 5, 11, 70)] [.ref z0, .int (nI 2)] (kw_store z0 tk0 tv0 gk0 gv0 d0 x0 m0 c0 t0 k0 fnd true true ++ kw_marks K m0 m1 s0 s1 s2 s3 s4 S0 S1 S2 S3 S4 cnt ++ kw_pages K x0 x1 x2 B G) (ks_f (some (.int (nI 0))) (kw_store z0 tk0 tv0 gk0 gv0 d0 x0 m0 c0 t0 k0 fnd true true ++ kw_marks K m0 m1 s0 s1 s2 s3 s4 S0 S1 S2 S3 S4 (if 2 < cnt then 2 else cnt) ++ kw_pages K x0 x1 x2 (kv_load B S1) G)) := by
  refine kh_M.of 1 (by decide) (Nat.le_of_ble_eq_true rfl) ?_
  intro E C Kh Z
  refine ks_aload_n rfl rfl C d_Law_back_0 ?_
  refine ks_iload_n rfl rfl C d_Law_back_1 ?_
  refine ks_cvW (ci := 8) (q0 := 0) (kw_store z0 tk0 tv0 gk0 gv0 d0 x0 m0 c0 t0 k0 _ _ _ ++ kw_marks K m0 m1 s0 s1 s2 s3 s4 _ _ _ _ _ _ ++ kw_pages K x0 x1 x2 _ _) ([] : va_W) C (c_Store_back_2 l D K z0 tk0 tv0 gk0 gv0 d0 x0 m0 c0 t0 k0 _ m1 s0 s1 s2 s3 s4 _ _ _ _ _ _ x1 x2 _ _ h1 h3) yw_Store_back sel_Store_back lk_Law_66 d_Law_back_2 rfl rfl rfl [0, 1, 2, 3, 4, 5, 6, 7, 8, 9, 10] [] [0, 1, 2, 3, 4, 5, 6, 7, 8, 9, 10] rfl rfl rfl rfl (by decide) rfl rfl rfl rfl rfl ⟨by decide, by decide⟩ ⟨by decide, by decide⟩ rfl (Nat.le_of_ble_eq_true rfl) ?_
  refine ks_goto (tgt := 14) C (by decide) d_Law_back_5 ?_
  refine ks_iconst (a := 0) rfl C d_Law_back_14 ?_
  refine ks_more (cs' := 1) (ss' := 6) (by decide) (by decide) ?_
  exact ks_iret C Z rfl rfl d_Law_back_15 rfl rfl ⟨rfl, rfl⟩
set_option maxRecDepth 100000 in
set_option maxHeartbeats 4000000 in
theorem c_Law_back_3 (l : Launch) (hNT : l.stackTraces = false) (D : va_G) (K : Nat → ClassId) (z0 tk0 tv0 gk0 gv0 d0 x0 m0 c0 t0 k0 : Nat) (fnd : Bool) (m1 s0 s1 s2 s3 s4 : Nat) (S0 S1 S2 S3 S4 : Nat → UInt8) (cnt : Nat) (x1 x2 : Nat) (B : Nat → UInt8) (G : Nat → Bool) (h1 : 3 ≤ cnt) (h3 : cnt ≤ 5) : kh_M l D (ks_T K) (kt_R 16) y_Law_back b_Law_back 3 (some .int) [(0, 5, 8, 15), (0, 5, 11, 70)] [.ref z0, .int (nI 3)] (kw_store z0 tk0 tv0 gk0 gv0 d0 x0 m0 c0 t0 k0 fnd true true ++ kw_marks K m0 m1 s0 s1 s2 s3 s4 S0 S1 S2 S3 S4 cnt ++ kw_pages K x0 x1 x2 B G) (ks_f (some (.int (nI 0))) (kw_store z0 tk0 tv0 gk0 gv0 d0 x0 m0 c0 t0 k0 fnd true true ++ kw_marks K m0 m1 s0 s1 s2 s3 s4 S0 S1 S2 S3 S4 (if 3 < cnt then 3 else cnt) ++ kw_pages K x0 x1 x2 (kv_load B S2) G)) := by
  refine kh_M.of 1 (by decide) (Nat.le_of_ble_eq_true rfl) ?_
  intro E C Kh Z
  refine ks_aload_n rfl rfl C d_Law_back_0 ?_
  refine ks_iload_n rfl rfl C d_Law_back_1 ?_
  refine ks_cvW (ci := 8) (q0 := 0) (kw_store z0 tk0 tv0 gk0 gv0 d0 x0 m0 c0 t0 k0 _ _ _ ++ kw_marks K m0 m1 s0 s1 s2 s3 s4 _ _ _ _ _ _ ++ kw_pages K x0 x1 x2 _ _) ([] : va_W) C (c_Store_back_3 l D K z0 tk0 tv0 gk0 gv0 d0 x0 m0 c0 t0 k0 _ m1 s0 s1 s2 s3 s4 _ _ _ _ _ _ x1 x2 _ _ h1 h3) yw_Store_back sel_Store_back lk_Law_66 d_Law_back_2 rfl rfl rfl [0, 1, 2, 3, 4, 5, 6, 7, 8, 9, 10] [] [0, 1, 2, 3, 4, 5, 6, 7, 8, 9, 10] rfl rfl rfl rfl (by decide) rfl rfl rfl rfl rfl ⟨by decide, by decide⟩ ⟨by decide, by decide⟩ rfl (Nat.le_of_ble_eq_true rfl) ?_
  refine ks_goto (tgt := 14) C (by decide) d_Law_back_5 ?_
  refine ks_iconst (a := 0) rfl C d_Law_back_14 ?_
  refine ks_more (cs' := 1) (ss' := 6) (by decide) (by decide) ?_
  exact ks_iret C Z rfl rfl d_Law_back_15 rfl rfl ⟨rfl, rfl⟩
set_option maxRecDepth 100000 in
set_option maxHeartbeats 4000000 in
theorem c_Law_back_4 (l : Launch) (hNT : l.stackTraces = false) (D : va_G) (K : Nat → ClassId) (z0 tk0 tv0 gk0 gv0 d0 x0 m0 c0 t0 k0 : Nat) (fnd : Bool) (m1 s0 s1 s2 s3 s4 : Nat) (S0 S1 S2 S3 S4 : Nat → UInt8) (cnt : Nat) (x1 x2 : Nat) (B : Nat → UInt8) (G : Nat → Bool) (h1 : 4 ≤ cnt) (h3 : cnt ≤ 5) : kh_M l D (ks_T K) (kt_R 16) y_Law_back b_Law_back 3 (some .int) [(0, 5, 8, 15), (0, 5, 11, 70)] [.ref z0, .int (nI 4)] (kw_store z0 tk0 tv0 gk0 gv0 d0 x0 m0 c0 t0 k0 fnd true true ++ kw_marks K m0 m1 s0 s1 s2 s3 s4 S0 S1 S2 S3 S4 cnt ++ kw_pages K x0 x1 x2 B G) (ks_f (some (.int (nI 0))) (kw_store z0 tk0 tv0 gk0 gv0 d0 x0 m0 c0 t0 k0 fnd true true ++ kw_marks K m0 m1 s0 s1 s2 s3 s4 S0 S1 S2 S3 S4 (if 4 < cnt then 4 else cnt) ++ kw_pages K x0 x1 x2 (kv_load B S3) G)) := by
  refine kh_M.of 1 (by decide) (Nat.le_of_ble_eq_true rfl) ?_
  intro E C Kh Z
  refine ks_aload_n rfl rfl C d_Law_back_0 ?_
  refine ks_iload_n rfl rfl C d_Law_back_1 ?_
  refine ks_cvW (ci := 8) (q0 := 0) (kw_store z0 tk0 tv0 gk0 gv0 d0 x0 m0 c0 t0 k0 _ _ _ ++ kw_marks K m0 m1 s0 s1 s2 s3 s4 _ _ _ _ _ _ ++ kw_pages K x0 x1 x2 _ _) ([] : va_W) C (c_Store_back_4 l D K z0 tk0 tv0 gk0 gv0 d0 x0 m0 c0 t0 k0 _ m1 s0 s1 s2 s3 s4 _ _ _ _ _ _ x1 x2 _ _ h1 h3) yw_Store_back sel_Store_back lk_Law_66 d_Law_back_2 rfl rfl rfl [0, 1, 2, 3, 4, 5, 6, 7, 8, 9, 10] [] [0, 1, 2, 3, 4, 5, 6, 7, 8, 9, 10] rfl rfl rfl rfl (by decide) rfl rfl rfl rfl rfl ⟨by decide, by decide⟩ ⟨by decide, by decide⟩ rfl (Nat.le_of_ble_eq_true rfl) ?_
  refine ks_goto (tgt := 14) C (by decide) d_Law_back_5 ?_
  refine ks_iconst (a := 0) rfl C d_Law_back_14 ?_
  refine ks_more (cs' := 1) (ss' := 6) (by decide) (by decide) ?_
  exact ks_iret C Z rfl rfl d_Law_back_15 rfl rfl ⟨rfl, rfl⟩
set_option maxRecDepth 100000 in
set_option maxHeartbeats 4000000 in
theorem c_Law_back_5 (l : Launch) (hNT : l.stackTraces = false) (D : va_G) (K : Nat → ClassId) (z0 tk0 tv0 gk0 gv0 d0 x0 m0 c0 t0 k0 : Nat) (fnd : Bool) (m1 s0 s1 s2 s3 s4 : Nat) (S0 S1 S2 S3 S4 : Nat → UInt8) (cnt : Nat) (x1 x2 : Nat) (B : Nat → UInt8) (G : Nat → Bool) (h1 : 5 ≤ cnt) (h3 : cnt ≤ 5) : kh_M l D (ks_T K) (kt_R 16) y_Law_back b_Law_back 3 (some .int) [(0, 5, 8, 15), (0, 5, 11, 70)] [.ref z0, .int (nI 5)] (kw_store z0 tk0 tv0 gk0 gv0 d0 x0 m0 c0 t0 k0 fnd true true ++ kw_marks K m0 m1 s0 s1 s2 s3 s4 S0 S1 S2 S3 S4 cnt ++ kw_pages K x0 x1 x2 B G) (ks_f (some (.int (nI 0))) (kw_store z0 tk0 tv0 gk0 gv0 d0 x0 m0 c0 t0 k0 fnd true true ++ kw_marks K m0 m1 s0 s1 s2 s3 s4 S0 S1 S2 S3 S4 (if 5 < cnt then 5 else cnt) ++ kw_pages K x0 x1 x2 (kv_load B S4) G)) := by
  refine kh_M.of 1 (by decide) (Nat.le_of_ble_eq_true rfl) ?_
  intro E C Kh Z
  refine ks_aload_n rfl rfl C d_Law_back_0 ?_
  refine ks_iload_n rfl rfl C d_Law_back_1 ?_
  refine ks_cvW (ci := 8) (q0 := 0) (kw_store z0 tk0 tv0 gk0 gv0 d0 x0 m0 c0 t0 k0 _ _ _ ++ kw_marks K m0 m1 s0 s1 s2 s3 s4 _ _ _ _ _ _ ++ kw_pages K x0 x1 x2 _ _) ([] : va_W) C (c_Store_back_5 l D K z0 tk0 tv0 gk0 gv0 d0 x0 m0 c0 t0 k0 _ m1 s0 s1 s2 s3 s4 _ _ _ _ _ _ x1 x2 _ _ h1 h3) yw_Store_back sel_Store_back lk_Law_66 d_Law_back_2 rfl rfl rfl [0, 1, 2, 3, 4, 5, 6, 7, 8, 9, 10] [] [0, 1, 2, 3, 4, 5, 6, 7, 8, 9, 10] rfl rfl rfl rfl (by decide) rfl rfl rfl rfl rfl ⟨by decide, by decide⟩ ⟨by decide, by decide⟩ rfl (Nat.le_of_ble_eq_true rfl) ?_
  refine ks_goto (tgt := 14) C (by decide) d_Law_back_5 ?_
  refine ks_iconst (a := 0) rfl C d_Law_back_14 ?_
  refine ks_more (cs' := 1) (ss' := 6) (by decide) (by decide) ?_
  exact ks_iret C Z rfl rfl d_Law_back_15 rfl rfl ⟨rfl, rfl⟩
set_option maxRecDepth 100000 in
set_option maxHeartbeats 4000000 in
theorem c_Law_keep_T1 (l : Launch) (hNT : l.stackTraces = false) (D : va_G) (K : Nat → ClassId) (z0 tk0 tv0 gk0 gv0 d0 x0 m0 c0 t0 k0 : Nat) (fnd opn : Bool) (m : Nat) : kh_M l D (ks_T K) (kt_R 16) y_Law_keep b_Law_keep 3 (some .int) [(0, 5, 8, 15), (0, 5, 11, 70)] [.ref z0, .int (nI m)] (kw_store z0 tk0 tv0 gk0 gv0 d0 x0 m0 c0 t0 k0 fnd false opn) (ks_f (some (.int (nI 1))) (kw_store z0 tk0 tv0 gk0 gv0 d0 x0 m0 c0 t0 k0 fnd false opn)) := by
  refine kh_M.of 1 (by decide) (Nat.le_of_ble_eq_true rfl) ?_
  intro E C Kh Z
  refine ks_aload_n rfl rfl C d_Law_keep_0 ?_
  refine ks_iload_n rfl rfl C d_Law_keep_1 ?_
  refine ks_callCW (ci := 8) (q0 := 0) (kw_store z0 tk0 tv0 gk0 gv0 d0 x0 m0 c0 t0 k0 _ _ _) ([] : va_W) C Kh (c_Store_keep_T1 l hNT D K z0 tk0 tv0 gk0 gv0 d0 x0 m0 c0 t0 k0 _ _ _) yw_Store_keep sel_Store_keep lk_Law_72 d_Law_keep_2 rfl rfl rfl [0] [] [0] rfl rfl rfl rfl (by decide) rfl rfl rfl rfl ⟨by decide, by decide⟩ ⟨by decide, by decide⟩ (Nat.le_of_ble_eq_true rfl) [] (0, 5, 8, 15) [(0, 5, 11, 70)] rfl (fun z hz => by cases hz) rfl (by decide) kk_Law_15 kt_cISE (by decide) (fun q => ?_)
  refine ks_astore_n C rfl (by decide) rfl d_Law_keep_8 ?_
  refine ks_iconst (a := 1) rfl C d_Law_keep_9 ?_
  exact ks_iret C Z rfl rfl d_Law_keep_10 rfl rfl ⟨rfl, rfl⟩
set_option maxRecDepth 100000 in
set_option maxHeartbeats 4000000 in
theorem c_Law_keep_T2 (l : Launch) (hNT : l.stackTraces = false) (D : va_G) (K : Nat → ClassId) (z0 tk0 tv0 gk0 gv0 d0 x0 m0 c0 t0 k0 : Nat) (fnd : Bool) (m : Nat) : kh_M l D (ks_T K) (kt_R 16) y_Law_keep b_Law_keep 3 (some .int) [(0, 5, 8, 15), (0, 5, 11, 70)] [.ref z0, .int (nI m)] (kw_store z0 tk0 tv0 gk0 gv0 d0 x0 m0 c0 t0 k0 fnd true false) (ks_f (some (.int (nI 1))) (kw_store z0 tk0 tv0 gk0 gv0 d0 x0 m0 c0 t0 k0 fnd true false)) := by
  refine kh_M.of 1 (by decide) (Nat.le_of_ble_eq_true rfl) ?_
  intro E C Kh Z
  refine ks_aload_n rfl rfl C d_Law_keep_0 ?_
  refine ks_iload_n rfl rfl C d_Law_keep_1 ?_
  refine ks_callCW (ci := 8) (q0 := 0) (kw_store z0 tk0 tv0 gk0 gv0 d0 x0 m0 c0 t0 k0 _ _ _) ([] : va_W) C Kh (c_Store_keep_T2 l hNT D K z0 tk0 tv0 gk0 gv0 d0 x0 m0 c0 t0 k0 _ _) yw_Store_keep sel_Store_keep lk_Law_72 d_Law_keep_2 rfl rfl rfl [0] [] [0] rfl rfl rfl rfl (by decide) rfl rfl rfl rfl ⟨by decide, by decide⟩ ⟨by decide, by decide⟩ (Nat.le_of_ble_eq_true rfl) [] (0, 5, 8, 15) [(0, 5, 11, 70)] rfl (fun z hz => by cases hz) rfl (by decide) kk_Law_15 kt_cISE (by decide) (fun q => ?_)
  refine ks_astore_n C rfl (by decide) rfl d_Law_keep_8 ?_
  refine ks_iconst (a := 1) rfl C d_Law_keep_9 ?_
  exact ks_iret C Z rfl rfl d_Law_keep_10 rfl rfl ⟨rfl, rfl⟩
set_option maxRecDepth 100000 in
set_option maxHeartbeats 4000000 in
theorem c_Law_keep_T3 (l : Launch) (hNT : l.stackTraces = false) (D : va_G) (K : Nat → ClassId) (z0 tk0 tv0 gk0 gv0 d0 x0 m0 c0 t0 k0 : Nat) (fnd : Bool) (m1 s0 s1 s2 s3 s4 : Nat) (S0 S1 S2 S3 S4 : Nat → UInt8) (cnt : Nat) (m : Nat) (h1 : m = 0 ∨ cnt < m) (h2 : m < 4294967296) (h3 : cnt ≤ 5) : kh_M l D (ks_T K) (kt_R 16) y_Law_keep b_Law_keep 3 (some .int) [(0, 5, 8, 15), (0, 5, 11, 70)] [.ref z0, .int (nI m)] (kw_store z0 tk0 tv0 gk0 gv0 d0 x0 m0 c0 t0 k0 fnd true true ++ kw_marks K m0 m1 s0 s1 s2 s3 s4 S0 S1 S2 S3 S4 cnt) (ks_f (some (.int (nI 2))) (kw_store z0 tk0 tv0 gk0 gv0 d0 x0 m0 c0 t0 k0 fnd true true ++ kw_marks K m0 m1 s0 s1 s2 s3 s4 S0 S1 S2 S3 S4 cnt)) := by
  refine kh_M.of 1 (by decide) (Nat.le_of_ble_eq_true rfl) ?_
  intro E C Kh Z
  refine ks_aload_n rfl rfl C d_Law_keep_0 ?_
  refine ks_iload_n rfl rfl C d_Law_keep_1 ?_
  refine ks_callCW (ci := 8) (q0 := 0) (kw_store z0 tk0 tv0 gk0 gv0 d0 x0 m0 c0 t0 k0 _ _ _ ++ kw_marks K m0 m1 s0 s1 s2 s3 s4 _ _ _ _ _ _) ([] : va_W) C Kh (c_Store_keep_T3 l hNT D K z0 tk0 tv0 gk0 gv0 d0 x0 m0 c0 t0 k0 _ m1 s0 s1 s2 s3 s4 _ _ _ _ _ _ _ h1 h2 h3) yw_Store_keep sel_Store_keep lk_Law_72 d_Law_keep_2 rfl rfl rfl [0, 1, 2, 3, 4, 5, 6, 7] [] [0, 1, 2, 3, 4, 5, 6, 7] rfl rfl rfl rfl (by decide) rfl rfl rfl rfl ⟨by decide, by decide⟩ ⟨by decide, by decide⟩ (Nat.le_of_ble_eq_true rfl) [(0, 5, 8, 15)] (0, 5, 11, 70) [] rfl (fun z hz => by rcases List.mem_cons.mp hz with rfl | hz; exact ⟨by decide, _, by decide, by decide, kk_Law_15⟩; cases hz) rfl (by decide) kk_Law_70 kt_cIOB (by decide) (fun q => ?_)
  refine ks_astore_n C rfl (by decide) rfl d_Law_keep_11 ?_
  refine ks_iconst (a := 2) rfl C d_Law_keep_12 ?_
  exact ks_iret C Z rfl rfl d_Law_keep_13 rfl rfl ⟨rfl, rfl⟩
set_option maxRecDepth 100000 in
set_option maxHeartbeats 4000000 in
theorem c_Law_keep_ok (l : Launch) (hNT : l.stackTraces = false) (D : va_G) (K : Nat → ClassId) (z0 tk0 tv0 gk0 gv0 d0 x0 m0 c0 t0 k0 : Nat) (fnd : Bool) (m1 s0 s1 s2 s3 s4 : Nat) (S0 S1 S2 S3 S4 : Nat → UInt8) (cnt : Nat) (m : Nat) (h1 : 1 ≤ m) (h2 : m ≤ cnt) (h3 : cnt ≤ 5) : kh_M l D (ks_T K) (kt_R 16) y_Law_keep b_Law_keep 3 (some .int) [(0, 5, 8, 15), (0, 5, 11, 70)] [.ref z0, .int (nI m)] (kw_store z0 tk0 tv0 gk0 gv0 d0 x0 m0 c0 t0 k0 fnd true true ++ kw_marks K m0 m1 s0 s1 s2 s3 s4 S0 S1 S2 S3 S4 cnt) (ks_f (some (.int (nI 0))) (kw_store z0 tk0 tv0 gk0 gv0 d0 x0 m0 c0 t0 k0 fnd true true ++ kw_marks K m0 m1 s0 s1 s2 s3 s4 S0 S1 S2 S3 S4 (if m - 1 < cnt then m - 1 else cnt))) := by
  refine kh_M.of 1 (by decide) (Nat.le_of_ble_eq_true rfl) ?_
  intro E C Kh Z
  refine ks_aload_n rfl rfl C d_Law_keep_0 ?_
  refine ks_iload_n rfl rfl C d_Law_keep_1 ?_
  refine ks_cvW (ci := 8) (q0 := 0) (kw_store z0 tk0 tv0 gk0 gv0 d0 x0 m0 c0 t0 k0 _ _ _ ++ kw_marks K m0 m1 s0 s1 s2 s3 s4 _ _ _ _ _ _) ([] : va_W) C (c_Store_keep_ok l D K z0 tk0 tv0 gk0 gv0 d0 x0 m0 c0 t0 k0 _ m1 s0 s1 s2 s3 s4 _ _ _ _ _ _ _ h1 h2 h3) yw_Store_keep sel_Store_keep lk_Law_72 d_Law_keep_2 rfl rfl rfl [0, 1, 2, 3, 4, 5, 6, 7] [] [0, 1, 2, 3, 4, 5, 6, 7] rfl rfl rfl rfl (by decide) rfl rfl rfl rfl rfl ⟨by decide, by decide⟩ ⟨by decide, by decide⟩ rfl (Nat.le_of_ble_eq_true rfl) ?_
  refine ks_goto (tgt := 14) C (by decide) d_Law_keep_5 ?_
  refine ks_iconst (a := 0) rfl C d_Law_keep_14 ?_
  refine ks_more (cs' := 1) (ss' := 6) (by decide) (by decide) ?_
  exact ks_iret C Z rfl rfl d_Law_keep_15 rfl rfl ⟨rfl, rfl⟩
