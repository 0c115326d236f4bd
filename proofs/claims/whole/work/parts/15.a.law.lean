/-! the law's own calls of the store -/
set_option maxRecDepth 100000 in
set_option maxHeartbeats 4000000 in
theorem c_Law_key_ok (l : Launch) (hNT : l.stackTraces = false) (D : va_G) (K : Nat → ClassId) (z0 tk0 tv0 gk0 gv0 d0 x0 m0 c0 t0 k0 : Nat) (fnd opn : Bool) (tk1 : Nat) (Kb : Nat → UInt8) (kl : Nat) (w : Int64) (n : Nat) (h1 : kl ≤ 8448) (h2 : n ≤ 8) (h3 : kl + n ≤ 8448) (o0 : Nat) (O : Nat → Int64) : kh_M l D (ks_T K) (kt_R 16) y_Law_key b_Law_key 6 (some .int) [(0, 11, 14, 13), (0, 11, 18, 15)] [.ref z0, .long w, .int (nI n), .ref o0] (kw_store z0 tk0 tv0 gk0 gv0 d0 x0 m0 c0 t0 k0 fnd true opn ++ kw_row K tk0 tk1 Kb kl ++ kw_out K o0 O) (ks_f (some (.int (nI 0))) (kw_store z0 tk0 tv0 gk0 gv0 d0 x0 m0 c0 t0 k0 fnd true opn ++ kw_row K tk0 tk1 (kv_app w n Kb (if n = 0 then 0 else kl)).1 (kv_app w n Kb (if n = 0 then 0 else kl)).2 ++ kw_out K o0 (va_up O 0 ((nI ((kv_app w n Kb (if n = 0 then 0 else kl)).2)).toInt64)))) := by
  refine kh_M.of 1 (by decide) (Nat.le_of_ble_eq_true rfl) ?_
  intro E C Kh Z
  refine ks_aload rfl C d_Law_key_0 ?_
  refine ks_iconst (a := 0) rfl C d_Law_key_2 ?_
  refine ks_aload_n rfl rfl C d_Law_key_3 ?_
  refine ks_lload_n rfl rfl C d_Law_key_4 ?_
  refine ks_iload_n rfl rfl C d_Law_key_5 ?_
  refine ks_cxW (ci := 8) (q0 := 0) (kw_store z0 tk0 tv0 gk0 gv0 d0 x0 m0 c0 t0 k0 _ _ _ ++ kw_row K tk0 tk1 _ _ ++ kw_out K o0 _) (kw_out K o0 _) C (c_Store_key_ok l D K z0 tk0 tv0 gk0 gv0 d0 x0 m0 c0 t0 k0 _ _ tk1 _ _ _ _ h1 h2 h3) yw_Store_key sel_Store_key lk_Law_7 d_Law_key_6 rfl rfl rfl [0, 1, 2] [3] [1, 2, 3, 0] rfl rfl rfl rfl (by decide) rfl rfl rfl rfl rfl ⟨by decide, by decide⟩ ⟨by decide, by decide⟩ rfl (Nat.le_of_ble_eq_true rfl) ?_
  refine ks_i2l C d_Law_key_9 ?_
  refine ks_last (ws' := (kw_store z0 tk0 tv0 gk0 gv0 d0 x0 m0 c0 t0 k0 _ _ _ ++ kw_row K tk0 tk1 _ _ ++ kw_out K o0 _)) C 3 3 rfl rfl (by omega) (by omega) rfl d_Law_key_10 ?_
  refine ks_goto (tgt := 22) C (by decide) d_Law_key_11 ?_
  refine ks_iconst (a := 0) rfl C d_Law_key_22 ?_
  refine ks_more (cs' := 1) (ss' := 6) (by decide) (by decide) ?_
  exact ks_iret C Z rfl rfl d_Law_key_23 rfl rfl ⟨rfl, rfl⟩
set_option maxRecDepth 100000 in
set_option maxHeartbeats 4000000 in
theorem c_Law_key_T0 (l : Launch) (hNT : l.stackTraces = false) (D : va_G) (K : Nat → ClassId) (z0 tk0 tv0 gk0 gv0 d0 x0 m0 c0 t0 k0 : Nat) (fnd on opn : Bool) (tk1 : Nat) (Kb : Nat → UInt8) (kl : Nat) (w : Int64) (n : Nat) (h1 : n < 4294967296) (h2 : 8 < n) (o0 : Nat) (O : Nat → Int64) : kh_M l D (ks_T K) (kt_R 16) y_Law_key b_Law_key 6 (some .int) [(0, 11, 14, 13), (0, 11, 18, 15)] [.ref z0, .long w, .int (nI n), .ref o0] (kw_store z0 tk0 tv0 gk0 gv0 d0 x0 m0 c0 t0 k0 fnd on opn ++ kw_row K tk0 tk1 Kb kl ++ kw_out K o0 O) (ks_f (some (.int (nI 1))) (kw_store z0 tk0 tv0 gk0 gv0 d0 x0 m0 c0 t0 k0 fnd on opn ++ kw_row K tk0 tk1 Kb kl ++ kw_out K o0 O)) := by
  refine kh_M.of 1 (by decide) (Nat.le_of_ble_eq_true rfl) ?_
  intro E C Kh Z
  refine ks_aload rfl C d_Law_key_0 ?_
  refine ks_iconst (a := 0) rfl C d_Law_key_2 ?_
  refine ks_aload_n rfl rfl C d_Law_key_3 ?_
  refine ks_lload_n rfl rfl C d_Law_key_4 ?_
  refine ks_iload_n rfl rfl C d_Law_key_5 ?_
  refine ks_callCW (ci := 8) (q0 := 0) (kw_store z0 tk0 tv0 gk0 gv0 d0 x0 m0 c0 t0 k0 _ _ _ ++ kw_row K tk0 tk1 _ _ ++ kw_out K o0 _) (kw_out K o0 _) C Kh (c_Store_key_T0 l hNT D K z0 tk0 tv0 gk0 gv0 d0 x0 m0 c0 t0 k0 _ _ _ tk1 _ _ _ _ h1 h2) yw_Store_key sel_Store_key lk_Law_7 d_Law_key_6 rfl rfl rfl [0, 1, 2] [3] [1, 2, 3, 0] rfl rfl rfl rfl (by decide) rfl rfl rfl rfl ⟨by decide, by decide⟩ ⟨by decide, by decide⟩ (Nat.le_of_ble_eq_true rfl) [] (0, 11, 14, 13) [(0, 11, 18, 15)] rfl (fun z hz => by cases hz) rfl (by decide) kk_Law_13 kt_cIAE (by decide) (fun q => ?_)
  refine ks_astore C (by decide) rfl d_Law_key_14 ?_
  refine ks_iconst (a := 1) rfl C d_Law_key_16 ?_
  exact ks_iret C Z rfl rfl d_Law_key_17 rfl rfl ⟨rfl, rfl⟩
set_option maxRecDepth 100000 in
set_option maxHeartbeats 4000000 in
theorem c_Law_key_T1 (l : Launch) (hNT : l.stackTraces = false) (D : va_G) (K : Nat → ClassId) (z0 tk0 tv0 gk0 gv0 d0 x0 m0 c0 t0 k0 : Nat) (fnd opn : Bool) (tk1 : Nat) (Kb : Nat → UInt8) (kl : Nat) (w : Int64) (n : Nat) (h2 : n ≤ 8) (o0 : Nat) (O : Nat → Int64) : kh_M l D (ks_T K) (kt_R 16) y_Law_key b_Law_key 6 (some .int) [(0, 11, 14, 13), (0, 11, 18, 15)] [.ref z0, .long w, .int (nI n), .ref o0] (kw_store z0 tk0 tv0 gk0 gv0 d0 x0 m0 c0 t0 k0 fnd false opn ++ kw_row K tk0 tk1 Kb kl ++ kw_out K o0 O) (ks_f (some (.int (nI 2))) (kw_store z0 tk0 tv0 gk0 gv0 d0 x0 m0 c0 t0 k0 fnd false opn ++ kw_row K tk0 tk1 Kb kl ++ kw_out K o0 O)) := by
  refine kh_M.of 1 (by decide) (Nat.le_of_ble_eq_true rfl) ?_
  intro E C Kh Z
  refine ks_aload rfl C d_Law_key_0 ?_
  refine ks_iconst (a := 0) rfl C d_Law_key_2 ?_
  refine ks_aload_n rfl rfl C d_Law_key_3 ?_
  refine ks_lload_n rfl rfl C d_Law_key_4 ?_
  refine ks_iload_n rfl rfl C d_Law_key_5 ?_
  refine ks_callCW (ci := 8) (q0 := 0) (kw_store z0 tk0 tv0 gk0 gv0 d0 x0 m0 c0 t0 k0 _ _ _ ++ kw_row K tk0 tk1 _ _ ++ kw_out K o0 _) (kw_out K o0 _) C Kh (c_Store_key_T1 l hNT D K z0 tk0 tv0 gk0 gv0 d0 x0 m0 c0 t0 k0 _ _ tk1 _ _ _ _ h2) yw_Store_key sel_Store_key lk_Law_7 d_Law_key_6 rfl rfl rfl [0, 1, 2] [3] [1, 2, 3, 0] rfl rfl rfl rfl (by decide) rfl rfl rfl rfl ⟨by decide, by decide⟩ ⟨by decide, by decide⟩ (Nat.le_of_ble_eq_true rfl) [(0, 11, 14, 13)] (0, 11, 18, 15) [] rfl (fun z hz => by rcases List.mem_cons.mp hz with rfl | hz; exact ⟨by decide, _, by decide, by decide, kk_Law_13⟩; cases hz) rfl (by decide) kk_Law_15 kt_cISE (by decide) (fun q => ?_)
  refine ks_astore C (by decide) rfl d_Law_key_18 ?_
  refine ks_iconst (a := 2) rfl C d_Law_key_20 ?_
  exact ks_iret C Z rfl rfl d_Law_key_21 rfl rfl ⟨rfl, rfl⟩
set_option maxRecDepth 100000 in
set_option maxHeartbeats 4000000 in
theorem c_Law_key_T2 (l : Launch) (hNT : l.stackTraces = false) (D : va_G) (K : Nat → ClassId) (z0 tk0 tv0 gk0 gv0 d0 x0 m0 c0 t0 k0 : Nat) (fnd opn : Bool) (tk1 : Nat) (Kb : Nat → UInt8) (kl : Nat) (w : Int64) (n : Nat) (h1 : kl ≤ 8448) (h2 : n ≤ 8) (h3 : 8448 < kl + n) (o0 : Nat) (O : Nat → Int64) : kh_M l D (ks_T K) (kt_R 16) y_Law_key b_Law_key 6 (some .int) [(0, 11, 14, 13), (0, 11, 18, 15)] [.ref z0, .long w, .int (nI n), .ref o0] (kw_store z0 tk0 tv0 gk0 gv0 d0 x0 m0 c0 t0 k0 fnd true opn ++ kw_row K tk0 tk1 Kb kl ++ kw_out K o0 O) (ks_f (some (.int (nI 2))) (kw_store z0 tk0 tv0 gk0 gv0 d0 x0 m0 c0 t0 k0 fnd true opn ++ kw_row K tk0 tk1 Kb kl ++ kw_out K o0 O)) := by
  refine kh_M.of 1 (by decide) (Nat.le_of_ble_eq_true rfl) ?_
  intro E C Kh Z
  refine ks_aload rfl C d_Law_key_0 ?_
  refine ks_iconst (a := 0) rfl C d_Law_key_2 ?_
  refine ks_aload_n rfl rfl C d_Law_key_3 ?_
  refine ks_lload_n rfl rfl C d_Law_key_4 ?_
  refine ks_iload_n rfl rfl C d_Law_key_5 ?_
  refine ks_callCW (ci := 8) (q0 := 0) (kw_store z0 tk0 tv0 gk0 gv0 d0 x0 m0 c0 t0 k0 _ _ _ ++ kw_row K tk0 tk1 _ _ ++ kw_out K o0 _) (kw_out K o0 _) C Kh (c_Store_key_T2 l hNT D K z0 tk0 tv0 gk0 gv0 d0 x0 m0 c0 t0 k0 _ _ tk1 _ _ _ _ h1 h2 h3) yw_Store_key sel_Store_key lk_Law_7 d_Law_key_6 rfl rfl rfl [0, 1, 2] [3] [1, 2, 3, 0] rfl rfl rfl rfl (by decide) rfl rfl rfl rfl ⟨by decide, by decide⟩ ⟨by decide, by decide⟩ (Nat.le_of_ble_eq_true rfl) [(0, 11, 14, 13)] (0, 11, 18, 15) [] rfl (fun z hz => by rcases List.mem_cons.mp hz with rfl | hz; exact ⟨by decide, _, by decide, by decide, kk_Law_13⟩; cases hz) rfl (by decide) kk_Law_15 kt_cISE (by decide) (fun q => ?_)
  refine ks_astore C (by decide) rfl d_Law_key_18 ?_
  refine ks_iconst (a := 2) rfl C d_Law_key_20 ?_
  exact ks_iret C Z rfl rfl d_Law_key_21 rfl rfl ⟨rfl, rfl⟩
set_option maxRecDepth 100000 in
set_option maxHeartbeats 4000000 in
theorem c_Law_value_ok (l : Launch) (hNT : l.stackTraces = false) (D : va_G) (K : Nat → ClassId) (z0 tk0 tv0 gk0 gv0 d0 x0 m0 c0 t0 k0 : Nat) (fnd opn : Bool) (tv1 : Nat) (Vb : Nat → UInt8) (vl : Nat) (w : Int64) (n : Nat) (h1 : vl ≤ 8448) (h2 : n ≤ 8) (h3 : vl + n ≤ 8448) (o0 : Nat) (O : Nat → Int64) : kh_M l D (ks_T K) (kt_R 16) y_Law_value b_Law_value 6 (some .int) [(0, 11, 14, 13), (0, 11, 18, 15)] [.ref z0, .long w, .int (nI n), .ref o0] (kw_store z0 tk0 tv0 gk0 gv0 d0 x0 m0 c0 t0 k0 fnd true opn ++ kw_row K tv0 tv1 Vb vl ++ kw_out K o0 O) (ks_f (some (.int (nI 0))) (kw_store z0 tk0 tv0 gk0 gv0 d0 x0 m0 c0 t0 k0 fnd true opn ++ kw_row K tv0 tv1 (kv_app w n Vb (if n = 0 then 0 else vl)).1 (kv_app w n Vb (if n = 0 then 0 else vl)).2 ++ kw_out K o0 (va_up O 0 ((nI ((kv_app w n Vb (if n = 0 then 0 else vl)).2)).toInt64)))) := by
  refine kh_M.of 1 (by decide) (Nat.le_of_ble_eq_true rfl) ?_
  intro E C Kh Z
  refine ks_aload rfl C d_Law_value_0 ?_
  refine ks_iconst (a := 0) rfl C d_Law_value_2 ?_
  refine ks_aload_n rfl rfl C d_Law_value_3 ?_
  refine ks_lload_n rfl rfl C d_Law_value_4 ?_
  refine ks_iload_n rfl rfl C d_Law_value_5 ?_
  refine ks_cxW (ci := 8) (q0 := 0) (kw_store z0 tk0 tv0 gk0 gv0 d0 x0 m0 c0 t0 k0 _ _ _ ++ kw_row K tv0 tv1 _ _ ++ kw_out K o0 _) (kw_out K o0 _) C (c_Store_value_ok l D K z0 tk0 tv0 gk0 gv0 d0 x0 m0 c0 t0 k0 _ _ tv1 _ _ _ _ h1 h2 h3) yw_Store_value sel_Store_value lk_Law_17 d_Law_value_6 rfl rfl rfl [0, 1, 2] [3] [1, 2, 3, 0] rfl rfl rfl rfl (by decide) rfl rfl rfl rfl rfl ⟨by decide, by decide⟩ ⟨by decide, by decide⟩ rfl (Nat.le_of_ble_eq_true rfl) ?_
  refine ks_i2l C d_Law_value_9 ?_
  refine ks_last (ws' := (kw_store z0 tk0 tv0 gk0 gv0 d0 x0 m0 c0 t0 k0 _ _ _ ++ kw_row K tv0 tv1 _ _ ++ kw_out K o0 _)) C 3 3 rfl rfl (by omega) (by omega) rfl d_Law_value_10 ?_
  refine ks_goto (tgt := 22) C (by decide) d_Law_value_11 ?_
  refine ks_iconst (a := 0) rfl C d_Law_value_22 ?_
  refine ks_more (cs' := 1) (ss' := 6) (by decide) (by decide) ?_
  exact ks_iret C Z rfl rfl d_Law_value_23 rfl rfl ⟨rfl, rfl⟩
set_option maxRecDepth 100000 in
set_option maxHeartbeats 4000000 in
theorem c_Law_value_T0 (l : Launch) (hNT : l.stackTraces = false) (D : va_G) (K : Nat → ClassId) (z0 tk0 tv0 gk0 gv0 d0 x0 m0 c0 t0 k0 : Nat) (fnd on opn : Bool) (tv1 : Nat) (Vb : Nat → UInt8) (vl : Nat) (w : Int64) (n : Nat) (h1 : n < 4294967296) (h2 : 8 < n) (o0 : Nat) (O : Nat → Int64) : kh_M l D (ks_T K) (kt_R 16) y_Law_value b_Law_value 6 (some .int) [(0, 11, 14, 13), (0, 11, 18, 15)] [.ref z0, .long w, .int (nI n), .ref o0] (kw_store z0 tk0 tv0 gk0 gv0 d0 x0 m0 c0 t0 k0 fnd on opn ++ kw_row K tv0 tv1 Vb vl ++ kw_out K o0 O) (ks_f (some (.int (nI 1))) (kw_store z0 tk0 tv0 gk0 gv0 d0 x0 m0 c0 t0 k0 fnd on opn ++ kw_row K tv0 tv1 Vb vl ++ kw_out K o0 O)) := by
  refine kh_M.of 1 (by decide) (Nat.le_of_ble_eq_true rfl) ?_
  intro E C Kh Z
  refine ks_aload rfl C d_Law_value_0 ?_
  refine ks_iconst (a := 0) rfl C d_Law_value_2 ?_
  refine ks_aload_n rfl rfl C d_Law_value_3 ?_
  refine ks_lload_n rfl rfl C d_Law_value_4 ?_
  refine ks_iload_n rfl rfl C d_Law_value_5 ?_
  refine ks_callCW (ci := 8) (q0 := 0) (kw_store z0 tk0 tv0 gk0 gv0 d0 x0 m0 c0 t0 k0 _ _ _ ++ kw_row K tv0 tv1 _ _ ++ kw_out K o0 _) (kw_out K o0 _) C Kh (c_Store_value_T0 l hNT D K z0 tk0 tv0 gk0 gv0 d0 x0 m0 c0 t0 k0 _ _ _ tv1 _ _ _ _ h1 h2) yw_Store_value sel_Store_value lk_Law_17 d_Law_value_6 rfl rfl rfl [0, 1, 2] [3] [1, 2, 3, 0] rfl rfl rfl rfl (by decide) rfl rfl rfl rfl ⟨by decide, by decide⟩ ⟨by decide, by decide⟩ (Nat.le_of_ble_eq_true rfl) [] (0, 11, 14, 13) [(0, 11, 18, 15)] rfl (fun z hz => by cases hz) rfl (by decide) kk_Law_13 kt_cIAE (by decide) (fun q => ?_)
  refine ks_astore C (by decide) rfl d_Law_value_14 ?_
  refine ks_iconst (a := 1) rfl C d_Law_value_16 ?_
  exact ks_iret C Z rfl rfl d_Law_value_17 rfl rfl ⟨rfl, rfl⟩
set_option maxRecDepth 100000 in
set_option maxHeartbeats 4000000 in
theorem c_Law_value_T1 (l : Launch) (hNT : l.stackTraces = false) (D : va_G) (K : Nat → ClassId) (z0 tk0 tv0 gk0 gv0 d0 x0 m0 c0 t0 k0 : Nat) (fnd opn : Bool) (tv1 : Nat) (Vb : Nat → UInt8) (vl : Nat) (w : Int64) (n : Nat) (h2 : n ≤ 8) (o0 : Nat) (O : Nat → Int64) : kh_M l D (ks_T K) (kt_R 16) y_Law_value b_Law_value 6 (some .int) [(0, 11, 14, 13), (0, 11, 18, 15)] [.ref z0, .long w, .int (nI n), .ref o0] (kw_store z0 tk0 tv0 gk0 gv0 d0 x0 m0 c0 t0 k0 fnd false opn ++ kw_row K tv0 tv1 Vb vl ++ kw_out K o0 O) (ks_f (some (.int (nI 2))) (kw_store z0 tk0 tv0 gk0 gv0 d0 x0 m0 c0 t0 k0 fnd false opn ++ kw_row K tv0 tv1 Vb vl ++ kw_out K o0 O)) := by
  refine kh_M.of 1 (by decide) (Nat.le_of_ble_eq_true rfl) ?_
  intro E C Kh Z
  refine ks_aload rfl C d_Law_value_0 ?_
  refine ks_iconst (a := 0) rfl C d_Law_value_2 ?_
  refine ks_aload_n rfl rfl C d_Law_value_3 ?_
  refine ks_lload_n rfl rfl C d_Law_value_4 ?_
  refine ks_iload_n rfl rfl C d_Law_value_5 ?_
  refine ks_callCW (ci := 8) (q0 := 0) (kw_store z0 tk0 tv0 gk0 gv0 d0 x0 m0 c0 t0 k0 _ _ _ ++ kw_row K tv0 tv1 _ _ ++ kw_out K o0 _) (kw_out K o0 _) C Kh (c_Store_value_T1 l hNT D K z0 tk0 tv0 gk0 gv0 d0 x0 m0 c0 t0 k0 _ _ tv1 _ _ _ _ h2) yw_Store_value sel_Store_value lk_Law_17 d_Law_value_6 rfl rfl rfl [0, 1, 2] [3] [1, 2, 3, 0] rfl rfl rfl rfl (by decide) rfl rfl rfl rfl ⟨by decide, by decide⟩ ⟨by decide, by decide⟩ (Nat.le_of_ble_eq_true rfl) [(0, 11, 14, 13)] (0, 11, 18, 15) [] rfl (fun z hz => by rcases List.mem_cons.mp hz with rfl | hz; exact ⟨by decide, _, by decide, by decide, kk_Law_13⟩; cases hz) rfl (by decide) kk_Law_15 kt_cISE (by decide) (fun q => ?_)
  refine ks_astore C (by decide) rfl d_Law_value_18 ?_
  refine ks_iconst (a := 2) rfl C d_Law_value_20 ?_
  exact ks_iret C Z rfl rfl d_Law_value_21 rfl rfl ⟨rfl, rfl⟩
set_option maxRecDepth 100000 in
set_option maxHeartbeats 4000000 in
theorem c_Law_value_T2 (l : Launch) (hNT : l.stackTraces = false) (D : va_G) (K : Nat → ClassId) (z0 tk0 tv0 gk0 gv0 d0 x0 m0 c0 t0 k0 : Nat) (fnd opn : Bool) (tv1 : Nat) (Vb : Nat → UInt8) (vl : Nat) (w : Int64) (n : Nat) (h1 : vl ≤ 8448) (h2 : n ≤ 8) (h3 : 8448 < vl + n) (o0 : Nat) (O : Nat → Int64) : kh_M l D (ks_T K) (kt_R 16) y_Law_value b_Law_value 6 (some .int) [(0, 11, 14, 13), (0, 11, 18, 15)] [.ref z0, .long w, .int (nI n), .ref o0] (kw_store z0 tk0 tv0 gk0 gv0 d0 x0 m0 c0 t0 k0 fnd true opn ++ kw_row K tv0 tv1 Vb vl ++ kw_out K o0 O) (ks_f (some (.int (nI 2))) (kw_store z0 tk0 tv0 gk0 gv0 d0 x0 m0 c0 t0 k0 fnd true opn ++ kw_row K tv0 tv1 Vb vl ++ kw_out K o0 O)) := by
  refine kh_M.of 1 (by decide) (Nat.le_of_ble_eq_true rfl) ?_
  intro E C Kh Z
  refine ks_aload rfl C d_Law_value_0 ?_
  refine ks_iconst (a := 0) rfl C d_Law_value_2 ?_
  refine ks_aload_n rfl rfl C d_Law_value_3 ?_
  refine ks_lload_n rfl rfl C d_Law_value_4 ?_
  refine ks_iload_n rfl rfl C d_Law_value_5 ?_
  refine ks_callCW (ci := 8) (q0 := 0) (kw_store z0 tk0 tv0 gk0 gv0 d0 x0 m0 c0 t0 k0 _ _ _ ++ kw_row K tv0 tv1 _ _ ++ kw_out K o0 _) (kw_out K o0 _) C Kh (c_Store_value_T2 l hNT D K z0 tk0 tv0 gk0 gv0 d0 x0 m0 c0 t0 k0 _ _ tv1 _ _ _ _ h1 h2 h3) yw_Store_value sel_Store_value lk_Law_17 d_Law_value_6 rfl rfl rfl [0, 1, 2] [3] [1, 2, 3, 0] rfl rfl rfl rfl (by decide) rfl rfl rfl rfl ⟨by decide, by decide⟩ ⟨by decide, by decide⟩ (Nat.le_of_ble_eq_true rfl) [(0, 11, 14, 13)] (0, 11, 18, 15) [] rfl (fun z hz => by rcases List.mem_cons.mp hz with rfl | hz; exact ⟨by decide, _, by decide, by decide, kk_Law_13⟩; cases hz) rfl (by decide) kk_Law_15 kt_cISE (by decide) (fun q => ?_)
  refine ks_astore C (by decide) rfl d_Law_value_18 ?_
  refine ks_iconst (a := 2) rfl C d_Law_value_20 ?_
  exact ks_iret C Z rfl rfl d_Law_value_21 rfl rfl ⟨rfl, rfl⟩
set_option maxRecDepth 100000 in
set_option maxHeartbeats 4000000 in
theorem c_Law_fillk_ok (l : Launch) (hNT : l.stackTraces = false) (D : va_G) (K : Nat → ClassId) (z0 tk0 tv0 gk0 gv0 d0 x0 m0 c0 t0 k0 : Nat) (fnd opn : Bool) (tk1 : Nat) (Kb : Nat → UInt8) (kl : Nat) (n : Nat) (b : Int32) (c : UInt8) (h1 : kl ≤ 8448) (h2 : n ≤ 8448) (h3 : kl + n ≤ 8448) (h4 : b.toInt8.toInt32 = sb_b c.toNat) (o0 : Nat) (O : Nat → Int64) : kh_M l D (ks_T K) (kt_R 16) y_Law_fill b_Law_fill 6 (some .int) [(0, 12, 15, 13), (0, 12, 19, 15)] [.ref z0, .int (ks_b true), .int (nI n), .int b, .ref o0] (kw_store z0 tk0 tv0 gk0 gv0 d0 x0 m0 c0 t0 k0 fnd true opn ++ kw_row K tk0 tk1 Kb kl ++ kw_out K o0 O) (ks_f (some (.int (nI 0))) (kw_store z0 tk0 tv0 gk0 gv0 d0 x0 m0 c0 t0 k0 fnd true opn ++ kw_row K tk0 tk1 (kv_same Kb kl c n) (kl + n) ++ kw_out K o0 (va_up O 0 ((nI (kl + n)).toInt64)))) := by
  refine kh_M.of 1 (by decide) (Nat.le_of_ble_eq_true rfl) ?_
  intro E C Kh Z
  refine ks_aload rfl C d_Law_fill_0 ?_
  refine ks_iconst (a := 0) rfl C d_Law_fill_2 ?_
  refine ks_aload_n rfl rfl C d_Law_fill_3 ?_
  refine ks_iload_n rfl rfl C d_Law_fill_4 ?_
  refine ks_iload_n rfl rfl C d_Law_fill_5 ?_
  refine ks_iload_n rfl rfl C d_Law_fill_6 ?_
  refine ks_cxW (ci := 8) (q0 := 0) (kw_store z0 tk0 tv0 gk0 gv0 d0 x0 m0 c0 t0 k0 _ _ _ ++ kw_row K tk0 tk1 _ _ ++ kw_out K o0 _) (kw_out K o0 _) C (c_Store_fillk_ok l D K z0 tk0 tv0 gk0 gv0 d0 x0 m0 c0 t0 k0 _ _ tk1 _ _ _ _ _ h1 h2 h3 h4) yw_Store_fill sel_Store_fill lk_Law_20 d_Law_fill_7 rfl rfl rfl [0, 1, 2] [3] [1, 2, 3, 0] rfl rfl rfl rfl (by decide) rfl rfl rfl rfl rfl ⟨by decide, by decide⟩ ⟨by decide, by decide⟩ rfl (Nat.le_of_ble_eq_true rfl) ?_
  refine ks_i2l C d_Law_fill_10 ?_
  refine ks_last (ws' := (kw_store z0 tk0 tv0 gk0 gv0 d0 x0 m0 c0 t0 k0 _ _ _ ++ kw_row K tk0 tk1 _ _ ++ kw_out K o0 _)) C 3 3 rfl rfl (by omega) (by omega) rfl d_Law_fill_11 ?_
  refine ks_goto (tgt := 23) C (by decide) d_Law_fill_12 ?_
  refine ks_iconst (a := 0) rfl C d_Law_fill_23 ?_
  refine ks_more (cs' := 1) (ss' := 6) (by decide) (by decide) ?_
  exact ks_iret C Z rfl rfl d_Law_fill_24 rfl rfl ⟨rfl, rfl⟩
set_option maxRecDepth 100000 in
set_option maxHeartbeats 4000000 in
theorem c_Law_fillk_T0 (l : Launch) (hNT : l.stackTraces = false) (D : va_G) (K : Nat → ClassId) (z0 tk0 tv0 gk0 gv0 d0 x0 m0 c0 t0 k0 : Nat) (fnd on opn : Bool) (tk1 : Nat) (Kb : Nat → UInt8) (kl : Nat) (n : Nat) (b : Int32) (h1 : n < 4294967296) (h2 : 8448 < n) (o0 : Nat) (O : Nat → Int64) : kh_M l D (ks_T K) (kt_R 16) y_Law_fill b_Law_fill 6 (some .int) [(0, 12, 15, 13), (0, 12, 19, 15)] [.ref z0, .int (ks_b true), .int (nI n), .int b, .ref o0] (kw_store z0 tk0 tv0 gk0 gv0 d0 x0 m0 c0 t0 k0 fnd on opn ++ kw_row K tk0 tk1 Kb kl ++ kw_out K o0 O) (ks_f (some (.int (nI 1))) (kw_store z0 tk0 tv0 gk0 gv0 d0 x0 m0 c0 t0 k0 fnd on opn ++ kw_row K tk0 tk1 Kb kl ++ kw_out K o0 O)) := by
  refine kh_M.of 1 (by decide) (Nat.le_of_ble_eq_true rfl) ?_
  intro E C Kh Z
  refine ks_aload rfl C d_Law_fill_0 ?_
  refine ks_iconst (a := 0) rfl C d_Law_fill_2 ?_
  refine ks_aload_n rfl rfl C d_Law_fill_3 ?_
  refine ks_iload_n rfl rfl C d_Law_fill_4 ?_
  refine ks_iload_n rfl rfl C d_Law_fill_5 ?_
  refine ks_iload_n rfl rfl C d_Law_fill_6 ?_
  refine ks_callCW (ci := 8) (q0 := 0) (kw_store z0 tk0 tv0 gk0 gv0 d0 x0 m0 c0 t0 k0 _ _ _ ++ kw_row K tk0 tk1 _ _ ++ kw_out K o0 _) (kw_out K o0 _) C Kh (c_Store_fillk_T0 l hNT D K z0 tk0 tv0 gk0 gv0 d0 x0 m0 c0 t0 k0 _ _ _ tk1 _ _ _ _ h1 h2) yw_Store_fill sel_Store_fill lk_Law_20 d_Law_fill_7 rfl rfl rfl [0, 1, 2] [3] [1, 2, 3, 0] rfl rfl rfl rfl (by decide) rfl rfl rfl rfl ⟨by decide, by decide⟩ ⟨by decide, by decide⟩ (Nat.le_of_ble_eq_true rfl) [] (0, 12, 15, 13) [(0, 12, 19, 15)] rfl (fun z hz => by cases hz) rfl (by decide) kk_Law_13 kt_cIAE (by decide) (fun q => ?_)
  refine ks_astore C (by decide) rfl d_Law_fill_15 ?_
  refine ks_iconst (a := 1) rfl C d_Law_fill_17 ?_
  exact ks_iret C Z rfl rfl d_Law_fill_18 rfl rfl ⟨rfl, rfl⟩
set_option maxRecDepth 100000 in
set_option maxHeartbeats 4000000 in
theorem c_Law_fillk_T1 (l : Launch) (hNT : l.stackTraces = false) (D : va_G) (K : Nat → ClassId) (z0 tk0 tv0 gk0 gv0 d0 x0 m0 c0 t0 k0 : Nat) (fnd opn : Bool) (tk1 : Nat) (Kb : Nat → UInt8) (kl : Nat) (n : Nat) (b : Int32) (h2 : n ≤ 8448) (o0 : Nat) (O : Nat → Int64) : kh_M l D (ks_T K) (kt_R 16) y_Law_fill b_Law_fill 6 (some .int) [(0, 12, 15, 13), (0, 12, 19, 15)] [.ref z0, .int (ks_b true), .int (nI n), .int b, .ref o0] (kw_store z0 tk0 tv0 gk0 gv0 d0 x0 m0 c0 t0 k0 fnd false opn ++ kw_row K tk0 tk1 Kb kl ++ kw_out K o0 O) (ks_f (some (.int (nI 2))) (kw_store z0 tk0 tv0 gk0 gv0 d0 x0 m0 c0 t0 k0 fnd false opn ++ kw_row K tk0 tk1 Kb kl ++ kw_out K o0 O)) := by
  refine kh_M.of 1 (by decide) (Nat.le_of_ble_eq_true rfl) ?_
  intro E C Kh Z
  refine ks_aload rfl C d_Law_fill_0 ?_
  refine ks_iconst (a := 0) rfl C d_Law_fill_2 ?_
  refine ks_aload_n rfl rfl C d_Law_fill_3 ?_
  refine ks_iload_n rfl rfl C d_Law_fill_4 ?_
  refine ks_iload_n rfl rfl C d_Law_fill_5 ?_
  refine ks_iload_n rfl rfl C d_Law_fill_6 ?_
  refine ks_callCW (ci := 8) (q0 := 0) (kw_store z0 tk0 tv0 gk0 gv0 d0 x0 m0 c0 t0 k0 _ _ _ ++ kw_row K tk0 tk1 _ _ ++ kw_out K o0 _) (kw_out K o0 _) C Kh (c_Store_fillk_T1 l hNT D K z0 tk0 tv0 gk0 gv0 d0 x0 m0 c0 t0 k0 _ _ tk1 _ _ _ _ h2) yw_Store_fill sel_Store_fill lk_Law_20 d_Law_fill_7 rfl rfl rfl [0, 1, 2] [3] [1, 2, 3, 0] rfl rfl rfl rfl (by decide) rfl rfl rfl rfl ⟨by decide, by decide⟩ ⟨by decide, by decide⟩ (Nat.le_of_ble_eq_true rfl) [(0, 12, 15, 13)] (0, 12, 19, 15) [] rfl (fun z hz => by rcases List.mem_cons.mp hz with rfl | hz; exact ⟨by decide, _, by decide, by decide, kk_Law_13⟩; cases hz) rfl (by decide) kk_Law_15 kt_cISE (by decide) (fun q => ?_)
  refine ks_astore C (by decide) rfl d_Law_fill_19 ?_
  refine ks_iconst (a := 2) rfl C d_Law_fill_21 ?_
  exact ks_iret C Z rfl rfl d_Law_fill_22 rfl rfl ⟨rfl, rfl⟩
set_option maxRecDepth 100000 in
set_option maxHeartbeats 4000000 in
theorem c_Law_fillk_T2 (l : Launch) (hNT : l.stackTraces = false) (D : va_G) (K : Nat → ClassId) (z0 tk0 tv0 gk0 gv0 d0 x0 m0 c0 t0 k0 : Nat) (fnd opn : Bool) (tk1 : Nat) (Kb : Nat → UInt8) (kl : Nat) (n : Nat) (b : Int32) (h1 : kl ≤ 8448) (h2 : n ≤ 8448) (h3 : 8448 < kl + n) (o0 : Nat) (O : Nat → Int64) : kh_M l D (ks_T K) (kt_R 16) y_Law_fill b_Law_fill 6 (some .int) [(0, 12, 15, 13), (0, 12, 19, 15)] [.ref z0, .int (ks_b true), .int (nI n), .int b, .ref o0] (kw_store z0 tk0 tv0 gk0 gv0 d0 x0 m0 c0 t0 k0 fnd true opn ++ kw_row K tk0 tk1 Kb kl ++ kw_out K o0 O) (ks_f (some (.int (nI 2))) (kw_store z0 tk0 tv0 gk0 gv0 d0 x0 m0 c0 t0 k0 fnd true opn ++ kw_row K tk0 tk1 Kb kl ++ kw_out K o0 O)) := by
  refine kh_M.of 1 (by decide) (Nat.le_of_ble_eq_true rfl) ?_
  intro E C Kh Z
  refine ks_aload rfl C d_Law_fill_0 ?_
  refine ks_iconst (a := 0) rfl C d_Law_fill_2 ?_
  refine ks_aload_n rfl rfl C d_Law_fill_3 ?_
  refine ks_iload_n rfl rfl C d_Law_fill_4 ?_
  refine ks_iload_n rfl rfl C d_Law_fill_5 ?_
  refine ks_iload_n rfl rfl C d_Law_fill_6 ?_
  refine ks_callCW (ci := 8) (q0 := 0) (kw_store z0 tk0 tv0 gk0 gv0 d0 x0 m0 c0 t0 k0 _ _ _ ++ kw_row K tk0 tk1 _ _ ++ kw_out K o0 _) (kw_out K o0 _) C Kh (c_Store_fillk_T2 l hNT D K z0 tk0 tv0 gk0 gv0 d0 x0 m0 c0 t0 k0 _ _ tk1 _ _ _ _ h1 h2 h3) yw_Store_fill sel_Store_fill lk_Law_20 d_Law_fill_7 rfl rfl rfl [0, 1, 2] [3] [1, 2, 3, 0] rfl rfl rfl rfl (by decide) rfl rfl rfl rfl ⟨by decide, by decide⟩ ⟨by decide, by decide⟩ (Nat.le_of_ble_eq_true rfl) [(0, 12, 15, 13)] (0, 12, 19, 15) [] rfl (fun z hz => by rcases List.mem_cons.mp hz with rfl | hz; exact ⟨by decide, _, by decide, by decide, kk_Law_13⟩; cases hz) rfl (by decide) kk_Law_15 kt_cISE (by decide) (fun q => ?_)
  refine ks_astore C (by decide) rfl d_Law_fill_19 ?_
  refine ks_iconst (a := 2) rfl C d_Law_fill_21 ?_
  exact ks_iret C Z rfl rfl d_Law_fill_22 rfl rfl ⟨rfl, rfl⟩
set_option maxRecDepth 100000 in
set_option maxHeartbeats 4000000 in
theorem c_Law_fillv_ok (l : Launch) (hNT : l.stackTraces = false) (D : va_G) (K : Nat → ClassId) (z0 tk0 tv0 gk0 gv0 d0 x0 m0 c0 t0 k0 : Nat) (fnd opn : Bool) (tv1 : Nat) (Vb : Nat → UInt8) (vl : Nat) (n : Nat) (b : Int32) (c : UInt8) (h1 : vl ≤ 8448) (h2 : n ≤ 8448) (h3 : vl + n ≤ 8448) (h4 : b.toInt8.toInt32 = sb_b c.toNat) (o0 : Nat) (O : Nat → Int64) : kh_M l D (ks_T K) (kt_R 16) y_Law_fill b_Law_fill 6 (some .int) [(0, 12, 15, 13), (0, 12, 19, 15)] [.ref z0, .int (ks_b false), .int (nI n), .int b, .ref o0] (kw_store z0 tk0 tv0 gk0 gv0 d0 x0 m0 c0 t0 k0 fnd true opn ++ kw_row K tv0 tv1 Vb vl ++ kw_out K o0 O) (ks_f (some (.int (nI 0))) (kw_store z0 tk0 tv0 gk0 gv0 d0 x0 m0 c0 t0 k0 fnd true opn ++ kw_row K tv0 tv1 (kv_same Vb vl c n) (vl + n) ++ kw_out K o0 (va_up O 0 ((nI (vl + n)).toInt64)))) := by
  refine kh_M.of 1 (by decide) (Nat.le_of_ble_eq_true rfl) ?_
  intro E C Kh Z
  refine ks_aload rfl C d_Law_fill_0 ?_
  refine ks_iconst (a := 0) rfl C d_Law_fill_2 ?_
  refine ks_aload_n rfl rfl C d_Law_fill_3 ?_
  refine ks_iload_n rfl rfl C d_Law_fill_4 ?_
  refine ks_iload_n rfl rfl C d_Law_fill_5 ?_
  refine ks_iload_n rfl rfl C d_Law_fill_6 ?_
  refine ks_cxW (ci := 8) (q0 := 0) (kw_store z0 tk0 tv0 gk0 gv0 d0 x0 m0 c0 t0 k0 _ _ _ ++ kw_row K tv0 tv1 _ _ ++ kw_out K o0 _) (kw_out K o0 _) C (c_Store_fillv_ok l D K z0 tk0 tv0 gk0 gv0 d0 x0 m0 c0 t0 k0 _ _ tv1 _ _ _ _ _ h1 h2 h3 h4) yw_Store_fill sel_Store_fill lk_Law_20 d_Law_fill_7 rfl rfl rfl [0, 1, 2] [3] [1, 2, 3, 0] rfl rfl rfl rfl (by decide) rfl rfl rfl rfl rfl ⟨by decide, by decide⟩ ⟨by decide, by decide⟩ rfl (Nat.le_of_ble_eq_true rfl) ?_
  refine ks_i2l C d_Law_fill_10 ?_
  refine ks_last (ws' := (kw_store z0 tk0 tv0 gk0 gv0 d0 x0 m0 c0 t0 k0 _ _ _ ++ kw_row K tv0 tv1 _ _ ++ kw_out K o0 _)) C 3 3 rfl rfl (by omega) (by omega) rfl d_Law_fill_11 ?_
  refine ks_goto (tgt := 23) C (by decide) d_Law_fill_12 ?_
  refine ks_iconst (a := 0) rfl C d_Law_fill_23 ?_
  refine ks_more (cs' := 1) (ss' := 6) (by decide) (by decide) ?_
  exact ks_iret C Z rfl rfl d_Law_fill_24 rfl rfl ⟨rfl, rfl⟩
set_option maxRecDepth 100000 in
set_option maxHeartbeats 4000000 in
theorem c_Law_fillv_T0 (l : Launch) (hNT : l.stackTraces = false) (D : va_G) (K : Nat → ClassId) (z0 tk0 tv0 gk0 gv0 d0 x0 m0 c0 t0 k0 : Nat) (fnd on opn : Bool) (tv1 : Nat) (Vb : Nat → UInt8) (vl : Nat) (n : Nat) (b : Int32) (h1 : n < 4294967296) (h2 : 8448 < n) (o0 : Nat) (O : Nat → Int64) : kh_M l D (ks_T K) (kt_R 16) y_Law_fill b_Law_fill 6 (some .int) [(0, 12, 15, 13), (0, 12, 19, 15)] [.ref z0, .int (ks_b false), .int (nI n), .int b, .ref o0] (kw_store z0 tk0 tv0 gk0 gv0 d0 x0 m0 c0 t0 k0 fnd on opn ++ kw_row K tv0 tv1 Vb vl ++ kw_out K o0 O) (ks_f (some (.int (nI 1))) (kw_store z0 tk0 tv0 gk0 gv0 d0 x0 m0 c0 t0 k0 fnd on opn ++ kw_row K tv0 tv1 Vb vl ++ kw_out K o0 O)) := by
  refine kh_M.of 1 (by decide) (Nat.le_of_ble_eq_true rfl) ?_
  intro E C Kh Z
  refine ks_aload rfl C d_Law_fill_0 ?_
  refine ks_iconst (a := 0) rfl C d_Law_fill_2 ?_
  refine ks_aload_n rfl rfl C d_Law_fill_3 ?_
  refine ks_iload_n rfl rfl C d_Law_fill_4 ?_
  refine ks_iload_n rfl rfl C d_Law_fill_5 ?_
  refine ks_iload_n rfl rfl C d_Law_fill_6 ?_
  refine ks_callCW (ci := 8) (q0 := 0) (kw_store z0 tk0 tv0 gk0 gv0 d0 x0 m0 c0 t0 k0 _ _ _ ++ kw_row K tv0 tv1 _ _ ++ kw_out K o0 _) (kw_out K o0 _) C Kh (c_Store_fillv_T0 l hNT D K z0 tk0 tv0 gk0 gv0 d0 x0 m0 c0 t0 k0 _ _ _ tv1 _ _ _ _ h1 h2) yw_Store_fill sel_Store_fill lk_Law_20 d_Law_fill_7 rfl rfl rfl [0, 1, 2] [3] [1, 2, 3, 0] rfl rfl rfl rfl (by decide) rfl rfl rfl rfl ⟨by decide, by decide⟩ ⟨by decide, by decide⟩ (Nat.le_of_ble_eq_true rfl) [] (0, 12, 15, 13) [(0, 12, 19, 15)] rfl (fun z hz => by cases hz) rfl (by decide) kk_Law_13 kt_cIAE (by decide) (fun q => ?_)
  refine ks_astore C (by decide) rfl d_Law_fill_15 ?_
  refine ks_iconst (a := 1) rfl C d_Law_fill_17 ?_
  exact ks_iret C Z rfl rfl d_Law_fill_18 rfl rfl ⟨rfl, rfl⟩
set_option maxRecDepth 100000 in
set_option maxHeartbeats 4000000 in
theorem c_Law_fillv_T1 (l : Launch) (hNT : l.stackTraces = false) (D : va_G) (K : Nat → ClassId) (z0 tk0 tv0 gk0 gv0 d0 x0 m0 c0 t0 k0 : Nat) (fnd opn : Bool) (tv1 : Nat) (Vb : Nat → UInt8) (vl : Nat) (n : Nat) (b : Int32) (h2 : n ≤ 8448) (o0 : Nat) (O : Nat → Int64) : kh_M l D (ks_T K) (kt_R 16) y_Law_fill b_Law_fill 6 (some .int) [(0, 12, 15, 13), (0, 12, 19, 15)] [.ref z0, .int (ks_b false), .int (nI n), .int b, .ref o0] (kw_store z0 tk0 tv0 gk0 gv0 d0 x0 m0 c0 t0 k0 fnd false opn ++ kw_row K tv0 tv1 Vb vl ++ kw_out K o0 O) (ks_f (some (.int (nI 2))) (kw_store z0 tk0 tv0 gk0 gv0 d0 x0 m0 c0 t0 k0 fnd false opn ++ kw_row K tv0 tv1 Vb vl ++ kw_out K o0 O)) := by
  refine kh_M.of 1 (by decide) (Nat.le_of_ble_eq_true rfl) ?_
  intro E C Kh Z
  refine ks_aload rfl C d_Law_fill_0 ?_
  refine ks_iconst (a := 0) rfl C d_Law_fill_2 ?_
  refine ks_aload_n rfl rfl C d_Law_fill_3 ?_
  refine ks_iload_n rfl rfl C d_Law_fill_4 ?_
  refine ks_iload_n rfl rfl C d_Law_fill_5 ?_
  refine ks_iload_n rfl rfl C d_Law_fill_6 ?_
  refine ks_callCW (ci := 8) (q0 := 0) (kw_store z0 tk0 tv0 gk0 gv0 d0 x0 m0 c0 t0 k0 _ _ _ ++ kw_row K tv0 tv1 _ _ ++ kw_out K o0 _) (kw_out K o0 _) C Kh (c_Store_fillv_T1 l hNT D K z0 tk0 tv0 gk0 gv0 d0 x0 m0 c0 t0 k0 _ _ tv1 _ _ _ _ h2) yw_Store_fill sel_Store_fill lk_Law_20 d_Law_fill_7 rfl rfl rfl [0, 1, 2] [3] [1, 2, 3, 0] rfl rfl rfl rfl (by decide) rfl rfl rfl rfl ⟨by decide, by decide⟩ ⟨by decide, by decide⟩ (Nat.le_of_ble_eq_true rfl) [(0, 12, 15, 13)] (0, 12, 19, 15) [] rfl (fun z hz => by rcases List.mem_cons.mp hz with rfl | hz; exact ⟨by decide, _, by decide, by decide, kk_Law_13⟩; cases hz) rfl (by decide) kk_Law_15 kt_cISE (by decide) (fun q => ?_)
  refine ks_astore C (by decide) rfl d_Law_fill_19 ?_
  refine ks_iconst (a := 2) rfl C d_Law_fill_21 ?_
  exact ks_iret C Z rfl rfl d_Law_fill_22 rfl rfl ⟨rfl, rfl⟩
set_option maxRecDepth 100000 in
set_option maxHeartbeats 4000000 in
theorem c_Law_fillv_T2 (l : Launch) (hNT : l.stackTraces = false) (D : va_G) (K : Nat → ClassId) (z0 tk0 tv0 gk0 gv0 d0 x0 m0 c0 t0 k0 : Nat) (fnd opn : Bool) (tv1 : Nat) (Vb : Nat → UInt8) (vl : Nat) (n : Nat) (b : Int32) (h1 : vl ≤ 8448) (h2 : n ≤ 8448) (h3 : 8448 < vl + n) (o0 : Nat) (O : Nat → Int64) : kh_M l D (ks_T K) (kt_R 16) y_Law_fill b_Law_fill 6 (some .int) [(0, 12, 15, 13), (0, 12, 19, 15)] [.ref z0, .int (ks_b false), .int (nI n), .int b, .ref o0] (kw_store z0 tk0 tv0 gk0 gv0 d0 x0 m0 c0 t0 k0 fnd true opn ++ kw_row K tv0 tv1 Vb vl ++ kw_out K o0 O) (ks_f (some (.int (nI 2))) (kw_store z0 tk0 tv0 gk0 gv0 d0 x0 m0 c0 t0 k0 fnd true opn ++ kw_row K tv0 tv1 Vb vl ++ kw_out K o0 O)) := by
  refine kh_M.of 1 (by decide) (Nat.le_of_ble_eq_true rfl) ?_
  intro E C Kh Z
  refine ks_aload rfl C d_Law_fill_0 ?_
  refine ks_iconst (a := 0) rfl C d_Law_fill_2 ?_
  refine ks_aload_n rfl rfl C d_Law_fill_3 ?_
  refine ks_iload_n rfl rfl C d_Law_fill_4 ?_
  refine ks_iload_n rfl rfl C d_Law_fill_5 ?_
  refine ks_iload_n rfl rfl C d_Law_fill_6 ?_
  refine ks_callCW (ci := 8) (q0 := 0) (kw_store z0 tk0 tv0 gk0 gv0 d0 x0 m0 c0 t0 k0 _ _ _ ++ kw_row K tv0 tv1 _ _ ++ kw_out K o0 _) (kw_out K o0 _) C Kh (c_Store_fillv_T2 l hNT D K z0 tk0 tv0 gk0 gv0 d0 x0 m0 c0 t0 k0 _ _ tv1 _ _ _ _ h1 h2 h3) yw_Store_fill sel_Store_fill lk_Law_20 d_Law_fill_7 rfl rfl rfl [0, 1, 2] [3] [1, 2, 3, 0] rfl rfl rfl rfl (by decide) rfl rfl rfl rfl ⟨by decide, by decide⟩ ⟨by decide, by decide⟩ (Nat.le_of_ble_eq_true rfl) [(0, 12, 15, 13)] (0, 12, 19, 15) [] rfl (fun z hz => by rcases List.mem_cons.mp hz with rfl | hz; exact ⟨by decide, _, by decide, by decide, kk_Law_13⟩; cases hz) rfl (by decide) kk_Law_15 kt_cISE (by decide) (fun q => ?_)
  refine ks_astore C (by decide) rfl d_Law_fill_19 ?_
  refine ks_iconst (a := 2) rfl C d_Law_fill_21 ?_
  exact ks_iret C Z rfl rfl d_Law_fill_22 rfl rfl ⟨rfl, rfl⟩
set_option maxRecDepth 100000 in
set_option maxHeartbeats 4000000 in
theorem c_Law_tree_T1 (l : Launch) (hNT : l.stackTraces = false) (D : va_G) (K : Nat → ClassId) (z0 tk0 tv0 gk0 gv0 d0 x0 m0 c0 t0 k0 : Nat) (fnd opn : Bool) (o0 : Nat) (O : Nat → Int64) : kh_M l D (ks_T K) (kt_R 16) y_Law_tree b_Law_tree 3 (some .int) [(0, 8, 11, 15)] [.ref z0, .ref o0] (kw_store z0 tk0 tv0 gk0 gv0 d0 x0 m0 c0 t0 k0 fnd false opn ++ kw_out K o0 O) (ks_f (some (.int (nI 1))) (kw_store z0 tk0 tv0 gk0 gv0 d0 x0 m0 c0 t0 k0 fnd false opn ++ kw_out K o0 O)) := by
  refine kh_M.of 1 (by decide) (Nat.le_of_ble_eq_true rfl) ?_
  intro E C Kh Z
  refine ks_aload_n rfl rfl C d_Law_tree_0 ?_
  refine ks_iconst (a := 0) rfl C d_Law_tree_1 ?_
  refine ks_aload_n rfl rfl C d_Law_tree_2 ?_
  refine ks_callCW (ci := 8) (q0 := 0) (kw_store z0 tk0 tv0 gk0 gv0 d0 x0 m0 c0 t0 k0 _ _ _ ++ kw_out K o0 _) (kw_out K o0 _) C Kh (c_Store_tree_T1 l hNT D K z0 tk0 tv0 gk0 gv0 d0 x0 m0 c0 t0 k0 _ _) yw_Store_tree sel_Store_tree lk_Law_24 d_Law_tree_3 rfl rfl rfl [0] [1] [1, 0] rfl rfl rfl rfl (by decide) rfl rfl rfl rfl ⟨by decide, by decide⟩ ⟨by decide, by decide⟩ (Nat.le_of_ble_eq_true rfl) [] (0, 8, 11, 15) [] rfl (fun z hz => by cases hz) rfl (by decide) kk_Law_15 kt_cISE (by decide) (fun q => ?_)
  refine ks_astore_n C rfl (by decide) rfl d_Law_tree_11 ?_
  refine ks_iconst (a := 1) rfl C d_Law_tree_12 ?_
  exact ks_iret C Z rfl rfl d_Law_tree_13 rfl rfl ⟨rfl, rfl⟩
set_option maxRecDepth 100000 in
set_option maxHeartbeats 4000000 in
theorem c_Law_tree_T2 (l : Launch) (hNT : l.stackTraces = false) (D : va_G) (K : Nat → ClassId) (z0 tk0 tv0 gk0 gv0 d0 x0 m0 c0 t0 k0 : Nat) (fnd : Bool) (o0 : Nat) (O : Nat → Int64) : kh_M l D (ks_T K) (kt_R 16) y_Law_tree b_Law_tree 3 (some .int) [(0, 8, 11, 15)] [.ref z0, .ref o0] (kw_store z0 tk0 tv0 gk0 gv0 d0 x0 m0 c0 t0 k0 fnd true false ++ kw_out K o0 O) (ks_f (some (.int (nI 1))) (kw_store z0 tk0 tv0 gk0 gv0 d0 x0 m0 c0 t0 k0 fnd true false ++ kw_out K o0 O)) := by
  refine kh_M.of 1 (by decide) (Nat.le_of_ble_eq_true rfl) ?_
  intro E C Kh Z
  refine ks_aload_n rfl rfl C d_Law_tree_0 ?_
  refine ks_iconst (a := 0) rfl C d_Law_tree_1 ?_
  refine ks_aload_n rfl rfl C d_Law_tree_2 ?_
  refine ks_callCW (ci := 8) (q0 := 0) (kw_store z0 tk0 tv0 gk0 gv0 d0 x0 m0 c0 t0 k0 _ _ _ ++ kw_out K o0 _) (kw_out K o0 _) C Kh (c_Store_tree_T2 l hNT D K z0 tk0 tv0 gk0 gv0 d0 x0 m0 c0 t0 k0 _) yw_Store_tree sel_Store_tree lk_Law_24 d_Law_tree_3 rfl rfl rfl [0] [1] [1, 0] rfl rfl rfl rfl (by decide) rfl rfl rfl rfl ⟨by decide, by decide⟩ ⟨by decide, by decide⟩ (Nat.le_of_ble_eq_true rfl) [] (0, 8, 11, 15) [] rfl (fun z hz => by cases hz) rfl (by decide) kk_Law_15 kt_cISE (by decide) (fun q => ?_)
  refine ks_astore_n C rfl (by decide) rfl d_Law_tree_11 ?_
  refine ks_iconst (a := 1) rfl C d_Law_tree_12 ?_
  exact ks_iret C Z rfl rfl d_Law_tree_13 rfl rfl ⟨rfl, rfl⟩
set_option maxRecDepth 100000 in
set_option maxHeartbeats 4000000 in
theorem c_Law_tree_ok (l : Launch) (hNT : l.stackTraces = false) (D : va_G) (K : Nat → ClassId) (z0 tk0 tv0 gk0 gv0 d0 x0 m0 c0 t0 k0 : Nat) (fnd : Bool) (t1 t2 n0 n1 x1 x2 pg ca top : Nat) (pn ps P : Nat → Nat) (B : Nat → UInt8) (G : Nat → Bool) (h1 : kv_lu B < 64) (o0 : Nat) (O : Nat → Int64) : kh_M l D (ks_T K) (kt_R 16) y_Law_tree b_Law_tree 3 (some .int) [(0, 8, 11, 15)] [.ref z0, .ref o0] (kw_store z0 tk0 tv0 gk0 gv0 d0 x0 m0 c0 t0 k0 fnd true true ++ kw_trees K t0 t1 t2 x0 n0 c0 pn ps top ++ kw_nodes K n0 n1 x0 P ++ kw_chains c0 x0 pg ca ++ kw_pages K x0 x1 x2 B G ++ kw_out K o0 O) (ks_f (some (.int (nI 0))) (kw_store z0 tk0 tv0 gk0 gv0 d0 x0 m0 c0 t0 k0 fnd true true ++ kw_trees K t0 t1 t2 x0 n0 c0 pn ps top ++ kw_nodes K n0 n1 x0 P ++ kw_chains c0 x0 pg ca ++ kw_pages K x0 x1 x2 (kv_addTree (B, G) (kv_lu B)).1 (kv_addTree (B, G) (kv_lu B)).2 ++ kw_out K o0 (va_up O 0 ((nI (kv_lu B)).toInt64)))) := by
  refine kh_M.of 1 (by decide) (Nat.le_of_ble_eq_true rfl) ?_
  intro E C Kh Z
  refine ks_aload_n rfl rfl C d_Law_tree_0 ?_
  refine ks_iconst (a := 0) rfl C d_Law_tree_1 ?_
  refine ks_aload_n rfl rfl C d_Law_tree_2 ?_
  refine ks_cxW (ci := 8) (q0 := 0) (kw_store z0 tk0 tv0 gk0 gv0 d0 x0 m0 c0 t0 k0 _ _ _ ++ kw_trees K t0 t1 t2 x0 n0 c0 _ _ _ ++ kw_nodes K n0 n1 x0 _ ++ kw_chains c0 x0 _ _ ++ kw_pages K x0 x1 x2 _ _ ++ kw_out K o0 _) (kw_out K o0 _) C (c_Store_tree_ok l D K z0 tk0 tv0 gk0 gv0 d0 x0 m0 c0 t0 k0 _ t1 t2 n0 n1 x1 x2 _ _ _ _ _ _ _ _ h1) yw_Store_tree sel_Store_tree lk_Law_24 d_Law_tree_3 rfl rfl rfl [0, 1, 2, 3, 4, 5, 6, 7, 8, 9] [10] [1, 2, 3, 4, 5, 6, 7, 8, 9, 10, 0] rfl rfl rfl rfl (by decide) rfl rfl rfl rfl rfl ⟨by decide, by decide⟩ ⟨by decide, by decide⟩ rfl (Nat.le_of_ble_eq_true rfl) ?_
  refine ks_i2l C d_Law_tree_6 ?_
  refine ks_last (ws' := (kw_store z0 tk0 tv0 gk0 gv0 d0 x0 m0 c0 t0 k0 _ _ _ ++ kw_trees K t0 t1 t2 x0 n0 c0 _ _ _ ++ kw_nodes K n0 n1 x0 _ ++ kw_chains c0 x0 _ _ ++ kw_pages K x0 x1 x2 _ _ ++ kw_out K o0 _)) C 10 3 rfl rfl (by omega) (by omega) rfl d_Law_tree_7 ?_
  refine ks_goto (tgt := 14) C (by decide) d_Law_tree_8 ?_
  refine ks_iconst (a := 0) rfl C d_Law_tree_14 ?_
  refine ks_more (cs' := 1) (ss' := 6) (by decide) (by decide) ?_
  exact ks_iret C Z rfl rfl d_Law_tree_15 rfl rfl ⟨rfl, rfl⟩
set_option maxRecDepth 100000 in
set_option maxHeartbeats 4000000 in
theorem c_Law_tree_T3 (l : Launch) (hNT : l.stackTraces = false) (D : va_G) (K : Nat → ClassId) (z0 tk0 tv0 gk0 gv0 d0 x0 m0 c0 t0 k0 : Nat) (fnd : Bool) (t1 t2 n0 n1 x1 x2 pg ca top : Nat) (pn ps P : Nat → Nat) (B : Nat → UInt8) (G : Nat → Bool) (h1 : kv_lu B = 64) (o0 : Nat) (O : Nat → Int64) : kh_M l D (ks_T K) (kt_R 16) y_Law_tree b_Law_tree 3 (some .int) [(0, 8, 11, 15)] [.ref z0, .ref o0] (kw_store z0 tk0 tv0 gk0 gv0 d0 x0 m0 c0 t0 k0 fnd true true ++ kw_trees K t0 t1 t2 x0 n0 c0 pn ps top ++ kw_nodes K n0 n1 x0 P ++ kw_chains c0 x0 pg ca ++ kw_pages K x0 x1 x2 B G ++ kw_out K o0 O) (ks_f (some (.int (nI 1))) (kw_store z0 tk0 tv0 gk0 gv0 d0 x0 m0 c0 t0 k0 fnd true true ++ kw_trees K t0 t1 t2 x0 n0 c0 pn ps top ++ kw_nodes K n0 n1 x0 P ++ kw_chains c0 x0 pg ca ++ kw_pages K x0 x1 x2 B G ++ kw_out K o0 O)) := by
  refine kh_M.of 1 (by decide) (Nat.le_of_ble_eq_true rfl) ?_
  intro E C Kh Z
  refine ks_aload_n rfl rfl C d_Law_tree_0 ?_
  refine ks_iconst (a := 0) rfl C d_Law_tree_1 ?_
  refine ks_aload_n rfl rfl C d_Law_tree_2 ?_
  refine ks_callCW (ci := 8) (q0 := 0) (kw_store z0 tk0 tv0 gk0 gv0 d0 x0 m0 c0 t0 k0 _ _ _ ++ kw_trees K t0 t1 t2 x0 n0 c0 _ _ _ ++ kw_nodes K n0 n1 x0 _ ++ kw_chains c0 x0 _ _ ++ kw_pages K x0 x1 x2 _ _ ++ kw_out K o0 _) (kw_out K o0 _) C Kh (c_Store_tree_T3 l hNT D K z0 tk0 tv0 gk0 gv0 d0 x0 m0 c0 t0 k0 _ t1 t2 n0 n1 x1 x2 _ _ _ _ _ _ _ _ h1) yw_Store_tree sel_Store_tree lk_Law_24 d_Law_tree_3 rfl rfl rfl [0, 1, 2, 3, 4, 5, 6, 7, 8, 9] [10] [1, 2, 3, 4, 5, 6, 7, 8, 9, 10, 0] rfl rfl rfl rfl (by decide) rfl rfl rfl rfl ⟨by decide, by decide⟩ ⟨by decide, by decide⟩ (Nat.le_of_ble_eq_true rfl) [] (0, 8, 11, 15) [] rfl (fun z hz => by cases hz) rfl (by decide) kk_Law_15 kt_cISE (by decide) (fun q => ?_)
  refine ks_astore_n C rfl (by decide) rfl d_Law_tree_11 ?_
  refine ks_iconst (a := 1) rfl C d_Law_tree_12 ?_
  exact ks_iret C Z rfl rfl d_Law_tree_13 rfl rfl ⟨rfl, rfl⟩
set_option maxRecDepth 100000 in
set_option maxHeartbeats 4000000 in
theorem c_Law_drop_T1 (l : Launch) (hNT : l.stackTraces = false) (D : va_G) (K : Nat → ClassId) (z0 tk0 tv0 gk0 gv0 d0 x0 m0 c0 t0 k0 : Nat) (fnd opn : Bool) (t : Nat) (o0 : Nat) (O : Nat → Int64) : kh_M l D (ks_T K) (kt_R 16) y_Law_drop b_Law_drop 4 (some .int) [(0, 9, 12, 15), (0, 9, 15, 32)] [.ref z0, .int (nI t), .ref o0] (kw_store z0 tk0 tv0 gk0 gv0 d0 x0 m0 c0 t0 k0 fnd false opn ++ kw_out K o0 O) (ks_f (some (.int (nI 1))) (kw_store z0 tk0 tv0 gk0 gv0 d0 x0 m0 c0 t0 k0 fnd false opn ++ kw_out K o0 O)) := by
  refine kh_M.of 1 (by decide) (Nat.le_of_ble_eq_true rfl) ?_
  intro E C Kh Z
  refine ks_aload_n rfl rfl C d_Law_drop_0 ?_
  refine ks_iconst (a := 0) rfl C d_Law_drop_1 ?_
  refine ks_aload_n rfl rfl C d_Law_drop_2 ?_
  refine ks_iload_n rfl rfl C d_Law_drop_3 ?_
  refine ks_callCW (ci := 8) (q0 := 0) (kw_store z0 tk0 tv0 gk0 gv0 d0 x0 m0 c0 t0 k0 _ _ _ ++ kw_out K o0 _) (kw_out K o0 _) C Kh (c_Store_drop_T1 l hNT D K z0 tk0 tv0 gk0 gv0 d0 x0 m0 c0 t0 k0 _ _ _) yw_Store_drop sel_Store_drop lk_Law_28 d_Law_drop_4 rfl rfl rfl [0] [1] [1, 0] rfl rfl rfl rfl (by decide) rfl rfl rfl rfl ⟨by decide, by decide⟩ ⟨by decide, by decide⟩ (Nat.le_of_ble_eq_true rfl) [] (0, 9, 12, 15) [(0, 9, 15, 32)] rfl (fun z hz => by cases hz) rfl (by decide) kk_Law_15 kt_cISE (by decide) (fun q => ?_)
  refine ks_astore_n C rfl (by decide) rfl d_Law_drop_12 ?_
  refine ks_iconst (a := 1) rfl C d_Law_drop_13 ?_
  exact ks_iret C Z rfl rfl d_Law_drop_14 rfl rfl ⟨rfl, rfl⟩
set_option maxRecDepth 100000 in
set_option maxHeartbeats 4000000 in
theorem c_Law_drop_T2 (l : Launch) (hNT : l.stackTraces = false) (D : va_G) (K : Nat → ClassId) (z0 tk0 tv0 gk0 gv0 d0 x0 m0 c0 t0 k0 : Nat) (fnd : Bool) (t : Nat) (o0 : Nat) (O : Nat → Int64) : kh_M l D (ks_T K) (kt_R 16) y_Law_drop b_Law_drop 4 (some .int) [(0, 9, 12, 15), (0, 9, 15, 32)] [.ref z0, .int (nI t), .ref o0] (kw_store z0 tk0 tv0 gk0 gv0 d0 x0 m0 c0 t0 k0 fnd true false ++ kw_out K o0 O) (ks_f (some (.int (nI 1))) (kw_store z0 tk0 tv0 gk0 gv0 d0 x0 m0 c0 t0 k0 fnd true false ++ kw_out K o0 O)) := by
  refine kh_M.of 1 (by decide) (Nat.le_of_ble_eq_true rfl) ?_
  intro E C Kh Z
  refine ks_aload_n rfl rfl C d_Law_drop_0 ?_
  refine ks_iconst (a := 0) rfl C d_Law_drop_1 ?_
  refine ks_aload_n rfl rfl C d_Law_drop_2 ?_
  refine ks_iload_n rfl rfl C d_Law_drop_3 ?_
  refine ks_callCW (ci := 8) (q0 := 0) (kw_store z0 tk0 tv0 gk0 gv0 d0 x0 m0 c0 t0 k0 _ _ _ ++ kw_out K o0 _) (kw_out K o0 _) C Kh (c_Store_drop_T2 l hNT D K z0 tk0 tv0 gk0 gv0 d0 x0 m0 c0 t0 k0 _ _) yw_Store_drop sel_Store_drop lk_Law_28 d_Law_drop_4 rfl rfl rfl [0] [1] [1, 0] rfl rfl rfl rfl (by decide) rfl rfl rfl rfl ⟨by decide, by decide⟩ ⟨by decide, by decide⟩ (Nat.le_of_ble_eq_true rfl) [] (0, 9, 12, 15) [(0, 9, 15, 32)] rfl (fun z hz => by cases hz) rfl (by decide) kk_Law_15 kt_cISE (by decide) (fun q => ?_)
  refine ks_astore_n C rfl (by decide) rfl d_Law_drop_12 ?_
  refine ks_iconst (a := 1) rfl C d_Law_drop_13 ?_
  exact ks_iret C Z rfl rfl d_Law_drop_14 rfl rfl ⟨rfl, rfl⟩
set_option maxRecDepth 100000 in
set_option maxHeartbeats 4000000 in
theorem c_Law_drop_T3 (l : Launch) (hNT : l.stackTraces = false) (D : va_G) (K : Nat → ClassId) (z0 tk0 tv0 gk0 gv0 d0 x0 m0 c0 t0 k0 : Nat) (fnd : Bool) (t1 t2 n0 n1 x1 x2 pg ca top : Nat) (pn ps P : Nat → Nat) (B : Nat → UInt8) (G : Nat → Bool) (t : Nat) (h1 : kv_has B t = false) (h0 : t < 4294967296) (o0 : Nat) (O : Nat → Int64) : kh_M l D (ks_T K) (kt_R 16) y_Law_drop b_Law_drop 4 (some .int) [(0, 9, 12, 15), (0, 9, 15, 32)] [.ref z0, .int (nI t), .ref o0] (kw_store z0 tk0 tv0 gk0 gv0 d0 x0 m0 c0 t0 k0 fnd true true ++ kw_trees K t0 t1 t2 x0 n0 c0 pn ps top ++ kw_nodes K n0 n1 x0 P ++ kw_chains c0 x0 pg ca ++ kw_pages K x0 x1 x2 B G ++ kw_out K o0 O) (ks_f (some (.int (nI 2))) (kw_store z0 tk0 tv0 gk0 gv0 d0 x0 m0 c0 t0 k0 fnd true true ++ kw_trees K t0 t1 t2 x0 n0 c0 pn ps top ++ kw_nodes K n0 n1 x0 P ++ kw_chains c0 x0 pg ca ++ kw_pages K x0 x1 x2 B G ++ kw_out K o0 O)) := by
  refine kh_M.of 1 (by decide) (Nat.le_of_ble_eq_true rfl) ?_
  intro E C Kh Z
  refine ks_aload_n rfl rfl C d_Law_drop_0 ?_
  refine ks_iconst (a := 0) rfl C d_Law_drop_1 ?_
  refine ks_aload_n rfl rfl C d_Law_drop_2 ?_
  refine ks_iload_n rfl rfl C d_Law_drop_3 ?_
  refine ks_callCW (ci := 8) (q0 := 0) (kw_store z0 tk0 tv0 gk0 gv0 d0 x0 m0 c0 t0 k0 _ _ _ ++ kw_trees K t0 t1 t2 x0 n0 c0 _ _ _ ++ kw_nodes K n0 n1 x0 _ ++ kw_chains c0 x0 _ _ ++ kw_pages K x0 x1 x2 _ _ ++ kw_out K o0 _) (kw_out K o0 _) C Kh (c_Store_drop_T3 l hNT D K z0 tk0 tv0 gk0 gv0 d0 x0 m0 c0 t0 k0 _ t1 t2 n0 n1 x1 x2 _ _ _ _ _ _ _ _ _ h1 h0) yw_Store_drop sel_Store_drop lk_Law_28 d_Law_drop_4 rfl rfl rfl [0, 1, 2, 3, 4, 5, 6, 7, 8, 9] [10] [1, 2, 3, 4, 5, 6, 7, 8, 9, 10, 0] rfl rfl rfl rfl (by decide) rfl rfl rfl rfl ⟨by decide, by decide⟩ ⟨by decide, by decide⟩ (Nat.le_of_ble_eq_true rfl) [(0, 9, 12, 15)] (0, 9, 15, 32) [] rfl (fun z hz => by rcases List.mem_cons.mp hz with rfl | hz; exact ⟨by decide, _, by decide, by decide, kk_Law_15⟩; cases hz) rfl (by decide) kk_Law_32 kt_cNSE (by decide) (fun q => ?_)
  refine ks_astore_n C rfl (by decide) rfl d_Law_drop_15 ?_
  refine ks_iconst (a := 2) rfl C d_Law_drop_16 ?_
  exact ks_iret C Z rfl rfl d_Law_drop_17 rfl rfl ⟨rfl, rfl⟩
set_option maxRecDepth 100000 in
set_option maxHeartbeats 4000000 in
theorem c_Law_drop_ok (l : Launch) (hNT : l.stackTraces = false) (D : va_G) (K : Nat → ClassId) (z0 tk0 tv0 gk0 gv0 d0 x0 m0 c0 t0 k0 : Nat) (fnd : Bool) (t1 t2 n0 n1 x1 x2 pg ca top : Nat) (pn ps P : Nat → Nat) (B : Nat → UInt8) (G : Nat → Bool) (t : Nat) (h1 : kv_has B t = true) (h0 : t < 4294967296) (h2 : t < 64) (o0 : Nat) (O : Nat → Int64) : kh_M l D (ks_T K) (kt_R 16) y_Law_drop b_Law_drop 4 (some .int) [(0, 9, 12, 15), (0, 9, 15, 32)] [.ref z0, .int (nI t), .ref o0] (kw_store z0 tk0 tv0 gk0 gv0 d0 x0 m0 c0 t0 k0 fnd true true ++ kw_trees K t0 t1 t2 x0 n0 c0 pn ps top ++ kw_nodes K n0 n1 x0 P ++ kw_chains c0 x0 pg ca ++ kw_pages K x0 x1 x2 B G ++ kw_out K o0 O) (ks_f (some (.int (nI 0))) (kw_store z0 tk0 tv0 gk0 gv0 d0 x0 m0 c0 t0 k0 fnd true true ++ kw_trees K t0 t1 t2 x0 n0 c0 pn ps top ++ kw_nodes K n0 n1 x0 P ++ kw_chains c0 x0 pg ca ++ kw_pages K x0 x1 x2 (kv_drop (B, G) t).1 (kv_drop (B, G) t).2 ++ kw_out K o0 (va_up O 0 ((nI (kv_ents B t)).toInt64)))) := by
  refine kh_M.of 1 (by decide) (Nat.le_of_ble_eq_true rfl) ?_
  intro E C Kh Z
  refine ks_aload_n rfl rfl C d_Law_drop_0 ?_
  refine ks_iconst (a := 0) rfl C d_Law_drop_1 ?_
  refine ks_aload_n rfl rfl C d_Law_drop_2 ?_
  refine ks_iload_n rfl rfl C d_Law_drop_3 ?_
  refine ks_cxW (ci := 8) (q0 := 0) (kw_store z0 tk0 tv0 gk0 gv0 d0 x0 m0 c0 t0 k0 _ _ _ ++ kw_trees K t0 t1 t2 x0 n0 c0 _ _ _ ++ kw_nodes K n0 n1 x0 _ ++ kw_chains c0 x0 _ _ ++ kw_pages K x0 x1 x2 _ _ ++ kw_out K o0 _) (kw_out K o0 _) C (c_Store_drop_ok l D K z0 tk0 tv0 gk0 gv0 d0 x0 m0 c0 t0 k0 _ t1 t2 n0 n1 x1 x2 _ _ _ _ _ _ _ _ _ h1 h0 h2) yw_Store_drop sel_Store_drop lk_Law_28 d_Law_drop_4 rfl rfl rfl [0, 1, 2, 3, 4, 5, 6, 7, 8, 9] [10] [1, 2, 3, 4, 5, 6, 7, 8, 9, 10, 0] rfl rfl rfl rfl (by decide) rfl rfl rfl rfl rfl ⟨by decide, by decide⟩ ⟨by decide, by decide⟩ rfl (Nat.le_of_ble_eq_true rfl) ?_
  refine ks_i2l C d_Law_drop_7 ?_
  refine ks_last (ws' := (kw_store z0 tk0 tv0 gk0 gv0 d0 x0 m0 c0 t0 k0 _ _ _ ++ kw_trees K t0 t1 t2 x0 n0 c0 _ _ _ ++ kw_nodes K n0 n1 x0 _ ++ kw_chains c0 x0 _ _ ++ kw_pages K x0 x1 x2 _ _ ++ kw_out K o0 _)) C 10 3 rfl rfl (by omega) (by omega) rfl d_Law_drop_8 ?_
  refine ks_goto (tgt := 18) C (by decide) d_Law_drop_9 ?_
  refine ks_iconst (a := 0) rfl C d_Law_drop_18 ?_
  refine ks_more (cs' := 1) (ss' := 6) (by decide) (by decide) ?_
  exact ks_iret C Z rfl rfl d_Law_drop_19 rfl rfl ⟨rfl, rfl⟩
