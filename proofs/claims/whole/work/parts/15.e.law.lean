/-! the law's own calls of the store -/
set_option maxRecDepth 100000 in
set_option maxHeartbeats 4000000 in
theorem c_Law_power_T (l : Launch) (hNT : l.stackTraces = false) (D : va_G) (K : Nat → ClassId) (z0 tk0 tv0 gk0 gv0 d0 x0 m0 c0 t0 k0 : Nat) (fnd on opn : Bool) (w k b : Nat) (h1 : w < 4294967296) (h2 : k < 4294967296) (h3 : b < 4294967296) (h4 : 4 < w ∨ 1000 < k ∨ 300 < b) : kh_M l D (ks_T K) (kt_R 16) y_Law_power b_Law_power 5 (some .int) [(0, 7, 10, 13)] [.ref z0, .int (nI w), .int (nI k), .int (nI b)] (kw_store z0 tk0 tv0 gk0 gv0 d0 x0 m0 c0 t0 k0 fnd on opn) (ks_f (some (.int (nI 1))) (kw_store z0 tk0 tv0 gk0 gv0 d0 x0 m0 c0 t0 k0 fnd on opn)) := by
  refine kh_M.of 1 (by decide) (Nat.le_of_ble_eq_true rfl) ?_
  intro E C Kh Z
  refine ks_aload_n rfl rfl C d_Law_power_0 ?_
  refine ks_iload_n rfl rfl C d_Law_power_1 ?_
  refine ks_iload_n rfl rfl C d_Law_power_2 ?_
  refine ks_iload_n rfl rfl C d_Law_power_3 ?_
  refine ks_callCW (ci := 8) (q0 := 0) (kw_store z0 tk0 tv0 gk0 gv0 d0 x0 m0 c0 t0 k0 _ _ _) ([] : va_W) C Kh (c_Store_power_T l hNT D K z0 tk0 tv0 gk0 gv0 d0 x0 m0 c0 t0 k0 _ _ _ _ _ _ h1 h2 h3 h4) yw_Store_power sel_Store_power lk_Law_75 d_Law_power_4 rfl rfl rfl [0] [] [0] rfl rfl rfl rfl (by decide) rfl rfl rfl rfl ⟨by decide, by decide⟩ ⟨by decide, by decide⟩ (Nat.le_of_ble_eq_true rfl) [] (0, 7, 10, 13) [] rfl (fun z hz => by cases hz) rfl (by decide) kk_Law_13 kt_cIAE (by decide) (fun q => ?_)
  refine ks_astore C (by decide) rfl d_Law_power_10 ?_
  refine ks_iconst (a := 1) rfl C d_Law_power_12 ?_
  exact ks_iret C Z rfl rfl d_Law_power_13 rfl rfl ⟨rfl, rfl⟩
set_option maxRecDepth 100000 in
set_option maxHeartbeats 4000000 in
theorem c_Law_power_ok (l : Launch) (hNT : l.stackTraces = false) (D : va_G) (K : Nat → ClassId) (z0 tk0 tv0 gk0 gv0 d0 x0 m0 c0 t0 k0 : Nat) (fnd on opn : Bool) (d1 d2 d3 : Nat) (F J Rc : Nat → UInt8) (jl fw fk fb : Nat) (w k b : Nat) (h1 : w < 4294967296) (h2 : k < 4294967296) (h3 : b < 4294967296) (h4 : w ≤ 4) (h5 : k ≤ 1000) (h6 : b ≤ 300) : kh_M l D (ks_T K) (kt_R 16) y_Law_power b_Law_power 5 (some .int) [(0, 7, 10, 13)] [.ref z0, .int (nI w), .int (nI k), .int (nI b)] (kw_store z0 tk0 tv0 gk0 gv0 d0 x0 m0 c0 t0 k0 fnd on opn ++ kw_disk K d0 d1 d2 d3 F J Rc jl fw fk fb) (ks_f (some (.int (nI 0))) (kw_store z0 tk0 tv0 gk0 gv0 d0 x0 m0 c0 t0 k0 fnd on opn ++ kw_disk K d0 d1 d2 d3 F J Rc jl w k b)) := by
  refine kh_M.of 1 (by decide) (Nat.le_of_ble_eq_true rfl) ?_
  intro E C Kh Z
  refine ks_aload_n rfl rfl C d_Law_power_0 ?_
  refine ks_iload_n rfl rfl C d_Law_power_1 ?_
  refine ks_iload_n rfl rfl C d_Law_power_2 ?_
  refine ks_iload_n rfl rfl C d_Law_power_3 ?_
  refine ks_cvW (ci := 8) (q0 := 0) (kw_store z0 tk0 tv0 gk0 gv0 d0 x0 m0 c0 t0 k0 _ _ _ ++ kw_disk K d0 d1 d2 d3 _ _ _ _ _ _ _) ([] : va_W) C (c_Store_power_ok l D K z0 tk0 tv0 gk0 gv0 d0 x0 m0 c0 t0 k0 _ _ _ d1 d2 d3 _ _ _ _ _ _ _ _ _ _ h1 h2 h3 h4 h5 h6) yw_Store_power sel_Store_power lk_Law_75 d_Law_power_4 rfl rfl rfl [0, 1, 2, 3, 4] [] [0, 1, 2, 3, 4] rfl rfl rfl rfl (by decide) rfl rfl rfl rfl rfl ⟨by decide, by decide⟩ ⟨by decide, by decide⟩ rfl (Nat.le_of_ble_eq_true rfl) ?_
  refine ks_goto (tgt := 14) C (by decide) d_Law_power_7 ?_
  refine ks_iconst (a := 0) rfl C d_Law_power_14 ?_
  refine ks_more (cs' := 1) (ss' := 6) (by decide) (by decide) ?_
  exact ks_iret C Z rfl rfl d_Law_power_15 rfl rfl ⟨rfl, rfl⟩
set_option maxRecDepth 100000 in
set_option maxHeartbeats 4000000 in
theorem c_Law_reopen_T (l : Launch) (hNT : l.stackTraces = false) (D : va_G) (K : Nat → ClassId) (z0 tk0 tv0 gk0 gv0 d0 x0 m0 c0 t0 k0 : Nat) (fnd on opn : Bool) (tk1 : Nat) (Kb : Nat → UInt8) (kl : Nat) (tv1 : Nat) (Vb : Nat → UInt8) (vl : Nat) (gk1 : Nat) (Gb : Nat → UInt8) (gl : Nat) (gv1 : Nat) (Eb : Nat → UInt8) (el : Nat) (d1 d2 d3 : Nat) (F J Rc : Nat → UInt8) (jl fw fk fb : Nat) (m1 s0 s1 s2 s3 s4 : Nat) (S0 S1 S2 S3 S4 : Nat → UInt8) (cnt : Nat) (h1 : ((kv_rcL J fw fk fb (jl / 34) 0 true F).1 && decide (fw ≠ 3)) = false) (h5 : cnt ≤ 5) (h2 : jl ≤ 92480) (hw : fw ≤ 4) (hk : fk ≤ 1000) (hb : fb ≤ 300) (o0 : Nat) (O : Nat → Int64) : kh_M l D (ks_T K) (kt_R 16) y_Law_reopen b_Law_reopen 3 (some .int) [(0, 8, 11, 58)] [.ref z0, .ref o0] (kw_store z0 tk0 tv0 gk0 gv0 d0 x0 m0 c0 t0 k0 fnd on opn ++ kw_row K tk0 tk1 Kb kl ++ kw_row K tv0 tv1 Vb vl ++ kw_row K gk0 gk1 Gb gl ++ kw_row K gv0 gv1 Eb el ++ kw_disk K d0 d1 d2 d3 F J Rc jl fw fk fb ++ kw_marks K m0 m1 s0 s1 s2 s3 s4 S0 S1 S2 S3 S4 cnt ++ kw_out K o0 O) (ks_f (some (.int (nI 1))) (kw_store z0 tk0 tv0 gk0 gv0 d0 x0 m0 c0 t0 k0 false false false ++ kw_row K tk0 tk1 Kb 0 ++ kw_row K tv0 tv1 Vb 0 ++ kw_row K gk0 gk1 Gb 0 ++ kw_row K gv0 gv1 Eb 0 ++ kw_disk K d0 d1 d2 d3 (kv_rcL J fw fk fb (jl / 34) 0 true F).2 J Rc (if ((kv_rcL J fw fk fb (jl / 34) 0 true F).1 && decide (fw ≠ 3)) = true then 0 else jl) 4 fk fb ++ kw_marks K m0 m1 s0 s1 s2 s3 s4 S0 S1 S2 S3 S4 0 ++ kw_out K o0 O)) := by
  refine kh_M.of 1 (by decide) (Nat.le_of_ble_eq_true rfl) ?_
  intro E C Kh Z
  refine ks_aload_n rfl rfl C d_Law_reopen_0 ?_
  refine ks_iconst (a := 0) rfl C d_Law_reopen_1 ?_
  refine ks_aload_n rfl rfl C d_Law_reopen_2 ?_
  refine ks_callCW (ci := 8) (q0 := 0) (kw_store z0 tk0 tv0 gk0 gv0 d0 x0 m0 c0 t0 k0 _ _ _ ++ kw_row K tk0 tk1 _ _ ++ kw_row K tv0 tv1 _ _ ++ kw_row K gk0 gk1 _ _ ++ kw_row K gv0 gv1 _ _ ++ kw_disk K d0 d1 d2 d3 _ _ _ _ _ _ _ ++ kw_marks K m0 m1 s0 s1 s2 s3 s4 _ _ _ _ _ _ ++ kw_out K o0 _) (kw_out K o0 _) C Kh (c_Store_reopen_T l hNT D K z0 tk0 tv0 gk0 gv0 d0 x0 m0 c0 t0 k0 _ _ _ tk1 _ _ tv1 _ _ gk1 _ _ gv1 _ _ d1 d2 d3 _ _ _ _ _ _ _ m1 s0 s1 s2 s3 s4 _ _ _ _ _ _ h1 h5 h2 hw hk hb) yw_Store_reopen sel_Store_reopen lk_Law_79 d_Law_reopen_3 rfl rfl rfl [0, 1, 2, 3, 4, 5, 6, 7, 8, 9, 10, 11, 12, 13, 14, 15, 16, 17, 18, 19] [20] [1, 2, 3, 4, 5, 6, 7, 8, 9, 10, 11, 12, 13, 14, 15, 16, 17, 18, 19, 20, 0] rfl rfl rfl rfl (by decide) rfl rfl rfl rfl ⟨by decide, by decide⟩ ⟨by decide, by decide⟩ (Nat.le_of_ble_eq_true rfl) [] (0, 8, 11, 58) [] rfl (fun z hz => by cases hz) rfl (by decide) kk_Law_58 kt_cAE (by decide) (fun q => ?_)
  refine ks_astore_n C rfl (by decide) rfl d_Law_reopen_11 ?_
  refine ks_iconst (a := 1) rfl C d_Law_reopen_12 ?_
  exact ks_iret C Z rfl rfl d_Law_reopen_13 rfl rfl ⟨rfl, rfl⟩
set_option maxRecDepth 100000 in
set_option maxHeartbeats 4000000 in
theorem c_Law_reopen_ok (l : Launch) (hNT : l.stackTraces = false) (D : va_G) (K : Nat → ClassId) (z0 tk0 tv0 gk0 gv0 d0 x0 m0 c0 t0 k0 : Nat) (fnd on opn : Bool) (tk1 : Nat) (Kb : Nat → UInt8) (kl : Nat) (tv1 : Nat) (Vb : Nat → UInt8) (vl : Nat) (gk1 : Nat) (Gb : Nat → UInt8) (gl : Nat) (gv1 : Nat) (Eb : Nat → UInt8) (el : Nat) (d1 d2 d3 : Nat) (F J Rc : Nat → UInt8) (jl fw fk fb : Nat) (x1 x2 : Nat) (B : Nat → UInt8) (G : Nat → Bool) (m1 s0 s1 s2 s3 s4 : Nat) (S0 S1 S2 S3 S4 : Nat → UInt8) (cnt : Nat) (h1 : ((kv_rcL J fw fk fb (jl / 34) 0 true F).1 && decide (fw ≠ 3)) = true) (h5 : cnt ≤ 5) (h2 : jl ≤ 92480) (hw : fw ≤ 4) (hk : fk ≤ 1000) (hb : fb ≤ 300) (o0 : Nat) (O : Nat → Int64) : kh_M l D (ks_T K) (kt_R 16) y_Law_reopen b_Law_reopen 3 (some .int) [(0, 8, 11, 58)] [.ref z0, .ref o0] (kw_store z0 tk0 tv0 gk0 gv0 d0 x0 m0 c0 t0 k0 fnd on opn ++ kw_row K tk0 tk1 Kb kl ++ kw_row K tv0 tv1 Vb vl ++ kw_row K gk0 gk1 Gb gl ++ kw_row K gv0 gv1 Eb el ++ kw_disk K d0 d1 d2 d3 F J Rc jl fw fk fb ++ kw_pages K x0 x1 x2 B G ++ kw_marks K m0 m1 s0 s1 s2 s3 s4 S0 S1 S2 S3 S4 cnt ++ kw_out K o0 O) (ks_f (some (.int (nI 0))) (kw_store z0 tk0 tv0 gk0 gv0 d0 x0 m0 c0 t0 k0 false true false ++ kw_row K tk0 tk1 Kb 0 ++ kw_row K tv0 tv1 Vb 0 ++ kw_row K gk0 gk1 Gb 0 ++ kw_row K gv0 gv1 Eb 0 ++ kw_disk K d0 d1 d2 d3 (kv_rcL J fw fk fb (jl / 34) 0 true F).2 J Rc (if ((kv_rcL J fw fk fb (jl / 34) 0 true F).1 && decide (fw ≠ 3)) = true then 0 else jl) 4 fk fb ++ kw_pages K x0 x1 x2 (kv_load B (kv_rcL J fw fk fb (jl / 34) 0 true F).2) (kv_clr G 2720) ++ kw_marks K m0 m1 s0 s1 s2 s3 s4 S0 S1 S2 S3 S4 0 ++ kw_out K o0 (va_up O 0 ((nI (kv_num (kv_load B (kv_rcL J fw fk fb (jl / 34) 0 true F).2) 6)).toInt64)))) := by
  refine kh_M.of 1 (by decide) (Nat.le_of_ble_eq_true rfl) ?_
  intro E C Kh Z
  refine ks_aload_n rfl rfl C d_Law_reopen_0 ?_
  refine ks_iconst (a := 0) rfl C d_Law_reopen_1 ?_
  refine ks_aload_n rfl rfl C d_Law_reopen_2 ?_
  refine ks_cxW (ci := 8) (q0 := 0) (kw_store z0 tk0 tv0 gk0 gv0 d0 x0 m0 c0 t0 k0 _ _ _ ++ kw_row K tk0 tk1 _ _ ++ kw_row K tv0 tv1 _ _ ++ kw_row K gk0 gk1 _ _ ++ kw_row K gv0 gv1 _ _ ++ kw_disk K d0 d1 d2 d3 _ _ _ _ _ _ _ ++ kw_pages K x0 x1 x2 _ _ ++ kw_marks K m0 m1 s0 s1 s2 s3 s4 _ _ _ _ _ _ ++ kw_out K o0 _) (kw_out K o0 _) C (c_Store_reopen_ok l D K z0 tk0 tv0 gk0 gv0 d0 x0 m0 c0 t0 k0 _ _ _ tk1 _ _ tv1 _ _ gk1 _ _ gv1 _ _ d1 d2 d3 _ _ _ _ _ _ _ x1 x2 _ _ m1 s0 s1 s2 s3 s4 _ _ _ _ _ _ h1 h5 h2 hw hk hb) yw_Store_reopen sel_Store_reopen lk_Law_79 d_Law_reopen_3 rfl rfl rfl [0, 1, 2, 3, 4, 5, 6, 7, 8, 9, 10, 11, 12, 13, 14, 15, 16, 17, 18, 19, 20, 21, 22] [23] [1, 2, 3, 4, 5, 6, 7, 8, 9, 10, 11, 12, 13, 14, 15, 16, 17, 18, 19, 20, 21, 22, 23, 0] rfl rfl rfl rfl (by decide) rfl rfl rfl rfl rfl ⟨by decide, by decide⟩ ⟨by decide, by decide⟩ rfl (Nat.le_of_ble_eq_true rfl) ?_
  refine ks_i2l C d_Law_reopen_6 ?_
  refine ks_last (ws' := (kw_store z0 tk0 tv0 gk0 gv0 d0 x0 m0 c0 t0 k0 _ _ _ ++ kw_row K tk0 tk1 _ _ ++ kw_row K tv0 tv1 _ _ ++ kw_row K gk0 gk1 _ _ ++ kw_row K gv0 gv1 _ _ ++ kw_disk K d0 d1 d2 d3 _ _ _ _ _ _ _ ++ kw_pages K x0 x1 x2 _ _ ++ kw_marks K m0 m1 s0 s1 s2 s3 s4 _ _ _ _ _ _ ++ kw_out K o0 _)) C 23 3 rfl rfl (by omega) (by omega) rfl d_Law_reopen_7 ?_
  refine ks_goto (tgt := 14) C (by decide) d_Law_reopen_8 ?_
  refine ks_iconst (a := 0) rfl C d_Law_reopen_14 ?_
  refine ks_more (cs' := 1) (ss' := 6) (by decide) (by decide) ?_
  exact ks_iret C Z rfl rfl d_Law_reopen_15 rfl rfl ⟨rfl, rfl⟩
set_option maxRecDepth 100000 in
set_option maxHeartbeats 4000000 in
theorem c_Law_told_T (l : Launch) (hNT : l.stackTraces = false) (D : va_G) (K : Nat → ClassId) (z0 tk0 tv0 gk0 gv0 d0 x0 m0 c0 t0 k0 : Nat) (fnd on opn : Bool) (w : Nat) (h1 : w < 4294967296) (h2 : w = 9 ∨ 73 < w) (o0 : Nat) (O : Nat → Int64) : kh_M l D (ks_T K) (kt_R 16) y_Law_told b_Law_told 4 (some .int) [(0, 9, 12, 13)] [.ref z0, .int (nI w), .ref o0] (kw_store z0 tk0 tv0 gk0 gv0 d0 x0 m0 c0 t0 k0 fnd on opn ++ kw_out K o0 O) (ks_f (some (.int (nI 1))) (kw_store z0 tk0 tv0 gk0 gv0 d0 x0 m0 c0 t0 k0 fnd on opn ++ kw_out K o0 O)) := by
  refine kh_M.of 1 (by decide) (Nat.le_of_ble_eq_true rfl) ?_
  intro E C Kh Z
  refine ks_aload_n rfl rfl C d_Law_told_0 ?_
  refine ks_iconst (a := 0) rfl C d_Law_told_1 ?_
  refine ks_aload_n rfl rfl C d_Law_told_2 ?_
  refine ks_iload_n rfl rfl C d_Law_told_3 ?_
  refine ks_callCW (ci := 8) (q0 := 0) (kw_store z0 tk0 tv0 gk0 gv0 d0 x0 m0 c0 t0 k0 _ _ _ ++ kw_out K o0 _) (kw_out K o0 _) C Kh (c_Store_told_T l hNT D K z0 tk0 tv0 gk0 gv0 d0 x0 m0 c0 t0 k0 _ _ _ _ h1 h2) yw_Store_told sel_Store_told lk_Law_82 d_Law_told_4 rfl rfl rfl [0] [1] [1, 0] rfl rfl rfl rfl (by decide) rfl rfl rfl rfl ⟨by decide, by decide⟩ ⟨by decide, by decide⟩ (Nat.le_of_ble_eq_true rfl) [] (0, 9, 12, 13) [] rfl (fun z hz => by cases hz) rfl (by decide) kk_Law_13 kt_cIAE (by decide) (fun q => ?_)
  refine ks_astore_n C rfl (by decide) rfl d_Law_told_12 ?_
  refine ks_iconst (a := 1) rfl C d_Law_told_13 ?_
  exact ks_iret C Z rfl rfl d_Law_told_14 rfl rfl ⟨rfl, rfl⟩
set_option maxRecDepth 100000 in
set_option maxHeartbeats 4000000 in
theorem c_Law_told_off (l : Launch) (hNT : l.stackTraces = false) (D : va_G) (K : Nat → ClassId) (z0 tk0 tv0 gk0 gv0 d0 x0 m0 c0 t0 k0 : Nat) (fnd opn : Bool) (w : Nat) (h1 : w ≠ 9) (h2 : w ≤ 73) (o0 : Nat) (O : Nat → Int64) : kh_M l D (ks_T K) (kt_R 16) y_Law_told b_Law_told 4 (some .int) [(0, 9, 12, 13)] [.ref z0, .int (nI w), .ref o0] (kw_store z0 tk0 tv0 gk0 gv0 d0 x0 m0 c0 t0 k0 fnd false opn ++ kw_out K o0 O) (ks_f (some (.int (nI 0))) (kw_store z0 tk0 tv0 gk0 gv0 d0 x0 m0 c0 t0 k0 fnd false opn ++ kw_out K o0 (va_up O 0 ((nI (0)).toInt64)))) := by
  refine kh_M.of 1 (by decide) (Nat.le_of_ble_eq_true rfl) ?_
  intro E C Kh Z
  refine ks_aload_n rfl rfl C d_Law_told_0 ?_
  refine ks_iconst (a := 0) rfl C d_Law_told_1 ?_
  refine ks_aload_n rfl rfl C d_Law_told_2 ?_
  refine ks_iload_n rfl rfl C d_Law_told_3 ?_
  refine ks_cxW (ci := 8) (q0 := 0) (kw_store z0 tk0 tv0 gk0 gv0 d0 x0 m0 c0 t0 k0 _ _ _ ++ kw_out K o0 _) (kw_out K o0 _) C (c_Store_told_off l D K z0 tk0 tv0 gk0 gv0 d0 x0 m0 c0 t0 k0 _ _ _ h1 h2) yw_Store_told sel_Store_told lk_Law_82 d_Law_told_4 rfl rfl rfl [0] [1] [1, 0] rfl rfl rfl rfl (by decide) rfl rfl rfl rfl rfl ⟨by decide, by decide⟩ ⟨by decide, by decide⟩ rfl (Nat.le_of_ble_eq_true rfl) ?_
  refine ks_i2l C d_Law_told_7 ?_
  refine ks_last (ws' := (kw_store z0 tk0 tv0 gk0 gv0 d0 x0 m0 c0 t0 k0 _ _ _ ++ kw_out K o0 _)) C 1 3 rfl rfl (by omega) (by omega) rfl d_Law_told_8 ?_
  refine ks_goto (tgt := 15) C (by decide) d_Law_told_9 ?_
  refine ks_iconst (a := 0) rfl C d_Law_told_15 ?_
  refine ks_more (cs' := 1) (ss' := 6) (by decide) (by decide) ?_
  exact ks_iret C Z rfl rfl d_Law_told_16 rfl rfl ⟨rfl, rfl⟩
set_option maxRecDepth 100000 in
set_option maxHeartbeats 4000000 in
theorem c_Law_told_0 (l : Launch) (hNT : l.stackTraces = false) (D : va_G) (K : Nat → ClassId) (z0 tk0 tv0 gk0 gv0 d0 x0 m0 c0 t0 k0 : Nat) (fnd opn : Bool) (o0 : Nat) (O : Nat → Int64) : kh_M l D (ks_T K) (kt_R 16) y_Law_told b_Law_told 4 (some .int) [(0, 9, 12, 13)] [.ref z0, .int (nI 0), .ref o0] (kw_store z0 tk0 tv0 gk0 gv0 d0 x0 m0 c0 t0 k0 fnd true opn ++ kw_out K o0 O) (ks_f (some (.int (nI 0))) (kw_store z0 tk0 tv0 gk0 gv0 d0 x0 m0 c0 t0 k0 fnd true opn ++ kw_out K o0 (va_up O 0 ((nI (1)).toInt64)))) := by
  refine kh_M.of 1 (by decide) (Nat.le_of_ble_eq_true rfl) ?_
  intro E C Kh Z
  refine ks_aload_n rfl rfl C d_Law_told_0 ?_
  refine ks_iconst (a := 0) rfl C d_Law_told_1 ?_
  refine ks_aload_n rfl rfl C d_Law_told_2 ?_
  refine ks_iload_n rfl rfl C d_Law_told_3 ?_
  refine ks_cxW (ci := 8) (q0 := 0) (kw_store z0 tk0 tv0 gk0 gv0 d0 x0 m0 c0 t0 k0 _ _ _ ++ kw_out K o0 _) (kw_out K o0 _) C (c_Store_told_0 l D K z0 tk0 tv0 gk0 gv0 d0 x0 m0 c0 t0 k0 _ _) yw_Store_told sel_Store_told lk_Law_82 d_Law_told_4 rfl rfl rfl [0] [1] [1, 0] rfl rfl rfl rfl (by decide) rfl rfl rfl rfl rfl ⟨by decide, by decide⟩ ⟨by decide, by decide⟩ rfl (Nat.le_of_ble_eq_true rfl) ?_
  refine ks_i2l C d_Law_told_7 ?_
  refine ks_last (ws' := (kw_store z0 tk0 tv0 gk0 gv0 d0 x0 m0 c0 t0 k0 _ _ _ ++ kw_out K o0 _)) C 1 3 rfl rfl (by omega) (by omega) rfl d_Law_told_8 ?_
  refine ks_goto (tgt := 15) C (by decide) d_Law_told_9 ?_
  refine ks_iconst (a := 0) rfl C d_Law_told_15 ?_
  refine ks_more (cs' := 1) (ss' := 6) (by decide) (by decide) ?_
  exact ks_iret C Z rfl rfl d_Law_told_16 rfl rfl ⟨rfl, rfl⟩
set_option maxRecDepth 100000 in
set_option maxHeartbeats 4000000 in
theorem c_Law_told_1 (l : Launch) (hNT : l.stackTraces = false) (D : va_G) (K : Nat → ClassId) (z0 tk0 tv0 gk0 gv0 d0 x0 m0 c0 t0 k0 : Nat) (fnd opn : Bool) (o0 : Nat) (O : Nat → Int64) : kh_M l D (ks_T K) (kt_R 16) y_Law_told b_Law_told 4 (some .int) [(0, 9, 12, 13)] [.ref z0, .int (nI 1), .ref o0] (kw_store z0 tk0 tv0 gk0 gv0 d0 x0 m0 c0 t0 k0 fnd true opn ++ kw_out K o0 O) (ks_f (some (.int (nI 0))) (kw_store z0 tk0 tv0 gk0 gv0 d0 x0 m0 c0 t0 k0 fnd true opn ++ kw_out K o0 (va_up O 0 ((nI (if opn = true then 1 else 0)).toInt64)))) := by
  refine kh_M.of 1 (by decide) (Nat.le_of_ble_eq_true rfl) ?_
  intro E C Kh Z
  refine ks_aload_n rfl rfl C d_Law_told_0 ?_
  refine ks_iconst (a := 0) rfl C d_Law_told_1 ?_
  refine ks_aload_n rfl rfl C d_Law_told_2 ?_
  refine ks_iload_n rfl rfl C d_Law_told_3 ?_
  refine ks_cxW (ci := 8) (q0 := 0) (kw_store z0 tk0 tv0 gk0 gv0 d0 x0 m0 c0 t0 k0 _ _ _ ++ kw_out K o0 _) (kw_out K o0 _) C (c_Store_told_1 l D K z0 tk0 tv0 gk0 gv0 d0 x0 m0 c0 t0 k0 _ _) yw_Store_told sel_Store_told lk_Law_82 d_Law_told_4 rfl rfl rfl [0] [1] [1, 0] rfl rfl rfl rfl (by decide) rfl rfl rfl rfl rfl ⟨by decide, by decide⟩ ⟨by decide, by decide⟩ rfl (Nat.le_of_ble_eq_true rfl) ?_
  refine ks_i2l C d_Law_told_7 ?_
  refine ks_last (ws' := (kw_store z0 tk0 tv0 gk0 gv0 d0 x0 m0 c0 t0 k0 _ _ _ ++ kw_out K o0 _)) C 1 3 rfl rfl (by omega) (by omega) rfl d_Law_told_8 ?_
  refine ks_goto (tgt := 15) C (by decide) d_Law_told_9 ?_
  refine ks_iconst (a := 0) rfl C d_Law_told_15 ?_
  refine ks_more (cs' := 1) (ss' := 6) (by decide) (by decide) ?_
  exact ks_iret C Z rfl rfl d_Law_told_16 rfl rfl ⟨rfl, rfl⟩
set_option maxRecDepth 100000 in
set_option maxHeartbeats 4000000 in
theorem c_Law_told_2 (l : Launch) (hNT : l.stackTraces = false) (D : va_G) (K : Nat → ClassId) (z0 tk0 tv0 gk0 gv0 d0 x0 m0 c0 t0 k0 : Nat) (fnd opn : Bool) (m1 s0 s1 s2 s3 s4 : Nat) (S0 S1 S2 S3 S4 : Nat → UInt8) (cnt : Nat) (o0 : Nat) (O : Nat → Int64) : kh_M l D (ks_T K) (kt_R 16) y_Law_told b_Law_told 4 (some .int) [(0, 9, 12, 13)] [.ref z0, .int (nI 2), .ref o0] (kw_store z0 tk0 tv0 gk0 gv0 d0 x0 m0 c0 t0 k0 fnd true opn ++ kw_marks K m0 m1 s0 s1 s2 s3 s4 S0 S1 S2 S3 S4 cnt ++ kw_out K o0 O) (ks_f (some (.int (nI 0))) (kw_store z0 tk0 tv0 gk0 gv0 d0 x0 m0 c0 t0 k0 fnd true opn ++ kw_marks K m0 m1 s0 s1 s2 s3 s4 S0 S1 S2 S3 S4 cnt ++ kw_out K o0 (va_up O 0 ((nI (cnt)).toInt64)))) := by
  refine kh_M.of 1 (by decide) (Nat.le_of_ble_eq_true rfl) ?_
  intro E C Kh Z
  refine ks_aload_n rfl rfl C d_Law_told_0 ?_
  refine ks_iconst (a := 0) rfl C d_Law_told_1 ?_
  refine ks_aload_n rfl rfl C d_Law_told_2 ?_
  refine ks_iload_n rfl rfl C d_Law_told_3 ?_
  refine ks_cxW (ci := 8) (q0 := 0) (kw_store z0 tk0 tv0 gk0 gv0 d0 x0 m0 c0 t0 k0 _ _ _ ++ kw_marks K m0 m1 s0 s1 s2 s3 s4 _ _ _ _ _ _ ++ kw_out K o0 _) (kw_out K o0 _) C (c_Store_told_2 l D K z0 tk0 tv0 gk0 gv0 d0 x0 m0 c0 t0 k0 _ _ m1 s0 s1 s2 s3 s4 _ _ _ _ _ _) yw_Store_told sel_Store_told lk_Law_82 d_Law_told_4 rfl rfl rfl [0, 1, 2, 3, 4, 5, 6, 7] [8] [1, 2, 3, 4, 5, 6, 7, 8, 0] rfl rfl rfl rfl (by decide) rfl rfl rfl rfl rfl ⟨by decide, by decide⟩ ⟨by decide, by decide⟩ rfl (Nat.le_of_ble_eq_true rfl) ?_
  refine ks_i2l C d_Law_told_7 ?_
  refine ks_last (ws' := (kw_store z0 tk0 tv0 gk0 gv0 d0 x0 m0 c0 t0 k0 _ _ _ ++ kw_marks K m0 m1 s0 s1 s2 s3 s4 _ _ _ _ _ _ ++ kw_out K o0 _)) C 8 3 rfl rfl (by omega) (by omega) rfl d_Law_told_8 ?_
  refine ks_goto (tgt := 15) C (by decide) d_Law_told_9 ?_
  refine ks_iconst (a := 0) rfl C d_Law_told_15 ?_
  refine ks_more (cs' := 1) (ss' := 6) (by decide) (by decide) ?_
  exact ks_iret C Z rfl rfl d_Law_told_16 rfl rfl ⟨rfl, rfl⟩
set_option maxRecDepth 100000 in
set_option maxHeartbeats 4000000 in
theorem c_Law_told_3 (l : Launch) (hNT : l.stackTraces = false) (D : va_G) (K : Nat → ClassId) (z0 tk0 tv0 gk0 gv0 d0 x0 m0 c0 t0 k0 : Nat) (fnd opn : Bool) (x1 x2 : Nat) (B : Nat → UInt8) (G : Nat → Bool) (o0 : Nat) (O : Nat → Int64) : kh_M l D (ks_T K) (kt_R 16) y_Law_told b_Law_told 4 (some .int) [(0, 9, 12, 13)] [.ref z0, .int (nI 3), .ref o0] (kw_store z0 tk0 tv0 gk0 gv0 d0 x0 m0 c0 t0 k0 fnd true opn ++ kw_pages K x0 x1 x2 B G ++ kw_out K o0 O) (ks_f (some (.int (nI 0))) (kw_store z0 tk0 tv0 gk0 gv0 d0 x0 m0 c0 t0 k0 fnd true opn ++ kw_pages K x0 x1 x2 B G ++ kw_out K o0 (va_up O 0 ((nI (kv_num B 6)).toInt64)))) := by
  refine kh_M.of 1 (by decide) (Nat.le_of_ble_eq_true rfl) ?_
  intro E C Kh Z
  refine ks_aload_n rfl rfl C d_Law_told_0 ?_
  refine ks_iconst (a := 0) rfl C d_Law_told_1 ?_
  refine ks_aload_n rfl rfl C d_Law_told_2 ?_
  refine ks_iload_n rfl rfl C d_Law_told_3 ?_
  refine ks_cxW (ci := 8) (q0 := 0) (kw_store z0 tk0 tv0 gk0 gv0 d0 x0 m0 c0 t0 k0 _ _ _ ++ kw_pages K x0 x1 x2 _ _ ++ kw_out K o0 _) (kw_out K o0 _) C (c_Store_told_3 l D K z0 tk0 tv0 gk0 gv0 d0 x0 m0 c0 t0 k0 _ _ x1 x2 _ _) yw_Store_told sel_Store_told lk_Law_82 d_Law_told_4 rfl rfl rfl [0, 1, 2, 3] [4] [1, 2, 3, 4, 0] rfl rfl rfl rfl (by decide) rfl rfl rfl rfl rfl ⟨by decide, by decide⟩ ⟨by decide, by decide⟩ rfl (Nat.le_of_ble_eq_true rfl) ?_
  refine ks_i2l C d_Law_told_7 ?_
  refine ks_last (ws' := (kw_store z0 tk0 tv0 gk0 gv0 d0 x0 m0 c0 t0 k0 _ _ _ ++ kw_pages K x0 x1 x2 _ _ ++ kw_out K o0 _)) C 4 3 rfl rfl (by omega) (by omega) rfl d_Law_told_8 ?_
  refine ks_goto (tgt := 15) C (by decide) d_Law_told_9 ?_
  refine ks_iconst (a := 0) rfl C d_Law_told_15 ?_
  refine ks_more (cs' := 1) (ss' := 6) (by decide) (by decide) ?_
  exact ks_iret C Z rfl rfl d_Law_told_16 rfl rfl ⟨rfl, rfl⟩
set_option maxRecDepth 100000 in
set_option maxHeartbeats 4000000 in
theorem c_Law_told_4 (l : Launch) (hNT : l.stackTraces = false) (D : va_G) (K : Nat → ClassId) (z0 tk0 tv0 gk0 gv0 d0 x0 m0 c0 t0 k0 : Nat) (fnd opn : Bool) (x1 x2 : Nat) (B : Nat → UInt8) (G : Nat → Bool) (o0 : Nat) (O : Nat → Int64) : kh_M l D (ks_T K) (kt_R 16) y_Law_told b_Law_told 4 (some .int) [(0, 9, 12, 13)] [.ref z0, .int (nI 4), .ref o0] (kw_store z0 tk0 tv0 gk0 gv0 d0 x0 m0 c0 t0 k0 fnd true opn ++ kw_pages K x0 x1 x2 B G ++ kw_out K o0 O) (ks_f (some (.int (nI 0))) (kw_store z0 tk0 tv0 gk0 gv0 d0 x0 m0 c0 t0 k0 fnd true opn ++ kw_pages K x0 x1 x2 B G ++ kw_out K o0 (va_up O 0 ((nI (kv_num B 8)).toInt64)))) := by
  refine kh_M.of 1 (by decide) (Nat.le_of_ble_eq_true rfl) ?_
  intro E C Kh Z
  refine ks_aload_n rfl rfl C d_Law_told_0 ?_
  refine ks_iconst (a := 0) rfl C d_Law_told_1 ?_
  refine ks_aload_n rfl rfl C d_Law_told_2 ?_
  refine ks_iload_n rfl rfl C d_Law_told_3 ?_
  refine ks_cxW (ci := 8) (q0 := 0) (kw_store z0 tk0 tv0 gk0 gv0 d0 x0 m0 c0 t0 k0 _ _ _ ++ kw_pages K x0 x1 x2 _ _ ++ kw_out K o0 _) (kw_out K o0 _) C (c_Store_told_4 l D K z0 tk0 tv0 gk0 gv0 d0 x0 m0 c0 t0 k0 _ _ x1 x2 _ _) yw_Store_told sel_Store_told lk_Law_82 d_Law_told_4 rfl rfl rfl [0, 1, 2, 3] [4] [1, 2, 3, 4, 0] rfl rfl rfl rfl (by decide) rfl rfl rfl rfl rfl ⟨by decide, by decide⟩ ⟨by decide, by decide⟩ rfl (Nat.le_of_ble_eq_true rfl) ?_
  refine ks_i2l C d_Law_told_7 ?_
  refine ks_last (ws' := (kw_store z0 tk0 tv0 gk0 gv0 d0 x0 m0 c0 t0 k0 _ _ _ ++ kw_pages K x0 x1 x2 _ _ ++ kw_out K o0 _)) C 4 3 rfl rfl (by omega) (by omega) rfl d_Law_told_8 ?_
  refine ks_goto (tgt := 15) C (by decide) d_Law_told_9 ?_
  refine ks_iconst (a := 0) rfl C d_Law_told_15 ?_
  refine ks_more (cs' := 1) (ss' := 6) (by decide) (by decide) ?_
  exact ks_iret C Z rfl rfl d_Law_told_16 rfl rfl ⟨rfl, rfl⟩
set_option maxRecDepth 100000 in
set_option maxHeartbeats 4000000 in
theorem c_Law_told_5 (l : Launch) (hNT : l.stackTraces = false) (D : va_G) (K : Nat → ClassId) (z0 tk0 tv0 gk0 gv0 d0 x0 m0 c0 t0 k0 : Nat) (fnd opn : Bool) (tk1 : Nat) (Kb : Nat → UInt8) (kl : Nat) (o0 : Nat) (O : Nat → Int64) : kh_M l D (ks_T K) (kt_R 16) y_Law_told b_Law_told 4 (some .int) [(0, 9, 12, 13)] [.ref z0, .int (nI 5), .ref o0] (kw_store z0 tk0 tv0 gk0 gv0 d0 x0 m0 c0 t0 k0 fnd true opn ++ kw_row K tk0 tk1 Kb kl ++ kw_out K o0 O) (ks_f (some (.int (nI 0))) (kw_store z0 tk0 tv0 gk0 gv0 d0 x0 m0 c0 t0 k0 fnd true opn ++ kw_row K tk0 tk1 Kb kl ++ kw_out K o0 (va_up O 0 ((nI (kl)).toInt64)))) := by
  refine kh_M.of 1 (by decide) (Nat.le_of_ble_eq_true rfl) ?_
  intro E C Kh Z
  refine ks_aload_n rfl rfl C d_Law_told_0 ?_
  refine ks_iconst (a := 0) rfl C d_Law_told_1 ?_
  refine ks_aload_n rfl rfl C d_Law_told_2 ?_
  refine ks_iload_n rfl rfl C d_Law_told_3 ?_
  refine ks_cxW (ci := 8) (q0 := 0) (kw_store z0 tk0 tv0 gk0 gv0 d0 x0 m0 c0 t0 k0 _ _ _ ++ kw_row K tk0 tk1 _ _ ++ kw_out K o0 _) (kw_out K o0 _) C (c_Store_told_5 l D K z0 tk0 tv0 gk0 gv0 d0 x0 m0 c0 t0 k0 _ _ tk1 _ _) yw_Store_told sel_Store_told lk_Law_82 d_Law_told_4 rfl rfl rfl [0, 1, 2] [3] [1, 2, 3, 0] rfl rfl rfl rfl (by decide) rfl rfl rfl rfl rfl ⟨by decide, by decide⟩ ⟨by decide, by decide⟩ rfl (Nat.le_of_ble_eq_true rfl) ?_
  refine ks_i2l C d_Law_told_7 ?_
  refine ks_last (ws' := (kw_store z0 tk0 tv0 gk0 gv0 d0 x0 m0 c0 t0 k0 _ _ _ ++ kw_row K tk0 tk1 _ _ ++ kw_out K o0 _)) C 3 3 rfl rfl (by omega) (by omega) rfl d_Law_told_8 ?_
  refine ks_goto (tgt := 15) C (by decide) d_Law_told_9 ?_
  refine ks_iconst (a := 0) rfl C d_Law_told_15 ?_
  refine ks_more (cs' := 1) (ss' := 6) (by decide) (by decide) ?_
  exact ks_iret C Z rfl rfl d_Law_told_16 rfl rfl ⟨rfl, rfl⟩
set_option maxRecDepth 100000 in
set_option maxHeartbeats 4000000 in
theorem c_Law_told_6 (l : Launch) (hNT : l.stackTraces = false) (D : va_G) (K : Nat → ClassId) (z0 tk0 tv0 gk0 gv0 d0 x0 m0 c0 t0 k0 : Nat) (fnd opn : Bool) (tv1 : Nat) (Vb : Nat → UInt8) (vl : Nat) (o0 : Nat) (O : Nat → Int64) : kh_M l D (ks_T K) (kt_R 16) y_Law_told b_Law_told 4 (some .int) [(0, 9, 12, 13)] [.ref z0, .int (nI 6), .ref o0] (kw_store z0 tk0 tv0 gk0 gv0 d0 x0 m0 c0 t0 k0 fnd true opn ++ kw_row K tv0 tv1 Vb vl ++ kw_out K o0 O) (ks_f (some (.int (nI 0))) (kw_store z0 tk0 tv0 gk0 gv0 d0 x0 m0 c0 t0 k0 fnd true opn ++ kw_row K tv0 tv1 Vb vl ++ kw_out K o0 (va_up O 0 ((nI (vl)).toInt64)))) := by
  refine kh_M.of 1 (by decide) (Nat.le_of_ble_eq_true rfl) ?_
  intro E C Kh Z
  refine ks_aload_n rfl rfl C d_Law_told_0 ?_
  refine ks_iconst (a := 0) rfl C d_Law_told_1 ?_
  refine ks_aload_n rfl rfl C d_Law_told_2 ?_
  refine ks_iload_n rfl rfl C d_Law_told_3 ?_
  refine ks_cxW (ci := 8) (q0 := 0) (kw_store z0 tk0 tv0 gk0 gv0 d0 x0 m0 c0 t0 k0 _ _ _ ++ kw_row K tv0 tv1 _ _ ++ kw_out K o0 _) (kw_out K o0 _) C (c_Store_told_6 l D K z0 tk0 tv0 gk0 gv0 d0 x0 m0 c0 t0 k0 _ _ tv1 _ _) yw_Store_told sel_Store_told lk_Law_82 d_Law_told_4 rfl rfl rfl [0, 1, 2] [3] [1, 2, 3, 0] rfl rfl rfl rfl (by decide) rfl rfl rfl rfl rfl ⟨by decide, by decide⟩ ⟨by decide, by decide⟩ rfl (Nat.le_of_ble_eq_true rfl) ?_
  refine ks_i2l C d_Law_told_7 ?_
  refine ks_last (ws' := (kw_store z0 tk0 tv0 gk0 gv0 d0 x0 m0 c0 t0 k0 _ _ _ ++ kw_row K tv0 tv1 _ _ ++ kw_out K o0 _)) C 3 3 rfl rfl (by omega) (by omega) rfl d_Law_told_8 ?_
  refine ks_goto (tgt := 15) C (by decide) d_Law_told_9 ?_
  refine ks_iconst (a := 0) rfl C d_Law_told_15 ?_
  refine ks_more (cs' := 1) (ss' := 6) (by decide) (by decide) ?_
  exact ks_iret C Z rfl rfl d_Law_told_16 rfl rfl ⟨rfl, rfl⟩
set_option maxRecDepth 100000 in
set_option maxHeartbeats 4000000 in
theorem c_Law_told_7 (l : Launch) (hNT : l.stackTraces = false) (D : va_G) (K : Nat → ClassId) (z0 tk0 tv0 gk0 gv0 d0 x0 m0 c0 t0 k0 : Nat) (fnd opn : Bool) (gk1 : Nat) (Gb : Nat → UInt8) (gl : Nat) (o0 : Nat) (O : Nat → Int64) : kh_M l D (ks_T K) (kt_R 16) y_Law_told b_Law_told 4 (some .int) [(0, 9, 12, 13)] [.ref z0, .int (nI 7), .ref o0] (kw_store z0 tk0 tv0 gk0 gv0 d0 x0 m0 c0 t0 k0 fnd true opn ++ kw_row K gk0 gk1 Gb gl ++ kw_out K o0 O) (ks_f (some (.int (nI 0))) (kw_store z0 tk0 tv0 gk0 gv0 d0 x0 m0 c0 t0 k0 fnd true opn ++ kw_row K gk0 gk1 Gb gl ++ kw_out K o0 (va_up O 0 ((nI (gl)).toInt64)))) := by
  refine kh_M.of 1 (by decide) (Nat.le_of_ble_eq_true rfl) ?_
  intro E C Kh Z
  refine ks_aload_n rfl rfl C d_Law_told_0 ?_
  refine ks_iconst (a := 0) rfl C d_Law_told_1 ?_
  refine ks_aload_n rfl rfl C d_Law_told_2 ?_
  refine ks_iload_n rfl rfl C d_Law_told_3 ?_
  refine ks_cxW (ci := 8) (q0 := 0) (kw_store z0 tk0 tv0 gk0 gv0 d0 x0 m0 c0 t0 k0 _ _ _ ++ kw_row K gk0 gk1 _ _ ++ kw_out K o0 _) (kw_out K o0 _) C (c_Store_told_7 l D K z0 tk0 tv0 gk0 gv0 d0 x0 m0 c0 t0 k0 _ _ gk1 _ _) yw_Store_told sel_Store_told lk_Law_82 d_Law_told_4 rfl rfl rfl [0, 1, 2] [3] [1, 2, 3, 0] rfl rfl rfl rfl (by decide) rfl rfl rfl rfl rfl ⟨by decide, by decide⟩ ⟨by decide, by decide⟩ rfl (Nat.le_of_ble_eq_true rfl) ?_
  refine ks_i2l C d_Law_told_7 ?_
  refine ks_last (ws' := (kw_store z0 tk0 tv0 gk0 gv0 d0 x0 m0 c0 t0 k0 _ _ _ ++ kw_row K gk0 gk1 _ _ ++ kw_out K o0 _)) C 3 3 rfl rfl (by omega) (by omega) rfl d_Law_told_8 ?_
  refine ks_goto (tgt := 15) C (by decide) d_Law_told_9 ?_
  refine ks_iconst (a := 0) rfl C d_Law_told_15 ?_
  refine ks_more (cs' := 1) (ss' := 6) (by decide) (by decide) ?_
  exact ks_iret C Z rfl rfl d_Law_told_16 rfl rfl ⟨rfl, rfl⟩
set_option maxRecDepth 100000 in
set_option maxHeartbeats 4000000 in
theorem c_Law_told_8 (l : Launch) (hNT : l.stackTraces = false) (D : va_G) (K : Nat → ClassId) (z0 tk0 tv0 gk0 gv0 d0 x0 m0 c0 t0 k0 : Nat) (fnd opn : Bool) (gv1 : Nat) (Eb : Nat → UInt8) (el : Nat) (o0 : Nat) (O : Nat → Int64) : kh_M l D (ks_T K) (kt_R 16) y_Law_told b_Law_told 4 (some .int) [(0, 9, 12, 13)] [.ref z0, .int (nI 8), .ref o0] (kw_store z0 tk0 tv0 gk0 gv0 d0 x0 m0 c0 t0 k0 fnd true opn ++ kw_row K gv0 gv1 Eb el ++ kw_out K o0 O) (ks_f (some (.int (nI 0))) (kw_store z0 tk0 tv0 gk0 gv0 d0 x0 m0 c0 t0 k0 fnd true opn ++ kw_row K gv0 gv1 Eb el ++ kw_out K o0 (va_up O 0 ((nI (el)).toInt64)))) := by
  refine kh_M.of 1 (by decide) (Nat.le_of_ble_eq_true rfl) ?_
  intro E C Kh Z
  refine ks_aload_n rfl rfl C d_Law_told_0 ?_
  refine ks_iconst (a := 0) rfl C d_Law_told_1 ?_
  refine ks_aload_n rfl rfl C d_Law_told_2 ?_
  refine ks_iload_n rfl rfl C d_Law_told_3 ?_
  refine ks_cxW (ci := 8) (q0 := 0) (kw_store z0 tk0 tv0 gk0 gv0 d0 x0 m0 c0 t0 k0 _ _ _ ++ kw_row K gv0 gv1 _ _ ++ kw_out K o0 _) (kw_out K o0 _) C (c_Store_told_8 l D K z0 tk0 tv0 gk0 gv0 d0 x0 m0 c0 t0 k0 _ _ gv1 _ _) yw_Store_told sel_Store_told lk_Law_82 d_Law_told_4 rfl rfl rfl [0, 1, 2] [3] [1, 2, 3, 0] rfl rfl rfl rfl (by decide) rfl rfl rfl rfl rfl ⟨by decide, by decide⟩ ⟨by decide, by decide⟩ rfl (Nat.le_of_ble_eq_true rfl) ?_
  refine ks_i2l C d_Law_told_7 ?_
  refine ks_last (ws' := (kw_store z0 tk0 tv0 gk0 gv0 d0 x0 m0 c0 t0 k0 _ _ _ ++ kw_row K gv0 gv1 _ _ ++ kw_out K o0 _)) C 3 3 rfl rfl (by omega) (by omega) rfl d_Law_told_8 ?_
  refine ks_goto (tgt := 15) C (by decide) d_Law_told_9 ?_
  refine ks_iconst (a := 0) rfl C d_Law_told_15 ?_
  refine ks_more (cs' := 1) (ss' := 6) (by decide) (by decide) ?_
  exact ks_iret C Z rfl rfl d_Law_told_16 rfl rfl ⟨rfl, rfl⟩
set_option maxRecDepth 100000 in
set_option maxHeartbeats 4000000 in
theorem c_Law_told_t (l : Launch) (hNT : l.stackTraces = false) (D : va_G) (K : Nat → ClassId) (z0 tk0 tv0 gk0 gv0 d0 x0 m0 c0 t0 k0 : Nat) (fnd opn : Bool) (t1 t2 n0 n1 x1 x2 pg ca top : Nat) (pn ps P : Nat → Nat) (B : Nat → UInt8) (G : Nat → Bool) (w : Nat) (h1 : 10 ≤ w) (h2 : w ≤ 73) (h3 : kv_has B (w - 10) = true) (o0 : Nat) (O : Nat → Int64) : kh_M l D (ks_T K) (kt_R 16) y_Law_told b_Law_told 4 (some .int) [(0, 9, 12, 13)] [.ref z0, .int (nI w), .ref o0] (kw_store z0 tk0 tv0 gk0 gv0 d0 x0 m0 c0 t0 k0 fnd true opn ++ kw_trees K t0 t1 t2 x0 n0 c0 pn ps top ++ kw_nodes K n0 n1 x0 P ++ kw_chains c0 x0 pg ca ++ kw_pages K x0 x1 x2 B G ++ kw_out K o0 O) (ks_f (some (.int (nI 0))) (kw_store z0 tk0 tv0 gk0 gv0 d0 x0 m0 c0 t0 k0 fnd true opn ++ kw_trees K t0 t1 t2 x0 n0 c0 pn ps top ++ kw_nodes K n0 n1 x0 P ++ kw_chains c0 x0 pg ca ++ kw_pages K x0 x1 x2 B G ++ kw_out K o0 (va_up O 0 ((nI (kv_ents B (w - 10))).toInt64)))) := by
  refine kh_M.of 1 (by decide) (Nat.le_of_ble_eq_true rfl) ?_
  intro E C Kh Z
  refine ks_aload_n rfl rfl C d_Law_told_0 ?_
  refine ks_iconst (a := 0) rfl C d_Law_told_1 ?_
  refine ks_aload_n rfl rfl C d_Law_told_2 ?_
  refine ks_iload_n rfl rfl C d_Law_told_3 ?_
  refine ks_cxW (ci := 8) (q0 := 0) (kw_store z0 tk0 tv0 gk0 gv0 d0 x0 m0 c0 t0 k0 _ _ _ ++ kw_trees K t0 t1 t2 x0 n0 c0 _ _ _ ++ kw_nodes K n0 n1 x0 _ ++ kw_chains c0 x0 _ _ ++ kw_pages K x0 x1 x2 _ _ ++ kw_out K o0 _) (kw_out K o0 _) C (c_Store_told_t l D K z0 tk0 tv0 gk0 gv0 d0 x0 m0 c0 t0 k0 _ _ t1 t2 n0 n1 x1 x2 _ _ _ _ _ _ _ _ _ h1 h2 h3) yw_Store_told sel_Store_told lk_Law_82 d_Law_told_4 rfl rfl rfl [0, 1, 2, 3, 4, 5, 6, 7, 8, 9] [10] [1, 2, 3, 4, 5, 6, 7, 8, 9, 10, 0] rfl rfl rfl rfl (by decide) rfl rfl rfl rfl rfl ⟨by decide, by decide⟩ ⟨by decide, by decide⟩ rfl (Nat.le_of_ble_eq_true rfl) ?_
  refine ks_i2l C d_Law_told_7 ?_
  refine ks_last (ws' := (kw_store z0 tk0 tv0 gk0 gv0 d0 x0 m0 c0 t0 k0 _ _ _ ++ kw_trees K t0 t1 t2 x0 n0 c0 _ _ _ ++ kw_nodes K n0 n1 x0 _ ++ kw_chains c0 x0 _ _ ++ kw_pages K x0 x1 x2 _ _ ++ kw_out K o0 _)) C 10 3 rfl rfl (by omega) (by omega) rfl d_Law_told_8 ?_
  refine ks_goto (tgt := 15) C (by decide) d_Law_told_9 ?_
  refine ks_iconst (a := 0) rfl C d_Law_told_15 ?_
  refine ks_more (cs' := 1) (ss' := 6) (by decide) (by decide) ?_
  exact ks_iret C Z rfl rfl d_Law_told_16 rfl rfl ⟨rfl, rfl⟩
set_option maxRecDepth 100000 in
set_option maxHeartbeats 4000000 in
theorem c_Law_told_n (l : Launch) (hNT : l.stackTraces = false) (D : va_G) (K : Nat → ClassId) (z0 tk0 tv0 gk0 gv0 d0 x0 m0 c0 t0 k0 : Nat) (fnd opn : Bool) (t1 t2 n0 n1 x1 x2 pg ca top : Nat) (pn ps P : Nat → Nat) (B : Nat → UInt8) (G : Nat → Bool) (w : Nat) (h1 : 10 ≤ w) (h2 : w ≤ 73) (h3 : kv_has B (w - 10) = false) (o0 : Nat) (O : Nat → Int64) : kh_M l D (ks_T K) (kt_R 16) y_Law_told b_Law_told 4 (some .int) [(0, 9, 12, 13)] [.ref z0, .int (nI w), .ref o0] (kw_store z0 tk0 tv0 gk0 gv0 d0 x0 m0 c0 t0 k0 fnd true opn ++ kw_trees K t0 t1 t2 x0 n0 c0 pn ps top ++ kw_nodes K n0 n1 x0 P ++ kw_chains c0 x0 pg ca ++ kw_pages K x0 x1 x2 B G ++ kw_out K o0 O) (ks_f (some (.int (nI 0))) (kw_store z0 tk0 tv0 gk0 gv0 d0 x0 m0 c0 t0 k0 fnd true opn ++ kw_trees K t0 t1 t2 x0 n0 c0 pn ps top ++ kw_nodes K n0 n1 x0 P ++ kw_chains c0 x0 pg ca ++ kw_pages K x0 x1 x2 B G ++ kw_out K o0 (va_up O 0 ((nI (4294967295)).toInt64)))) := by
  refine kh_M.of 1 (by decide) (Nat.le_of_ble_eq_true rfl) ?_
  intro E C Kh Z
  refine ks_aload_n rfl rfl C d_Law_told_0 ?_
  refine ks_iconst (a := 0) rfl C d_Law_told_1 ?_
  refine ks_aload_n rfl rfl C d_Law_told_2 ?_
  refine ks_iload_n rfl rfl C d_Law_told_3 ?_
  refine ks_cxW (ci := 8) (q0 := 0) (kw_store z0 tk0 tv0 gk0 gv0 d0 x0 m0 c0 t0 k0 _ _ _ ++ kw_trees K t0 t1 t2 x0 n0 c0 _ _ _ ++ kw_nodes K n0 n1 x0 _ ++ kw_chains c0 x0 _ _ ++ kw_pages K x0 x1 x2 _ _ ++ kw_out K o0 _) (kw_out K o0 _) C (c_Store_told_n l D K z0 tk0 tv0 gk0 gv0 d0 x0 m0 c0 t0 k0 _ _ t1 t2 n0 n1 x1 x2 _ _ _ _ _ _ _ _ _ h1 h2 h3) yw_Store_told sel_Store_told lk_Law_82 d_Law_told_4 rfl rfl rfl [0, 1, 2, 3, 4, 5, 6, 7, 8, 9] [10] [1, 2, 3, 4, 5, 6, 7, 8, 9, 10, 0] rfl rfl rfl rfl (by decide) rfl rfl rfl rfl rfl ⟨by decide, by decide⟩ ⟨by decide, by decide⟩ rfl (Nat.le_of_ble_eq_true rfl) ?_
  refine ks_i2l C d_Law_told_7 ?_
  refine ks_last (ws' := (kw_store z0 tk0 tv0 gk0 gv0 d0 x0 m0 c0 t0 k0 _ _ _ ++ kw_trees K t0 t1 t2 x0 n0 c0 _ _ _ ++ kw_nodes K n0 n1 x0 _ ++ kw_chains c0 x0 _ _ ++ kw_pages K x0 x1 x2 _ _ ++ kw_out K o0 _)) C 10 3 rfl rfl (by omega) (by omega) rfl d_Law_told_8 ?_
  refine ks_goto (tgt := 15) C (by decide) d_Law_told_9 ?_
  refine ks_iconst (a := 0) rfl C d_Law_told_15 ?_
  refine ks_more (cs' := 1) (ss' := 6) (by decide) (by decide) ?_
  exact ks_iret C Z rfl rfl d_Law_told_16 rfl rfl ⟨rfl, rfl⟩
set_option maxRecDepth 100000 in
set_option maxHeartbeats 4000000 in
theorem c_Law_check_T (l : Launch) (hNT : l.stackTraces = false) (D : va_G) (K : Nat → ClassId) (z0 tk0 tv0 gk0 gv0 d0 x0 m0 c0 t0 k0 : Nat) (fnd opn : Bool) (o0 : Nat) (O : Nat → Int64) : kh_M l D (ks_T K) (kt_R 16) y_Law_check b_Law_check 3 (some .int) [(0, 8, 11, 15)] [.ref z0, .ref o0] (kw_store z0 tk0 tv0 gk0 gv0 d0 x0 m0 c0 t0 k0 fnd false opn ++ kw_out K o0 O) (ks_f (some (.int (nI 1))) (kw_store z0 tk0 tv0 gk0 gv0 d0 x0 m0 c0 t0 k0 fnd false opn ++ kw_out K o0 O)) := by
  refine kh_M.of 1 (by decide) (Nat.le_of_ble_eq_true rfl) ?_
  intro E C Kh Z
  refine ks_aload_n rfl rfl C d_Law_check_0 ?_
  refine ks_iconst (a := 0) rfl C d_Law_check_1 ?_
  refine ks_aload_n rfl rfl C d_Law_check_2 ?_
  refine ks_callCW (ci := 8) (q0 := 0) (kw_store z0 tk0 tv0 gk0 gv0 d0 x0 m0 c0 t0 k0 _ _ _ ++ kw_out K o0 _) (kw_out K o0 _) C Kh (c_Store_check_T l hNT D K z0 tk0 tv0 gk0 gv0 d0 x0 m0 c0 t0 k0 _ _) yw_Store_check sel_Store_check lk_Law_85 d_Law_check_3 rfl rfl rfl [0] [1] [1, 0] rfl rfl rfl rfl (by decide) rfl rfl rfl rfl ⟨by decide, by decide⟩ ⟨by decide, by decide⟩ (Nat.le_of_ble_eq_true rfl) [] (0, 8, 11, 15) [] rfl (fun z hz => by cases hz) rfl (by decide) kk_Law_15 kt_cISE (by decide) (fun q => ?_)
  refine ks_astore_n C rfl (by decide) rfl d_Law_check_11 ?_
  refine ks_iconst (a := 1) rfl C d_Law_check_12 ?_
  exact ks_iret C Z rfl rfl d_Law_check_13 rfl rfl ⟨rfl, rfl⟩
set_option maxRecDepth 100000 in
set_option maxHeartbeats 4000000 in
theorem c_Law_check_ok (l : Launch) (hNT : l.stackTraces = false) (D : va_G) (K : Nat → ClassId) (z0 tk0 tv0 gk0 gv0 d0 x0 m0 c0 t0 k0 : Nat) (fnd opn : Bool) (k1 l0 l1 : Nat) (t1 t2 n0 n1 x1 x2 pg ca top : Nat) (pn ps P : Nat → Nat) (B : Nat → UInt8) (G : Nat → Bool) (Cl : Nat → Bool) (cw cen csz : Nat) (Lr : Nat → UInt8) (ll : Nat) (hp : ∀ j, pn j < 65536) (hs : ∀ j, ps j < 65536) (hl : ll ≤ 8448) (hS : (kx_fau B ((Cl, cw), (cen, csz), (Lr, ll), (pn, ps, top), (pg, ca))).2.2.1.2 < 2147483648) (o0 : Nat) (O : Nat → Int64) : kh_M l D (ks_T K) (kt_R 16) y_Law_check b_Law_check 3 (some .int) [(0, 8, 11, 15)] [.ref z0, .ref o0] (kw_store z0 tk0 tv0 gk0 gv0 d0 x0 m0 c0 t0 k0 fnd true opn ++ kw_chk K k0 k1 l0 x0 n0 c0 t0 Cl cw cen csz ++ kw_row K l0 l1 Lr ll ++ kw_trees K t0 t1 t2 x0 n0 c0 pn ps top ++ kw_nodes K n0 n1 x0 P ++ kw_chains c0 x0 pg ca ++ kw_pages K x0 x1 x2 B G ++ kw_out K o0 O) (ks_f (some (.int (nI 0))) (kw_store z0 tk0 tv0 gk0 gv0 d0 x0 m0 c0 t0 k0 fnd true opn ++ kw_chk K k0 k1 l0 x0 n0 c0 t0 (kx_fau B ((Cl, cw), (cen, csz), (Lr, ll), (pn, ps, top), (pg, ca))).2.1.1 (kx_w B (kx_fau B ((Cl, cw), (cen, csz), (Lr, ll), (pn, ps, top), (pg, ca)))) (kx_fau B ((Cl, cw), (cen, csz), (Lr, ll), (pn, ps, top), (pg, ca))).2.2.1.1 (kx_fau B ((Cl, cw), (cen, csz), (Lr, ll), (pn, ps, top), (pg, ca))).2.2.1.2 ++ kw_row K l0 l1 (kx_fau B ((Cl, cw), (cen, csz), (Lr, ll), (pn, ps, top), (pg, ca))).2.2.2.1.1 (kx_fau B ((Cl, cw), (cen, csz), (Lr, ll), (pn, ps, top), (pg, ca))).2.2.2.1.2 ++ kw_trees K t0 t1 t2 x0 n0 c0 (kx_fau B ((Cl, cw), (cen, csz), (Lr, ll), (pn, ps, top), (pg, ca))).2.2.2.2.1.1 (kx_fau B ((Cl, cw), (cen, csz), (Lr, ll), (pn, ps, top), (pg, ca))).2.2.2.2.1.2.1 (kx_fau B ((Cl, cw), (cen, csz), (Lr, ll), (pn, ps, top), (pg, ca))).2.2.2.2.1.2.2 ++ kw_nodes K n0 n1 x0 P ++ kw_chains c0 x0 (kx_fau B ((Cl, cw), (cen, csz), (Lr, ll), (pn, ps, top), (pg, ca))).2.2.2.2.2.1 (kx_fau B ((Cl, cw), (cen, csz), (Lr, ll), (pn, ps, top), (pg, ca))).2.2.2.2.2.2 ++ kw_pages K x0 x1 x2 B G ++ kw_out K o0 (va_up O 0 ((nI (kx_w B (kx_fau B ((Cl, cw), (cen, csz), (Lr, ll), (pn, ps, top), (pg, ca))))).toInt64)))) := by
  refine kh_M.of 1 (by decide) (Nat.le_of_ble_eq_true rfl) ?_
  intro E C Kh Z
  refine ks_aload_n rfl rfl C d_Law_check_0 ?_
  refine ks_iconst (a := 0) rfl C d_Law_check_1 ?_
  refine ks_aload_n rfl rfl C d_Law_check_2 ?_
  refine ks_cxW (ci := 8) (q0 := 0) (kw_store z0 tk0 tv0 gk0 gv0 d0 x0 m0 c0 t0 k0 _ _ _ ++ kw_chk K k0 k1 l0 x0 n0 c0 t0 _ _ _ _ ++ kw_row K l0 l1 _ _ ++ kw_trees K t0 t1 t2 x0 n0 c0 _ _ _ ++ kw_nodes K n0 n1 x0 _ ++ kw_chains c0 x0 _ _ ++ kw_pages K x0 x1 x2 _ _ ++ kw_out K o0 _) (kw_out K o0 _) C (c_Store_check_ok l D K z0 tk0 tv0 gk0 gv0 d0 x0 m0 c0 t0 k0 _ _ k1 l0 l1 t1 t2 n0 n1 x1 x2 _ _ _ _ _ _ _ _ _ _ _ _ _ _ hp hs hl hS) yw_Store_check sel_Store_check lk_Law_85 d_Law_check_3 rfl rfl rfl [0, 1, 2, 3, 4, 5, 6, 7, 8, 9, 10, 11, 12, 13] [14] [1, 2, 3, 4, 5, 6, 7, 8, 9, 10, 11, 12, 13, 14, 0] rfl rfl rfl rfl (by decide) rfl rfl rfl rfl rfl ⟨by decide, by decide⟩ ⟨by decide, by decide⟩ rfl (Nat.le_of_ble_eq_true rfl) ?_
  refine ks_i2l C d_Law_check_6 ?_
  refine ks_last (ws' := (kw_store z0 tk0 tv0 gk0 gv0 d0 x0 m0 c0 t0 k0 _ _ _ ++ kw_chk K k0 k1 l0 x0 n0 c0 t0 _ _ _ _ ++ kw_row K l0 l1 _ _ ++ kw_trees K t0 t1 t2 x0 n0 c0 _ _ _ ++ kw_nodes K n0 n1 x0 _ ++ kw_chains c0 x0 _ _ ++ kw_pages K x0 x1 x2 _ _ ++ kw_out K o0 _)) C 14 3 rfl rfl (by omega) (by omega) rfl d_Law_check_7 ?_
  refine ks_goto (tgt := 14) C (by decide) d_Law_check_8 ?_
  refine ks_iconst (a := 0) rfl C d_Law_check_14 ?_
  refine ks_more (cs' := 1) (ss' := 6) (by decide) (by decide) ?_
  exact ks_iret C Z rfl rfl d_Law_check_15 rfl rfl ⟨rfl, rfl⟩
