/-! the store's calls: transactions, power, what is told, the check -/
set_option maxRecDepth 100000 in
set_option maxHeartbeats 4000000 in
theorem c_Store_begin_T1 (l : Launch) (hNT : l.stackTraces = false) (D : va_G) (K : Nat → ClassId) (z0 tk0 tv0 gk0 gv0 d0 x0 m0 c0 t0 k0 : Nat) (fnd opn : Bool) : kt_M l D (ks_T K) (kt_R 7) y_Store_begin b_Store_begin 1 none [.ref z0] (kw_store z0 tk0 tv0 gk0 gv0 d0 x0 m0 c0 t0 k0 fnd false opn) "java/lang/IllegalStateException" (kw_store z0 tk0 tv0 gk0 gv0 d0 x0 m0 c0 t0 k0 fnd false opn) := by
  refine kt_M.of hNT 0 (by decide) (Nat.le_of_ble_eq_true rfl) ?_
  intro E C Kt Z
  refine ks_aload_n rfl rfl C d_Store_begin_0 ?_
  exact ks_callTW (ci := 8) (q0 := 0) ([] : va_W) C Kt Z (c_Store_demandOn_T l hNT D K z0 tk0 tv0 gk0 gv0 d0 x0 m0 c0 t0 k0 _ _) yw_Store_demandOn sel_Store_demandOn lk_Store_157 d_Store_begin_1 rfl rfl rfl [0] [] [0] rfl rfl rfl rfl (by decide) rfl rfl rfl rfl ⟨by decide, by decide⟩ ⟨by decide, by decide⟩ (Nat.le_of_ble_eq_true rfl) rfl rfl
set_option maxRecDepth 100000 in
set_option maxHeartbeats 4000000 in
theorem c_Store_begin_T2 (l : Launch) (hNT : l.stackTraces = false) (D : va_G) (K : Nat → ClassId) (z0 tk0 tv0 gk0 gv0 d0 x0 m0 c0 t0 k0 : Nat) (fnd : Bool) : kt_M l D (ks_T K) (kt_R 6) y_Store_begin b_Store_begin 1 none [.ref z0] (kw_store z0 tk0 tv0 gk0 gv0 d0 x0 m0 c0 t0 k0 fnd true true) "java/lang/IllegalStateException" (kw_store z0 tk0 tv0 gk0 gv0 d0 x0 m0 c0 t0 k0 fnd true true) := by
  refine kt_M.of hNT 0 (by decide) (Nat.le_of_ble_eq_true rfl) ?_
  intro E C Kt Z
  refine ks_aload_n rfl rfl C d_Store_begin_0 ?_
  refine ks_cvW (ci := 8) (q0 := 0) (kw_store z0 tk0 tv0 gk0 gv0 d0 x0 m0 c0 t0 k0 _ _ _) ([] : va_W) C (c_Store_demandOn_ok l D K z0 tk0 tv0 gk0 gv0 d0 x0 m0 c0 t0 k0 _ _) yw_Store_demandOn sel_Store_demandOn lk_Store_157 d_Store_begin_1 rfl rfl rfl [0] [] [0] rfl rfl rfl rfl (by decide) rfl rfl rfl rfl rfl ⟨by decide, by decide⟩ ⟨by decide, by decide⟩ rfl (Nat.le_of_ble_eq_true rfl) ?_
  refine ks_aload_n rfl rfl C d_Store_begin_4 ?_
  refine ks_get (k := 12) C 0 8 in_Store rfl (by decide) fk_Store_83 rfl rfl rfl d_Store_begin_5 ?_
  refine ks_ifB_eq (tgt := 21) C (by decide) d_Store_begin_8 (fun h => absurd h (by decide)) (fun _ => ?_)
  exact ks_throw (names := kt_n2) C Kt Z (by decide +kernel) (by decide +kernel) (kt_site kt_wISE kt_s183) d_Store_begin_11 d_Store_begin_14 d_Store_begin_15 d_Store_begin_17 d_Store_begin_20 (by decide) (by decide) (by decide) (by decide) rfl rfl rfl
set_option maxRecDepth 100000 in
set_option maxHeartbeats 4000000 in
theorem c_Store_begin_ok (l : Launch) (D : va_G) (K : Nat → ClassId) (z0 tk0 tv0 gk0 gv0 d0 x0 m0 c0 t0 k0 : Nat) (fnd : Bool) : ks_M l D (ks_T K) (ks_R 1) y_Store_begin b_Store_begin 1 none [.ref z0] (kw_store z0 tk0 tv0 gk0 gv0 d0 x0 m0 c0 t0 k0 fnd true false) (ks_f none (kw_store z0 tk0 tv0 gk0 gv0 d0 x0 m0 c0 t0 k0 fnd true true)) := by
  refine ks_M.of 0 (by decide) (Nat.le_of_ble_eq_true rfl) ?_
  intro E C Z
  refine ks_aload_n rfl rfl C d_Store_begin_0 ?_
  refine ks_cvW (ci := 8) (q0 := 0) (kw_store z0 tk0 tv0 gk0 gv0 d0 x0 m0 c0 t0 k0 _ _ _) ([] : va_W) C (c_Store_demandOn_ok l D K z0 tk0 tv0 gk0 gv0 d0 x0 m0 c0 t0 k0 _ _) yw_Store_demandOn sel_Store_demandOn lk_Store_157 d_Store_begin_1 rfl rfl rfl [0] [] [0] rfl rfl rfl rfl (by decide) rfl rfl rfl rfl rfl ⟨by decide, by decide⟩ ⟨by decide, by decide⟩ rfl (Nat.le_of_ble_eq_true rfl) ?_
  refine ks_aload_n rfl rfl C d_Store_begin_4 ?_
  refine ks_get (k := 12) C 0 8 in_Store rfl (by decide) fk_Store_83 rfl rfl rfl d_Store_begin_5 ?_
  refine ks_ifB_eq (tgt := 21) C (by decide) d_Store_begin_8 (fun _ => ?_) (fun h => absurd h (by decide))
  refine ks_aload_n rfl rfl C d_Store_begin_21 ?_
  refine ks_iconstB true rfl C d_Store_begin_22 ?_
  refine ks_put (k := 12) (ws' := (kw_store z0 tk0 tv0 gk0 gv0 d0 x0 m0 c0 t0 k0 _ _ _)) C 0 8 t_Store ty_Store nm_Store in_Store rfl (by decide) fk_Store_83 rfl rfl (ks_nb1 _) (ks_fb1 _) rfl (Nat.le_of_ble_eq_true rfl) rfl d_Store_begin_23 ?_
  exact ks_vret C Z rfl d_Store_begin_26 rfl rfl ⟨rfl, rfl⟩
set_option maxRecDepth 100000 in
set_option maxHeartbeats 4000000 in
theorem c_Store_commit_T1 (l : Launch) (hNT : l.stackTraces = false) (D : va_G) (K : Nat → ClassId) (z0 tk0 tv0 gk0 gv0 d0 x0 m0 c0 t0 k0 : Nat) (fnd opn : Bool) : kt_M l D (ks_T K) (kt_R 7) y_Store_commit b_Store_commit 2 none [.ref z0] (kw_store z0 tk0 tv0 gk0 gv0 d0 x0 m0 c0 t0 k0 fnd false opn) "java/lang/IllegalStateException" (kw_store z0 tk0 tv0 gk0 gv0 d0 x0 m0 c0 t0 k0 fnd false opn) := by
  refine kt_M.of hNT 1 (by decide) (Nat.le_of_ble_eq_true rfl) ?_
  intro E C Kt Z
  refine ks_aload_n rfl rfl C d_Store_commit_0 ?_
  exact ks_callTW (ci := 8) (q0 := 0) ([] : va_W) C Kt Z (c_Store_demandOpen_T1 l hNT D K z0 tk0 tv0 gk0 gv0 d0 x0 m0 c0 t0 k0 _ _) yw_Store_demandOpen sel_Store_demandOpen lk_Store_109 d_Store_commit_1 rfl rfl rfl [0] [] [0] rfl rfl rfl rfl (by decide) rfl rfl rfl rfl ⟨by decide, by decide⟩ ⟨by decide, by decide⟩ (Nat.le_of_ble_eq_true rfl) rfl rfl
set_option maxRecDepth 100000 in
set_option maxHeartbeats 4000000 in
theorem c_Store_commit_T2 (l : Launch) (hNT : l.stackTraces = false) (D : va_G) (K : Nat → ClassId) (z0 tk0 tv0 gk0 gv0 d0 x0 m0 c0 t0 k0 : Nat) (fnd : Bool) : kt_M l D (ks_T K) (kt_R 7) y_Store_commit b_Store_commit 2 none [.ref z0] (kw_store z0 tk0 tv0 gk0 gv0 d0 x0 m0 c0 t0 k0 fnd true false) "java/lang/IllegalStateException" (kw_store z0 tk0 tv0 gk0 gv0 d0 x0 m0 c0 t0 k0 fnd true false) := by
  refine kt_M.of hNT 1 (by decide) (Nat.le_of_ble_eq_true rfl) ?_
  intro E C Kt Z
  refine ks_aload_n rfl rfl C d_Store_commit_0 ?_
  exact ks_callTW (ci := 8) (q0 := 0) ([] : va_W) C Kt Z (c_Store_demandOpen_T2 l hNT D K z0 tk0 tv0 gk0 gv0 d0 x0 m0 c0 t0 k0 _) yw_Store_demandOpen sel_Store_demandOpen lk_Store_109 d_Store_commit_1 rfl rfl rfl [0] [] [0] rfl rfl rfl rfl (by decide) rfl rfl rfl rfl ⟨by decide, by decide⟩ ⟨by decide, by decide⟩ (Nat.le_of_ble_eq_true rfl) rfl rfl
set_option maxRecDepth 100000 in
set_option maxHeartbeats 4000000 in
theorem c_Store_commit_ok (l : Launch) (D : va_G) (K : Nat → ClassId) (z0 tk0 tv0 gk0 gv0 d0 x0 m0 c0 t0 k0 : Nat) (fnd : Bool) (d1 d2 d3 : Nat) (F J Rc : Nat → UInt8) (jl fw fk fb : Nat) (x1 x2 : Nat) (B : Nat → UInt8) (G : Nat → Bool) (m1 s0 s1 s2 s3 s4 : Nat) (S0 S1 S2 S3 S4 : Nat → UInt8) (cnt : Nat) (h1 : (kv_save F J Rc jl fw fk fb B G).1 = true) (h5 : cnt ≤ 5) (h2 : jl ≤ 92480) (hw : fw ≤ 4) (hk : fk ≤ 1000) (hb : fb ≤ 300) : ks_M l D (ks_T K) (ks_R 5) y_Store_commit b_Store_commit 2 none [.ref z0] (kw_store z0 tk0 tv0 gk0 gv0 d0 x0 m0 c0 t0 k0 fnd true true ++ kw_disk K d0 d1 d2 d3 F J Rc jl fw fk fb ++ kw_pages K x0 x1 x2 B G ++ kw_marks K m0 m1 s0 s1 s2 s3 s4 S0 S1 S2 S3 S4 cnt) (ks_f none (kw_store z0 tk0 tv0 gk0 gv0 d0 x0 m0 c0 t0 k0 fnd true false ++ kw_disk K d0 d1 d2 d3 (kv_save F J Rc jl fw fk fb B G).2.1 (kv_soL F G fw fk fb 2720 0 true 0 J jl Rc).2.1 (kv_soL F G fw fk fb 2720 0 true 0 J jl Rc).2.2.2 (kv_save F J Rc jl fw fk fb B G).2.2 fw fk fb ++ kw_pages K x0 x1 x2 B (kv_clr G 2720) ++ kw_marks K m0 m1 s0 s1 s2 s3 s4 S0 S1 S2 S3 S4 0)) := by
  refine ks_M.of 1 (by decide) (Nat.le_of_ble_eq_true rfl) ?_
  intro E C Z
  refine ks_aload_n rfl rfl C d_Store_commit_0 ?_
  refine ks_cvW (ci := 8) (q0 := 0) (kw_store z0 tk0 tv0 gk0 gv0 d0 x0 m0 c0 t0 k0 _ _ _ ++ kw_disk K d0 d1 d2 d3 _ _ _ _ _ _ _ ++ kw_pages K x0 x1 x2 _ _ ++ kw_marks K m0 m1 s0 s1 s2 s3 s4 _ _ _ _ _ _) (kw_disk K d0 d1 d2 d3 _ _ _ _ _ _ _ ++ kw_pages K x0 x1 x2 _ _ ++ kw_marks K m0 m1 s0 s1 s2 s3 s4 _ _ _ _ _ _) C (c_Store_demandOpen_ok l D K z0 tk0 tv0 gk0 gv0 d0 x0 m0 c0 t0 k0 _) yw_Store_demandOpen sel_Store_demandOpen lk_Store_109 d_Store_commit_1 rfl rfl rfl [0] [1, 2, 3, 4, 5, 6, 7, 8, 9, 10, 11, 12, 13, 14] [14, 0, 1, 2, 3, 4, 5, 6, 7, 8, 9, 10, 11, 12, 13] rfl rfl rfl rfl (by decide) rfl rfl rfl rfl rfl ⟨by decide, by decide⟩ ⟨by decide, by decide⟩ rfl (Nat.le_of_ble_eq_true rfl) ?_
  refine ks_aload_n rfl rfl C d_Store_commit_4 ?_
  refine ks_get (k := 4) C 0 8 in_Store rfl (by decide) fk_Store_28 rfl rfl rfl d_Store_commit_5 ?_
  refine ks_aload_n rfl rfl C d_Store_commit_8 ?_
  refine ks_get (k := 5) C 0 8 in_Store rfl (by decide) fk_Store_35 rfl rfl rfl d_Store_commit_9 ?_
  refine ks_cxW (ci := 2) (q0 := 0) (kw_store z0 tk0 tv0 gk0 gv0 d0 x0 m0 c0 t0 k0 _ _ _ ++ kw_disk K d0 d1 d2 d3 _ _ _ _ _ _ _ ++ kw_pages K x0 x1 x2 _ _ ++ kw_marks K m0 m1 s0 s1 s2 s3 s4 _ _ _ _ _ _) (kw_store z0 tk0 tv0 gk0 gv0 d0 x0 m0 c0 t0 k0 _ _ _ ++ kw_marks K m0 m1 s0 s1 s2 s3 s4 _ _ _ _ _ _) C (c_Disk_save l D K d0 d1 d2 d3 _ _ _ _ _ _ _ x0 x1 x2 _ _ (by omega) (by omega) (by omega) (by omega)) yw_Disk_save sel_Disk_save lk_Store_185 d_Store_commit_12 rfl rfl rfl [1, 2, 3, 4, 5, 6, 7] [0, 8, 9, 10, 11, 12, 13, 14] [0, 8, 9, 10, 11, 12, 13, 14, 1, 2, 3, 4, 5, 6, 7] rfl rfl rfl rfl (by decide) rfl rfl rfl rfl rfl ⟨by decide, by decide⟩ ⟨by decide, by decide⟩ rfl (Nat.le_of_ble_eq_true rfl) ?_
  refine ks_istore_n C rfl (by decide) rfl d_Store_commit_15 ?_
  refine ks_aload_n rfl rfl C d_Store_commit_16 ?_
  refine ks_cvW (ci := 8) (q0 := 0) (kw_store z0 tk0 tv0 gk0 gv0 d0 x0 m0 c0 t0 k0 _ _ _ ++ kw_disk K d0 d1 d2 d3 _ _ _ _ _ _ _ ++ kw_pages K x0 x1 x2 _ _ ++ kw_marks K m0 m1 s0 s1 s2 s3 s4 _ _ _ _ _ _) (kw_disk K d0 d1 d2 d3 _ _ _ _ _ _ _ ++ kw_pages K x0 x1 x2 _ _) C (c_Store_endTransaction l D K z0 tk0 tv0 gk0 gv0 d0 x0 m0 c0 t0 k0 _ _ _ m1 s0 s1 s2 s3 s4 _ _ _ _ _ _ (by omega)) yw_Store_endTransaction sel_Store_endTransaction lk_Store_189 d_Store_commit_17 rfl rfl rfl [0, 8, 9, 10, 11, 12, 13, 14] [1, 2, 3, 4, 5, 6, 7] [7, 0, 1, 2, 3, 4, 5, 6, 8, 9, 10, 11, 12, 13, 14] rfl rfl rfl rfl (by decide) rfl rfl rfl rfl rfl ⟨by decide, by decide⟩ ⟨by decide, by decide⟩ rfl (Nat.le_of_ble_eq_true rfl) ?_
  refine ks_iload_n rfl rfl C d_Store_commit_20 ?_
  refine ks_ifB_ne (tgt := 38) C (by decide) d_Store_commit_21 (fun u1 => ?_) (fun u1 => ?_)
  · refine ks_aload_n rfl rfl C d_Store_commit_38 ?_
    refine ks_get (k := 5) C 0 8 in_Store rfl (by decide) fk_Store_35 rfl rfl rfl d_Store_commit_39 ?_
    refine ks_cvW (ci := 1) (q0 := 0) (kw_store z0 tk0 tv0 gk0 gv0 d0 x0 m0 c0 t0 k0 _ _ _ ++ kw_disk K d0 d1 d2 d3 _ _ _ _ _ _ _ ++ kw_pages K x0 x1 x2 _ _ ++ kw_marks K m0 m1 s0 s1 s2 s3 s4 _ _ _ _ _ _) (kw_store z0 tk0 tv0 gk0 gv0 d0 x0 m0 c0 t0 k0 _ _ _ ++ kw_disk K d0 d1 d2 d3 _ _ _ _ _ _ _ ++ kw_marks K m0 m1 s0 s1 s2 s3 s4 _ _ _ _ _ _) C (c_Pages_forgetChanges l D K x0 x1 x2 _ _) yw_Pages_forgetChanges sel_Pages_forgetChanges lk_Store_200 d_Store_commit_42 rfl rfl rfl [5, 6, 7] [0, 1, 2, 3, 4, 8, 9, 10, 11, 12, 13, 14] [0, 1, 2, 3, 4, 12, 13, 14, 5, 6, 7, 8, 9, 10, 11] rfl rfl rfl rfl (by decide) rfl rfl rfl rfl rfl ⟨by decide, by decide⟩ ⟨by decide, by decide⟩ rfl (Nat.le_of_ble_eq_true rfl) ?_
    exact ks_vret C Z rfl d_Store_commit_45 rfl rfl ⟨rfl, rfl⟩
  · exact absurd (h1.symm.trans u1) (by decide)
set_option maxRecDepth 100000 in
set_option maxHeartbeats 4000000 in
theorem c_Store_commit_T3 (l : Launch) (hNT : l.stackTraces = false) (D : va_G) (K : Nat → ClassId) (z0 tk0 tv0 gk0 gv0 d0 x0 m0 c0 t0 k0 : Nat) (fnd : Bool) (tk1 : Nat) (Kb : Nat → UInt8) (kl : Nat) (tv1 : Nat) (Vb : Nat → UInt8) (vl : Nat) (gk1 : Nat) (Gb : Nat → UInt8) (gl : Nat) (gv1 : Nat) (Eb : Nat → UInt8) (el : Nat) (d1 d2 d3 : Nat) (F J Rc : Nat → UInt8) (jl fw fk fb : Nat) (x1 x2 : Nat) (B : Nat → UInt8) (G : Nat → Bool) (m1 s0 s1 s2 s3 s4 : Nat) (S0 S1 S2 S3 S4 : Nat → UInt8) (cnt : Nat) (h1 : (kv_save F J Rc jl fw fk fb B G).1 = false) (h5 : cnt ≤ 5) (h2 : jl ≤ 92480) (hw : fw ≤ 4) (hk : fk ≤ 1000) (hb : fb ≤ 300) : kt_M l D (ks_T K) (kt_R 6) y_Store_commit b_Store_commit 2 none [.ref z0] (kw_store z0 tk0 tv0 gk0 gv0 d0 x0 m0 c0 t0 k0 fnd true true ++ kw_row K tk0 tk1 Kb kl ++ kw_row K tv0 tv1 Vb vl ++ kw_row K gk0 gk1 Gb gl ++ kw_row K gv0 gv1 Eb el ++ kw_disk K d0 d1 d2 d3 F J Rc jl fw fk fb ++ kw_pages K x0 x1 x2 B G ++ kw_marks K m0 m1 s0 s1 s2 s3 s4 S0 S1 S2 S3 S4 cnt) "java/lang/ArithmeticException" (kw_store z0 tk0 tv0 gk0 gv0 d0 x0 m0 c0 t0 k0 false false false ++ kw_row K tk0 tk1 Kb 0 ++ kw_row K tv0 tv1 Vb 0 ++ kw_row K gk0 gk1 Gb 0 ++ kw_row K gv0 gv1 Eb 0 ++ kw_disk K d0 d1 d2 d3 (kv_save F J Rc jl fw fk fb B G).2.1 (kv_soL F G fw fk fb 2720 0 true 0 J jl Rc).2.1 (kv_soL F G fw fk fb 2720 0 true 0 J jl Rc).2.2.2 (kv_save F J Rc jl fw fk fb B G).2.2 fw fk fb ++ kw_pages K x0 x1 x2 B G ++ kw_marks K m0 m1 s0 s1 s2 s3 s4 S0 S1 S2 S3 S4 0) := by
  refine kt_M.of hNT 1 (by decide) (Nat.le_of_ble_eq_true rfl) ?_
  intro E C Kt Z
  refine ks_aload_n rfl rfl C d_Store_commit_0 ?_
  refine ks_cvW (ci := 8) (q0 := 0) (kw_store z0 tk0 tv0 gk0 gv0 d0 x0 m0 c0 t0 k0 _ _ _ ++ kw_row K tk0 tk1 _ _ ++ kw_row K tv0 tv1 _ _ ++ kw_row K gk0 gk1 _ _ ++ kw_row K gv0 gv1 _ _ ++ kw_disk K d0 d1 d2 d3 _ _ _ _ _ _ _ ++ kw_pages K x0 x1 x2 _ _ ++ kw_marks K m0 m1 s0 s1 s2 s3 s4 _ _ _ _ _ _) (kw_row K tk0 tk1 _ _ ++ kw_row K tv0 tv1 _ _ ++ kw_row K gk0 gk1 _ _ ++ kw_row K gv0 gv1 _ _ ++ kw_disk K d0 d1 d2 d3 _ _ _ _ _ _ _ ++ kw_pages K x0 x1 x2 _ _ ++ kw_marks K m0 m1 s0 s1 s2 s3 s4 _ _ _ _ _ _) C (c_Store_demandOpen_ok l D K z0 tk0 tv0 gk0 gv0 d0 x0 m0 c0 t0 k0 _) yw_Store_demandOpen sel_Store_demandOpen lk_Store_109 d_Store_commit_1 rfl rfl rfl [0] [1, 2, 3, 4, 5, 6, 7, 8, 9, 10, 11, 12, 13, 14, 15, 16, 17, 18, 19, 20, 21, 22] [22, 0, 1, 2, 3, 4, 5, 6, 7, 8, 9, 10, 11, 12, 13, 14, 15, 16, 17, 18, 19, 20, 21] rfl rfl rfl rfl (by decide) rfl rfl rfl rfl rfl ⟨by decide, by decide⟩ ⟨by decide, by decide⟩ rfl (Nat.le_of_ble_eq_true rfl) ?_
  refine ks_aload_n rfl rfl C d_Store_commit_4 ?_
  refine ks_get (k := 4) C 0 8 in_Store rfl (by decide) fk_Store_28 rfl rfl rfl d_Store_commit_5 ?_
  refine ks_aload_n rfl rfl C d_Store_commit_8 ?_
  refine ks_get (k := 5) C 0 8 in_Store rfl (by decide) fk_Store_35 rfl rfl rfl d_Store_commit_9 ?_
  refine ks_cxW (ci := 2) (q0 := 0) (kw_store z0 tk0 tv0 gk0 gv0 d0 x0 m0 c0 t0 k0 _ _ _ ++ kw_row K tk0 tk1 _ _ ++ kw_row K tv0 tv1 _ _ ++ kw_row K gk0 gk1 _ _ ++ kw_row K gv0 gv1 _ _ ++ kw_disk K d0 d1 d2 d3 _ _ _ _ _ _ _ ++ kw_pages K x0 x1 x2 _ _ ++ kw_marks K m0 m1 s0 s1 s2 s3 s4 _ _ _ _ _ _) (kw_store z0 tk0 tv0 gk0 gv0 d0 x0 m0 c0 t0 k0 _ _ _ ++ kw_row K tk0 tk1 _ _ ++ kw_row K tv0 tv1 _ _ ++ kw_row K gk0 gk1 _ _ ++ kw_row K gv0 gv1 _ _ ++ kw_marks K m0 m1 s0 s1 s2 s3 s4 _ _ _ _ _ _) C (c_Disk_save l D K d0 d1 d2 d3 _ _ _ _ _ _ _ x0 x1 x2 _ _ (by omega) (by omega) (by omega) (by omega)) yw_Disk_save sel_Disk_save lk_Store_185 d_Store_commit_12 rfl rfl rfl [9, 10, 11, 12, 13, 14, 15] [0, 1, 2, 3, 4, 5, 6, 7, 8, 16, 17, 18, 19, 20, 21, 22] [0, 1, 2, 3, 4, 5, 6, 7, 8, 16, 17, 18, 19, 20, 21, 22, 9, 10, 11, 12, 13, 14, 15] rfl rfl rfl rfl (by decide) rfl rfl rfl rfl rfl ⟨by decide, by decide⟩ ⟨by decide, by decide⟩ rfl (Nat.le_of_ble_eq_true rfl) ?_
  refine ks_istore_n C rfl (by decide) rfl d_Store_commit_15 ?_
  refine ks_aload_n rfl rfl C d_Store_commit_16 ?_
  refine ks_cvW (ci := 8) (q0 := 0) (kw_store z0 tk0 tv0 gk0 gv0 d0 x0 m0 c0 t0 k0 _ _ _ ++ kw_row K tk0 tk1 _ _ ++ kw_row K tv0 tv1 _ _ ++ kw_row K gk0 gk1 _ _ ++ kw_row K gv0 gv1 _ _ ++ kw_disk K d0 d1 d2 d3 _ _ _ _ _ _ _ ++ kw_pages K x0 x1 x2 _ _ ++ kw_marks K m0 m1 s0 s1 s2 s3 s4 _ _ _ _ _ _) (kw_row K tk0 tk1 _ _ ++ kw_row K tv0 tv1 _ _ ++ kw_row K gk0 gk1 _ _ ++ kw_row K gv0 gv1 _ _ ++ kw_disk K d0 d1 d2 d3 _ _ _ _ _ _ _ ++ kw_pages K x0 x1 x2 _ _) C (c_Store_endTransaction l D K z0 tk0 tv0 gk0 gv0 d0 x0 m0 c0 t0 k0 _ _ _ m1 s0 s1 s2 s3 s4 _ _ _ _ _ _ (by omega)) yw_Store_endTransaction sel_Store_endTransaction lk_Store_189 d_Store_commit_17 rfl rfl rfl [0, 16, 17, 18, 19, 20, 21, 22] [1, 2, 3, 4, 5, 6, 7, 8, 9, 10, 11, 12, 13, 14, 15] [15, 0, 1, 2, 3, 4, 5, 6, 7, 8, 9, 10, 11, 12, 13, 14, 16, 17, 18, 19, 20, 21, 22] rfl rfl rfl rfl (by decide) rfl rfl rfl rfl rfl ⟨by decide, by decide⟩ ⟨by decide, by decide⟩ rfl (Nat.le_of_ble_eq_true rfl) ?_
  refine ks_iload_n rfl rfl C d_Store_commit_20 ?_
  refine ks_ifB_ne (tgt := 38) C (by decide) d_Store_commit_21 (fun u1 => ?_) (fun u1 => ?_)
  · exact absurd (h1.symm.trans u1) (by decide)
  · refine ks_aload_n rfl rfl C d_Store_commit_24 ?_
    refine ks_cvW (ci := 8) (q0 := 0) (kw_store z0 tk0 tv0 gk0 gv0 d0 x0 m0 c0 t0 k0 _ _ _ ++ kw_row K tk0 tk1 _ _ ++ kw_row K tv0 tv1 _ _ ++ kw_row K gk0 gk1 _ _ ++ kw_row K gv0 gv1 _ _ ++ kw_disk K d0 d1 d2 d3 _ _ _ _ _ _ _ ++ kw_pages K x0 x1 x2 _ _ ++ kw_marks K m0 m1 s0 s1 s2 s3 s4 _ _ _ _ _ _) (kw_disk K d0 d1 d2 d3 _ _ _ _ _ _ _ ++ kw_pages K x0 x1 x2 _ _) C (c_Store_losePower l D K z0 tk0 tv0 gk0 gv0 d0 x0 m0 c0 t0 k0 _ _ _ tk1 _ _ tv1 _ _ gk1 _ _ gv1 _ _ m1 s0 s1 s2 s3 s4 _ _ _ _ _ _ (by omega)) yw_Store_losePower sel_Store_losePower lk_Store_192 d_Store_commit_25 rfl rfl rfl [0, 1, 2, 3, 4, 5, 6, 7, 8, 16, 17, 18, 19, 20, 21, 22] [9, 10, 11, 12, 13, 14, 15] [7, 8, 9, 10, 11, 12, 13, 14, 15, 0, 1, 2, 3, 4, 5, 6, 16, 17, 18, 19, 20, 21, 22] rfl rfl rfl rfl (by decide) rfl rfl rfl rfl rfl ⟨by decide, by decide⟩ ⟨by decide, by decide⟩ rfl (Nat.le_of_ble_eq_true rfl) ?_
    exact ks_throw (names := kt_n2) C Kt Z (by decide +kernel) (by decide +kernel) (kt_site kt_wAE kt_s197) d_Store_commit_28 d_Store_commit_31 d_Store_commit_32 d_Store_commit_34 d_Store_commit_37 (by decide) (by decide) (by decide) (by decide) rfl rfl rfl
set_option maxRecDepth 100000 in
set_option maxHeartbeats 4000000 in
theorem c_Store_rollback_T1 (l : Launch) (hNT : l.stackTraces = false) (D : va_G) (K : Nat → ClassId) (z0 tk0 tv0 gk0 gv0 d0 x0 m0 c0 t0 k0 : Nat) (fnd opn : Bool) : kt_M l D (ks_T K) (kt_R 7) y_Store_rollback b_Store_rollback 1 none [.ref z0] (kw_store z0 tk0 tv0 gk0 gv0 d0 x0 m0 c0 t0 k0 fnd false opn) "java/lang/IllegalStateException" (kw_store z0 tk0 tv0 gk0 gv0 d0 x0 m0 c0 t0 k0 fnd false opn) := by
  refine kt_M.of hNT 0 (by decide) (Nat.le_of_ble_eq_true rfl) ?_
  intro E C Kt Z
  refine ks_aload_n rfl rfl C d_Store_rollback_0 ?_
  exact ks_callTW (ci := 8) (q0 := 0) ([] : va_W) C Kt Z (c_Store_demandOpen_T1 l hNT D K z0 tk0 tv0 gk0 gv0 d0 x0 m0 c0 t0 k0 _ _) yw_Store_demandOpen sel_Store_demandOpen lk_Store_109 d_Store_rollback_1 rfl rfl rfl [0] [] [0] rfl rfl rfl rfl (by decide) rfl rfl rfl rfl ⟨by decide, by decide⟩ ⟨by decide, by decide⟩ (Nat.le_of_ble_eq_true rfl) rfl rfl
set_option maxRecDepth 100000 in
set_option maxHeartbeats 4000000 in
theorem c_Store_rollback_T2 (l : Launch) (hNT : l.stackTraces = false) (D : va_G) (K : Nat → ClassId) (z0 tk0 tv0 gk0 gv0 d0 x0 m0 c0 t0 k0 : Nat) (fnd : Bool) : kt_M l D (ks_T K) (kt_R 7) y_Store_rollback b_Store_rollback 1 none [.ref z0] (kw_store z0 tk0 tv0 gk0 gv0 d0 x0 m0 c0 t0 k0 fnd true false) "java/lang/IllegalStateException" (kw_store z0 tk0 tv0 gk0 gv0 d0 x0 m0 c0 t0 k0 fnd true false) := by
  refine kt_M.of hNT 0 (by decide) (Nat.le_of_ble_eq_true rfl) ?_
  intro E C Kt Z
  refine ks_aload_n rfl rfl C d_Store_rollback_0 ?_
  exact ks_callTW (ci := 8) (q0 := 0) ([] : va_W) C Kt Z (c_Store_demandOpen_T2 l hNT D K z0 tk0 tv0 gk0 gv0 d0 x0 m0 c0 t0 k0 _) yw_Store_demandOpen sel_Store_demandOpen lk_Store_109 d_Store_rollback_1 rfl rfl rfl [0] [] [0] rfl rfl rfl rfl (by decide) rfl rfl rfl rfl ⟨by decide, by decide⟩ ⟨by decide, by decide⟩ (Nat.le_of_ble_eq_true rfl) rfl rfl
set_option maxRecDepth 100000 in
set_option maxHeartbeats 4000000 in
theorem c_Store_rollback_ok (l : Launch) (D : va_G) (K : Nat → ClassId) (z0 tk0 tv0 gk0 gv0 d0 x0 m0 c0 t0 k0 : Nat) (fnd : Bool) (d1 d2 d3 : Nat) (F J Rc : Nat → UInt8) (jl fw fk fb : Nat) (x1 x2 : Nat) (B : Nat → UInt8) (G : Nat → Bool) (m1 s0 s1 s2 s3 s4 : Nat) (S0 S1 S2 S3 S4 : Nat → UInt8) (cnt : Nat) (h5 : cnt ≤ 5) : ks_M l D (ks_T K) (ks_R 3) y_Store_rollback b_Store_rollback 1 none [.ref z0] (kw_store z0 tk0 tv0 gk0 gv0 d0 x0 m0 c0 t0 k0 fnd true true ++ kw_disk K d0 d1 d2 d3 F J Rc jl fw fk fb ++ kw_pages K x0 x1 x2 B G ++ kw_marks K m0 m1 s0 s1 s2 s3 s4 S0 S1 S2 S3 S4 cnt) (ks_f none (kw_store z0 tk0 tv0 gk0 gv0 d0 x0 m0 c0 t0 k0 fnd true false ++ kw_disk K d0 d1 d2 d3 F J Rc jl fw fk fb ++ kw_pages K x0 x1 x2 (kv_undo B G F 2720) (kv_clr G 2720) ++ kw_marks K m0 m1 s0 s1 s2 s3 s4 S0 S1 S2 S3 S4 0)) := by
  refine ks_M.of 0 (by decide) (Nat.le_of_ble_eq_true rfl) ?_
  intro E C Z
  refine ks_aload_n rfl rfl C d_Store_rollback_0 ?_
  refine ks_cvW (ci := 8) (q0 := 0) (kw_store z0 tk0 tv0 gk0 gv0 d0 x0 m0 c0 t0 k0 _ _ _ ++ kw_disk K d0 d1 d2 d3 _ _ _ _ _ _ _ ++ kw_pages K x0 x1 x2 _ _ ++ kw_marks K m0 m1 s0 s1 s2 s3 s4 _ _ _ _ _ _) (kw_disk K d0 d1 d2 d3 _ _ _ _ _ _ _ ++ kw_pages K x0 x1 x2 _ _ ++ kw_marks K m0 m1 s0 s1 s2 s3 s4 _ _ _ _ _ _) C (c_Store_demandOpen_ok l D K z0 tk0 tv0 gk0 gv0 d0 x0 m0 c0 t0 k0 _) yw_Store_demandOpen sel_Store_demandOpen lk_Store_109 d_Store_rollback_1 rfl rfl rfl [0] [1, 2, 3, 4, 5, 6, 7, 8, 9, 10, 11, 12, 13, 14] [14, 0, 1, 2, 3, 4, 5, 6, 7, 8, 9, 10, 11, 12, 13] rfl rfl rfl rfl (by decide) rfl rfl rfl rfl rfl ⟨by decide, by decide⟩ ⟨by decide, by decide⟩ rfl (Nat.le_of_ble_eq_true rfl) ?_
  refine ks_aload_n rfl rfl C d_Store_rollback_4 ?_
  refine ks_get (k := 4) C 0 8 in_Store rfl (by decide) fk_Store_28 rfl rfl rfl d_Store_rollback_5 ?_
  refine ks_aload_n rfl rfl C d_Store_rollback_8 ?_
  refine ks_get (k := 5) C 0 8 in_Store rfl (by decide) fk_Store_35 rfl rfl rfl d_Store_rollback_9 ?_
  refine ks_cvW (ci := 2) (q0 := 0) (kw_store z0 tk0 tv0 gk0 gv0 d0 x0 m0 c0 t0 k0 _ _ _ ++ kw_disk K d0 d1 d2 d3 _ _ _ _ _ _ _ ++ kw_pages K x0 x1 x2 _ _ ++ kw_marks K m0 m1 s0 s1 s2 s3 s4 _ _ _ _ _ _) (kw_store z0 tk0 tv0 gk0 gv0 d0 x0 m0 c0 t0 k0 _ _ _ ++ kw_marks K m0 m1 s0 s1 s2 s3 s4 _ _ _ _ _ _) C (c_Disk_undo l D K d0 d1 d2 d3 _ _ _ _ _ _ _ x0 x1 x2 _ _) yw_Disk_undo sel_Disk_undo lk_Store_203 d_Store_rollback_12 rfl rfl rfl [1, 2, 3, 4, 5, 6, 7] [0, 8, 9, 10, 11, 12, 13, 14] [0, 8, 9, 10, 11, 12, 13, 14, 1, 2, 3, 4, 5, 6, 7] rfl rfl rfl rfl (by decide) rfl rfl rfl rfl rfl ⟨by decide, by decide⟩ ⟨by decide, by decide⟩ rfl (Nat.le_of_ble_eq_true rfl) ?_
  refine ks_aload_n rfl rfl C d_Store_rollback_15 ?_
  refine ks_cvW (ci := 8) (q0 := 0) (kw_store z0 tk0 tv0 gk0 gv0 d0 x0 m0 c0 t0 k0 _ _ _ ++ kw_disk K d0 d1 d2 d3 _ _ _ _ _ _ _ ++ kw_pages K x0 x1 x2 _ _ ++ kw_marks K m0 m1 s0 s1 s2 s3 s4 _ _ _ _ _ _) (kw_disk K d0 d1 d2 d3 _ _ _ _ _ _ _ ++ kw_pages K x0 x1 x2 _ _) C (c_Store_endTransaction l D K z0 tk0 tv0 gk0 gv0 d0 x0 m0 c0 t0 k0 _ _ _ m1 s0 s1 s2 s3 s4 _ _ _ _ _ _ (by omega)) yw_Store_endTransaction sel_Store_endTransaction lk_Store_189 d_Store_rollback_16 rfl rfl rfl [0, 8, 9, 10, 11, 12, 13, 14] [1, 2, 3, 4, 5, 6, 7] [7, 0, 1, 2, 3, 4, 5, 6, 8, 9, 10, 11, 12, 13, 14] rfl rfl rfl rfl (by decide) rfl rfl rfl rfl rfl ⟨by decide, by decide⟩ ⟨by decide, by decide⟩ rfl (Nat.le_of_ble_eq_true rfl) ?_
  exact ks_vret C Z rfl d_Store_rollback_19 rfl rfl ⟨rfl, rfl⟩
set_option maxRecDepth 100000 in
set_option maxHeartbeats 4000000 in
theorem c_Store_mark_T1 (l : Launch) (hNT : l.stackTraces = false) (D : va_G) (K : Nat → ClassId) (z0 tk0 tv0 gk0 gv0 d0 x0 m0 c0 t0 k0 : Nat) (fnd opn : Bool) : kt_M l D (ks_T K) (kt_R 7) y_Store_mark b_Store_mark 1 (some .int) [.ref z0] (kw_store z0 tk0 tv0 gk0 gv0 d0 x0 m0 c0 t0 k0 fnd false opn) "java/lang/IllegalStateException" (kw_store z0 tk0 tv0 gk0 gv0 d0 x0 m0 c0 t0 k0 fnd false opn) := by
  refine kt_M.of hNT 0 (by decide) (Nat.le_of_ble_eq_true rfl) ?_
  intro E C Kt Z
  refine ks_aload_n rfl rfl C d_Store_mark_0 ?_
  exact ks_callTW (ci := 8) (q0 := 0) ([] : va_W) C Kt Z (c_Store_demandOpen_T1 l hNT D K z0 tk0 tv0 gk0 gv0 d0 x0 m0 c0 t0 k0 _ _) yw_Store_demandOpen sel_Store_demandOpen lk_Store_109 d_Store_mark_1 rfl rfl rfl [0] [] [0] rfl rfl rfl rfl (by decide) rfl rfl rfl rfl ⟨by decide, by decide⟩ ⟨by decide, by decide⟩ (Nat.le_of_ble_eq_true rfl) rfl rfl
set_option maxRecDepth 100000 in
set_option maxHeartbeats 4000000 in
theorem c_Store_mark_T2 (l : Launch) (hNT : l.stackTraces = false) (D : va_G) (K : Nat → ClassId) (z0 tk0 tv0 gk0 gv0 d0 x0 m0 c0 t0 k0 : Nat) (fnd : Bool) : kt_M l D (ks_T K) (kt_R 7) y_Store_mark b_Store_mark 1 (some .int) [.ref z0] (kw_store z0 tk0 tv0 gk0 gv0 d0 x0 m0 c0 t0 k0 fnd true false) "java/lang/IllegalStateException" (kw_store z0 tk0 tv0 gk0 gv0 d0 x0 m0 c0 t0 k0 fnd true false) := by
  refine kt_M.of hNT 0 (by decide) (Nat.le_of_ble_eq_true rfl) ?_
  intro E C Kt Z
  refine ks_aload_n rfl rfl C d_Store_mark_0 ?_
  exact ks_callTW (ci := 8) (q0 := 0) ([] : va_W) C Kt Z (c_Store_demandOpen_T2 l hNT D K z0 tk0 tv0 gk0 gv0 d0 x0 m0 c0 t0 k0 _) yw_Store_demandOpen sel_Store_demandOpen lk_Store_109 d_Store_mark_1 rfl rfl rfl [0] [] [0] rfl rfl rfl rfl (by decide) rfl rfl rfl rfl ⟨by decide, by decide⟩ ⟨by decide, by decide⟩ (Nat.le_of_ble_eq_true rfl) rfl rfl
set_option maxRecDepth 100000 in
set_option maxHeartbeats 4000000 in
theorem c_Store_mark_T3 (l : Launch) (hNT : l.stackTraces = false) (D : va_G) (K : Nat → ClassId) (z0 tk0 tv0 gk0 gv0 d0 x0 m0 c0 t0 k0 : Nat) (fnd : Bool) (m1 s0 s1 s2 s3 s4 : Nat) (S0 S1 S2 S3 S4 : Nat → UInt8) (cnt : Nat) (h1 : cnt = 5) : kt_M l D (ks_T K) (kt_R 6) y_Store_mark b_Store_mark 1 (some .int) [.ref z0] (kw_store z0 tk0 tv0 gk0 gv0 d0 x0 m0 c0 t0 k0 fnd true true ++ kw_marks K m0 m1 s0 s1 s2 s3 s4 S0 S1 S2 S3 S4 cnt) "java/lang/IllegalStateException" (kw_store z0 tk0 tv0 gk0 gv0 d0 x0 m0 c0 t0 k0 fnd true true ++ kw_marks K m0 m1 s0 s1 s2 s3 s4 S0 S1 S2 S3 S4 cnt) := by
  refine kt_M.of hNT 0 (by decide) (Nat.le_of_ble_eq_true rfl) ?_
  intro E C Kt Z
  refine ks_aload_n rfl rfl C d_Store_mark_0 ?_
  refine ks_cvW (ci := 8) (q0 := 0) (kw_store z0 tk0 tv0 gk0 gv0 d0 x0 m0 c0 t0 k0 _ _ _ ++ kw_marks K m0 m1 s0 s1 s2 s3 s4 _ _ _ _ _ _) (kw_marks K m0 m1 s0 s1 s2 s3 s4 _ _ _ _ _ _) C (c_Store_demandOpen_ok l D K z0 tk0 tv0 gk0 gv0 d0 x0 m0 c0 t0 k0 _) yw_Store_demandOpen sel_Store_demandOpen lk_Store_109 d_Store_mark_1 rfl rfl rfl [0] [1, 2, 3, 4, 5, 6, 7] [7, 0, 1, 2, 3, 4, 5, 6] rfl rfl rfl rfl (by decide) rfl rfl rfl rfl rfl ⟨by decide, by decide⟩ ⟨by decide, by decide⟩ rfl (Nat.le_of_ble_eq_true rfl) ?_
  refine ks_aload_n rfl rfl C d_Store_mark_4 ?_
  refine ks_get (k := 6) C 0 8 in_Store rfl (by decide) fk_Store_42 rfl rfl rfl d_Store_mark_5 ?_
  refine ks_cxW (ci := 3) (q0 := 0) (kw_store z0 tk0 tv0 gk0 gv0 d0 x0 m0 c0 t0 k0 _ _ _ ++ kw_marks K m0 m1 s0 s1 s2 s3 s4 _ _ _ _ _ _) (kw_store z0 tk0 tv0 gk0 gv0 d0 x0 m0 c0 t0 k0 _ _ _) C (c_Marks_count l D K m0 m1 s0 s1 s2 s3 s4 _ _ _ _ _ _) yw_Marks_count sel_Marks_count lk_Store_206 d_Store_mark_8 rfl rfl rfl [1, 2, 3, 4, 5, 6, 7] [0] [0, 1, 2, 3, 4, 5, 6, 7] rfl rfl rfl rfl (by decide) rfl rfl rfl rfl rfl ⟨by decide, by decide⟩ ⟨by decide, by decide⟩ rfl (Nat.le_of_ble_eq_true rfl) ?_
  refine ks_iconst (a := 5) rfl C d_Store_mark_11 ?_
  refine ks_icmp_ne (tgt := 25) C (by omega) (by omega) (by decide) d_Store_mark_12 (fun u1 => ?_) (fun u1 => ?_)
  · exact (by omega : False).elim
  · exact ks_throw (names := kt_n2) C Kt Z (by decide +kernel) (by decide +kernel) (kt_site kt_wISE kt_s209) d_Store_mark_15 d_Store_mark_18 d_Store_mark_19 d_Store_mark_21 d_Store_mark_24 (by decide) (by decide) (by decide) (by decide) rfl rfl rfl
set_option maxRecDepth 100000 in
set_option maxHeartbeats 4000000 in
theorem c_Store_mark_0 (l : Launch) (D : va_G) (K : Nat → ClassId) (z0 tk0 tv0 gk0 gv0 d0 x0 m0 c0 t0 k0 : Nat) (fnd : Bool) (m1 s0 s1 s2 s3 s4 : Nat) (S0 S1 S2 S3 S4 : Nat → UInt8) (x1 x2 : Nat) (B : Nat → UInt8) (G : Nat → Bool) : ks_M l D (ks_T K) (ks_R 4) y_Store_mark b_Store_mark 1 (some .int) [.ref z0] (kw_store z0 tk0 tv0 gk0 gv0 d0 x0 m0 c0 t0 k0 fnd true true ++ kw_marks K m0 m1 s0 s1 s2 s3 s4 S0 S1 S2 S3 S4 0 ++ kw_pages K x0 x1 x2 B G) (ks_f (some (.int (nI 1))) (kw_store z0 tk0 tv0 gk0 gv0 d0 x0 m0 c0 t0 k0 fnd true true ++ kw_marks K m0 m1 s0 s1 s2 s3 s4 (va_cpy B S0 0 0 (288 + kv_used B * 32)) S1 S2 S3 S4 1 ++ kw_pages K x0 x1 x2 B G)) := by
  refine ks_M.of 0 (by decide) (Nat.le_of_ble_eq_true rfl) ?_
  intro E C Z
  refine ks_aload_n rfl rfl C d_Store_mark_0 ?_
  refine ks_cvW (ci := 8) (q0 := 0) (kw_store z0 tk0 tv0 gk0 gv0 d0 x0 m0 c0 t0 k0 _ _ _ ++ kw_marks K m0 m1 s0 s1 s2 s3 s4 _ _ _ _ _ _ ++ kw_pages K x0 x1 x2 _ _) (kw_marks K m0 m1 s0 s1 s2 s3 s4 _ _ _ _ _ _ ++ kw_pages K x0 x1 x2 _ _) C (c_Store_demandOpen_ok l D K z0 tk0 tv0 gk0 gv0 d0 x0 m0 c0 t0 k0 _) yw_Store_demandOpen sel_Store_demandOpen lk_Store_109 d_Store_mark_1 rfl rfl rfl [0] [1, 2, 3, 4, 5, 6, 7, 8, 9, 10] [10, 0, 1, 2, 3, 4, 5, 6, 7, 8, 9] rfl rfl rfl rfl (by decide) rfl rfl rfl rfl rfl ⟨by decide, by decide⟩ ⟨by decide, by decide⟩ rfl (Nat.le_of_ble_eq_true rfl) ?_
  refine ks_aload_n rfl rfl C d_Store_mark_4 ?_
  refine ks_get (k := 6) C 0 8 in_Store rfl (by decide) fk_Store_42 rfl rfl rfl d_Store_mark_5 ?_
  refine ks_cxW (ci := 3) (q0 := 0) (kw_store z0 tk0 tv0 gk0 gv0 d0 x0 m0 c0 t0 k0 _ _ _ ++ kw_marks K m0 m1 s0 s1 s2 s3 s4 _ _ _ _ _ _ ++ kw_pages K x0 x1 x2 _ _) (kw_store z0 tk0 tv0 gk0 gv0 d0 x0 m0 c0 t0 k0 _ _ _ ++ kw_pages K x0 x1 x2 _ _) C (c_Marks_count l D K m0 m1 s0 s1 s2 s3 s4 _ _ _ _ _ _) yw_Marks_count sel_Marks_count lk_Store_206 d_Store_mark_8 rfl rfl rfl [1, 2, 3, 4, 5, 6, 7] [0, 8, 9, 10] [0, 4, 5, 6, 7, 8, 9, 10, 1, 2, 3] rfl rfl rfl rfl (by decide) rfl rfl rfl rfl rfl ⟨by decide, by decide⟩ ⟨by decide, by decide⟩ rfl (Nat.le_of_ble_eq_true rfl) ?_
  refine ks_iconst (a := 5) rfl C d_Store_mark_11 ?_
  refine ks_icmp_ne (tgt := 25) C (by omega) (by omega) (by decide) d_Store_mark_12 (fun u1 => ?_) (fun u1 => ?_)
  · refine ks_aload_n rfl rfl C d_Store_mark_25 ?_
    refine ks_get (k := 6) C 0 8 in_Store rfl (by decide) fk_Store_42 rfl rfl rfl d_Store_mark_26 ?_
    refine ks_aload_n rfl rfl C d_Store_mark_29 ?_
    refine ks_get (k := 5) C 0 8 in_Store rfl (by decide) fk_Store_35 rfl rfl rfl d_Store_mark_30 ?_
    refine ks_cvW (ci := 3) (q0 := 0) (kw_store z0 tk0 tv0 gk0 gv0 d0 x0 m0 c0 t0 k0 _ _ _ ++ kw_marks K m0 m1 s0 s1 s2 s3 s4 _ _ _ _ _ _ ++ kw_pages K x0 x1 x2 _ _) (kw_store z0 tk0 tv0 gk0 gv0 d0 x0 m0 c0 t0 k0 _ _ _) C (c_Marks_add_0 l D K m0 m1 s0 s1 s2 s3 s4 _ _ _ _ _ x0 x1 x2 _ _) yw_Marks_add sel_Marks_add lk_Store_211 d_Store_mark_33 rfl rfl rfl [1, 2, 3, 4, 5, 6, 7, 8, 9, 10] [0] [0, 1, 2, 3, 4, 5, 6, 7, 8, 9, 10] rfl rfl rfl rfl (by decide) rfl rfl rfl rfl rfl ⟨by decide, by decide⟩ ⟨by decide, by decide⟩ rfl (Nat.le_of_ble_eq_true rfl) ?_
    refine ks_aload_n rfl rfl C d_Store_mark_36 ?_
    refine ks_get (k := 6) C 0 8 in_Store rfl (by decide) fk_Store_42 rfl rfl rfl d_Store_mark_37 ?_
    refine ks_cxW (ci := 3) (q0 := 0) (kw_store z0 tk0 tv0 gk0 gv0 d0 x0 m0 c0 t0 k0 _ _ _ ++ kw_marks K m0 m1 s0 s1 s2 s3 s4 _ _ _ _ _ _ ++ kw_pages K x0 x1 x2 _ _) (kw_store z0 tk0 tv0 gk0 gv0 d0 x0 m0 c0 t0 k0 _ _ _ ++ kw_pages K x0 x1 x2 _ _) C (c_Marks_count l D K m0 m1 s0 s1 s2 s3 s4 _ _ _ _ _ _) yw_Marks_count sel_Marks_count lk_Store_206 d_Store_mark_40 rfl rfl rfl [1, 2, 3, 4, 5, 6, 7] [0, 8, 9, 10] [0, 4, 5, 6, 7, 8, 9, 10, 1, 2, 3] rfl rfl rfl rfl (by decide) rfl rfl rfl rfl rfl ⟨by decide, by decide⟩ ⟨by decide, by decide⟩ rfl (Nat.le_of_ble_eq_true rfl) ?_
    exact ks_iret C Z rfl rfl d_Store_mark_43 rfl rfl ⟨rfl, rfl⟩
  · exact (by omega : False).elim
set_option maxRecDepth 100000 in
set_option maxHeartbeats 4000000 in
theorem c_Store_mark_1 (l : Launch) (D : va_G) (K : Nat → ClassId) (z0 tk0 tv0 gk0 gv0 d0 x0 m0 c0 t0 k0 : Nat) (fnd : Bool) (m1 s0 s1 s2 s3 s4 : Nat) (S0 S1 S2 S3 S4 : Nat → UInt8) (x1 x2 : Nat) (B : Nat → UInt8) (G : Nat → Bool) : ks_M l D (ks_T K) (ks_R 4) y_Store_mark b_Store_mark 1 (some .int) [.ref z0] (kw_store z0 tk0 tv0 gk0 gv0 d0 x0 m0 c0 t0 k0 fnd true true ++ kw_marks K m0 m1 s0 s1 s2 s3 s4 S0 S1 S2 S3 S4 1 ++ kw_pages K x0 x1 x2 B G) (ks_f (some (.int (nI 2))) (kw_store z0 tk0 tv0 gk0 gv0 d0 x0 m0 c0 t0 k0 fnd true true ++ kw_marks K m0 m1 s0 s1 s2 s3 s4 S0 (va_cpy B S1 0 0 (288 + kv_used B * 32)) S2 S3 S4 2 ++ kw_pages K x0 x1 x2 B G)) := by
  refine ks_M.of 0 (by decide) (Nat.le_of_ble_eq_true rfl) ?_
  intro E C Z
  refine ks_aload_n rfl rfl C d_Store_mark_0 ?_
  refine ks_cvW (ci := 8) (q0 := 0) (kw_store z0 tk0 tv0 gk0 gv0 d0 x0 m0 c0 t0 k0 _ _ _ ++ kw_marks K m0 m1 s0 s1 s2 s3 s4 _ _ _ _ _ _ ++ kw_pages K x0 x1 x2 _ _) (kw_marks K m0 m1 s0 s1 s2 s3 s4 _ _ _ _ _ _ ++ kw_pages K x0 x1 x2 _ _) C (c_Store_demandOpen_ok l D K z0 tk0 tv0 gk0 gv0 d0 x0 m0 c0 t0 k0 _) yw_Store_demandOpen sel_Store_demandOpen lk_Store_109 d_Store_mark_1 rfl rfl rfl [0] [1, 2, 3, 4, 5, 6, 7, 8, 9, 10] [10, 0, 1, 2, 3, 4, 5, 6, 7, 8, 9] rfl rfl rfl rfl (by decide) rfl rfl rfl rfl rfl ⟨by decide, by decide⟩ ⟨by decide, by decide⟩ rfl (Nat.le_of_ble_eq_true rfl) ?_
  refine ks_aload_n rfl rfl C d_Store_mark_4 ?_
  refine ks_get (k := 6) C 0 8 in_Store rfl (by decide) fk_Store_42 rfl rfl rfl d_Store_mark_5 ?_
  refine ks_cxW (ci := 3) (q0 := 0) (kw_store z0 tk0 tv0 gk0 gv0 d0 x0 m0 c0 t0 k0 _ _ _ ++ kw_marks K m0 m1 s0 s1 s2 s3 s4 _ _ _ _ _ _ ++ kw_pages K x0 x1 x2 _ _) (kw_store z0 tk0 tv0 gk0 gv0 d0 x0 m0 c0 t0 k0 _ _ _ ++ kw_pages K x0 x1 x2 _ _) C (c_Marks_count l D K m0 m1 s0 s1 s2 s3 s4 _ _ _ _ _ _) yw_Marks_count sel_Marks_count lk_Store_206 d_Store_mark_8 rfl rfl rfl [1, 2, 3, 4, 5, 6, 7] [0, 8, 9, 10] [0, 4, 5, 6, 7, 8, 9, 10, 1, 2, 3] rfl rfl rfl rfl (by decide) rfl rfl rfl rfl rfl ⟨by decide, by decide⟩ ⟨by decide, by decide⟩ rfl (Nat.le_of_ble_eq_true rfl) ?_
  refine ks_iconst (a := 5) rfl C d_Store_mark_11 ?_
  refine ks_icmp_ne (tgt := 25) C (by omega) (by omega) (by decide) d_Store_mark_12 (fun u1 => ?_) (fun u1 => ?_)
  · refine ks_aload_n rfl rfl C d_Store_mark_25 ?_
    refine ks_get (k := 6) C 0 8 in_Store rfl (by decide) fk_Store_42 rfl rfl rfl d_Store_mark_26 ?_
    refine ks_aload_n rfl rfl C d_Store_mark_29 ?_
    refine ks_get (k := 5) C 0 8 in_Store rfl (by decide) fk_Store_35 rfl rfl rfl d_Store_mark_30 ?_
    refine ks_cvW (ci := 3) (q0 := 0) (kw_store z0 tk0 tv0 gk0 gv0 d0 x0 m0 c0 t0 k0 _ _ _ ++ kw_marks K m0 m1 s0 s1 s2 s3 s4 _ _ _ _ _ _ ++ kw_pages K x0 x1 x2 _ _) (kw_store z0 tk0 tv0 gk0 gv0 d0 x0 m0 c0 t0 k0 _ _ _) C (c_Marks_add_1 l D K m0 m1 s0 s1 s2 s3 s4 _ _ _ _ _ x0 x1 x2 _ _) yw_Marks_add sel_Marks_add lk_Store_211 d_Store_mark_33 rfl rfl rfl [1, 2, 3, 4, 5, 6, 7, 8, 9, 10] [0] [0, 1, 2, 3, 4, 5, 6, 7, 8, 9, 10] rfl rfl rfl rfl (by decide) rfl rfl rfl rfl rfl ⟨by decide, by decide⟩ ⟨by decide, by decide⟩ rfl (Nat.le_of_ble_eq_true rfl) ?_
    refine ks_aload_n rfl rfl C d_Store_mark_36 ?_
    refine ks_get (k := 6) C 0 8 in_Store rfl (by decide) fk_Store_42 rfl rfl rfl d_Store_mark_37 ?_
    refine ks_cxW (ci := 3) (q0 := 0) (kw_store z0 tk0 tv0 gk0 gv0 d0 x0 m0 c0 t0 k0 _ _ _ ++ kw_marks K m0 m1 s0 s1 s2 s3 s4 _ _ _ _ _ _ ++ kw_pages K x0 x1 x2 _ _) (kw_store z0 tk0 tv0 gk0 gv0 d0 x0 m0 c0 t0 k0 _ _ _ ++ kw_pages K x0 x1 x2 _ _) C (c_Marks_count l D K m0 m1 s0 s1 s2 s3 s4 _ _ _ _ _ _) yw_Marks_count sel_Marks_count lk_Store_206 d_Store_mark_40 rfl rfl rfl [1, 2, 3, 4, 5, 6, 7] [0, 8, 9, 10] [0, 4, 5, 6, 7, 8, 9, 10, 1, 2, 3] rfl rfl rfl rfl (by decide) rfl rfl rfl rfl rfl ⟨by decide, by decide⟩ ⟨by decide, by decide⟩ rfl (Nat.le_of_ble_eq_true rfl) ?_
    exact ks_iret C Z rfl rfl d_Store_mark_43 rfl rfl ⟨rfl, rfl⟩
  · exact (by omega : False).elim
set_option maxRecDepth 100000 in
set_option maxHeartbeats 4000000 in
theorem c_Store_mark_2 (l : Launch) (D : va_G) (K : Nat → ClassId) (z0 tk0 tv0 gk0 gv0 d0 x0 m0 c0 t0 k0 : Nat) (fnd : Bool) (m1 s0 s1 s2 s3 s4 : Nat) (S0 S1 S2 S3 S4 : Nat → UInt8) (x1 x2 : Nat) (B : Nat → UInt8) (G : Nat → Bool) : ks_M l D (ks_T K) (ks_R 4) y_Store_mark b_Store_mark 1 (some .int) [.ref z0] (kw_store z0 tk0 tv0 gk0 gv0 d0 x0 m0 c0 t0 k0 fnd true true ++ kw_marks K m0 m1 s0 s1 s2 s3 s4 S0 S1 S2 S3 S4 2 ++ kw_pages K x0 x1 x2 B G) (ks_f (some (.int (nI 3))) (kw_store z0 tk0 tv0 gk0 gv0 d0 x0 m0 c0 t0 k0 fnd true true ++ kw_marks K m0 m1 s0 s1 s2 s3 s4 S0 S1 (va_cpy B S2 0 0 (288 + kv_used B * 32)) S3 S4 3 ++ kw_pages K x0 x1 x2 B G)) := by
  refine ks_M.of 0 (by decide) (Nat.le_of_ble_eq_true rfl) ?_
  intro E C Z
  refine ks_aload_n rfl rfl C d_Store_mark_0 ?_
  refine ks_cvW (ci := 8) (q0 := 0) (kw_store z0 tk0 tv0 gk0 gv0 d0 x0 m0 c0 t0 k0 _ _ _ ++ kw_marks K m0 m1 s0 s1 s2 s3 s4 _ _ _ _ _ _ ++ kw_pages K x0 x1 x2 _ _) (kw_marks K m0 m1 s0 s1 s2 s3 s4 _ _ _ _ _ _ ++ kw_pages K x0 x1 x2 _ _) C (c_Store_demandOpen_ok l D K z0 tk0 tv0 gk0 gv0 d0 x0 m0 c0 t0 k0 _) yw_Store_demandOpen sel_Store_demandOpen lk_Store_109 d_Store_mark_1 rfl rfl rfl [0] [1, 2, 3, 4, 5, 6, 7, 8, 9, 10] [10, 0, 1, 2, 3, 4, 5, 6, 7, 8, 9] rfl rfl rfl rfl (by decide) rfl rfl rfl rfl rfl ⟨by decide, by decide⟩ ⟨by decide, by decide⟩ rfl (Nat.le_of_ble_eq_true rfl) ?_
  refine ks_aload_n rfl rfl C d_Store_mark_4 ?_
  refine ks_get (k := 6) C 0 8 in_Store rfl (by decide) fk_Store_42 rfl rfl rfl d_Store_mark_5 ?_
  refine ks_cxW (ci := 3) (q0 := 0) (kw_store z0 tk0 tv0 gk0 gv0 d0 x0 m0 c0 t0 k0 _ _ _ ++ kw_marks K m0 m1 s0 s1 s2 s3 s4 _ _ _ _ _ _ ++ kw_pages K x0 x1 x2 _ _) (kw_store z0 tk0 tv0 gk0 gv0 d0 x0 m0 c0 t0 k0 _ _ _ ++ kw_pages K x0 x1 x2 _ _) C (c_Marks_count l D K m0 m1 s0 s1 s2 s3 s4 _ _ _ _ _ _) yw_Marks_count sel_Marks_count lk_Store_206 d_Store_mark_8 rfl rfl rfl [1, 2, 3, 4, 5, 6, 7] [0, 8, 9, 10] [0, 4, 5, 6, 7, 8, 9, 10, 1, 2, 3] rfl rfl rfl rfl (by decide) rfl rfl rfl rfl rfl ⟨by decide, by decide⟩ ⟨by decide, by decide⟩ rfl (Nat.le_of_ble_eq_true rfl) ?_
  refine ks_iconst (a := 5) rfl C d_Store_mark_11 ?_
  refine ks_icmp_ne (tgt := 25) C (by omega) (by omega) (by decide) d_Store_mark_12 (fun u1 => ?_) (fun u1 => ?_)
  · refine ks_aload_n rfl rfl C d_Store_mark_25 ?_
    refine ks_get (k := 6) C 0 8 in_Store rfl (by decide) fk_Store_42 rfl rfl rfl d_Store_mark_26 ?_
    refine ks_aload_n rfl rfl C d_Store_mark_29 ?_
    refine ks_get (k := 5) C 0 8 in_Store rfl (by decide) fk_Store_35 rfl rfl rfl d_Store_mark_30 ?_
    refine ks_cvW (ci := 3) (q0 := 0) (kw_store z0 tk0 tv0 gk0 gv0 d0 x0 m0 c0 t0 k0 _ _ _ ++ kw_marks K m0 m1 s0 s1 s2 s3 s4 _ _ _ _ _ _ ++ kw_pages K x0 x1 x2 _ _) (kw_store z0 tk0 tv0 gk0 gv0 d0 x0 m0 c0 t0 k0 _ _ _) C (c_Marks_add_2 l D K m0 m1 s0 s1 s2 s3 s4 _ _ _ _ _ x0 x1 x2 _ _) yw_Marks_add sel_Marks_add lk_Store_211 d_Store_mark_33 rfl rfl rfl [1, 2, 3, 4, 5, 6, 7, 8, 9, 10] [0] [0, 1, 2, 3, 4, 5, 6, 7, 8, 9, 10] rfl rfl rfl rfl (by decide) rfl rfl rfl rfl rfl ⟨by decide, by decide⟩ ⟨by decide, by decide⟩ rfl (Nat.le_of_ble_eq_true rfl) ?_
    refine ks_aload_n rfl rfl C d_Store_mark_36 ?_
    refine ks_get (k := 6) C 0 8 in_Store rfl (by decide) fk_Store_42 rfl rfl rfl d_Store_mark_37 ?_
    refine ks_cxW (ci := 3) (q0 := 0) (kw_store z0 tk0 tv0 gk0 gv0 d0 x0 m0 c0 t0 k0 _ _ _ ++ kw_marks K m0 m1 s0 s1 s2 s3 s4 _ _ _ _ _ _ ++ kw_pages K x0 x1 x2 _ _) (kw_store z0 tk0 tv0 gk0 gv0 d0 x0 m0 c0 t0 k0 _ _ _ ++ kw_pages K x0 x1 x2 _ _) C (c_Marks_count l D K m0 m1 s0 s1 s2 s3 s4 _ _ _ _ _ _) yw_Marks_count sel_Marks_count lk_Store_206 d_Store_mark_40 rfl rfl rfl [1, 2, 3, 4, 5, 6, 7] [0, 8, 9, 10] [0, 4, 5, 6, 7, 8, 9, 10, 1, 2, 3] rfl rfl rfl rfl (by decide) rfl rfl rfl rfl rfl ⟨by decide, by decide⟩ ⟨by decide, by decide⟩ rfl (Nat.le_of_ble_eq_true rfl) ?_
    exact ks_iret C Z rfl rfl d_Store_mark_43 rfl rfl ⟨rfl, rfl⟩
  · exact (by omega : False).elim
set_option maxRecDepth 100000 in
set_option maxHeartbeats 4000000 in
theorem c_Store_mark_3 (l : Launch) (D : va_G) (K : Nat → ClassId) (z0 tk0 tv0 gk0 gv0 d0 x0 m0 c0 t0 k0 : Nat) (fnd : Bool) (m1 s0 s1 s2 s3 s4 : Nat) (S0 S1 S2 S3 S4 : Nat → UInt8) (x1 x2 : Nat) (B : Nat → UInt8) (G : Nat → Bool) : ks_M l D (ks_T K) (ks_R 4) y_Store_mark b_Store_mark 1 (some .int) [.ref z0] (kw_store z0 tk0 tv0 gk0 gv0 d0 x0 m0 c0 t0 k0 fnd true true ++ kw_marks K m0 m1 s0 s1 s2 s3 s4 S0 S1 S2 S3 S4 3 ++ kw_pages K x0 x1 x2 B G) (ks_f (some (.int (nI 4))) (kw_store z0 tk0 tv0 gk0 gv0 d0 x0 m0 c0 t0 k0 fnd true true ++ kw_marks K m0 m1 s0 s1 s2 s3 s4 S0 S1 S2 (va_cpy B S3 0 0 (288 + kv_used B * 32)) S4 4 ++ kw_pages K x0 x1 x2 B G)) := by
  refine ks_M.of 0 (by decide) (Nat.le_of_ble_eq_true rfl) ?_
  intro E C Z
  refine ks_aload_n rfl rfl C d_Store_mark_0 ?_
  refine ks_cvW (ci := 8) (q0 := 0) (kw_store z0 tk0 tv0 gk0 gv0 d0 x0 m0 c0 t0 k0 _ _ _ ++ kw_marks K m0 m1 s0 s1 s2 s3 s4 _ _ _ _ _ _ ++ kw_pages K x0 x1 x2 _ _) (kw_marks K m0 m1 s0 s1 s2 s3 s4 _ _ _ _ _ _ ++ kw_pages K x0 x1 x2 _ _) C (c_Store_demandOpen_ok l D K z0 tk0 tv0 gk0 gv0 d0 x0 m0 c0 t0 k0 _) yw_Store_demandOpen sel_Store_demandOpen lk_Store_109 d_Store_mark_1 rfl rfl rfl [0] [1, 2, 3, 4, 5, 6, 7, 8, 9, 10] [10, 0, 1, 2, 3, 4, 5, 6, 7, 8, 9] rfl rfl rfl rfl (by decide) rfl rfl rfl rfl rfl ⟨by decide, by decide⟩ ⟨by decide, by decide⟩ rfl (Nat.le_of_ble_eq_true rfl) ?_
  refine ks_aload_n rfl rfl C d_Store_mark_4 ?_
  refine ks_get (k := 6) C 0 8 in_Store rfl (by decide) fk_Store_42 rfl rfl rfl d_Store_mark_5 ?_
  refine ks_cxW (ci := 3) (q0 := 0) (kw_store z0 tk0 tv0 gk0 gv0 d0 x0 m0 c0 t0 k0 _ _ _ ++ kw_marks K m0 m1 s0 s1 s2 s3 s4 _ _ _ _ _ _ ++ kw_pages K x0 x1 x2 _ _) (kw_store z0 tk0 tv0 gk0 gv0 d0 x0 m0 c0 t0 k0 _ _ _ ++ kw_pages K x0 x1 x2 _ _) C (c_Marks_count l D K m0 m1 s0 s1 s2 s3 s4 _ _ _ _ _ _) yw_Marks_count sel_Marks_count lk_Store_206 d_Store_mark_8 rfl rfl rfl [1, 2, 3, 4, 5, 6, 7] [0, 8, 9, 10] [0, 4, 5, 6, 7, 8, 9, 10, 1, 2, 3] rfl rfl rfl rfl (by decide) rfl rfl rfl rfl rfl ⟨by decide, by decide⟩ ⟨by decide, by decide⟩ rfl (Nat.le_of_ble_eq_true rfl) ?_
  refine ks_iconst (a := 5) rfl C d_Store_mark_11 ?_
  refine ks_icmp_ne (tgt := 25) C (by omega) (by omega) (by decide) d_Store_mark_12 (fun u1 => ?_) (fun u1 => ?_)
  · refine ks_aload_n rfl rfl C d_Store_mark_25 ?_
    refine ks_get (k := 6) C 0 8 in_Store rfl (by decide) fk_Store_42 rfl rfl rfl d_Store_mark_26 ?_
    refine ks_aload_n rfl rfl C d_Store_mark_29 ?_
    refine ks_get (k := 5) C 0 8 in_Store rfl (by decide) fk_Store_35 rfl rfl rfl d_Store_mark_30 ?_
    refine ks_cvW (ci := 3) (q0 := 0) (kw_store z0 tk0 tv0 gk0 gv0 d0 x0 m0 c0 t0 k0 _ _ _ ++ kw_marks K m0 m1 s0 s1 s2 s3 s4 _ _ _ _ _ _ ++ kw_pages K x0 x1 x2 _ _) (kw_store z0 tk0 tv0 gk0 gv0 d0 x0 m0 c0 t0 k0 _ _ _) C (c_Marks_add_3 l D K m0 m1 s0 s1 s2 s3 s4 _ _ _ _ _ x0 x1 x2 _ _) yw_Marks_add sel_Marks_add lk_Store_211 d_Store_mark_33 rfl rfl rfl [1, 2, 3, 4, 5, 6, 7, 8, 9, 10] [0] [0, 1, 2, 3, 4, 5, 6, 7, 8, 9, 10] rfl rfl rfl rfl (by decide) rfl rfl rfl rfl rfl ⟨by decide, by decide⟩ ⟨by decide, by decide⟩ rfl (Nat.le_of_ble_eq_true rfl) ?_
    refine ks_aload_n rfl rfl C d_Store_mark_36 ?_
    refine ks_get (k := 6) C 0 8 in_Store rfl (by decide) fk_Store_42 rfl rfl rfl d_Store_mark_37 ?_
    refine ks_cxW (ci := 3) (q0 := 0) (kw_store z0 tk0 tv0 gk0 gv0 d0 x0 m0 c0 t0 k0 _ _ _ ++ kw_marks K m0 m1 s0 s1 s2 s3 s4 _ _ _ _ _ _ ++ kw_pages K x0 x1 x2 _ _) (kw_store z0 tk0 tv0 gk0 gv0 d0 x0 m0 c0 t0 k0 _ _ _ ++ kw_pages K x0 x1 x2 _ _) C (c_Marks_count l D K m0 m1 s0 s1 s2 s3 s4 _ _ _ _ _ _) yw_Marks_count sel_Marks_count lk_Store_206 d_Store_mark_40 rfl rfl rfl [1, 2, 3, 4, 5, 6, 7] [0, 8, 9, 10] [0, 4, 5, 6, 7, 8, 9, 10, 1, 2, 3] rfl rfl rfl rfl (by decide) rfl rfl rfl rfl rfl ⟨by decide, by decide⟩ ⟨by decide, by decide⟩ rfl (Nat.le_of_ble_eq_true rfl) ?_
    exact ks_iret C Z rfl rfl d_Store_mark_43 rfl rfl ⟨rfl, rfl⟩
  · exact (by omega : False).elim
set_option maxRecDepth 100000 in
set_option maxHeartbeats 4000000 in
theorem c_Store_mark_4 (l : Launch) (D : va_G) (K : Nat → ClassId) (z0 tk0 tv0 gk0 gv0 d0 x0 m0 c0 t0 k0 : Nat) (fnd : Bool) (m1 s0 s1 s2 s3 s4 : Nat) (S0 S1 S2 S3 S4 : Nat → UInt8) (x1 x2 : Nat) (B : Nat → UInt8) (G : Nat → Bool) : ks_M l D (ks_T K) (ks_R 4) y_Store_mark b_Store_mark 1 (some .int) [.ref z0] (kw_store z0 tk0 tv0 gk0 gv0 d0 x0 m0 c0 t0 k0 fnd true true ++ kw_marks K m0 m1 s0 s1 s2 s3 s4 S0 S1 S2 S3 S4 4 ++ kw_pages K x0 x1 x2 B G) (ks_f (some (.int (nI 5))) (kw_store z0 tk0 tv0 gk0 gv0 d0 x0 m0 c0 t0 k0 fnd true true ++ kw_marks K m0 m1 s0 s1 s2 s3 s4 S0 S1 S2 S3 (va_cpy B S4 0 0 (288 + kv_used B * 32)) 5 ++ kw_pages K x0 x1 x2 B G)) := by
  refine ks_M.of 0 (by decide) (Nat.le_of_ble_eq_true rfl) ?_
  intro E C Z
  refine ks_aload_n rfl rfl C d_Store_mark_0 ?_
  refine ks_cvW (ci := 8) (q0 := 0) (kw_store z0 tk0 tv0 gk0 gv0 d0 x0 m0 c0 t0 k0 _ _ _ ++ kw_marks K m0 m1 s0 s1 s2 s3 s4 _ _ _ _ _ _ ++ kw_pages K x0 x1 x2 _ _) (kw_marks K m0 m1 s0 s1 s2 s3 s4 _ _ _ _ _ _ ++ kw_pages K x0 x1 x2 _ _) C (c_Store_demandOpen_ok l D K z0 tk0 tv0 gk0 gv0 d0 x0 m0 c0 t0 k0 _) yw_Store_demandOpen sel_Store_demandOpen lk_Store_109 d_Store_mark_1 rfl rfl rfl [0] [1, 2, 3, 4, 5, 6, 7, 8, 9, 10] [10, 0, 1, 2, 3, 4, 5, 6, 7, 8, 9] rfl rfl rfl rfl (by decide) rfl rfl rfl rfl rfl ⟨by decide, by decide⟩ ⟨by decide, by decide⟩ rfl (Nat.le_of_ble_eq_true rfl) ?_
  refine ks_aload_n rfl rfl C d_Store_mark_4 ?_
  refine ks_get (k := 6) C 0 8 in_Store rfl (by decide) fk_Store_42 rfl rfl rfl d_Store_mark_5 ?_
  refine ks_cxW (ci := 3) (q0 := 0) (kw_store z0 tk0 tv0 gk0 gv0 d0 x0 m0 c0 t0 k0 _ _ _ ++ kw_marks K m0 m1 s0 s1 s2 s3 s4 _ _ _ _ _ _ ++ kw_pages K x0 x1 x2 _ _) (kw_store z0 tk0 tv0 gk0 gv0 d0 x0 m0 c0 t0 k0 _ _ _ ++ kw_pages K x0 x1 x2 _ _) C (c_Marks_count l D K m0 m1 s0 s1 s2 s3 s4 _ _ _ _ _ _) yw_Marks_count sel_Marks_count lk_Store_206 d_Store_mark_8 rfl rfl rfl [1, 2, 3, 4, 5, 6, 7] [0, 8, 9, 10] [0, 4, 5, 6, 7, 8, 9, 10, 1, 2, 3] rfl rfl rfl rfl (by decide) rfl rfl rfl rfl rfl ⟨by decide, by decide⟩ ⟨by decide, by decide⟩ rfl (Nat.le_of_ble_eq_true rfl) ?_
  refine ks_iconst (a := 5) rfl C d_Store_mark_11 ?_
  refine ks_icmp_ne (tgt := 25) C (by omega) (by omega) (by decide) d_Store_mark_12 (fun u1 => ?_) (fun u1 => ?_)
  · refine ks_aload_n rfl rfl C d_Store_mark_25 ?_
    refine ks_get (k := 6) C 0 8 in_Store rfl (by decide) fk_Store_42 rfl rfl rfl d_Store_mark_26 ?_
    refine ks_aload_n rfl rfl C d_Store_mark_29 ?_
    refine ks_get (k := 5) C 0 8 in_Store rfl (by decide) fk_Store_35 rfl rfl rfl d_Store_mark_30 ?_
    refine ks_cvW (ci := 3) (q0 := 0) (kw_store z0 tk0 tv0 gk0 gv0 d0 x0 m0 c0 t0 k0 _ _ _ ++ kw_marks K m0 m1 s0 s1 s2 s3 s4 _ _ _ _ _ _ ++ kw_pages K x0 x1 x2 _ _) (kw_store z0 tk0 tv0 gk0 gv0 d0 x0 m0 c0 t0 k0 _ _ _) C (c_Marks_add_4 l D K m0 m1 s0 s1 s2 s3 s4 _ _ _ _ _ x0 x1 x2 _ _) yw_Marks_add sel_Marks_add lk_Store_211 d_Store_mark_33 rfl rfl rfl [1, 2, 3, 4, 5, 6, 7, 8, 9, 10] [0] [0, 1, 2, 3, 4, 5, 6, 7, 8, 9, 10] rfl rfl rfl rfl (by decide) rfl rfl rfl rfl rfl ⟨by decide, by decide⟩ ⟨by decide, by decide⟩ rfl (Nat.le_of_ble_eq_true rfl) ?_
    refine ks_aload_n rfl rfl C d_Store_mark_36 ?_
    refine ks_get (k := 6) C 0 8 in_Store rfl (by decide) fk_Store_42 rfl rfl rfl d_Store_mark_37 ?_
    refine ks_cxW (ci := 3) (q0 := 0) (kw_store z0 tk0 tv0 gk0 gv0 d0 x0 m0 c0 t0 k0 _ _ _ ++ kw_marks K m0 m1 s0 s1 s2 s3 s4 _ _ _ _ _ _ ++ kw_pages K x0 x1 x2 _ _) (kw_store z0 tk0 tv0 gk0 gv0 d0 x0 m0 c0 t0 k0 _ _ _ ++ kw_pages K x0 x1 x2 _ _) C (c_Marks_count l D K m0 m1 s0 s1 s2 s3 s4 _ _ _ _ _ _) yw_Marks_count sel_Marks_count lk_Store_206 d_Store_mark_40 rfl rfl rfl [1, 2, 3, 4, 5, 6, 7] [0, 8, 9, 10] [0, 4, 5, 6, 7, 8, 9, 10, 1, 2, 3] rfl rfl rfl rfl (by decide) rfl rfl rfl rfl rfl ⟨by decide, by decide⟩ ⟨by decide, by decide⟩ rfl (Nat.le_of_ble_eq_true rfl) ?_
    exact ks_iret C Z rfl rfl d_Store_mark_43 rfl rfl ⟨rfl, rfl⟩
  · exact (by omega : False).elim
set_option maxRecDepth 100000 in
set_option maxHeartbeats 4000000 in
theorem c_Store_back_T1 (l : Launch) (hNT : l.stackTraces = false) (D : va_G) (K : Nat → ClassId) (z0 tk0 tv0 gk0 gv0 d0 x0 m0 c0 t0 k0 : Nat) (fnd opn : Bool) (m : Nat) : kt_M l D (ks_T K) (kt_R 7) y_Store_back b_Store_back 2 none [.ref z0, .int (nI m)] (kw_store z0 tk0 tv0 gk0 gv0 d0 x0 m0 c0 t0 k0 fnd false opn) "java/lang/IllegalStateException" (kw_store z0 tk0 tv0 gk0 gv0 d0 x0 m0 c0 t0 k0 fnd false opn) := by
  refine kt_M.of hNT 0 (by decide) (Nat.le_of_ble_eq_true rfl) ?_
  intro E C Kt Z
  refine ks_aload_n rfl rfl C d_Store_back_0 ?_
  exact ks_callTW (ci := 8) (q0 := 0) ([] : va_W) C Kt Z (c_Store_demandOpen_T1 l hNT D K z0 tk0 tv0 gk0 gv0 d0 x0 m0 c0 t0 k0 _ _) yw_Store_demandOpen sel_Store_demandOpen lk_Store_109 d_Store_back_1 rfl rfl rfl [0] [] [0] rfl rfl rfl rfl (by decide) rfl rfl rfl rfl ⟨by decide, by decide⟩ ⟨by decide, by decide⟩ (Nat.le_of_ble_eq_true rfl) rfl rfl
set_option maxRecDepth 100000 in
set_option maxHeartbeats 4000000 in
theorem c_Store_back_T2 (l : Launch) (hNT : l.stackTraces = false) (D : va_G) (K : Nat → ClassId) (z0 tk0 tv0 gk0 gv0 d0 x0 m0 c0 t0 k0 : Nat) (fnd : Bool) (m : Nat) : kt_M l D (ks_T K) (kt_R 7) y_Store_back b_Store_back 2 none [.ref z0, .int (nI m)] (kw_store z0 tk0 tv0 gk0 gv0 d0 x0 m0 c0 t0 k0 fnd true false) "java/lang/IllegalStateException" (kw_store z0 tk0 tv0 gk0 gv0 d0 x0 m0 c0 t0 k0 fnd true false) := by
  refine kt_M.of hNT 0 (by decide) (Nat.le_of_ble_eq_true rfl) ?_
  intro E C Kt Z
  refine ks_aload_n rfl rfl C d_Store_back_0 ?_
  exact ks_callTW (ci := 8) (q0 := 0) ([] : va_W) C Kt Z (c_Store_demandOpen_T2 l hNT D K z0 tk0 tv0 gk0 gv0 d0 x0 m0 c0 t0 k0 _) yw_Store_demandOpen sel_Store_demandOpen lk_Store_109 d_Store_back_1 rfl rfl rfl [0] [] [0] rfl rfl rfl rfl (by decide) rfl rfl rfl rfl ⟨by decide, by decide⟩ ⟨by decide, by decide⟩ (Nat.le_of_ble_eq_true rfl) rfl rfl
set_option maxRecDepth 100000 in
set_option maxHeartbeats 4000000 in
theorem c_Store_back_T3 (l : Launch) (hNT : l.stackTraces = false) (D : va_G) (K : Nat → ClassId) (z0 tk0 tv0 gk0 gv0 d0 x0 m0 c0 t0 k0 : Nat) (fnd : Bool) (m1 s0 s1 s2 s3 s4 : Nat) (S0 S1 S2 S3 S4 : Nat → UInt8) (cnt : Nat) (m : Nat) (h1 : m = 0 ∨ cnt < m) (h2 : m < 4294967296) (h3 : cnt ≤ 5) : kt_M l D (ks_T K) (kt_R 7) y_Store_back b_Store_back 2 none [.ref z0, .int (nI m)] (kw_store z0 tk0 tv0 gk0 gv0 d0 x0 m0 c0 t0 k0 fnd true true ++ kw_marks K m0 m1 s0 s1 s2 s3 s4 S0 S1 S2 S3 S4 cnt) "java/lang/IndexOutOfBoundsException" (kw_store z0 tk0 tv0 gk0 gv0 d0 x0 m0 c0 t0 k0 fnd true true ++ kw_marks K m0 m1 s0 s1 s2 s3 s4 S0 S1 S2 S3 S4 cnt) := by
  refine kt_M.of hNT 0 (by decide) (Nat.le_of_ble_eq_true rfl) ?_
  intro E C Kt Z
  refine ks_aload_n rfl rfl C d_Store_back_0 ?_
  refine ks_cvW (ci := 8) (q0 := 0) (kw_store z0 tk0 tv0 gk0 gv0 d0 x0 m0 c0 t0 k0 _ _ _ ++ kw_marks K m0 m1 s0 s1 s2 s3 s4 _ _ _ _ _ _) (kw_marks K m0 m1 s0 s1 s2 s3 s4 _ _ _ _ _ _) C (c_Store_demandOpen_ok l D K z0 tk0 tv0 gk0 gv0 d0 x0 m0 c0 t0 k0 _) yw_Store_demandOpen sel_Store_demandOpen lk_Store_109 d_Store_back_1 rfl rfl rfl [0] [1, 2, 3, 4, 5, 6, 7] [7, 0, 1, 2, 3, 4, 5, 6] rfl rfl rfl rfl (by decide) rfl rfl rfl rfl rfl ⟨by decide, by decide⟩ ⟨by decide, by decide⟩ rfl (Nat.le_of_ble_eq_true rfl) ?_
  refine ks_aload_n rfl rfl C d_Store_back_4 ?_
  refine ks_iload_n rfl rfl C d_Store_back_5 ?_
  exact ks_callTW (ci := 8) (q0 := 0) ([] : va_W) C Kt Z (c_Store_demandMark_T l hNT D K z0 tk0 tv0 gk0 gv0 d0 x0 m0 c0 t0 k0 _ _ _ m1 s0 s1 s2 s3 s4 _ _ _ _ _ _ _ (by omega) (by omega) (by omega)) yw_Store_demandMark sel_Store_demandMark lk_Store_214 d_Store_back_6 rfl rfl rfl [0, 1, 2, 3, 4, 5, 6, 7] [] [0, 1, 2, 3, 4, 5, 6, 7] rfl rfl rfl rfl (by decide) rfl rfl rfl rfl ⟨by decide, by decide⟩ ⟨by decide, by decide⟩ (Nat.le_of_ble_eq_true rfl) rfl rfl
set_option maxRecDepth 100000 in
set_option maxHeartbeats 4000000 in
theorem c_Store_back_1 (l : Launch) (D : va_G) (K : Nat → ClassId) (z0 tk0 tv0 gk0 gv0 d0 x0 m0 c0 t0 k0 : Nat) (fnd : Bool) (m1 s0 s1 s2 s3 s4 : Nat) (S0 S1 S2 S3 S4 : Nat → UInt8) (cnt : Nat) (x1 x2 : Nat) (B : Nat → UInt8) (G : Nat → Bool) (h1 : 1 ≤ cnt) (h3 : cnt ≤ 5) : ks_M l D (ks_T K) (ks_R 4) y_Store_back b_Store_back 2 none [.ref z0, .int (nI 1)] (kw_store z0 tk0 tv0 gk0 gv0 d0 x0 m0 c0 t0 k0 fnd true true ++ kw_marks K m0 m1 s0 s1 s2 s3 s4 S0 S1 S2 S3 S4 cnt ++ kw_pages K x0 x1 x2 B G) (ks_f none (kw_store z0 tk0 tv0 gk0 gv0 d0 x0 m0 c0 t0 k0 fnd true true ++ kw_marks K m0 m1 s0 s1 s2 s3 s4 S0 S1 S2 S3 S4 (if 1 < cnt then 1 else cnt) ++ kw_pages K x0 x1 x2 (kv_load B S0) G)) := by
  refine ks_M.of 0 (by decide) (Nat.le_of_ble_eq_true rfl) ?_
  intro E C Z
  refine ks_aload_n rfl rfl C d_Store_back_0 ?_
  refine ks_cvW (ci := 8) (q0 := 0) (kw_store z0 tk0 tv0 gk0 gv0 d0 x0 m0 c0 t0 k0 _ _ _ ++ kw_marks K m0 m1 s0 s1 s2 s3 s4 _ _ _ _ _ _ ++ kw_pages K x0 x1 x2 _ _) (kw_marks K m0 m1 s0 s1 s2 s3 s4 _ _ _ _ _ _ ++ kw_pages K x0 x1 x2 _ _) C (c_Store_demandOpen_ok l D K z0 tk0 tv0 gk0 gv0 d0 x0 m0 c0 t0 k0 _) yw_Store_demandOpen sel_Store_demandOpen lk_Store_109 d_Store_back_1 rfl rfl rfl [0] [1, 2, 3, 4, 5, 6, 7, 8, 9, 10] [10, 0, 1, 2, 3, 4, 5, 6, 7, 8, 9] rfl rfl rfl rfl (by decide) rfl rfl rfl rfl rfl ⟨by decide, by decide⟩ ⟨by decide, by decide⟩ rfl (Nat.le_of_ble_eq_true rfl) ?_
  refine ks_aload_n rfl rfl C d_Store_back_4 ?_
  refine ks_iload_n rfl rfl C d_Store_back_5 ?_
  refine ks_cvW (ci := 8) (q0 := 0) (kw_store z0 tk0 tv0 gk0 gv0 d0 x0 m0 c0 t0 k0 _ _ _ ++ kw_marks K m0 m1 s0 s1 s2 s3 s4 _ _ _ _ _ _ ++ kw_pages K x0 x1 x2 _ _) (kw_pages K x0 x1 x2 _ _) C (c_Store_demandMark_ok l D K z0 tk0 tv0 gk0 gv0 d0 x0 m0 c0 t0 k0 _ _ _ m1 s0 s1 s2 s3 s4 _ _ _ _ _ _ _ (by omega) (by omega) (by omega)) yw_Store_demandMark sel_Store_demandMark lk_Store_214 d_Store_back_6 rfl rfl rfl [0, 1, 2, 3, 4, 5, 6, 7] [8, 9, 10] [3, 4, 5, 6, 7, 8, 9, 10, 0, 1, 2] rfl rfl rfl rfl (by decide) rfl rfl rfl rfl rfl ⟨by decide, by decide⟩ ⟨by decide, by decide⟩ rfl (Nat.le_of_ble_eq_true rfl) ?_
  refine ks_aload_n rfl rfl C d_Store_back_9 ?_
  refine ks_get (k := 6) C 0 8 in_Store rfl (by decide) fk_Store_42 rfl rfl rfl d_Store_back_10 ?_
  refine ks_iload_n rfl rfl C d_Store_back_13 ?_
  refine ks_aload_n rfl rfl C d_Store_back_14 ?_
  refine ks_get (k := 5) C 0 8 in_Store rfl (by decide) fk_Store_35 rfl rfl rfl d_Store_back_15 ?_
  refine ks_cvW (ci := 3) (q0 := 0) (kw_store z0 tk0 tv0 gk0 gv0 d0 x0 m0 c0 t0 k0 _ _ _ ++ kw_marks K m0 m1 s0 s1 s2 s3 s4 _ _ _ _ _ _ ++ kw_pages K x0 x1 x2 _ _) (kw_store z0 tk0 tv0 gk0 gv0 d0 x0 m0 c0 t0 k0 _ _ _) C (c_Marks_restore_1 l D K m0 m1 s0 s1 s2 s3 s4 _ _ _ _ _ x0 x1 x2 _ _ _ (by omega) (by omega)) yw_Marks_restore sel_Marks_restore lk_Store_217 d_Store_back_18 rfl rfl rfl [1, 2, 3, 4, 5, 6, 7, 8, 9, 10] [0] [0, 1, 2, 3, 4, 5, 6, 7, 8, 9, 10] rfl rfl rfl rfl (by decide) rfl rfl rfl rfl rfl ⟨by decide, by decide⟩ ⟨by decide, by decide⟩ rfl (Nat.le_of_ble_eq_true rfl) ?_
  refine ks_aload_n rfl rfl C d_Store_back_21 ?_
  refine ks_get (k := 6) C 0 8 in_Store rfl (by decide) fk_Store_42 rfl rfl rfl d_Store_back_22 ?_
  refine ks_iload_n rfl rfl C d_Store_back_25 ?_
  refine ks_cvW (ci := 3) (q0 := 0) (kw_store z0 tk0 tv0 gk0 gv0 d0 x0 m0 c0 t0 k0 _ _ _ ++ kw_marks K m0 m1 s0 s1 s2 s3 s4 _ _ _ _ _ _ ++ kw_pages K x0 x1 x2 _ _) (kw_store z0 tk0 tv0 gk0 gv0 d0 x0 m0 c0 t0 k0 _ _ _ ++ kw_pages K x0 x1 x2 _ _) C (c_Marks_forgetAbove l D K m0 m1 s0 s1 s2 s3 s4 _ _ _ _ _ _ _ (by omega) (by omega)) yw_Marks_forgetAbove sel_Marks_forgetAbove lk_Store_221 d_Store_back_26 rfl rfl rfl [1, 2, 3, 4, 5, 6, 7] [0, 8, 9, 10] [0, 4, 5, 6, 7, 8, 9, 10, 1, 2, 3] rfl rfl rfl rfl (by decide) rfl rfl rfl rfl rfl ⟨by decide, by decide⟩ ⟨by decide, by decide⟩ rfl (Nat.le_of_ble_eq_true rfl) ?_
  exact ks_vret C Z rfl d_Store_back_29 rfl rfl ⟨rfl, rfl⟩
set_option maxRecDepth 100000 in
set_option maxHeartbeats 4000000 in
theorem c_Store_back_2 (l : Launch) (D : va_G) (K : Nat → ClassId) (z0 tk0 tv0 gk0 gv0 d0 x0 m0 c0 t0 k0 : Nat) (fnd : Bool) (m1 s0 s1 s2 s3 s4 : Nat) (S0 S1 S2 S3 S4 : Nat → UInt8) (cnt : Nat) (x1 x2 : Nat) (B : Nat → UInt8) (G : Nat → Bool) (h1 : 2 ≤ cnt) (h3 : cnt ≤ 5) : ks_M l D (ks_T K) (ks_R 4) y_Store_back b_Store_back 2 none [.ref z0, .int (nI 2)] (kw_store z0 tk0 tv0 gk0 gv0 d0 x0 m0 c0 t0 k0 fnd true true ++ kw_marks K m0 m1 s0 s1 s2 s3 s4 S0 S1 S2 S3 S4 cnt ++ kw_pages K x0 x1 x2 B G) (ks_f none (kw_store z0 tk0 tv0 gk0 gv0 d0 x0 m0 c0 t0 k0 fnd true true ++ kw_marks K m0 m1 s0 s1 s2 s3 s4 S0 S1 S2 S3 S4 (if 2 < cnt then 2 else cnt) ++ kw_pages K x0 x1 x2 (kv_load B S1) G)) := by
  refine ks_M.of 0 (by decide) (Nat.le_of_ble_eq_true rfl) ?_
  intro E C Z
  refine ks_aload_n rfl rfl C d_Store_back_0 ?_
  refine ks_cvW (ci := 8) (q0 := 0) (kw_store z0 tk0 tv0 gk0 gv0 d0 x0 m0 c0 t0 k0 _ _ _ ++ kw_marks K m0 m1 s0 s1 s2 s3 s4 _ _ _ _ _ _ ++ kw_pages K x0 x1 x2 _ _) (kw_marks K m0 m1 s0 s1 s2 s3 s4 _ _ _ _ _ _ ++ kw_pages K x0 x1 x2 _ _) C (c_Store_demandOpen_ok l D K z0 tk0 tv0 gk0 gv0 d0 x0 m0 c0 t0 k0 _) yw_Store_demandOpen sel_Store_demandOpen lk_Store_109 d_Store_back_1 rfl rfl rfl [0] [1, 2, 3, 4, 5, 6, 7, 8, 9, 10] [10, 0, 1, 2, 3, 4, 5, 6, 7, 8, 9] rfl rfl rfl rfl (by decide) rfl rfl rfl rfl rfl ⟨by decide, by decide⟩ ⟨by decide, by decide⟩ rfl (Nat.le_of_ble_eq_true rfl) ?_
  refine ks_aload_n rfl rfl C d_Store_back_4 ?_
  refine ks_iload_n rfl rfl C d_Store_back_5 ?_
  refine ks_cvW (ci := 8) (q0 := 0) (kw_store z0 tk0 tv0 gk0 gv0 d0 x0 m0 c0 t0 k0 _ _ _ ++ kw_marks K m0 m1 s0 s1 s2 s3 s4 _ _ _ _ _ _ ++ kw_pages K x0 x1 x2 _ _) (kw_pages K x0 x1 x2 _ _) C (c_Store_demandMark_ok l D K z0 tk0 tv0 gk0 gv0 d0 x0 m0 c0 t0 k0 _ _ _ m1 s0 s1 s2 s3 s4 _ _ _ _ _ _ _ (by omega) (by omega) (by omega)) yw_Store_demandMark sel_Store_demandMark lk_Store_214 d_Store_back_6 rfl rfl rfl [0, 1, 2, 3, 4, 5, 6, 7] [8, 9, 10] [3, 4, 5, 6, 7, 8, 9, 10, 0, 1, 2] rfl rfl rfl rfl (by decide) rfl rfl rfl rfl rfl ⟨by decide, by decide⟩ ⟨by decide, by decide⟩ rfl (Nat.le_of_ble_eq_true rfl) ?_
  refine ks_aload_n rfl rfl C d_Store_back_9 ?_
  refine ks_get (k := 6) C 0 8 in_Store rfl (by decide) fk_Store_42 rfl rfl rfl d_Store_back_10 ?_
  refine ks_iload_n rfl rfl C d_Store_back_13 ?_
  refine ks_aload_n rfl rfl C d_Store_back_14 ?_
  refine ks_get (k := 5) C 0 8 in_Store rfl (by decide) fk_Store_35 rfl rfl rfl d_Store_back_15 ?_
  refine ks_cvW (ci := 3) (q0 := 0) (kw_store z0 tk0 tv0 gk0 gv0 d0 x0 m0 c0 t0 k0 _ _ _ ++ kw_marks K m0 m1 s0 s1 s2 s3 s4 _ _ _ _ _ _ ++ kw_pages K x0 x1 x2 _ _) (kw_store z0 tk0 tv0 gk0 gv0 d0 x0 m0 c0 t0 k0 _ _ _) C (c_Marks_restore_2 l D K m0 m1 s0 s1 s2 s3 s4 _ _ _ _ _ x0 x1 x2 _ _ _ (by omega) (by omega)) yw_Marks_restore sel_Marks_restore lk_Store_217 d_Store_back_18 rfl rfl rfl [1, 2, 3, 4, 5, 6, 7, 8, 9, 10] [0] [0, 1, 2, 3, 4, 5, 6, 7, 8, 9, 10] rfl rfl rfl rfl (by decide) rfl rfl rfl rfl rfl ⟨by decide, by decide⟩ ⟨by decide, by decide⟩ rfl (Nat.le_of_ble_eq_true rfl) ?_
  refine ks_aload_n rfl rfl C d_Store_back_21 ?_
  refine ks_get (k := 6) C 0 8 in_Store rfl (by decide) fk_Store_42 rfl rfl rfl d_Store_back_22 ?_
  refine ks_iload_n rfl rfl C d_Store_back_25 ?_
  refine ks_cvW (ci := 3) (q0 := 0) (kw_store z0 tk0 tv0 gk0 gv0 d0 x0 m0 c0 t0 k0 _ _ _ ++ kw_marks K m0 m1 s0 s1 s2 s3 s4 _ _ _ _ _ _ ++ kw_pages K x0 x1 x2 _ _) (kw_store z0 tk0 tv0 gk0 gv0 d0 x0 m0 c0 t0 k0 _ _ _ ++ kw_pages K x0 x1 x2 _ _) C (c_Marks_forgetAbove l D K m0 m1 s0 s1 s2 s3 s4 _ _ _ _ _ _ _ (by omega) (by omega)) yw_Marks_forgetAbove sel_Marks_forgetAbove lk_Store_221 d_Store_back_26 rfl rfl rfl [1, 2, 3, 4, 5, 6, 7] [0, 8, 9, 10] [0, 4, 5, 6, 7, 8, 9, 10, 1, 2, 3] rfl rfl rfl rfl (by decide) rfl rfl rfl rfl rfl ⟨by decide, by decide⟩ ⟨by decide, by decide⟩ rfl (Nat.le_of_ble_eq_true rfl) ?_
  exact ks_vret C Z rfl d_Store_back_29 rfl rfl ⟨rfl, rfl⟩
set_option maxRecDepth 100000 in
set_option maxHeartbeats 4000000 in
theorem c_Store_back_3 (l : Launch) (D : va_G) (K : Nat → ClassId) (z0 tk0 tv0 gk0 gv0 d0 x0 m0 c0 t0 k0 : Nat) (fnd : Bool) (m1 s0 s1 s2 s3 s4 : Nat) (S0 S1 S2 S3 S4 : Nat → UInt8) (cnt : Nat) (x1 x2 : Nat) (B : Nat → UInt8) (G : Nat → Bool) (h1 : 3 ≤ cnt) (h3 : cnt ≤ 5) : ks_M l D (ks_T K) (ks_R 4) y_Store_back b_Store_back 2 none [.ref z0, .int (nI 3)] (kw_store z0 tk0 tv0 gk0 gv0 d0 x0 m0 c0 t0 k0 fnd true true ++ kw_marks K m0 m1 s0 s1 s2 s3 s4 S0 S1 S2 S3 S4 cnt ++ kw_pages K x0 x1 x2 B G) (ks_f none (kw_store z0 tk0 tv0 gk0 gv0 d0 x0 m0 c0 t0 k0 fnd true true ++ kw_marks K m0 m1 s0 s1 s2 s3 s4 S0 S1 S2 S3 S4 (if 3 < cnt then 3 else cnt) ++ kw_pages K x0 x1 x2 (kv_load B S2) G)) := by
  refine ks_M.of 0 (by decide) (Nat.le_of_ble_eq_true rfl) ?_
  intro E C Z
  refine ks_aload_n rfl rfl C d_Store_back_0 ?_
  refine ks_cvW (ci := 8) (q0 := 0) (kw_store z0 tk0 tv0 gk0 gv0 d0 x0 m0 c0 t0 k0 _ _ _ ++ kw_marks K m0 m1 s0 s1 s2 s3 s4 _ _ _ _ _ _ ++ kw_pages K x0 x1 x2 _ _) (kw_marks K m0 m1 s0 s1 s2 s3 s4 _ _ _ _ _ _ ++ kw_pages K x0 x1 x2 _ _) C (c_Store_demandOpen_ok l D K z0 tk0 tv0 gk0 gv0 d0 x0 m0 c0 t0 k0 _) yw_Store_demandOpen sel_Store_demandOpen lk_Store_109 d_Store_back_1 rfl rfl rfl [0] [1, 2, 3, 4, 5, 6, 7, 8, 9, 10] [10, 0, 1, 2, 3, 4, 5, 6, 7, 8, 9] rfl rfl rfl rfl (by decide) rfl rfl rfl rfl rfl ⟨by decide, by decide⟩ ⟨by decide, by decide⟩ rfl (Nat.le_of_ble_eq_true rfl) ?_
  refine ks_aload_n rfl rfl C d_Store_back_4 ?_
  refine ks_iload_n rfl rfl C d_Store_back_5 ?_
  refine ks_cvW (ci := 8) (q0 := 0) (kw_store z0 tk0 tv0 gk0 gv0 d0 x0 m0 c0 t0 k0 _ _ _ ++ kw_marks K m0 m1 s0 s1 s2 s3 s4 _ _ _ _ _ _ ++ kw_pages K x0 x1 x2 _ _) (kw_pages K x0 x1 x2 _ _) C (c_Store_demandMark_ok l D K z0 tk0 tv0 gk0 gv0 d0 x0 m0 c0 t0 k0 _ _ _ m1 s0 s1 s2 s3 s4 _ _ _ _ _ _ _ (by omega) (by omega) (by omega)) yw_Store_demandMark sel_Store_demandMark lk_Store_214 d_Store_back_6 rfl rfl rfl [0, 1, 2, 3, 4, 5, 6, 7] [8, 9, 10] [3, 4, 5, 6, 7, 8, 9, 10, 0, 1, 2] rfl rfl rfl rfl (by decide) rfl rfl rfl rfl rfl ⟨by decide, by decide⟩ ⟨by decide, by decide⟩ rfl (Nat.le_of_ble_eq_true rfl) ?_
  refine ks_aload_n rfl rfl C d_Store_back_9 ?_
  refine ks_get (k := 6) C 0 8 in_Store rfl (by decide) fk_Store_42 rfl rfl rfl d_Store_back_10 ?_
  refine ks_iload_n rfl rfl C d_Store_back_13 ?_
  refine ks_aload_n rfl rfl C d_Store_back_14 ?_
  refine ks_get (k := 5) C 0 8 in_Store rfl (by decide) fk_Store_35 rfl rfl rfl d_Store_back_15 ?_
  refine ks_cvW (ci := 3) (q0 := 0) (kw_store z0 tk0 tv0 gk0 gv0 d0 x0 m0 c0 t0 k0 _ _ _ ++ kw_marks K m0 m1 s0 s1 s2 s3 s4 _ _ _ _ _ _ ++ kw_pages K x0 x1 x2 _ _) (kw_store z0 tk0 tv0 gk0 gv0 d0 x0 m0 c0 t0 k0 _ _ _) C (c_Marks_restore_3 l D K m0 m1 s0 s1 s2 s3 s4 _ _ _ _ _ x0 x1 x2 _ _ _ (by omega) (by omega)) yw_Marks_restore sel_Marks_restore lk_Store_217 d_Store_back_18 rfl rfl rfl [1, 2, 3, 4, 5, 6, 7, 8, 9, 10] [0] [0, 1, 2, 3, 4, 5, 6, 7, 8, 9, 10] rfl rfl rfl rfl (by decide) rfl rfl rfl rfl rfl ⟨by decide, by decide⟩ ⟨by decide, by decide⟩ rfl (Nat.le_of_ble_eq_true rfl) ?_
  refine ks_aload_n rfl rfl C d_Store_back_21 ?_
  refine ks_get (k := 6) C 0 8 in_Store rfl (by decide) fk_Store_42 rfl rfl rfl d_Store_back_22 ?_
  refine ks_iload_n rfl rfl C d_Store_back_25 ?_
  refine ks_cvW (ci := 3) (q0 := 0) (kw_store z0 tk0 tv0 gk0 gv0 d0 x0 m0 c0 t0 k0 _ _ _ ++ kw_marks K m0 m1 s0 s1 s2 s3 s4 _ _ _ _ _ _ ++ kw_pages K x0 x1 x2 _ _) (kw_store z0 tk0 tv0 gk0 gv0 d0 x0 m0 c0 t0 k0 _ _ _ ++ kw_pages K x0 x1 x2 _ _) C (c_Marks_forgetAbove l D K m0 m1 s0 s1 s2 s3 s4 _ _ _ _ _ _ _ (by omega) (by omega)) yw_Marks_forgetAbove sel_Marks_forgetAbove lk_Store_221 d_Store_back_26 rfl rfl rfl [1, 2, 3, 4, 5, 6, 7] [0, 8, 9, 10] [0, 4, 5, 6, 7, 8, 9, 10, 1, 2, 3] rfl rfl rfl rfl (by decide) rfl rfl rfl rfl rfl ⟨by decide, by decide⟩ ⟨by decide, by decide⟩ rfl (Nat.le_of_ble_eq_true rfl) ?_
  exact ks_vret C Z rfl d_Store_back_29 rfl rfl ⟨rfl, rfl⟩
set_option maxRecDepth 100000 in
set_option maxHeartbeats 4000000 in
theorem c_Store_back_4 (l : Launch) (D : va_G) (K : Nat → ClassId) (z0 tk0 tv0 gk0 gv0 d0 x0 m0 c0 t0 k0 : Nat) (fnd : Bool) (m1 s0 s1 s2 s3 s4 : Nat) (S0 S1 S2 S3 S4 : Nat → UInt8) (cnt : Nat) (x1 x2 : Nat) (B : Nat → UInt8) (G : Nat → Bool) (h1 : 4 ≤ cnt) (h3 : cnt ≤ 5) : ks_M l D (ks_T K) (ks_R 4) y_Store_back b_Store_back 2 none [.ref z0, .int (nI 4)] (kw_store z0 tk0 tv0 gk0 gv0 d0 x0 m0 c0 t0 k0 fnd true true ++ kw_marks K m0 m1 s0 s1 s2 s3 s4 S0 S1 S2 S3 S4 cnt ++ kw_pages K x0 x1 x2 B G) (ks_f none (kw_store z0 tk0 tv0 gk0 gv0 d0 x0 m0 c0 t0 k0 fnd true true ++ kw_marks K m0 m1 s0 s1 s2 s3 s4 S0 S1 S2 S3 S4 (if 4 < cnt then 4 else cnt) ++ kw_pages K x0 x1 x2 (kv_load B S3) G)) := by
  refine ks_M.of 0 (by decide) (Nat.le_of_ble_eq_true rfl) ?_
  intro E C Z
  refine ks_aload_n rfl rfl C d_Store_back_0 ?_
  refine ks_cvW (ci := 8) (q0 := 0) (kw_store z0 tk0 tv0 gk0 gv0 d0 x0 m0 c0 t0 k0 _ _ _ ++ kw_marks K m0 m1 s0 s1 s2 s3 s4 _ _ _ _ _ _ ++ kw_pages K x0 x1 x2 _ _) (kw_marks K m0 m1 s0 s1 s2 s3 s4 _ _ _ _ _ _ ++ kw_pages K x0 x1 x2 _ _) C (c_Store_demandOpen_ok l D K z0 tk0 tv0 gk0 gv0 d0 x0 m0 c0 t0 k0 _) yw_Store_demandOpen sel_Store_demandOpen lk_Store_109 d_Store_back_1 rfl rfl rfl [0] [1, 2, 3, 4, 5, 6, 7, 8, 9, 10] [10, 0, 1, 2, 3, 4, 5, 6, 7, 8, 9] rfl rfl rfl rfl (by decide) rfl rfl rfl rfl rfl ⟨by decide, by decide⟩ ⟨by decide, by decide⟩ rfl (Nat.le_of_ble_eq_true rfl) ?_
  refine ks_aload_n rfl rfl C d_Store_back_4 ?_
  refine ks_iload_n rfl rfl C d_Store_back_5 ?_
  refine ks_cvW (ci := 8) (q0 := 0) (kw_store z0 tk0 tv0 gk0 gv0 d0 x0 m0 c0 t0 k0 _ _ _ ++ kw_marks K m0 m1 s0 s1 s2 s3 s4 _ _ _ _ _ _ ++ kw_pages K x0 x1 x2 _ _) (kw_pages K x0 x1 x2 _ _) C (c_Store_demandMark_ok l D K z0 tk0 tv0 gk0 gv0 d0 x0 m0 c0 t0 k0 _ _ _ m1 s0 s1 s2 s3 s4 _ _ _ _ _ _ _ (by omega) (by omega) (by omega)) yw_Store_demandMark sel_Store_demandMark lk_Store_214 d_Store_back_6 rfl rfl rfl [0, 1, 2, 3, 4, 5, 6, 7] [8, 9, 10] [3, 4, 5, 6, 7, 8, 9, 10, 0, 1, 2] rfl rfl rfl rfl (by decide) rfl rfl rfl rfl rfl ⟨by decide, by decide⟩ ⟨by decide, by decide⟩ rfl (Nat.le_of_ble_eq_true rfl) ?_
  refine ks_aload_n rfl rfl C d_Store_back_9 ?_
  refine ks_get (k := 6) C 0 8 in_Store rfl (by decide) fk_Store_42 rfl rfl rfl d_Store_back_10 ?_
  refine ks_iload_n rfl rfl C d_Store_back_13 ?_
  refine ks_aload_n rfl rfl C d_Store_back_14 ?_
  refine ks_get (k := 5) C 0 8 in_Store rfl (by decide) fk_Store_35 rfl rfl rfl d_Store_back_15 ?_
  refine ks_cvW (ci := 3) (q0 := 0) (kw_store z0 tk0 tv0 gk0 gv0 d0 x0 m0 c0 t0 k0 _ _ _ ++ kw_marks K m0 m1 s0 s1 s2 s3 s4 _ _ _ _ _ _ ++ kw_pages K x0 x1 x2 _ _) (kw_store z0 tk0 tv0 gk0 gv0 d0 x0 m0 c0 t0 k0 _ _ _) C (c_Marks_restore_4 l D K m0 m1 s0 s1 s2 s3 s4 _ _ _ _ _ x0 x1 x2 _ _ _ (by omega) (by omega)) yw_Marks_restore sel_Marks_restore lk_Store_217 d_Store_back_18 rfl rfl rfl [1, 2, 3, 4, 5, 6, 7, 8, 9, 10] [0] [0, 1, 2, 3, 4, 5, 6, 7, 8, 9, 10] rfl rfl rfl rfl (by decide) rfl rfl rfl rfl rfl ⟨by decide, by decide⟩ ⟨by decide, by decide⟩ rfl (Nat.le_of_ble_eq_true rfl) ?_
  refine ks_aload_n rfl rfl C d_Store_back_21 ?_
  refine ks_get (k := 6) C 0 8 in_Store rfl (by decide) fk_Store_42 rfl rfl rfl d_Store_back_22 ?_
  refine ks_iload_n rfl rfl C d_Store_back_25 ?_
  refine ks_cvW (ci := 3) (q0 := 0) (kw_store z0 tk0 tv0 gk0 gv0 d0 x0 m0 c0 t0 k0 _ _ _ ++ kw_marks K m0 m1 s0 s1 s2 s3 s4 _ _ _ _ _ _ ++ kw_pages K x0 x1 x2 _ _) (kw_store z0 tk0 tv0 gk0 gv0 d0 x0 m0 c0 t0 k0 _ _ _ ++ kw_pages K x0 x1 x2 _ _) C (c_Marks_forgetAbove l D K m0 m1 s0 s1 s2 s3 s4 _ _ _ _ _ _ _ (by omega) (by omega)) yw_Marks_forgetAbove sel_Marks_forgetAbove lk_Store_221 d_Store_back_26 rfl rfl rfl [1, 2, 3, 4, 5, 6, 7] [0, 8, 9, 10] [0, 4, 5, 6, 7, 8, 9, 10, 1, 2, 3] rfl rfl rfl rfl (by decide) rfl rfl rfl rfl rfl ⟨by decide, by decide⟩ ⟨by decide, by decide⟩ rfl (Nat.le_of_ble_eq_true rfl) ?_
  exact ks_vret C Z rfl d_Store_back_29 rfl rfl ⟨rfl, rfl⟩
set_option maxRecDepth 100000 in
set_option maxHeartbeats 4000000 in
theorem c_Store_back_5 (l : Launch) (D : va_G) (K : Nat → ClassId) (z0 tk0 tv0 gk0 gv0 d0 x0 m0 c0 t0 k0 : Nat) (fnd : Bool) (m1 s0 s1 s2 s3 s4 : Nat) (S0 S1 S2 S3 S4 : Nat → UInt8) (cnt : Nat) (x1 x2 : Nat) (B : Nat → UInt8) (G : Nat → Bool) (h1 : 5 ≤ cnt) (h3 : cnt ≤ 5) : ks_M l D (ks_T K) (ks_R 4) y_Store_back b_Store_back 2 none [.ref z0, .int (nI 5)] (kw_store z0 tk0 tv0 gk0 gv0 d0 x0 m0 c0 t0 k0 fnd true true ++ kw_marks K m0 m1 s0 s1 s2 s3 s4 S0 S1 S2 S3 S4 cnt ++ kw_pages K x0 x1 x2 B G) (ks_f none (kw_store z0 tk0 tv0 gk0 gv0 d0 x0 m0 c0 t0 k0 fnd true true ++ kw_marks K m0 m1 s0 s1 s2 s3 s4 S0 S1 S2 S3 S4 (if 5 < cnt then 5 else cnt) ++ kw_pages K x0 x1 x2 (kv_load B S4) G)) := by
  refine ks_M.of 0 (by decide) (Nat.le_of_ble_eq_true rfl) ?_
  intro E C Z
  refine ks_aload_n rfl rfl C d_Store_back_0 ?_
  refine ks_cvW (ci := 8) (q0 := 0) (kw_store z0 tk0 tv0 gk0 gv0 d0 x0 m0 c0 t0 k0 _ _ _ ++ kw_marks K m0 m1 s0 s1 s2 s3 s4 _ _ _ _ _ _ ++ kw_pages K x0 x1 x2 _ _) (kw_marks K m0 m1 s0 s1 s2 s3 s4 _ _ _ _ _ _ ++ kw_pages K x0 x1 x2 _ _) C (c_Store_demandOpen_ok l D K z0 tk0 tv0 gk0 gv0 d0 x0 m0 c0 t0 k0 _) yw_Store_demandOpen sel_Store_demandOpen lk_Store_109 d_Store_back_1 rfl rfl rfl [0] [1, 2, 3, 4, 5, 6, 7, 8, 9, 10] [10, 0, 1, 2, 3, 4, 5, 6, 7, 8, 9] rfl rfl rfl rfl (by decide) rfl rfl rfl rfl rfl ⟨by decide, by decide⟩ ⟨by decide, by decide⟩ rfl (Nat.le_of_ble_eq_true rfl) ?_
  refine ks_aload_n rfl rfl C d_Store_back_4 ?_
  refine ks_iload_n rfl rfl C d_Store_back_5 ?_
  refine ks_cvW (ci := 8) (q0 := 0) (kw_store z0 tk0 tv0 gk0 gv0 d0 x0 m0 c0 t0 k0 _ _ _ ++ kw_marks K m0 m1 s0 s1 s2 s3 s4 _ _ _ _ _ _ ++ kw_pages K x0 x1 x2 _ _) (kw_pages K x0 x1 x2 _ _) C (c_Store_demandMark_ok l D K z0 tk0 tv0 gk0 gv0 d0 x0 m0 c0 t0 k0 _ _ _ m1 s0 s1 s2 s3 s4 _ _ _ _ _ _ _ (by omega) (by omega) (by omega)) yw_Store_demandMark sel_Store_demandMark lk_Store_214 d_Store_back_6 rfl rfl rfl [0, 1, 2, 3, 4, 5, 6, 7] [8, 9, 10] [3, 4, 5, 6, 7, 8, 9, 10, 0, 1, 2] rfl rfl rfl rfl (by decide) rfl rfl rfl rfl rfl ⟨by decide, by decide⟩ ⟨by decide, by decide⟩ rfl (Nat.le_of_ble_eq_true rfl) ?_
  refine ks_aload_n rfl rfl C d_Store_back_9 ?_
  refine ks_get (k := 6) C 0 8 in_Store rfl (by decide) fk_Store_42 rfl rfl rfl d_Store_back_10 ?_
  refine ks_iload_n rfl rfl C d_Store_back_13 ?_
  refine ks_aload_n rfl rfl C d_Store_back_14 ?_
  refine ks_get (k := 5) C 0 8 in_Store rfl (by decide) fk_Store_35 rfl rfl rfl d_Store_back_15 ?_
  refine ks_cvW (ci := 3) (q0 := 0) (kw_store z0 tk0 tv0 gk0 gv0 d0 x0 m0 c0 t0 k0 _ _ _ ++ kw_marks K m0 m1 s0 s1 s2 s3 s4 _ _ _ _ _ _ ++ kw_pages K x0 x1 x2 _ _) (kw_store z0 tk0 tv0 gk0 gv0 d0 x0 m0 c0 t0 k0 _ _ _) C (c_Marks_restore_5 l D K m0 m1 s0 s1 s2 s3 s4 _ _ _ _ _ x0 x1 x2 _ _ _ (by omega) (by omega)) yw_Marks_restore sel_Marks_restore lk_Store_217 d_Store_back_18 rfl rfl rfl [1, 2, 3, 4, 5, 6, 7, 8, 9, 10] [0] [0, 1, 2, 3, 4, 5, 6, 7, 8, 9, 10] rfl rfl rfl rfl (by decide) rfl rfl rfl rfl rfl ⟨by decide, by decide⟩ ⟨by decide, by decide⟩ rfl (Nat.le_of_ble_eq_true rfl) ?_
  refine ks_aload_n rfl rfl C d_Store_back_21 ?_
  refine ks_get (k := 6) C 0 8 in_Store rfl (by decide) fk_Store_42 rfl rfl rfl d_Store_back_22 ?_
  refine ks_iload_n rfl rfl C d_Store_back_25 ?_
  refine ks_cvW (ci := 3) (q0 := 0) (kw_store z0 tk0 tv0 gk0 gv0 d0 x0 m0 c0 t0 k0 _ _ _ ++ kw_marks K m0 m1 s0 s1 s2 s3 s4 _ _ _ _ _ _ ++ kw_pages K x0 x1 x2 _ _) (kw_store z0 tk0 tv0 gk0 gv0 d0 x0 m0 c0 t0 k0 _ _ _ ++ kw_pages K x0 x1 x2 _ _) C (c_Marks_forgetAbove l D K m0 m1 s0 s1 s2 s3 s4 _ _ _ _ _ _ _ (by omega) (by omega)) yw_Marks_forgetAbove sel_Marks_forgetAbove lk_Store_221 d_Store_back_26 rfl rfl rfl [1, 2, 3, 4, 5, 6, 7] [0, 8, 9, 10] [0, 4, 5, 6, 7, 8, 9, 10, 1, 2, 3] rfl rfl rfl rfl (by decide) rfl rfl rfl rfl rfl ⟨by decide, by decide⟩ ⟨by decide, by decide⟩ rfl (Nat.le_of_ble_eq_true rfl) ?_
  exact ks_vret C Z rfl d_Store_back_29 rfl rfl ⟨rfl, rfl⟩
set_option maxRecDepth 100000 in
set_option maxHeartbeats 4000000 in
theorem c_Store_keep_T1 (l : Launch) (hNT : l.stackTraces = false) (D : va_G) (K : Nat → ClassId) (z0 tk0 tv0 gk0 gv0 d0 x0 m0 c0 t0 k0 : Nat) (fnd opn : Bool) (m : Nat) : kt_M l D (ks_T K) (kt_R 7) y_Store_keep b_Store_keep 2 none [.ref z0, .int (nI m)] (kw_store z0 tk0 tv0 gk0 gv0 d0 x0 m0 c0 t0 k0 fnd false opn) "java/lang/IllegalStateException" (kw_store z0 tk0 tv0 gk0 gv0 d0 x0 m0 c0 t0 k0 fnd false opn) := by
  refine kt_M.of hNT 0 (by decide) (Nat.le_of_ble_eq_true rfl) ?_
  intro E C Kt Z
  refine ks_aload_n rfl rfl C d_Store_keep_0 ?_
  exact ks_callTW (ci := 8) (q0 := 0) ([] : va_W) C Kt Z (c_Store_demandOpen_T1 l hNT D K z0 tk0 tv0 gk0 gv0 d0 x0 m0 c0 t0 k0 _ _) yw_Store_demandOpen sel_Store_demandOpen lk_Store_109 d_Store_keep_1 rfl rfl rfl [0] [] [0] rfl rfl rfl rfl (by decide) rfl rfl rfl rfl ⟨by decide, by decide⟩ ⟨by decide, by decide⟩ (Nat.le_of_ble_eq_true rfl) rfl rfl
set_option maxRecDepth 100000 in
set_option maxHeartbeats 4000000 in
theorem c_Store_keep_T2 (l : Launch) (hNT : l.stackTraces = false) (D : va_G) (K : Nat → ClassId) (z0 tk0 tv0 gk0 gv0 d0 x0 m0 c0 t0 k0 : Nat) (fnd : Bool) (m : Nat) : kt_M l D (ks_T K) (kt_R 7) y_Store_keep b_Store_keep 2 none [.ref z0, .int (nI m)] (kw_store z0 tk0 tv0 gk0 gv0 d0 x0 m0 c0 t0 k0 fnd true false) "java/lang/IllegalStateException" (kw_store z0 tk0 tv0 gk0 gv0 d0 x0 m0 c0 t0 k0 fnd true false) := by
  refine kt_M.of hNT 0 (by decide) (Nat.le_of_ble_eq_true rfl) ?_
  intro E C Kt Z
  refine ks_aload_n rfl rfl C d_Store_keep_0 ?_
  exact ks_callTW (ci := 8) (q0 := 0) ([] : va_W) C Kt Z (c_Store_demandOpen_T2 l hNT D K z0 tk0 tv0 gk0 gv0 d0 x0 m0 c0 t0 k0 _) yw_Store_demandOpen sel_Store_demandOpen lk_Store_109 d_Store_keep_1 rfl rfl rfl [0] [] [0] rfl rfl rfl rfl (by decide) rfl rfl rfl rfl ⟨by decide, by decide⟩ ⟨by decide, by decide⟩ (Nat.le_of_ble_eq_true rfl) rfl rfl
set_option maxRecDepth 100000 in
set_option maxHeartbeats 4000000 in
theorem c_Store_keep_T3 (l : Launch) (hNT : l.stackTraces = false) (D : va_G) (K : Nat → ClassId) (z0 tk0 tv0 gk0 gv0 d0 x0 m0 c0 t0 k0 : Nat) (fnd : Bool) (m1 s0 s1 s2 s3 s4 : Nat) (S0 S1 S2 S3 S4 : Nat → UInt8) (cnt : Nat) (m : Nat) (h1 : m = 0 ∨ cnt < m) (h2 : m < 4294967296) (h3 : cnt ≤ 5) : kt_M l D (ks_T K) (kt_R 7) y_Store_keep b_Store_keep 2 none [.ref z0, .int (nI m)] (kw_store z0 tk0 tv0 gk0 gv0 d0 x0 m0 c0 t0 k0 fnd true true ++ kw_marks K m0 m1 s0 s1 s2 s3 s4 S0 S1 S2 S3 S4 cnt) "java/lang/IndexOutOfBoundsException" (kw_store z0 tk0 tv0 gk0 gv0 d0 x0 m0 c0 t0 k0 fnd true true ++ kw_marks K m0 m1 s0 s1 s2 s3 s4 S0 S1 S2 S3 S4 cnt) := by
  refine kt_M.of hNT 0 (by decide) (Nat.le_of_ble_eq_true rfl) ?_
  intro E C Kt Z
  refine ks_aload_n rfl rfl C d_Store_keep_0 ?_
  refine ks_cvW (ci := 8) (q0 := 0) (kw_store z0 tk0 tv0 gk0 gv0 d0 x0 m0 c0 t0 k0 _ _ _ ++ kw_marks K m0 m1 s0 s1 s2 s3 s4 _ _ _ _ _ _) (kw_marks K m0 m1 s0 s1 s2 s3 s4 _ _ _ _ _ _) C (c_Store_demandOpen_ok l D K z0 tk0 tv0 gk0 gv0 d0 x0 m0 c0 t0 k0 _) yw_Store_demandOpen sel_Store_demandOpen lk_Store_109 d_Store_keep_1 rfl rfl rfl [0] [1, 2, 3, 4, 5, 6, 7] [7, 0, 1, 2, 3, 4, 5, 6] rfl rfl rfl rfl (by decide) rfl rfl rfl rfl rfl ⟨by decide, by decide⟩ ⟨by decide, by decide⟩ rfl (Nat.le_of_ble_eq_true rfl) ?_
  refine ks_aload_n rfl rfl C d_Store_keep_4 ?_
  refine ks_iload_n rfl rfl C d_Store_keep_5 ?_
  exact ks_callTW (ci := 8) (q0 := 0) ([] : va_W) C Kt Z (c_Store_demandMark_T l hNT D K z0 tk0 tv0 gk0 gv0 d0 x0 m0 c0 t0 k0 _ _ _ m1 s0 s1 s2 s3 s4 _ _ _ _ _ _ _ (by omega) (by omega) (by omega)) yw_Store_demandMark sel_Store_demandMark lk_Store_214 d_Store_keep_6 rfl rfl rfl [0, 1, 2, 3, 4, 5, 6, 7] [] [0, 1, 2, 3, 4, 5, 6, 7] rfl rfl rfl rfl (by decide) rfl rfl rfl rfl ⟨by decide, by decide⟩ ⟨by decide, by decide⟩ (Nat.le_of_ble_eq_true rfl) rfl rfl
set_option maxRecDepth 100000 in
set_option maxHeartbeats 4000000 in
theorem c_Store_keep_ok (l : Launch) (D : va_G) (K : Nat → ClassId) (z0 tk0 tv0 gk0 gv0 d0 x0 m0 c0 t0 k0 : Nat) (fnd : Bool) (m1 s0 s1 s2 s3 s4 : Nat) (S0 S1 S2 S3 S4 : Nat → UInt8) (cnt : Nat) (m : Nat) (h1 : 1 ≤ m) (h2 : m ≤ cnt) (h3 : cnt ≤ 5) : ks_M l D (ks_T K) (ks_R 2) y_Store_keep b_Store_keep 2 none [.ref z0, .int (nI m)] (kw_store z0 tk0 tv0 gk0 gv0 d0 x0 m0 c0 t0 k0 fnd true true ++ kw_marks K m0 m1 s0 s1 s2 s3 s4 S0 S1 S2 S3 S4 cnt) (ks_f none (kw_store z0 tk0 tv0 gk0 gv0 d0 x0 m0 c0 t0 k0 fnd true true ++ kw_marks K m0 m1 s0 s1 s2 s3 s4 S0 S1 S2 S3 S4 (if m - 1 < cnt then m - 1 else cnt))) := by
  refine ks_M.of 0 (by decide) (Nat.le_of_ble_eq_true rfl) ?_
  intro E C Z
  refine ks_aload_n rfl rfl C d_Store_keep_0 ?_
  refine ks_cvW (ci := 8) (q0 := 0) (kw_store z0 tk0 tv0 gk0 gv0 d0 x0 m0 c0 t0 k0 _ _ _ ++ kw_marks K m0 m1 s0 s1 s2 s3 s4 _ _ _ _ _ _) (kw_marks K m0 m1 s0 s1 s2 s3 s4 _ _ _ _ _ _) C (c_Store_demandOpen_ok l D K z0 tk0 tv0 gk0 gv0 d0 x0 m0 c0 t0 k0 _) yw_Store_demandOpen sel_Store_demandOpen lk_Store_109 d_Store_keep_1 rfl rfl rfl [0] [1, 2, 3, 4, 5, 6, 7] [7, 0, 1, 2, 3, 4, 5, 6] rfl rfl rfl rfl (by decide) rfl rfl rfl rfl rfl ⟨by decide, by decide⟩ ⟨by decide, by decide⟩ rfl (Nat.le_of_ble_eq_true rfl) ?_
  refine ks_aload_n rfl rfl C d_Store_keep_4 ?_
  refine ks_iload_n rfl rfl C d_Store_keep_5 ?_
  refine ks_cvW (ci := 8) (q0 := 0) (kw_store z0 tk0 tv0 gk0 gv0 d0 x0 m0 c0 t0 k0 _ _ _ ++ kw_marks K m0 m1 s0 s1 s2 s3 s4 _ _ _ _ _ _) ([] : va_W) C (c_Store_demandMark_ok l D K z0 tk0 tv0 gk0 gv0 d0 x0 m0 c0 t0 k0 _ _ _ m1 s0 s1 s2 s3 s4 _ _ _ _ _ _ _ (by omega) (by omega) (by omega)) yw_Store_demandMark sel_Store_demandMark lk_Store_214 d_Store_keep_6 rfl rfl rfl [0, 1, 2, 3, 4, 5, 6, 7] [] [0, 1, 2, 3, 4, 5, 6, 7] rfl rfl rfl rfl (by decide) rfl rfl rfl rfl rfl ⟨by decide, by decide⟩ ⟨by decide, by decide⟩ rfl (Nat.le_of_ble_eq_true rfl) ?_
  refine ks_aload_n rfl rfl C d_Store_keep_9 ?_
  refine ks_get (k := 6) C 0 8 in_Store rfl (by decide) fk_Store_42 rfl rfl rfl d_Store_keep_10 ?_
  refine ks_iload_n rfl rfl C d_Store_keep_13 ?_
  refine ks_iconst (a := 1) rfl C d_Store_keep_14 ?_
  refine ks_isub (by omega) C d_Store_keep_15 ?_
  refine ks_cvW (ci := 3) (q0 := 0) (kw_store z0 tk0 tv0 gk0 gv0 d0 x0 m0 c0 t0 k0 _ _ _ ++ kw_marks K m0 m1 s0 s1 s2 s3 s4 _ _ _ _ _ _) (kw_store z0 tk0 tv0 gk0 gv0 d0 x0 m0 c0 t0 k0 _ _ _) C (c_Marks_forgetAbove l D K m0 m1 s0 s1 s2 s3 s4 _ _ _ _ _ _ _ (by omega) (by omega)) yw_Marks_forgetAbove sel_Marks_forgetAbove lk_Store_221 d_Store_keep_16 rfl rfl rfl [1, 2, 3, 4, 5, 6, 7] [0] [0, 1, 2, 3, 4, 5, 6, 7] rfl rfl rfl rfl (by decide) rfl rfl rfl rfl rfl ⟨by decide, by decide⟩ ⟨by decide, by decide⟩ rfl (Nat.le_of_ble_eq_true rfl) ?_
  exact ks_vret C Z rfl d_Store_keep_19 rfl rfl ⟨rfl, rfl⟩
set_option maxRecDepth 100000 in
set_option maxHeartbeats 4000000 in
theorem c_Store_power_T (l : Launch) (hNT : l.stackTraces = false) (D : va_G) (K : Nat → ClassId) (z0 tk0 tv0 gk0 gv0 d0 x0 m0 c0 t0 k0 : Nat) (fnd on opn : Bool) (w k b : Nat) (h1 : w < 4294967296) (h2 : k < 4294967296) (h3 : b < 4294967296) (h4 : 4 < w ∨ 1000 < k ∨ 300 < b) : kt_M l D (ks_T K) (kt_R 6) y_Store_power b_Store_power 4 none [.ref z0, .int (nI w), .int (nI k), .int (nI b)] (kw_store z0 tk0 tv0 gk0 gv0 d0 x0 m0 c0 t0 k0 fnd on opn) "java/lang/IllegalArgumentException" (kw_store z0 tk0 tv0 gk0 gv0 d0 x0 m0 c0 t0 k0 fnd on opn) := by
  refine kt_M.of hNT 0 (by decide) (Nat.le_of_ble_eq_true rfl) ?_
  intro E C Kt Z
  refine ks_iload_n rfl rfl C d_Store_power_0 ?_
  refine ks_ifR_lt (tgt := 31) C (by omega) (by decide) d_Store_power_1 (fun u1 => ?_) (fun u1 => ?_)
  · exact ks_throw (names := kt_n2) C Kt Z (by decide +kernel) (by decide +kernel) (kt_site kt_wIAE kt_s224) d_Store_power_31 d_Store_power_34 d_Store_power_35 d_Store_power_37 d_Store_power_40 (by decide) (by decide) (by decide) (by decide) rfl rfl rfl
  · refine ks_iload_n rfl rfl C d_Store_power_4 ?_
    refine ks_iconst (a := 4) rfl C d_Store_power_5 ?_
    refine ks_icmpR_gt (tgt := 31) C (by omega) (by omega) (by decide) d_Store_power_6 (fun u2 => ?_) (fun u2 => ?_)
    · exact ks_throw (names := kt_n2) C Kt Z (by decide +kernel) (by decide +kernel) (kt_site kt_wIAE kt_s224) d_Store_power_31 d_Store_power_34 d_Store_power_35 d_Store_power_37 d_Store_power_40 (by decide) (by decide) (by decide) (by decide) rfl rfl rfl
    · refine ks_iload_n rfl rfl C d_Store_power_9 ?_
      refine ks_ifR_lt (tgt := 31) C (by omega) (by decide) d_Store_power_10 (fun u3 => ?_) (fun u3 => ?_)
      · exact ks_throw (names := kt_n2) C Kt Z (by decide +kernel) (by decide +kernel) (kt_site kt_wIAE kt_s224) d_Store_power_31 d_Store_power_34 d_Store_power_35 d_Store_power_37 d_Store_power_40 (by decide) (by decide) (by decide) (by decide) rfl rfl rfl
      · refine ks_iload_n rfl rfl C d_Store_power_13 ?_
        refine ks_sipush (a := 1000) rfl C d_Store_power_14 ?_
        refine ks_icmpR_gt (tgt := 31) C (by omega) (by omega) (by decide) d_Store_power_17 (fun u4 => ?_) (fun u4 => ?_)
        · exact ks_throw (names := kt_n2) C Kt Z (by decide +kernel) (by decide +kernel) (kt_site kt_wIAE kt_s224) d_Store_power_31 d_Store_power_34 d_Store_power_35 d_Store_power_37 d_Store_power_40 (by decide) (by decide) (by decide) (by decide) rfl rfl rfl
        · refine ks_iload_n rfl rfl C d_Store_power_20 ?_
          refine ks_ifR_lt (tgt := 31) C (by omega) (by decide) d_Store_power_21 (fun u5 => ?_) (fun u5 => ?_)
          · exact ks_throw (names := kt_n2) C Kt Z (by decide +kernel) (by decide +kernel) (kt_site kt_wIAE kt_s224) d_Store_power_31 d_Store_power_34 d_Store_power_35 d_Store_power_37 d_Store_power_40 (by decide) (by decide) (by decide) (by decide) rfl rfl rfl
          · refine ks_iload_n rfl rfl C d_Store_power_24 ?_
            refine ks_sipush (a := 300) rfl C d_Store_power_25 ?_
            refine ks_icmpR_le (tgt := 41) C (by omega) (by omega) (by decide) d_Store_power_28 (fun u6 => ?_) (fun u6 => ?_)
            · exact (by omega : False).elim
            · exact ks_throw (names := kt_n2) C Kt Z (by decide +kernel) (by decide +kernel) (kt_site kt_wIAE kt_s224) d_Store_power_31 d_Store_power_34 d_Store_power_35 d_Store_power_37 d_Store_power_40 (by decide) (by decide) (by decide) (by decide) rfl rfl rfl
set_option maxRecDepth 100000 in
set_option maxHeartbeats 4000000 in
theorem c_Store_power_ok (l : Launch) (D : va_G) (K : Nat → ClassId) (z0 tk0 tv0 gk0 gv0 d0 x0 m0 c0 t0 k0 : Nat) (fnd on opn : Bool) (d1 d2 d3 : Nat) (F J Rc : Nat → UInt8) (jl fw fk fb : Nat) (w k b : Nat) (h1 : w < 4294967296) (h2 : k < 4294967296) (h3 : b < 4294967296) (h4 : w ≤ 4) (h5 : k ≤ 1000) (h6 : b ≤ 300) : ks_M l D (ks_T K) (ks_R 1) y_Store_power b_Store_power 4 none [.ref z0, .int (nI w), .int (nI k), .int (nI b)] (kw_store z0 tk0 tv0 gk0 gv0 d0 x0 m0 c0 t0 k0 fnd on opn ++ kw_disk K d0 d1 d2 d3 F J Rc jl fw fk fb) (ks_f none (kw_store z0 tk0 tv0 gk0 gv0 d0 x0 m0 c0 t0 k0 fnd on opn ++ kw_disk K d0 d1 d2 d3 F J Rc jl w k b)) := by
  refine ks_M.of 0 (by decide) (Nat.le_of_ble_eq_true rfl) ?_
  intro E C Z
  refine ks_iload_n rfl rfl C d_Store_power_0 ?_
  refine ks_ifR_lt (tgt := 31) C (by omega) (by decide) d_Store_power_1 (fun u1 => ?_) (fun u1 => ?_)
  · exact (by omega : False).elim
  · refine ks_iload_n rfl rfl C d_Store_power_4 ?_
    refine ks_iconst (a := 4) rfl C d_Store_power_5 ?_
    refine ks_icmpR_gt (tgt := 31) C (by omega) (by omega) (by decide) d_Store_power_6 (fun u2 => ?_) (fun u2 => ?_)
    · exact (by omega : False).elim
    · refine ks_iload_n rfl rfl C d_Store_power_9 ?_
      refine ks_ifR_lt (tgt := 31) C (by omega) (by decide) d_Store_power_10 (fun u3 => ?_) (fun u3 => ?_)
      · exact (by omega : False).elim
      · refine ks_iload_n rfl rfl C d_Store_power_13 ?_
        refine ks_sipush (a := 1000) rfl C d_Store_power_14 ?_
        refine ks_icmpR_gt (tgt := 31) C (by omega) (by omega) (by decide) d_Store_power_17 (fun u4 => ?_) (fun u4 => ?_)
        · exact (by omega : False).elim
        · refine ks_iload_n rfl rfl C d_Store_power_20 ?_
          refine ks_ifR_lt (tgt := 31) C (by omega) (by decide) d_Store_power_21 (fun u5 => ?_) (fun u5 => ?_)
          · exact (by omega : False).elim
          · refine ks_iload_n rfl rfl C d_Store_power_24 ?_
            refine ks_sipush (a := 300) rfl C d_Store_power_25 ?_
            refine ks_icmpR_le (tgt := 41) C (by omega) (by omega) (by decide) d_Store_power_28 (fun u6 => ?_) (fun u6 => ?_)
            · refine ks_aload_n rfl rfl C d_Store_power_41 ?_
              refine ks_get (k := 4) C 0 8 in_Store rfl (by decide) fk_Store_28 rfl rfl rfl d_Store_power_42 ?_
              refine ks_iload_n rfl rfl C d_Store_power_45 ?_
              refine ks_iload_n rfl rfl C d_Store_power_46 ?_
              refine ks_iload_n rfl rfl C d_Store_power_47 ?_
              refine ks_cvW (ci := 2) (q0 := 0) (kw_store z0 tk0 tv0 gk0 gv0 d0 x0 m0 c0 t0 k0 _ _ _ ++ kw_disk K d0 d1 d2 d3 _ _ _ _ _ _ _) (kw_store z0 tk0 tv0 gk0 gv0 d0 x0 m0 c0 t0 k0 _ _ _) C (c_Disk_plan l D K d0 d1 d2 d3 _ _ _ _ _ _ _ _ _ _) yw_Disk_plan sel_Disk_plan lk_Store_226 d_Store_power_48 rfl rfl rfl [1, 2, 3, 4] [0] [0, 1, 2, 3, 4] rfl rfl rfl rfl (by decide) rfl rfl rfl rfl rfl ⟨by decide, by decide⟩ ⟨by decide, by decide⟩ rfl (Nat.le_of_ble_eq_true rfl) ?_
              exact ks_vret C Z rfl d_Store_power_51 rfl rfl ⟨rfl, rfl⟩
            · exact (by omega : False).elim
set_option maxRecDepth 100000 in
set_option maxHeartbeats 4000000 in
theorem c_Store_reopen_T (l : Launch) (hNT : l.stackTraces = false) (D : va_G) (K : Nat → ClassId) (z0 tk0 tv0 gk0 gv0 d0 x0 m0 c0 t0 k0 : Nat) (fnd on opn : Bool) (tk1 : Nat) (Kb : Nat → UInt8) (kl : Nat) (tv1 : Nat) (Vb : Nat → UInt8) (vl : Nat) (gk1 : Nat) (Gb : Nat → UInt8) (gl : Nat) (gv1 : Nat) (Eb : Nat → UInt8) (el : Nat) (d1 d2 d3 : Nat) (F J Rc : Nat → UInt8) (jl fw fk fb : Nat) (m1 s0 s1 s2 s3 s4 : Nat) (S0 S1 S2 S3 S4 : Nat → UInt8) (cnt : Nat) (h1 : ((kv_rcL J fw fk fb (jl / 34) 0 true F).1 && decide (fw ≠ 3)) = false) (h5 : cnt ≤ 5) (h2 : jl ≤ 92480) (hw : fw ≤ 4) (hk : fk ≤ 1000) (hb : fb ≤ 300) : kt_M l D (ks_T K) (kt_R 6) y_Store_reopen b_Store_reopen 1 (some .int) [.ref z0] (kw_store z0 tk0 tv0 gk0 gv0 d0 x0 m0 c0 t0 k0 fnd on opn ++ kw_row K tk0 tk1 Kb kl ++ kw_row K tv0 tv1 Vb vl ++ kw_row K gk0 gk1 Gb gl ++ kw_row K gv0 gv1 Eb el ++ kw_disk K d0 d1 d2 d3 F J Rc jl fw fk fb ++ kw_marks K m0 m1 s0 s1 s2 s3 s4 S0 S1 S2 S3 S4 cnt) "java/lang/ArithmeticException" (kw_store z0 tk0 tv0 gk0 gv0 d0 x0 m0 c0 t0 k0 false false false ++ kw_row K tk0 tk1 Kb 0 ++ kw_row K tv0 tv1 Vb 0 ++ kw_row K gk0 gk1 Gb 0 ++ kw_row K gv0 gv1 Eb 0 ++ kw_disk K d0 d1 d2 d3 (kv_rcL J fw fk fb (jl / 34) 0 true F).2 J Rc (if ((kv_rcL J fw fk fb (jl / 34) 0 true F).1 && decide (fw ≠ 3)) = true then 0 else jl) 4 fk fb ++ kw_marks K m0 m1 s0 s1 s2 s3 s4 S0 S1 S2 S3 S4 0) := by
  refine kt_M.of hNT 0 (by decide) (Nat.le_of_ble_eq_true rfl) ?_
  intro E C Kt Z
  refine ks_aload_n rfl rfl C d_Store_reopen_0 ?_
  refine ks_cvW (ci := 8) (q0 := 0) (kw_store z0 tk0 tv0 gk0 gv0 d0 x0 m0 c0 t0 k0 _ _ _ ++ kw_row K tk0 tk1 _ _ ++ kw_row K tv0 tv1 _ _ ++ kw_row K gk0 gk1 _ _ ++ kw_row K gv0 gv1 _ _ ++ kw_disk K d0 d1 d2 d3 _ _ _ _ _ _ _ ++ kw_marks K m0 m1 s0 s1 s2 s3 s4 _ _ _ _ _ _) (kw_disk K d0 d1 d2 d3 _ _ _ _ _ _ _) C (c_Store_losePower l D K z0 tk0 tv0 gk0 gv0 d0 x0 m0 c0 t0 k0 _ _ _ tk1 _ _ tv1 _ _ gk1 _ _ gv1 _ _ m1 s0 s1 s2 s3 s4 _ _ _ _ _ _ (by omega)) yw_Store_losePower sel_Store_losePower lk_Store_192 d_Store_reopen_1 rfl rfl rfl [0, 1, 2, 3, 4, 5, 6, 7, 8, 13, 14, 15, 16, 17, 18, 19] [9, 10, 11, 12] [4, 5, 6, 7, 8, 9, 10, 11, 12, 0, 1, 2, 3, 13, 14, 15, 16, 17, 18, 19] rfl rfl rfl rfl (by decide) rfl rfl rfl rfl rfl ⟨by decide, by decide⟩ ⟨by decide, by decide⟩ rfl (Nat.le_of_ble_eq_true rfl) ?_
  refine ks_aload_n rfl rfl C d_Store_reopen_4 ?_
  refine ks_get (k := 4) C 0 8 in_Store rfl (by decide) fk_Store_28 rfl rfl rfl d_Store_reopen_5 ?_
  refine ks_cxW (ci := 2) (q0 := 0) (kw_store z0 tk0 tv0 gk0 gv0 d0 x0 m0 c0 t0 k0 _ _ _ ++ kw_row K tk0 tk1 _ _ ++ kw_row K tv0 tv1 _ _ ++ kw_row K gk0 gk1 _ _ ++ kw_row K gv0 gv1 _ _ ++ kw_disk K d0 d1 d2 d3 _ _ _ _ _ _ _ ++ kw_marks K m0 m1 s0 s1 s2 s3 s4 _ _ _ _ _ _) (kw_store z0 tk0 tv0 gk0 gv0 d0 x0 m0 c0 t0 k0 _ _ _ ++ kw_row K tk0 tk1 _ _ ++ kw_row K tv0 tv1 _ _ ++ kw_row K gk0 gk1 _ _ ++ kw_row K gv0 gv1 _ _ ++ kw_marks K m0 m1 s0 s1 s2 s3 s4 _ _ _ _ _ _) C (c_Disk_recover l D K d0 d1 d2 d3 _ _ _ _ _ _ _ (by omega) (by omega) (by omega) (by omega)) yw_Disk_recover sel_Disk_recover lk_Store_230 d_Store_reopen_8 rfl rfl rfl [9, 10, 11, 12] [0, 1, 2, 3, 4, 5, 6, 7, 8, 13, 14, 15, 16, 17, 18, 19] [0, 1, 2, 3, 4, 5, 6, 7, 8, 16, 17, 18, 19, 9, 10, 11, 12, 13, 14, 15] rfl rfl rfl rfl (by decide) rfl rfl rfl rfl rfl ⟨by decide, by decide⟩ ⟨by decide, by decide⟩ rfl (Nat.le_of_ble_eq_true rfl) ?_
  refine ks_ifB_ne (tgt := 24) C (by decide) d_Store_reopen_11 (fun u1 => ?_) (fun u1 => ?_)
  · exact absurd (h1.symm.trans u1) (by decide)
  · exact ks_throw (names := kt_n2) C Kt Z (by decide +kernel) (by decide +kernel) (kt_site kt_wAE kt_s197) d_Store_reopen_14 d_Store_reopen_17 d_Store_reopen_18 d_Store_reopen_20 d_Store_reopen_23 (by decide) (by decide) (by decide) (by decide) rfl rfl rfl
set_option maxRecDepth 100000 in
set_option maxHeartbeats 4000000 in
theorem c_Store_reopen_ok (l : Launch) (D : va_G) (K : Nat → ClassId) (z0 tk0 tv0 gk0 gv0 d0 x0 m0 c0 t0 k0 : Nat) (fnd on opn : Bool) (tk1 : Nat) (Kb : Nat → UInt8) (kl : Nat) (tv1 : Nat) (Vb : Nat → UInt8) (vl : Nat) (gk1 : Nat) (Gb : Nat → UInt8) (gl : Nat) (gv1 : Nat) (Eb : Nat → UInt8) (el : Nat) (d1 d2 d3 : Nat) (F J Rc : Nat → UInt8) (jl fw fk fb : Nat) (x1 x2 : Nat) (B : Nat → UInt8) (G : Nat → Bool) (m1 s0 s1 s2 s3 s4 : Nat) (S0 S1 S2 S3 S4 : Nat → UInt8) (cnt : Nat) (h1 : ((kv_rcL J fw fk fb (jl / 34) 0 true F).1 && decide (fw ≠ 3)) = true) (h5 : cnt ≤ 5) (h2 : jl ≤ 92480) (hw : fw ≤ 4) (hk : fk ≤ 1000) (hb : fb ≤ 300) : ks_M l D (ks_T K) (ks_R 4) y_Store_reopen b_Store_reopen 1 (some .int) [.ref z0] (kw_store z0 tk0 tv0 gk0 gv0 d0 x0 m0 c0 t0 k0 fnd on opn ++ kw_row K tk0 tk1 Kb kl ++ kw_row K tv0 tv1 Vb vl ++ kw_row K gk0 gk1 Gb gl ++ kw_row K gv0 gv1 Eb el ++ kw_disk K d0 d1 d2 d3 F J Rc jl fw fk fb ++ kw_pages K x0 x1 x2 B G ++ kw_marks K m0 m1 s0 s1 s2 s3 s4 S0 S1 S2 S3 S4 cnt) (ks_f (some (.int (nI (kv_num (kv_load B (kv_rcL J fw fk fb (jl / 34) 0 true F).2) 6)))) (kw_store z0 tk0 tv0 gk0 gv0 d0 x0 m0 c0 t0 k0 false true false ++ kw_row K tk0 tk1 Kb 0 ++ kw_row K tv0 tv1 Vb 0 ++ kw_row K gk0 gk1 Gb 0 ++ kw_row K gv0 gv1 Eb 0 ++ kw_disk K d0 d1 d2 d3 (kv_rcL J fw fk fb (jl / 34) 0 true F).2 J Rc (if ((kv_rcL J fw fk fb (jl / 34) 0 true F).1 && decide (fw ≠ 3)) = true then 0 else jl) 4 fk fb ++ kw_pages K x0 x1 x2 (kv_load B (kv_rcL J fw fk fb (jl / 34) 0 true F).2) (kv_clr G 2720) ++ kw_marks K m0 m1 s0 s1 s2 s3 s4 S0 S1 S2 S3 S4 0)) := by
  refine ks_M.of 0 (by decide) (Nat.le_of_ble_eq_true rfl) ?_
  intro E C Z
  refine ks_aload_n rfl rfl C d_Store_reopen_0 ?_
  refine ks_cvW (ci := 8) (q0 := 0) (kw_store z0 tk0 tv0 gk0 gv0 d0 x0 m0 c0 t0 k0 _ _ _ ++ kw_row K tk0 tk1 _ _ ++ kw_row K tv0 tv1 _ _ ++ kw_row K gk0 gk1 _ _ ++ kw_row K gv0 gv1 _ _ ++ kw_disk K d0 d1 d2 d3 _ _ _ _ _ _ _ ++ kw_pages K x0 x1 x2 _ _ ++ kw_marks K m0 m1 s0 s1 s2 s3 s4 _ _ _ _ _ _) (kw_disk K d0 d1 d2 d3 _ _ _ _ _ _ _ ++ kw_pages K x0 x1 x2 _ _) C (c_Store_losePower l D K z0 tk0 tv0 gk0 gv0 d0 x0 m0 c0 t0 k0 _ _ _ tk1 _ _ tv1 _ _ gk1 _ _ gv1 _ _ m1 s0 s1 s2 s3 s4 _ _ _ _ _ _ (by omega)) yw_Store_losePower sel_Store_losePower lk_Store_192 d_Store_reopen_1 rfl rfl rfl [0, 1, 2, 3, 4, 5, 6, 7, 8, 16, 17, 18, 19, 20, 21, 22] [9, 10, 11, 12, 13, 14, 15] [7, 8, 9, 10, 11, 12, 13, 14, 15, 0, 1, 2, 3, 4, 5, 6, 16, 17, 18, 19, 20, 21, 22] rfl rfl rfl rfl (by decide) rfl rfl rfl rfl rfl ⟨by decide, by decide⟩ ⟨by decide, by decide⟩ rfl (Nat.le_of_ble_eq_true rfl) ?_
  refine ks_aload_n rfl rfl C d_Store_reopen_4 ?_
  refine ks_get (k := 4) C 0 8 in_Store rfl (by decide) fk_Store_28 rfl rfl rfl d_Store_reopen_5 ?_
  refine ks_cxW (ci := 2) (q0 := 0) (kw_store z0 tk0 tv0 gk0 gv0 d0 x0 m0 c0 t0 k0 _ _ _ ++ kw_row K tk0 tk1 _ _ ++ kw_row K tv0 tv1 _ _ ++ kw_row K gk0 gk1 _ _ ++ kw_row K gv0 gv1 _ _ ++ kw_disk K d0 d1 d2 d3 _ _ _ _ _ _ _ ++ kw_pages K x0 x1 x2 _ _ ++ kw_marks K m0 m1 s0 s1 s2 s3 s4 _ _ _ _ _ _) (kw_store z0 tk0 tv0 gk0 gv0 d0 x0 m0 c0 t0 k0 _ _ _ ++ kw_row K tk0 tk1 _ _ ++ kw_row K tv0 tv1 _ _ ++ kw_row K gk0 gk1 _ _ ++ kw_row K gv0 gv1 _ _ ++ kw_pages K x0 x1 x2 _ _ ++ kw_marks K m0 m1 s0 s1 s2 s3 s4 _ _ _ _ _ _) C (c_Disk_recover l D K d0 d1 d2 d3 _ _ _ _ _ _ _ (by omega) (by omega) (by omega) (by omega)) yw_Disk_recover sel_Disk_recover lk_Store_230 d_Store_reopen_8 rfl rfl rfl [9, 10, 11, 12] [0, 1, 2, 3, 4, 5, 6, 7, 8, 13, 14, 15, 16, 17, 18, 19, 20, 21, 22] [0, 1, 2, 3, 4, 5, 6, 7, 8, 19, 20, 21, 22, 9, 10, 11, 12, 13, 14, 15, 16, 17, 18] rfl rfl rfl rfl (by decide) rfl rfl rfl rfl rfl ⟨by decide, by decide⟩ ⟨by decide, by decide⟩ rfl (Nat.le_of_ble_eq_true rfl) ?_
  refine ks_ifB_ne (tgt := 24) C (by decide) d_Store_reopen_11 (fun u1 => ?_) (fun u1 => ?_)
  · refine ks_aload_n rfl rfl C d_Store_reopen_24 ?_
    refine ks_get (k := 4) C 0 8 in_Store rfl (by decide) fk_Store_28 rfl rfl rfl d_Store_reopen_25 ?_
    refine ks_aload_n rfl rfl C d_Store_reopen_28 ?_
    refine ks_get (k := 5) C 0 8 in_Store rfl (by decide) fk_Store_35 rfl rfl rfl d_Store_reopen_29 ?_
    refine ks_cvW (ci := 2) (q0 := 0) (kw_store z0 tk0 tv0 gk0 gv0 d0 x0 m0 c0 t0 k0 _ _ _ ++ kw_row K tk0 tk1 _ _ ++ kw_row K tv0 tv1 _ _ ++ kw_row K gk0 gk1 _ _ ++ kw_row K gv0 gv1 _ _ ++ kw_disk K d0 d1 d2 d3 _ _ _ _ _ _ _ ++ kw_pages K x0 x1 x2 _ _ ++ kw_marks K m0 m1 s0 s1 s2 s3 s4 _ _ _ _ _ _) (kw_store z0 tk0 tv0 gk0 gv0 d0 x0 m0 c0 t0 k0 _ _ _ ++ kw_row K tk0 tk1 _ _ ++ kw_row K tv0 tv1 _ _ ++ kw_row K gk0 gk1 _ _ ++ kw_row K gv0 gv1 _ _ ++ kw_marks K m0 m1 s0 s1 s2 s3 s4 _ _ _ _ _ _) C (c_Disk_load l D K d0 d1 d2 d3 _ _ _ _ _ _ _ x0 x1 x2 _ _) yw_Disk_load sel_Disk_load lk_Store_234 d_Store_reopen_32 rfl rfl rfl [9, 10, 11, 12, 13, 14, 15] [0, 1, 2, 3, 4, 5, 6, 7, 8, 16, 17, 18, 19, 20, 21, 22] [0, 1, 2, 3, 4, 5, 6, 7, 8, 16, 17, 18, 19, 20, 21, 22, 9, 10, 11, 12, 13, 14, 15] rfl rfl rfl rfl (by decide) rfl rfl rfl rfl rfl ⟨by decide, by decide⟩ ⟨by decide, by decide⟩ rfl (Nat.le_of_ble_eq_true rfl) ?_
    refine ks_aload_n rfl rfl C d_Store_reopen_35 ?_
    refine ks_iconstB true rfl C d_Store_reopen_36 ?_
    refine ks_put (k := 11) (ws' := (kw_store z0 tk0 tv0 gk0 gv0 d0 x0 m0 c0 t0 k0 _ _ _ ++ kw_row K tk0 tk1 _ _ ++ kw_row K tv0 tv1 _ _ ++ kw_row K gk0 gk1 _ _ ++ kw_row K gv0 gv1 _ _ ++ kw_disk K d0 d1 d2 d3 _ _ _ _ _ _ _ ++ kw_pages K x0 x1 x2 _ _ ++ kw_marks K m0 m1 s0 s1 s2 s3 s4 _ _ _ _ _ _)) C 0 8 t_Store ty_Store nm_Store in_Store rfl (by decide) fk_Store_80 rfl rfl (ks_nb1 _) (ks_fb1 _) rfl (Nat.le_of_ble_eq_true rfl) rfl d_Store_reopen_37 ?_
    refine ks_aload_n rfl rfl C d_Store_reopen_40 ?_
    refine ks_get (k := 5) C 0 8 in_Store rfl (by decide) fk_Store_35 rfl rfl rfl d_Store_reopen_41 ?_
    refine ks_bipush (a := 6) rfl C d_Store_reopen_44 ?_
    refine ks_cxW (ci := 1) (q0 := 0) (kw_store z0 tk0 tv0 gk0 gv0 d0 x0 m0 c0 t0 k0 _ _ _ ++ kw_row K tk0 tk1 _ _ ++ kw_row K tv0 tv1 _ _ ++ kw_row K gk0 gk1 _ _ ++ kw_row K gv0 gv1 _ _ ++ kw_disk K d0 d1 d2 d3 _ _ _ _ _ _ _ ++ kw_pages K x0 x1 x2 _ _ ++ kw_marks K m0 m1 s0 s1 s2 s3 s4 _ _ _ _ _ _) (kw_store z0 tk0 tv0 gk0 gv0 d0 x0 m0 c0 t0 k0 _ _ _ ++ kw_row K tk0 tk1 _ _ ++ kw_row K tv0 tv1 _ _ ++ kw_row K gk0 gk1 _ _ ++ kw_row K gv0 gv1 _ _ ++ kw_disk K d0 d1 d2 d3 _ _ _ _ _ _ _ ++ kw_marks K m0 m1 s0 s1 s2 s3 s4 _ _ _ _ _ _) C (c_Pages_number l D K x0 x1 x2 _ _ _ (by omega)) yw_Pages_number sel_Pages_number lk_Store_140 d_Store_reopen_46 rfl rfl rfl [13, 14, 15] [0, 1, 2, 3, 4, 5, 6, 7, 8, 9, 10, 11, 12, 16, 17, 18, 19, 20, 21, 22] [0, 1, 2, 3, 4, 5, 6, 7, 8, 9, 10, 11, 12, 20, 21, 22, 13, 14, 15, 16, 17, 18, 19] rfl rfl rfl rfl (by decide) rfl rfl rfl rfl rfl ⟨by decide, by decide⟩ ⟨by decide, by decide⟩ rfl (Nat.le_of_ble_eq_true rfl) ?_
    refine ks_top_num (fun u2 => ?_)
    exact ks_iret C Z rfl rfl d_Store_reopen_49 rfl rfl ⟨rfl, rfl⟩
  · exact absurd (h1.symm.trans u1) (by decide)
set_option maxRecDepth 100000 in
set_option maxHeartbeats 4000000 in
theorem c_Store_told_T (l : Launch) (hNT : l.stackTraces = false) (D : va_G) (K : Nat → ClassId) (z0 tk0 tv0 gk0 gv0 d0 x0 m0 c0 t0 k0 : Nat) (fnd on opn : Bool) (w : Nat) (h1 : w < 4294967296) (h2 : w = 9 ∨ 73 < w) : kt_M l D (ks_T K) (kt_R 6) y_Store_told b_Store_told 2 (some .int) [.ref z0, .int (nI w)] (kw_store z0 tk0 tv0 gk0 gv0 d0 x0 m0 c0 t0 k0 fnd on opn) "java/lang/IllegalArgumentException" (kw_store z0 tk0 tv0 gk0 gv0 d0 x0 m0 c0 t0 k0 fnd on opn) := by
  refine kt_M.of hNT 0 (by decide) (Nat.le_of_ble_eq_true rfl) ?_
  intro E C Kt Z
  refine ks_iload_n rfl rfl C d_Store_told_0 ?_
  refine ks_ifR_lt (tgt := 16) C (by omega) (by decide) d_Store_told_1 (fun u1 => ?_) (fun u1 => ?_)
  · exact ks_throw (names := kt_n2) C Kt Z (by decide +kernel) (by decide +kernel) (kt_site kt_wIAE kt_s237) d_Store_told_16 d_Store_told_19 d_Store_told_20 d_Store_told_22 d_Store_told_25 (by decide) (by decide) (by decide) (by decide) rfl rfl rfl
  · refine ks_iload_n rfl rfl C d_Store_told_4 ?_
    refine ks_bipush (a := 9) rfl C d_Store_told_5 ?_
    refine ks_icmpR_eq (tgt := 16) C (by omega) (by omega) (by decide) d_Store_told_7 (fun u2 => ?_) (fun u2 => ?_)
    · exact ks_throw (names := kt_n2) C Kt Z (by decide +kernel) (by decide +kernel) (kt_site kt_wIAE kt_s237) d_Store_told_16 d_Store_told_19 d_Store_told_20 d_Store_told_22 d_Store_told_25 (by decide) (by decide) (by decide) (by decide) rfl rfl rfl
    · refine ks_iload_n rfl rfl C d_Store_told_10 ?_
      refine ks_bipush (a := 74) rfl C d_Store_told_11 ?_
      refine ks_icmpR_lt (tgt := 26) C (by omega) (by omega) (by decide) d_Store_told_13 (fun u3 => ?_) (fun u3 => ?_)
      · exact (by omega : False).elim
      · exact ks_throw (names := kt_n2) C Kt Z (by decide +kernel) (by decide +kernel) (kt_site kt_wIAE kt_s237) d_Store_told_16 d_Store_told_19 d_Store_told_20 d_Store_told_22 d_Store_told_25 (by decide) (by decide) (by decide) (by decide) rfl rfl rfl
set_option maxRecDepth 100000 in
set_option maxHeartbeats 4000000 in
theorem c_Store_told_off (l : Launch) (D : va_G) (K : Nat → ClassId) (z0 tk0 tv0 gk0 gv0 d0 x0 m0 c0 t0 k0 : Nat) (fnd opn : Bool) (w : Nat) (h1 : w ≠ 9) (h2 : w ≤ 73) : ks_M l D (ks_T K) (ks_R 0) y_Store_told b_Store_told 2 (some .int) [.ref z0, .int (nI w)] (kw_store z0 tk0 tv0 gk0 gv0 d0 x0 m0 c0 t0 k0 fnd false opn) (ks_f (some (.int (nI 0))) (kw_store z0 tk0 tv0 gk0 gv0 d0 x0 m0 c0 t0 k0 fnd false opn)) := by
  refine ks_M.of 0 (by decide) (Nat.le_of_ble_eq_true rfl) ?_
  intro E C Z
  refine ks_iload_n rfl rfl C d_Store_told_0 ?_
  refine ks_ifR_lt (tgt := 16) C (by omega) (by decide) d_Store_told_1 (fun u1 => ?_) (fun u1 => ?_)
  · exact (by omega : False).elim
  · refine ks_iload_n rfl rfl C d_Store_told_4 ?_
    refine ks_bipush (a := 9) rfl C d_Store_told_5 ?_
    refine ks_icmpR_eq (tgt := 16) C (by omega) (by omega) (by decide) d_Store_told_7 (fun u2 => ?_) (fun u2 => ?_)
    · exact (by omega : False).elim
    · refine ks_iload_n rfl rfl C d_Store_told_10 ?_
      refine ks_bipush (a := 74) rfl C d_Store_told_11 ?_
      refine ks_icmpR_lt (tgt := 26) C (by omega) (by omega) (by decide) d_Store_told_13 (fun u3 => ?_) (fun u3 => ?_)
      · refine ks_aload_n rfl rfl C d_Store_told_26 ?_
        refine ks_get (k := 11) C 0 8 in_Store rfl (by decide) fk_Store_80 rfl rfl rfl d_Store_told_27 ?_
        refine ks_ifB_ne (tgt := 35) C (by decide) d_Store_told_30 (fun h => absurd h (by decide)) (fun _ => ?_)
        refine ks_iconst (a := 0) rfl C d_Store_told_33 ?_
        exact ks_iret C Z rfl rfl d_Store_told_34 rfl rfl ⟨rfl, rfl⟩
      · exact (by omega : False).elim
set_option maxRecDepth 100000 in
set_option maxHeartbeats 4000000 in
theorem c_Store_told_0 (l : Launch) (D : va_G) (K : Nat → ClassId) (z0 tk0 tv0 gk0 gv0 d0 x0 m0 c0 t0 k0 : Nat) (fnd opn : Bool) : ks_M l D (ks_T K) (ks_R 0) y_Store_told b_Store_told 2 (some .int) [.ref z0, .int (nI 0)] (kw_store z0 tk0 tv0 gk0 gv0 d0 x0 m0 c0 t0 k0 fnd true opn) (ks_f (some (.int (nI 1))) (kw_store z0 tk0 tv0 gk0 gv0 d0 x0 m0 c0 t0 k0 fnd true opn)) := by
  refine ks_M.of 0 (by decide) (Nat.le_of_ble_eq_true rfl) ?_
  intro E C Z
  refine ks_iload_n rfl rfl C d_Store_told_0 ?_
  refine ks_if_lt (tgt := 16) C (by omega) (by decide) d_Store_told_1 (fun h => absurd h (by decide)) (fun _ => ?_)
  refine ks_iload_n rfl rfl C d_Store_told_4 ?_
  refine ks_bipush (a := 9) rfl C d_Store_told_5 ?_
  refine ks_icmp_eq (tgt := 16) C (by omega) (by omega) (by decide) d_Store_told_7 (fun u2 => ?_) (fun u2 => ?_)
  · exact (by omega : False).elim
  · refine ks_iload_n rfl rfl C d_Store_told_10 ?_
    refine ks_bipush (a := 74) rfl C d_Store_told_11 ?_
    refine ks_icmp_lt (tgt := 26) C (by omega) (by omega) (by decide) d_Store_told_13 (fun u3 => ?_) (fun u3 => ?_)
    · refine ks_aload_n rfl rfl C d_Store_told_26 ?_
      refine ks_get (k := 11) C 0 8 in_Store rfl (by decide) fk_Store_80 rfl rfl rfl d_Store_told_27 ?_
      refine ks_ifB_ne (tgt := 35) C (by decide) d_Store_told_30 (fun _ => ?_) (fun h => absurd h (by decide))
      refine ks_iload_n rfl rfl C d_Store_told_35 ?_
      refine ks_tsIn (a := 0) (tgt := 88) C (by decide) (by decide) rfl (by decide) d_Store_told_36 ?_
      refine ks_iconst (a := 1) rfl C d_Store_told_88 ?_
      exact ks_iret C Z rfl rfl d_Store_told_89 rfl rfl ⟨rfl, rfl⟩
    · exact (by omega : False).elim
set_option maxRecDepth 100000 in
set_option maxHeartbeats 4000000 in
theorem c_Store_told_1 (l : Launch) (D : va_G) (K : Nat → ClassId) (z0 tk0 tv0 gk0 gv0 d0 x0 m0 c0 t0 k0 : Nat) (fnd opn : Bool) : ks_M l D (ks_T K) (ks_R 0) y_Store_told b_Store_told 2 (some .int) [.ref z0, .int (nI 1)] (kw_store z0 tk0 tv0 gk0 gv0 d0 x0 m0 c0 t0 k0 fnd true opn) (ks_f (some (.int (nI (if opn = true then 1 else 0)))) (kw_store z0 tk0 tv0 gk0 gv0 d0 x0 m0 c0 t0 k0 fnd true opn)) := by
  refine ks_M.of 0 (by decide) (Nat.le_of_ble_eq_true rfl) ?_
  intro E C Z
  refine ks_iload_n rfl rfl C d_Store_told_0 ?_
  refine ks_if_lt (tgt := 16) C (by omega) (by decide) d_Store_told_1 (fun h => absurd h (by decide)) (fun _ => ?_)
  refine ks_iload_n rfl rfl C d_Store_told_4 ?_
  refine ks_bipush (a := 9) rfl C d_Store_told_5 ?_
  refine ks_icmp_eq (tgt := 16) C (by omega) (by omega) (by decide) d_Store_told_7 (fun u2 => ?_) (fun u2 => ?_)
  · exact (by omega : False).elim
  · refine ks_iload_n rfl rfl C d_Store_told_10 ?_
    refine ks_bipush (a := 74) rfl C d_Store_told_11 ?_
    refine ks_icmp_lt (tgt := 26) C (by omega) (by omega) (by decide) d_Store_told_13 (fun u3 => ?_) (fun u3 => ?_)
    · refine ks_aload_n rfl rfl C d_Store_told_26 ?_
      refine ks_get (k := 11) C 0 8 in_Store rfl (by decide) fk_Store_80 rfl rfl rfl d_Store_told_27 ?_
      refine ks_ifB_ne (tgt := 35) C (by decide) d_Store_told_30 (fun _ => ?_) (fun h => absurd h (by decide))
      refine ks_iload_n rfl rfl C d_Store_told_35 ?_
      refine ks_tsIn (a := 1) (tgt := 90) C (by decide) (by decide) rfl (by decide) d_Store_told_36 ?_
      refine ks_aload_n rfl rfl C d_Store_told_90 ?_
      refine ks_get (k := 12) C 0 8 in_Store rfl (by decide) fk_Store_83 rfl rfl rfl d_Store_told_91 ?_
      refine ks_ifB_eq (tgt := 101) C (by decide) d_Store_told_94 (fun u5 => ?_) (fun u5 => ?_)
      · refine ks_iconst (a := 0) rfl C d_Store_told_101 ?_
        exact ks_iret C Z rfl rfl d_Store_told_102 rfl rfl ⟨by rw [u5]; rfl, rfl⟩
      · refine ks_iconst (a := 1) rfl C d_Store_told_97 ?_
        refine ks_goto (tgt := 102) C (by decide) d_Store_told_98 ?_
        exact ks_iret C Z rfl rfl d_Store_told_102 rfl rfl ⟨by rw [u5]; rfl, rfl⟩
    · exact (by omega : False).elim
set_option maxRecDepth 100000 in
set_option maxHeartbeats 4000000 in
theorem c_Store_told_2 (l : Launch) (D : va_G) (K : Nat → ClassId) (z0 tk0 tv0 gk0 gv0 d0 x0 m0 c0 t0 k0 : Nat) (fnd opn : Bool) (m1 s0 s1 s2 s3 s4 : Nat) (S0 S1 S2 S3 S4 : Nat → UInt8) (cnt : Nat) : ks_M l D (ks_T K) (ks_R 1) y_Store_told b_Store_told 2 (some .int) [.ref z0, .int (nI 2)] (kw_store z0 tk0 tv0 gk0 gv0 d0 x0 m0 c0 t0 k0 fnd true opn ++ kw_marks K m0 m1 s0 s1 s2 s3 s4 S0 S1 S2 S3 S4 cnt) (ks_f (some (.int (nI cnt))) (kw_store z0 tk0 tv0 gk0 gv0 d0 x0 m0 c0 t0 k0 fnd true opn ++ kw_marks K m0 m1 s0 s1 s2 s3 s4 S0 S1 S2 S3 S4 cnt)) := by
  refine ks_M.of 0 (by decide) (Nat.le_of_ble_eq_true rfl) ?_
  intro E C Z
  refine ks_iload_n rfl rfl C d_Store_told_0 ?_
  refine ks_if_lt (tgt := 16) C (by omega) (by decide) d_Store_told_1 (fun h => absurd h (by decide)) (fun _ => ?_)
  refine ks_iload_n rfl rfl C d_Store_told_4 ?_
  refine ks_bipush (a := 9) rfl C d_Store_told_5 ?_
  refine ks_icmp_eq (tgt := 16) C (by omega) (by omega) (by decide) d_Store_told_7 (fun u2 => ?_) (fun u2 => ?_)
  · exact (by omega : False).elim
  · refine ks_iload_n rfl rfl C d_Store_told_10 ?_
    refine ks_bipush (a := 74) rfl C d_Store_told_11 ?_
    refine ks_icmp_lt (tgt := 26) C (by omega) (by omega) (by decide) d_Store_told_13 (fun u3 => ?_) (fun u3 => ?_)
    · refine ks_aload_n rfl rfl C d_Store_told_26 ?_
      refine ks_get (k := 11) C 0 8 in_Store rfl (by decide) fk_Store_80 rfl rfl rfl d_Store_told_27 ?_
      refine ks_ifB_ne (tgt := 35) C (by decide) d_Store_told_30 (fun _ => ?_) (fun h => absurd h (by decide))
      refine ks_iload_n rfl rfl C d_Store_told_35 ?_
      refine ks_tsIn (a := 2) (tgt := 103) C (by decide) (by decide) rfl (by decide) d_Store_told_36 ?_
      refine ks_aload_n rfl rfl C d_Store_told_103 ?_
      refine ks_get (k := 6) C 0 8 in_Store rfl (by decide) fk_Store_42 rfl rfl rfl d_Store_told_104 ?_
      refine ks_cxW (ci := 3) (q0 := 0) (kw_store z0 tk0 tv0 gk0 gv0 d0 x0 m0 c0 t0 k0 _ _ _ ++ kw_marks K m0 m1 s0 s1 s2 s3 s4 _ _ _ _ _ _) (kw_store z0 tk0 tv0 gk0 gv0 d0 x0 m0 c0 t0 k0 _ _ _) C (c_Marks_count l D K m0 m1 s0 s1 s2 s3 s4 _ _ _ _ _ _) yw_Marks_count sel_Marks_count lk_Store_206 d_Store_told_107 rfl rfl rfl [1, 2, 3, 4, 5, 6, 7] [0] [0, 1, 2, 3, 4, 5, 6, 7] rfl rfl rfl rfl (by decide) rfl rfl rfl rfl rfl ⟨by decide, by decide⟩ ⟨by decide, by decide⟩ rfl (Nat.le_of_ble_eq_true rfl) ?_
      exact ks_iret C Z rfl rfl d_Store_told_110 rfl rfl ⟨rfl, rfl⟩
    · exact (by omega : False).elim
set_option maxRecDepth 100000 in
set_option maxHeartbeats 4000000 in
theorem c_Store_told_3 (l : Launch) (D : va_G) (K : Nat → ClassId) (z0 tk0 tv0 gk0 gv0 d0 x0 m0 c0 t0 k0 : Nat) (fnd opn : Bool) (x1 x2 : Nat) (B : Nat → UInt8) (G : Nat → Bool) : ks_M l D (ks_T K) (ks_R 1) y_Store_told b_Store_told 2 (some .int) [.ref z0, .int (nI 3)] (kw_store z0 tk0 tv0 gk0 gv0 d0 x0 m0 c0 t0 k0 fnd true opn ++ kw_pages K x0 x1 x2 B G) (ks_f (some (.int (nI (kv_num B 6)))) (kw_store z0 tk0 tv0 gk0 gv0 d0 x0 m0 c0 t0 k0 fnd true opn ++ kw_pages K x0 x1 x2 B G)) := by
  refine ks_M.of 0 (by decide) (Nat.le_of_ble_eq_true rfl) ?_
  intro E C Z
  refine ks_iload_n rfl rfl C d_Store_told_0 ?_
  refine ks_if_lt (tgt := 16) C (by omega) (by decide) d_Store_told_1 (fun h => absurd h (by decide)) (fun _ => ?_)
  refine ks_iload_n rfl rfl C d_Store_told_4 ?_
  refine ks_bipush (a := 9) rfl C d_Store_told_5 ?_
  refine ks_icmp_eq (tgt := 16) C (by omega) (by omega) (by decide) d_Store_told_7 (fun u2 => ?_) (fun u2 => ?_)
  · exact (by omega : False).elim
  · refine ks_iload_n rfl rfl C d_Store_told_10 ?_
    refine ks_bipush (a := 74) rfl C d_Store_told_11 ?_
    refine ks_icmp_lt (tgt := 26) C (by omega) (by omega) (by decide) d_Store_told_13 (fun u3 => ?_) (fun u3 => ?_)
    · refine ks_aload_n rfl rfl C d_Store_told_26 ?_
      refine ks_get (k := 11) C 0 8 in_Store rfl (by decide) fk_Store_80 rfl rfl rfl d_Store_told_27 ?_
      refine ks_ifB_ne (tgt := 35) C (by decide) d_Store_told_30 (fun _ => ?_) (fun h => absurd h (by decide))
      refine ks_iload_n rfl rfl C d_Store_told_35 ?_
      refine ks_tsIn (a := 3) (tgt := 111) C (by decide) (by decide) rfl (by decide) d_Store_told_36 ?_
      refine ks_aload_n rfl rfl C d_Store_told_111 ?_
      refine ks_get (k := 5) C 0 8 in_Store rfl (by decide) fk_Store_35 rfl rfl rfl d_Store_told_112 ?_
      refine ks_bipush (a := 6) rfl C d_Store_told_115 ?_
      refine ks_cxW (ci := 1) (q0 := 0) (kw_store z0 tk0 tv0 gk0 gv0 d0 x0 m0 c0 t0 k0 _ _ _ ++ kw_pages K x0 x1 x2 _ _) (kw_store z0 tk0 tv0 gk0 gv0 d0 x0 m0 c0 t0 k0 _ _ _) C (c_Pages_number l D K x0 x1 x2 _ _ _ (by omega)) yw_Pages_number sel_Pages_number lk_Store_140 d_Store_told_117 rfl rfl rfl [1, 2, 3] [0] [0, 1, 2, 3] rfl rfl rfl rfl (by decide) rfl rfl rfl rfl rfl ⟨by decide, by decide⟩ ⟨by decide, by decide⟩ rfl (Nat.le_of_ble_eq_true rfl) ?_
      refine ks_top_num (fun u5 => ?_)
      exact ks_iret C Z rfl rfl d_Store_told_120 rfl rfl ⟨rfl, rfl⟩
    · exact (by omega : False).elim
set_option maxRecDepth 100000 in
set_option maxHeartbeats 4000000 in
theorem c_Store_told_4 (l : Launch) (D : va_G) (K : Nat → ClassId) (z0 tk0 tv0 gk0 gv0 d0 x0 m0 c0 t0 k0 : Nat) (fnd opn : Bool) (x1 x2 : Nat) (B : Nat → UInt8) (G : Nat → Bool) : ks_M l D (ks_T K) (ks_R 1) y_Store_told b_Store_told 2 (some .int) [.ref z0, .int (nI 4)] (kw_store z0 tk0 tv0 gk0 gv0 d0 x0 m0 c0 t0 k0 fnd true opn ++ kw_pages K x0 x1 x2 B G) (ks_f (some (.int (nI (kv_num B 8)))) (kw_store z0 tk0 tv0 gk0 gv0 d0 x0 m0 c0 t0 k0 fnd true opn ++ kw_pages K x0 x1 x2 B G)) := by
  refine ks_M.of 0 (by decide) (Nat.le_of_ble_eq_true rfl) ?_
  intro E C Z
  refine ks_iload_n rfl rfl C d_Store_told_0 ?_
  refine ks_if_lt (tgt := 16) C (by omega) (by decide) d_Store_told_1 (fun h => absurd h (by decide)) (fun _ => ?_)
  refine ks_iload_n rfl rfl C d_Store_told_4 ?_
  refine ks_bipush (a := 9) rfl C d_Store_told_5 ?_
  refine ks_icmp_eq (tgt := 16) C (by omega) (by omega) (by decide) d_Store_told_7 (fun u2 => ?_) (fun u2 => ?_)
  · exact (by omega : False).elim
  · refine ks_iload_n rfl rfl C d_Store_told_10 ?_
    refine ks_bipush (a := 74) rfl C d_Store_told_11 ?_
    refine ks_icmp_lt (tgt := 26) C (by omega) (by omega) (by decide) d_Store_told_13 (fun u3 => ?_) (fun u3 => ?_)
    · refine ks_aload_n rfl rfl C d_Store_told_26 ?_
      refine ks_get (k := 11) C 0 8 in_Store rfl (by decide) fk_Store_80 rfl rfl rfl d_Store_told_27 ?_
      refine ks_ifB_ne (tgt := 35) C (by decide) d_Store_told_30 (fun _ => ?_) (fun h => absurd h (by decide))
      refine ks_iload_n rfl rfl C d_Store_told_35 ?_
      refine ks_tsIn (a := 4) (tgt := 121) C (by decide) (by decide) rfl (by decide) d_Store_told_36 ?_
      refine ks_aload_n rfl rfl C d_Store_told_121 ?_
      refine ks_get (k := 5) C 0 8 in_Store rfl (by decide) fk_Store_35 rfl rfl rfl d_Store_told_122 ?_
      refine ks_bipush (a := 8) rfl C d_Store_told_125 ?_
      refine ks_cxW (ci := 1) (q0 := 0) (kw_store z0 tk0 tv0 gk0 gv0 d0 x0 m0 c0 t0 k0 _ _ _ ++ kw_pages K x0 x1 x2 _ _) (kw_store z0 tk0 tv0 gk0 gv0 d0 x0 m0 c0 t0 k0 _ _ _) C (c_Pages_number l D K x0 x1 x2 _ _ _ (by omega)) yw_Pages_number sel_Pages_number lk_Store_140 d_Store_told_127 rfl rfl rfl [1, 2, 3] [0] [0, 1, 2, 3] rfl rfl rfl rfl (by decide) rfl rfl rfl rfl rfl ⟨by decide, by decide⟩ ⟨by decide, by decide⟩ rfl (Nat.le_of_ble_eq_true rfl) ?_
      refine ks_top_num (fun u5 => ?_)
      exact ks_iret C Z rfl rfl d_Store_told_130 rfl rfl ⟨rfl, rfl⟩
    · exact (by omega : False).elim
set_option maxRecDepth 100000 in
set_option maxHeartbeats 4000000 in
theorem c_Store_told_5 (l : Launch) (D : va_G) (K : Nat → ClassId) (z0 tk0 tv0 gk0 gv0 d0 x0 m0 c0 t0 k0 : Nat) (fnd opn : Bool) (tk1 : Nat) (Kb : Nat → UInt8) (kl : Nat) : ks_M l D (ks_T K) (ks_R 1) y_Store_told b_Store_told 2 (some .int) [.ref z0, .int (nI 5)] (kw_store z0 tk0 tv0 gk0 gv0 d0 x0 m0 c0 t0 k0 fnd true opn ++ kw_row K tk0 tk1 Kb kl) (ks_f (some (.int (nI kl))) (kw_store z0 tk0 tv0 gk0 gv0 d0 x0 m0 c0 t0 k0 fnd true opn ++ kw_row K tk0 tk1 Kb kl)) := by
  refine ks_M.of 0 (by decide) (Nat.le_of_ble_eq_true rfl) ?_
  intro E C Z
  refine ks_iload_n rfl rfl C d_Store_told_0 ?_
  refine ks_if_lt (tgt := 16) C (by omega) (by decide) d_Store_told_1 (fun h => absurd h (by decide)) (fun _ => ?_)
  refine ks_iload_n rfl rfl C d_Store_told_4 ?_
  refine ks_bipush (a := 9) rfl C d_Store_told_5 ?_
  refine ks_icmp_eq (tgt := 16) C (by omega) (by omega) (by decide) d_Store_told_7 (fun u2 => ?_) (fun u2 => ?_)
  · exact (by omega : False).elim
  · refine ks_iload_n rfl rfl C d_Store_told_10 ?_
    refine ks_bipush (a := 74) rfl C d_Store_told_11 ?_
    refine ks_icmp_lt (tgt := 26) C (by omega) (by omega) (by decide) d_Store_told_13 (fun u3 => ?_) (fun u3 => ?_)
    · refine ks_aload_n rfl rfl C d_Store_told_26 ?_
      refine ks_get (k := 11) C 0 8 in_Store rfl (by decide) fk_Store_80 rfl rfl rfl d_Store_told_27 ?_
      refine ks_ifB_ne (tgt := 35) C (by decide) d_Store_told_30 (fun _ => ?_) (fun h => absurd h (by decide))
      refine ks_iload_n rfl rfl C d_Store_told_35 ?_
      refine ks_tsIn (a := 5) (tgt := 131) C (by decide) (by decide) rfl (by decide) d_Store_told_36 ?_
      refine ks_aload_n rfl rfl C d_Store_told_131 ?_
      refine ks_get (k := 0) C 0 8 in_Store rfl (by decide) fk_Store_12 rfl rfl rfl d_Store_told_132 ?_
      refine ks_cxW (ci := 0) (q0 := 0) (kw_store z0 tk0 tv0 gk0 gv0 d0 x0 m0 c0 t0 k0 _ _ _ ++ kw_row K tk0 tk1 _ _) (kw_store z0 tk0 tv0 gk0 gv0 d0 x0 m0 c0 t0 k0 _ _ _) C (c_Row_length l D K tk0 tk1 _ _) yw_Row_length sel_Row_length lk_Store_105 d_Store_told_135 rfl rfl rfl [1, 2] [0] [0, 1, 2] rfl rfl rfl rfl (by decide) rfl rfl rfl rfl rfl ⟨by decide, by decide⟩ ⟨by decide, by decide⟩ rfl (Nat.le_of_ble_eq_true rfl) ?_
      exact ks_iret C Z rfl rfl d_Store_told_138 rfl rfl ⟨rfl, rfl⟩
    · exact (by omega : False).elim
set_option maxRecDepth 100000 in
set_option maxHeartbeats 4000000 in
theorem c_Store_told_6 (l : Launch) (D : va_G) (K : Nat → ClassId) (z0 tk0 tv0 gk0 gv0 d0 x0 m0 c0 t0 k0 : Nat) (fnd opn : Bool) (tv1 : Nat) (Vb : Nat → UInt8) (vl : Nat) : ks_M l D (ks_T K) (ks_R 1) y_Store_told b_Store_told 2 (some .int) [.ref z0, .int (nI 6)] (kw_store z0 tk0 tv0 gk0 gv0 d0 x0 m0 c0 t0 k0 fnd true opn ++ kw_row K tv0 tv1 Vb vl) (ks_f (some (.int (nI vl))) (kw_store z0 tk0 tv0 gk0 gv0 d0 x0 m0 c0 t0 k0 fnd true opn ++ kw_row K tv0 tv1 Vb vl)) := by
  refine ks_M.of 0 (by decide) (Nat.le_of_ble_eq_true rfl) ?_
  intro E C Z
  refine ks_iload_n rfl rfl C d_Store_told_0 ?_
  refine ks_if_lt (tgt := 16) C (by omega) (by decide) d_Store_told_1 (fun h => absurd h (by decide)) (fun _ => ?_)
  refine ks_iload_n rfl rfl C d_Store_told_4 ?_
  refine ks_bipush (a := 9) rfl C d_Store_told_5 ?_
  refine ks_icmp_eq (tgt := 16) C (by omega) (by omega) (by decide) d_Store_told_7 (fun u2 => ?_) (fun u2 => ?_)
  · exact (by omega : False).elim
  · refine ks_iload_n rfl rfl C d_Store_told_10 ?_
    refine ks_bipush (a := 74) rfl C d_Store_told_11 ?_
    refine ks_icmp_lt (tgt := 26) C (by omega) (by omega) (by decide) d_Store_told_13 (fun u3 => ?_) (fun u3 => ?_)
    · refine ks_aload_n rfl rfl C d_Store_told_26 ?_
      refine ks_get (k := 11) C 0 8 in_Store rfl (by decide) fk_Store_80 rfl rfl rfl d_Store_told_27 ?_
      refine ks_ifB_ne (tgt := 35) C (by decide) d_Store_told_30 (fun _ => ?_) (fun h => absurd h (by decide))
      refine ks_iload_n rfl rfl C d_Store_told_35 ?_
      refine ks_tsIn (a := 6) (tgt := 139) C (by decide) (by decide) rfl (by decide) d_Store_told_36 ?_
      refine ks_aload_n rfl rfl C d_Store_told_139 ?_
      refine ks_get (k := 1) C 0 8 in_Store rfl (by decide) fk_Store_16 rfl rfl rfl d_Store_told_140 ?_
      refine ks_cxW (ci := 0) (q0 := 0) (kw_store z0 tk0 tv0 gk0 gv0 d0 x0 m0 c0 t0 k0 _ _ _ ++ kw_row K tv0 tv1 _ _) (kw_store z0 tk0 tv0 gk0 gv0 d0 x0 m0 c0 t0 k0 _ _ _) C (c_Row_length l D K tv0 tv1 _ _) yw_Row_length sel_Row_length lk_Store_105 d_Store_told_143 rfl rfl rfl [1, 2] [0] [0, 1, 2] rfl rfl rfl rfl (by decide) rfl rfl rfl rfl rfl ⟨by decide, by decide⟩ ⟨by decide, by decide⟩ rfl (Nat.le_of_ble_eq_true rfl) ?_
      exact ks_iret C Z rfl rfl d_Store_told_146 rfl rfl ⟨rfl, rfl⟩
    · exact (by omega : False).elim
set_option maxRecDepth 100000 in
set_option maxHeartbeats 4000000 in
theorem c_Store_told_7 (l : Launch) (D : va_G) (K : Nat → ClassId) (z0 tk0 tv0 gk0 gv0 d0 x0 m0 c0 t0 k0 : Nat) (fnd opn : Bool) (gk1 : Nat) (Gb : Nat → UInt8) (gl : Nat) : ks_M l D (ks_T K) (ks_R 1) y_Store_told b_Store_told 2 (some .int) [.ref z0, .int (nI 7)] (kw_store z0 tk0 tv0 gk0 gv0 d0 x0 m0 c0 t0 k0 fnd true opn ++ kw_row K gk0 gk1 Gb gl) (ks_f (some (.int (nI gl))) (kw_store z0 tk0 tv0 gk0 gv0 d0 x0 m0 c0 t0 k0 fnd true opn ++ kw_row K gk0 gk1 Gb gl)) := by
  refine ks_M.of 0 (by decide) (Nat.le_of_ble_eq_true rfl) ?_
  intro E C Z
  refine ks_iload_n rfl rfl C d_Store_told_0 ?_
  refine ks_if_lt (tgt := 16) C (by omega) (by decide) d_Store_told_1 (fun h => absurd h (by decide)) (fun _ => ?_)
  refine ks_iload_n rfl rfl C d_Store_told_4 ?_
  refine ks_bipush (a := 9) rfl C d_Store_told_5 ?_
  refine ks_icmp_eq (tgt := 16) C (by omega) (by omega) (by decide) d_Store_told_7 (fun u2 => ?_) (fun u2 => ?_)
  · exact (by omega : False).elim
  · refine ks_iload_n rfl rfl C d_Store_told_10 ?_
    refine ks_bipush (a := 74) rfl C d_Store_told_11 ?_
    refine ks_icmp_lt (tgt := 26) C (by omega) (by omega) (by decide) d_Store_told_13 (fun u3 => ?_) (fun u3 => ?_)
    · refine ks_aload_n rfl rfl C d_Store_told_26 ?_
      refine ks_get (k := 11) C 0 8 in_Store rfl (by decide) fk_Store_80 rfl rfl rfl d_Store_told_27 ?_
      refine ks_ifB_ne (tgt := 35) C (by decide) d_Store_told_30 (fun _ => ?_) (fun h => absurd h (by decide))
      refine ks_iload_n rfl rfl C d_Store_told_35 ?_
      refine ks_tsIn (a := 7) (tgt := 147) C (by decide) (by decide) rfl (by decide) d_Store_told_36 ?_
      refine ks_aload_n rfl rfl C d_Store_told_147 ?_
      refine ks_get (k := 2) C 0 8 in_Store rfl (by decide) fk_Store_19 rfl rfl rfl d_Store_told_148 ?_
      refine ks_cxW (ci := 0) (q0 := 0) (kw_store z0 tk0 tv0 gk0 gv0 d0 x0 m0 c0 t0 k0 _ _ _ ++ kw_row K gk0 gk1 _ _) (kw_store z0 tk0 tv0 gk0 gv0 d0 x0 m0 c0 t0 k0 _ _ _) C (c_Row_length l D K gk0 gk1 _ _) yw_Row_length sel_Row_length lk_Store_105 d_Store_told_151 rfl rfl rfl [1, 2] [0] [0, 1, 2] rfl rfl rfl rfl (by decide) rfl rfl rfl rfl rfl ⟨by decide, by decide⟩ ⟨by decide, by decide⟩ rfl (Nat.le_of_ble_eq_true rfl) ?_
      exact ks_iret C Z rfl rfl d_Store_told_154 rfl rfl ⟨rfl, rfl⟩
    · exact (by omega : False).elim
set_option maxRecDepth 100000 in
set_option maxHeartbeats 4000000 in
theorem c_Store_told_8 (l : Launch) (D : va_G) (K : Nat → ClassId) (z0 tk0 tv0 gk0 gv0 d0 x0 m0 c0 t0 k0 : Nat) (fnd opn : Bool) (gv1 : Nat) (Eb : Nat → UInt8) (el : Nat) : ks_M l D (ks_T K) (ks_R 1) y_Store_told b_Store_told 2 (some .int) [.ref z0, .int (nI 8)] (kw_store z0 tk0 tv0 gk0 gv0 d0 x0 m0 c0 t0 k0 fnd true opn ++ kw_row K gv0 gv1 Eb el) (ks_f (some (.int (nI el))) (kw_store z0 tk0 tv0 gk0 gv0 d0 x0 m0 c0 t0 k0 fnd true opn ++ kw_row K gv0 gv1 Eb el)) := by
  refine ks_M.of 0 (by decide) (Nat.le_of_ble_eq_true rfl) ?_
  intro E C Z
  refine ks_iload_n rfl rfl C d_Store_told_0 ?_
  refine ks_if_lt (tgt := 16) C (by omega) (by decide) d_Store_told_1 (fun h => absurd h (by decide)) (fun _ => ?_)
  refine ks_iload_n rfl rfl C d_Store_told_4 ?_
  refine ks_bipush (a := 9) rfl C d_Store_told_5 ?_
  refine ks_icmp_eq (tgt := 16) C (by omega) (by omega) (by decide) d_Store_told_7 (fun u2 => ?_) (fun u2 => ?_)
  · exact (by omega : False).elim
  · refine ks_iload_n rfl rfl C d_Store_told_10 ?_
    refine ks_bipush (a := 74) rfl C d_Store_told_11 ?_
    refine ks_icmp_lt (tgt := 26) C (by omega) (by omega) (by decide) d_Store_told_13 (fun u3 => ?_) (fun u3 => ?_)
    · refine ks_aload_n rfl rfl C d_Store_told_26 ?_
      refine ks_get (k := 11) C 0 8 in_Store rfl (by decide) fk_Store_80 rfl rfl rfl d_Store_told_27 ?_
      refine ks_ifB_ne (tgt := 35) C (by decide) d_Store_told_30 (fun _ => ?_) (fun h => absurd h (by decide))
      refine ks_iload_n rfl rfl C d_Store_told_35 ?_
      refine ks_tsIn (a := 8) (tgt := 155) C (by decide) (by decide) rfl (by decide) d_Store_told_36 ?_
      refine ks_aload_n rfl rfl C d_Store_told_155 ?_
      refine ks_get (k := 3) C 0 8 in_Store rfl (by decide) fk_Store_22 rfl rfl rfl d_Store_told_156 ?_
      refine ks_cxW (ci := 0) (q0 := 0) (kw_store z0 tk0 tv0 gk0 gv0 d0 x0 m0 c0 t0 k0 _ _ _ ++ kw_row K gv0 gv1 _ _) (kw_store z0 tk0 tv0 gk0 gv0 d0 x0 m0 c0 t0 k0 _ _ _) C (c_Row_length l D K gv0 gv1 _ _) yw_Row_length sel_Row_length lk_Store_105 d_Store_told_159 rfl rfl rfl [1, 2] [0] [0, 1, 2] rfl rfl rfl rfl (by decide) rfl rfl rfl rfl rfl ⟨by decide, by decide⟩ ⟨by decide, by decide⟩ rfl (Nat.le_of_ble_eq_true rfl) ?_
      exact ks_iret C Z rfl rfl d_Store_told_162 rfl rfl ⟨rfl, rfl⟩
    · exact (by omega : False).elim
set_option maxRecDepth 100000 in
set_option maxHeartbeats 4000000 in
theorem c_Store_told_t (l : Launch) (D : va_G) (K : Nat → ClassId) (z0 tk0 tv0 gk0 gv0 d0 x0 m0 c0 t0 k0 : Nat) (fnd opn : Bool) (t1 t2 n0 n1 x1 x2 pg ca top : Nat) (pn ps P : Nat → Nat) (B : Nat → UInt8) (G : Nat → Bool) (w : Nat) (h1 : 10 ≤ w) (h2 : w ≤ 73) (h3 : kv_has B (w - 10) = true) : ks_M l D (ks_T K) (ks_R 3) y_Store_told b_Store_told 2 (some .int) [.ref z0, .int (nI w)] (kw_store z0 tk0 tv0 gk0 gv0 d0 x0 m0 c0 t0 k0 fnd true opn ++ kw_trees K t0 t1 t2 x0 n0 c0 pn ps top ++ kw_nodes K n0 n1 x0 P ++ kw_chains c0 x0 pg ca ++ kw_pages K x0 x1 x2 B G) (ks_f (some (.int (nI (kv_ents B (w - 10))))) (kw_store z0 tk0 tv0 gk0 gv0 d0 x0 m0 c0 t0 k0 fnd true opn ++ kw_trees K t0 t1 t2 x0 n0 c0 pn ps top ++ kw_nodes K n0 n1 x0 P ++ kw_chains c0 x0 pg ca ++ kw_pages K x0 x1 x2 B G)) := by
  refine ks_M.of 0 (by decide) (Nat.le_of_ble_eq_true rfl) ?_
  intro E C Z
  refine ks_iload_n rfl rfl C d_Store_told_0 ?_
  refine ks_ifR_lt (tgt := 16) C (by omega) (by decide) d_Store_told_1 (fun u1 => ?_) (fun u1 => ?_)
  · exact (by omega : False).elim
  · refine ks_iload_n rfl rfl C d_Store_told_4 ?_
    refine ks_bipush (a := 9) rfl C d_Store_told_5 ?_
    refine ks_icmpR_eq (tgt := 16) C (by omega) (by omega) (by decide) d_Store_told_7 (fun u2 => ?_) (fun u2 => ?_)
    · exact (by omega : False).elim
    · refine ks_iload_n rfl rfl C d_Store_told_10 ?_
      refine ks_bipush (a := 74) rfl C d_Store_told_11 ?_
      refine ks_icmpR_lt (tgt := 26) C (by omega) (by omega) (by decide) d_Store_told_13 (fun u3 => ?_) (fun u3 => ?_)
      · refine ks_aload_n rfl rfl C d_Store_told_26 ?_
        refine ks_get (k := 11) C 0 8 in_Store rfl (by decide) fk_Store_80 rfl rfl rfl d_Store_told_27 ?_
        refine ks_ifB_ne (tgt := 35) C (by decide) d_Store_told_30 (fun _ => ?_) (fun h => absurd h (by decide))
        refine ks_iload_n rfl rfl C d_Store_told_35 ?_
        refine ks_tsOut (tgt := 163) C (by omega) (by omega) (by decide) d_Store_told_36 ?_
        refine ks_aload_n rfl rfl C d_Store_told_163 ?_
        refine ks_get (k := 8) C 0 8 in_Store rfl (by decide) fk_Store_63 rfl rfl rfl d_Store_told_164 ?_
        refine ks_iload_n rfl rfl C d_Store_told_167 ?_
        refine ks_bipush (a := 10) rfl C d_Store_told_168 ?_
        refine ks_isub (by omega) C d_Store_told_170 ?_
        refine ks_cxW (ci := 6) (q0 := 0) (kw_store z0 tk0 tv0 gk0 gv0 d0 x0 m0 c0 t0 k0 _ _ _ ++ kw_trees K t0 t1 t2 x0 n0 c0 _ _ _ ++ kw_nodes K n0 n1 x0 _ ++ kw_chains c0 x0 _ _ ++ kw_pages K x0 x1 x2 _ _) (kw_store z0 tk0 tv0 gk0 gv0 d0 x0 m0 c0 t0 k0 _ _ _) C (c_Trees_has l D K t0 t1 t2 n0 n1 c0 x0 x1 x2 _ _ _ _ _ _ _ _ _ (by omega)) yw_Trees_has sel_Trees_has lk_Store_239 d_Store_told_171 rfl rfl rfl [1, 2, 3, 4, 5, 6, 7, 8, 9] [0] [0, 1, 2, 3, 4, 5, 6, 7, 8, 9] rfl rfl rfl rfl (by decide) rfl rfl rfl rfl rfl ⟨by decide, by decide⟩ ⟨by decide, by decide⟩ rfl (Nat.le_of_ble_eq_true rfl) ?_
        refine ks_ifB_eq (tgt := 191) C (by decide) d_Store_told_174 (fun u5 => ?_) (fun u5 => ?_)
        · exact absurd (h3.symm.trans u5) (by decide)
        · refine ks_aload_n rfl rfl C d_Store_told_177 ?_
          refine ks_get (k := 8) C 0 8 in_Store rfl (by decide) fk_Store_63 rfl rfl rfl d_Store_told_178 ?_
          refine ks_iload_n rfl rfl C d_Store_told_181 ?_
          refine ks_bipush (a := 10) rfl C d_Store_told_182 ?_
          refine ks_isub (by omega) C d_Store_told_184 ?_
          refine ks_cxW (ci := 6) (q0 := 0) (kw_store z0 tk0 tv0 gk0 gv0 d0 x0 m0 c0 t0 k0 _ _ _ ++ kw_trees K t0 t1 t2 x0 n0 c0 _ _ _ ++ kw_nodes K n0 n1 x0 _ ++ kw_chains c0 x0 _ _ ++ kw_pages K x0 x1 x2 _ _) (kw_store z0 tk0 tv0 gk0 gv0 d0 x0 m0 c0 t0 k0 _ _ _) C (c_Trees_entries l D K t0 t1 t2 n0 n1 c0 x0 x1 x2 _ _ _ _ _ _ _ _ _ (by omega)) yw_Trees_entries sel_Trees_entries lk_Store_243 d_Store_told_185 rfl rfl rfl [1, 2, 3, 4, 5, 6, 7, 8, 9] [0] [0, 1, 2, 3, 4, 5, 6, 7, 8, 9] rfl rfl rfl rfl (by decide) rfl rfl rfl rfl rfl ⟨by decide, by decide⟩ ⟨by decide, by decide⟩ rfl (Nat.le_of_ble_eq_true rfl) ?_
          refine ks_top_ents (fun u6 => ?_)
          refine ks_goto (tgt := 192) C (by decide) d_Store_told_188 ?_
          exact ks_iret C Z rfl rfl d_Store_told_192 rfl rfl ⟨rfl, rfl⟩
      · exact (by omega : False).elim
set_option maxRecDepth 100000 in
set_option maxHeartbeats 4000000 in
theorem c_Store_told_n (l : Launch) (D : va_G) (K : Nat → ClassId) (z0 tk0 tv0 gk0 gv0 d0 x0 m0 c0 t0 k0 : Nat) (fnd opn : Bool) (t1 t2 n0 n1 x1 x2 pg ca top : Nat) (pn ps P : Nat → Nat) (B : Nat → UInt8) (G : Nat → Bool) (w : Nat) (h1 : 10 ≤ w) (h2 : w ≤ 73) (h3 : kv_has B (w - 10) = false) : ks_M l D (ks_T K) (ks_R 3) y_Store_told b_Store_told 2 (some .int) [.ref z0, .int (nI w)] (kw_store z0 tk0 tv0 gk0 gv0 d0 x0 m0 c0 t0 k0 fnd true opn ++ kw_trees K t0 t1 t2 x0 n0 c0 pn ps top ++ kw_nodes K n0 n1 x0 P ++ kw_chains c0 x0 pg ca ++ kw_pages K x0 x1 x2 B G) (ks_f (some (.int (nI 4294967295))) (kw_store z0 tk0 tv0 gk0 gv0 d0 x0 m0 c0 t0 k0 fnd true opn ++ kw_trees K t0 t1 t2 x0 n0 c0 pn ps top ++ kw_nodes K n0 n1 x0 P ++ kw_chains c0 x0 pg ca ++ kw_pages K x0 x1 x2 B G)) := by
  refine ks_M.of 0 (by decide) (Nat.le_of_ble_eq_true rfl) ?_
  intro E C Z
  refine ks_iload_n rfl rfl C d_Store_told_0 ?_
  refine ks_ifR_lt (tgt := 16) C (by omega) (by decide) d_Store_told_1 (fun u1 => ?_) (fun u1 => ?_)
  · exact (by omega : False).elim
  · refine ks_iload_n rfl rfl C d_Store_told_4 ?_
    refine ks_bipush (a := 9) rfl C d_Store_told_5 ?_
    refine ks_icmpR_eq (tgt := 16) C (by omega) (by omega) (by decide) d_Store_told_7 (fun u2 => ?_) (fun u2 => ?_)
    · exact (by omega : False).elim
    · refine ks_iload_n rfl rfl C d_Store_told_10 ?_
      refine ks_bipush (a := 74) rfl C d_Store_told_11 ?_
      refine ks_icmpR_lt (tgt := 26) C (by omega) (by omega) (by decide) d_Store_told_13 (fun u3 => ?_) (fun u3 => ?_)
      · refine ks_aload_n rfl rfl C d_Store_told_26 ?_
        refine ks_get (k := 11) C 0 8 in_Store rfl (by decide) fk_Store_80 rfl rfl rfl d_Store_told_27 ?_
        refine ks_ifB_ne (tgt := 35) C (by decide) d_Store_told_30 (fun _ => ?_) (fun h => absurd h (by decide))
        refine ks_iload_n rfl rfl C d_Store_told_35 ?_
        refine ks_tsOut (tgt := 163) C (by omega) (by omega) (by decide) d_Store_told_36 ?_
        refine ks_aload_n rfl rfl C d_Store_told_163 ?_
        refine ks_get (k := 8) C 0 8 in_Store rfl (by decide) fk_Store_63 rfl rfl rfl d_Store_told_164 ?_
        refine ks_iload_n rfl rfl C d_Store_told_167 ?_
        refine ks_bipush (a := 10) rfl C d_Store_told_168 ?_
        refine ks_isub (by omega) C d_Store_told_170 ?_
        refine ks_cxW (ci := 6) (q0 := 0) (kw_store z0 tk0 tv0 gk0 gv0 d0 x0 m0 c0 t0 k0 _ _ _ ++ kw_trees K t0 t1 t2 x0 n0 c0 _ _ _ ++ kw_nodes K n0 n1 x0 _ ++ kw_chains c0 x0 _ _ ++ kw_pages K x0 x1 x2 _ _) (kw_store z0 tk0 tv0 gk0 gv0 d0 x0 m0 c0 t0 k0 _ _ _) C (c_Trees_has l D K t0 t1 t2 n0 n1 c0 x0 x1 x2 _ _ _ _ _ _ _ _ _ (by omega)) yw_Trees_has sel_Trees_has lk_Store_239 d_Store_told_171 rfl rfl rfl [1, 2, 3, 4, 5, 6, 7, 8, 9] [0] [0, 1, 2, 3, 4, 5, 6, 7, 8, 9] rfl rfl rfl rfl (by decide) rfl rfl rfl rfl rfl ⟨by decide, by decide⟩ ⟨by decide, by decide⟩ rfl (Nat.le_of_ble_eq_true rfl) ?_
        refine ks_ifB_eq (tgt := 191) C (by decide) d_Store_told_174 (fun u5 => ?_) (fun u5 => ?_)
        · refine ks_iconst (a := 4294967295) rfl C d_Store_told_191 ?_
          exact ks_iret C Z rfl rfl d_Store_told_192 rfl rfl ⟨rfl, rfl⟩
        · exact absurd (h3.symm.trans u5) (by decide)
      · exact (by omega : False).elim
set_option maxRecDepth 100000 in
set_option maxHeartbeats 4000000 in
theorem c_Store_check_T (l : Launch) (hNT : l.stackTraces = false) (D : va_G) (K : Nat → ClassId) (z0 tk0 tv0 gk0 gv0 d0 x0 m0 c0 t0 k0 : Nat) (fnd opn : Bool) : kt_M l D (ks_T K) (kt_R 7) y_Store_check b_Store_check 1 (some .int) [.ref z0] (kw_store z0 tk0 tv0 gk0 gv0 d0 x0 m0 c0 t0 k0 fnd false opn) "java/lang/IllegalStateException" (kw_store z0 tk0 tv0 gk0 gv0 d0 x0 m0 c0 t0 k0 fnd false opn) := by
  refine kt_M.of hNT 0 (by decide) (Nat.le_of_ble_eq_true rfl) ?_
  intro E C Kt Z
  refine ks_aload_n rfl rfl C d_Store_check_0 ?_
  exact ks_callTW (ci := 8) (q0 := 0) ([] : va_W) C Kt Z (c_Store_demandOn_T l hNT D K z0 tk0 tv0 gk0 gv0 d0 x0 m0 c0 t0 k0 _ _) yw_Store_demandOn sel_Store_demandOn lk_Store_157 d_Store_check_1 rfl rfl rfl [0] [] [0] rfl rfl rfl rfl (by decide) rfl rfl rfl rfl ⟨by decide, by decide⟩ ⟨by decide, by decide⟩ (Nat.le_of_ble_eq_true rfl) rfl rfl
set_option maxRecDepth 100000 in
set_option maxHeartbeats 4000000 in
theorem c_Store_check_ok (l : Launch) (D : va_G) (K : Nat → ClassId) (z0 tk0 tv0 gk0 gv0 d0 x0 m0 c0 t0 k0 : Nat) (fnd opn : Bool) (k1 l0 l1 : Nat) (t1 t2 n0 n1 x1 x2 pg ca top : Nat) (pn ps P : Nat → Nat) (B : Nat → UInt8) (G : Nat → Bool) (Cl : Nat → Bool) (w en sz : Nat) (Lr : Nat → UInt8) (ll : Nat) (hp : ∀ j, pn j < 65536) (hs : ∀ j, ps j < 65536) (hl : ll ≤ 8448) (hS : (kx_fau B ((Cl, w), (en, sz), (Lr, ll), (pn, ps, top), (pg, ca))).2.2.1.2 < 2147483648) : ks_M l D (ks_T K) (ks_R 15) y_Store_check b_Store_check 1 (some .int) [.ref z0] (kw_store z0 tk0 tv0 gk0 gv0 d0 x0 m0 c0 t0 k0 fnd true opn ++ kw_chk K k0 k1 l0 x0 n0 c0 t0 Cl w en sz ++ kw_row K l0 l1 Lr ll ++ kw_trees K t0 t1 t2 x0 n0 c0 pn ps top ++ kw_nodes K n0 n1 x0 P ++ kw_chains c0 x0 pg ca ++ kw_pages K x0 x1 x2 B G) (ks_f (some (.int (nI (kx_w B (kx_fau B ((Cl, w), (en, sz), (Lr, ll), (pn, ps, top), (pg, ca))))))) (kw_store z0 tk0 tv0 gk0 gv0 d0 x0 m0 c0 t0 k0 fnd true opn ++ kw_chk K k0 k1 l0 x0 n0 c0 t0 (kx_fau B ((Cl, w), (en, sz), (Lr, ll), (pn, ps, top), (pg, ca))).2.1.1 (kx_w B (kx_fau B ((Cl, w), (en, sz), (Lr, ll), (pn, ps, top), (pg, ca)))) (kx_fau B ((Cl, w), (en, sz), (Lr, ll), (pn, ps, top), (pg, ca))).2.2.1.1 (kx_fau B ((Cl, w), (en, sz), (Lr, ll), (pn, ps, top), (pg, ca))).2.2.1.2 ++ kw_row K l0 l1 (kx_fau B ((Cl, w), (en, sz), (Lr, ll), (pn, ps, top), (pg, ca))).2.2.2.1.1 (kx_fau B ((Cl, w), (en, sz), (Lr, ll), (pn, ps, top), (pg, ca))).2.2.2.1.2 ++ kw_trees K t0 t1 t2 x0 n0 c0 (kx_fau B ((Cl, w), (en, sz), (Lr, ll), (pn, ps, top), (pg, ca))).2.2.2.2.1.1 (kx_fau B ((Cl, w), (en, sz), (Lr, ll), (pn, ps, top), (pg, ca))).2.2.2.2.1.2.1 (kx_fau B ((Cl, w), (en, sz), (Lr, ll), (pn, ps, top), (pg, ca))).2.2.2.2.1.2.2 ++ kw_nodes K n0 n1 x0 P ++ kw_chains c0 x0 (kx_fau B ((Cl, w), (en, sz), (Lr, ll), (pn, ps, top), (pg, ca))).2.2.2.2.2.1 (kx_fau B ((Cl, w), (en, sz), (Lr, ll), (pn, ps, top), (pg, ca))).2.2.2.2.2.2 ++ kw_pages K x0 x1 x2 B G)) := by
  refine ks_M.of 0 (by decide) (Nat.le_of_ble_eq_true rfl) ?_
  intro E C Z
  refine ks_aload_n rfl rfl C d_Store_check_0 ?_
  refine ks_cvW (ci := 8) (q0 := 0) (kw_store z0 tk0 tv0 gk0 gv0 d0 x0 m0 c0 t0 k0 _ _ _ ++ kw_chk K k0 k1 l0 x0 n0 c0 t0 _ _ _ _ ++ kw_row K l0 l1 _ _ ++ kw_trees K t0 t1 t2 x0 n0 c0 _ _ _ ++ kw_nodes K n0 n1 x0 _ ++ kw_chains c0 x0 _ _ ++ kw_pages K x0 x1 x2 _ _) (kw_chk K k0 k1 l0 x0 n0 c0 t0 _ _ _ _ ++ kw_row K l0 l1 _ _ ++ kw_trees K t0 t1 t2 x0 n0 c0 _ _ _ ++ kw_nodes K n0 n1 x0 _ ++ kw_chains c0 x0 _ _ ++ kw_pages K x0 x1 x2 _ _) C (c_Store_demandOn_ok l D K z0 tk0 tv0 gk0 gv0 d0 x0 m0 c0 t0 k0 _ _) yw_Store_demandOn sel_Store_demandOn lk_Store_157 d_Store_check_1 rfl rfl rfl [0] [1, 2, 3, 4, 5, 6, 7, 8, 9, 10, 11, 12, 13] [13, 0, 1, 2, 3, 4, 5, 6, 7, 8, 9, 10, 11, 12] rfl rfl rfl rfl (by decide) rfl rfl rfl rfl rfl ⟨by decide, by decide⟩ ⟨by decide, by decide⟩ rfl (Nat.le_of_ble_eq_true rfl) ?_
  refine ks_aload_n rfl rfl C d_Store_check_4 ?_
  refine ks_get (k := 9) C 0 8 in_Store rfl (by decide) fk_Store_72 rfl rfl rfl d_Store_check_5 ?_
  refine ks_cxW (ci := 7) (q0 := 0) (kw_store z0 tk0 tv0 gk0 gv0 d0 x0 m0 c0 t0 k0 _ _ _ ++ kw_chk K k0 k1 l0 x0 n0 c0 t0 _ _ _ _ ++ kw_row K l0 l1 _ _ ++ kw_trees K t0 t1 t2 x0 n0 c0 _ _ _ ++ kw_nodes K n0 n1 x0 _ ++ kw_chains c0 x0 _ _ ++ kw_pages K x0 x1 x2 _ _) (kw_store z0 tk0 tv0 gk0 gv0 d0 x0 m0 c0 t0 k0 _ _ _) C (c_Checker_faults l D K k0 k1 l0 l1 t0 t1 t2 n0 n1 c0 x0 x1 x2 _ _ _ _ _ _ _ _ _ _ _ _ _ _ hp hs hl hS) yw_Checker_faults sel_Checker_faults lk_Store_246 d_Store_check_8 rfl rfl rfl [1, 2, 3, 4, 5, 6, 7, 8, 9, 10, 11, 12, 13] [0] [0, 1, 2, 3, 4, 5, 6, 7, 8, 9, 10, 11, 12, 13] rfl rfl rfl rfl (by decide) rfl rfl rfl rfl rfl ⟨by decide, by decide⟩ ⟨by decide, by decide⟩ rfl (Nat.le_of_ble_eq_true rfl) ?_
  exact ks_iret C Z rfl rfl d_Store_check_11 rfl rfl ⟨rfl, rfl⟩
