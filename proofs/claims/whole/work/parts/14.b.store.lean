/-! the store: world, small methods -/
abbrev kw_store (z0 tk0 tv0 gk0 gv0 d0 x0 m0 c0 t0 k0 : Nat) (fnd on opn : Bool) : va_W := [(z0, .inr (8, [.ref tk0, .ref tv0, .ref gk0, .ref gv0, .ref d0, .ref x0, .ref m0, .ref c0, .ref t0, .ref k0, .int (ks_b fnd), .int (ks_b on), .int (ks_b opn)]))]
abbrev kt_R (d : Nat) : Room := { frames := d, cells := 1, slots := 6, locals := 60 * d }
theorem ks_if0 (n : Nat) : (if 0 < n then 0 else n) = 0 := by split <;> omega
set_option maxRecDepth 100000 in
set_option maxHeartbeats 4000000 in
theorem c_Store_demandOn_ok (l : Launch) (D : va_G) (K : Nat → ClassId) (z0 tk0 tv0 gk0 gv0 d0 x0 m0 c0 t0 k0 : Nat) (fnd opn : Bool) : ks_M l D (ks_T K) (ks_R 0) y_Store_demandOn b_Store_demandOn 1 none [.ref z0] (kw_store z0 tk0 tv0 gk0 gv0 d0 x0 m0 c0 t0 k0 fnd true opn) (ks_f none (kw_store z0 tk0 tv0 gk0 gv0 d0 x0 m0 c0 t0 k0 fnd true opn)) := by
  refine ks_M.of 0 (by decide) (Nat.le_of_ble_eq_true rfl) ?_
  intro E C Z
  refine ks_aload_n rfl rfl C d_Store_demandOn_0 ?_
  refine ks_get (k := 11) C 0 8 in_Store rfl (by decide) fk_Store_80 rfl rfl rfl d_Store_demandOn_1 ?_
  refine ks_ifB_ne (tgt := 17) C (by decide) d_Store_demandOn_4 (fun _ => ?_) (fun h => absurd h (by decide))
  exact ks_vret C Z rfl d_Store_demandOn_17 rfl rfl ⟨rfl, rfl⟩
set_option maxRecDepth 100000 in
set_option maxHeartbeats 4000000 in
theorem c_Store_demandOn_T (l : Launch) (hNT : l.stackTraces = false) (D : va_G) (K : Nat → ClassId) (z0 tk0 tv0 gk0 gv0 d0 x0 m0 c0 t0 k0 : Nat) (fnd opn : Bool) : kt_M l D (ks_T K) (kt_R 6) y_Store_demandOn b_Store_demandOn 1 none [.ref z0] (kw_store z0 tk0 tv0 gk0 gv0 d0 x0 m0 c0 t0 k0 fnd false opn) "java/lang/IllegalStateException" (kw_store z0 tk0 tv0 gk0 gv0 d0 x0 m0 c0 t0 k0 fnd false opn) := by
  refine kt_M.of hNT 0 (by decide) (Nat.le_of_ble_eq_true rfl) ?_
  intro E C Kt Z
  refine ks_aload_n rfl rfl C d_Store_demandOn_0 ?_
  refine ks_get (k := 11) C 0 8 in_Store rfl (by decide) fk_Store_80 rfl rfl rfl d_Store_demandOn_1 ?_
  refine ks_ifB_ne (tgt := 17) C (by decide) d_Store_demandOn_4 (fun h => absurd h (by decide)) (fun _ => ?_)
  exact ks_throw (names := kt_n2) C Kt Z (by decide +kernel) (by decide +kernel) (kt_site kt_wISE kt_s255) d_Store_demandOn_7 d_Store_demandOn_10 d_Store_demandOn_11 d_Store_demandOn_13 d_Store_demandOn_16 (by decide) (by decide) (by decide) (by decide) rfl rfl rfl
set_option maxRecDepth 100000 in
set_option maxHeartbeats 4000000 in
theorem c_Store_demandOpen_ok (l : Launch) (D : va_G) (K : Nat → ClassId) (z0 tk0 tv0 gk0 gv0 d0 x0 m0 c0 t0 k0 : Nat) (fnd : Bool) : ks_M l D (ks_T K) (ks_R 0) y_Store_demandOpen b_Store_demandOpen 1 none [.ref z0] (kw_store z0 tk0 tv0 gk0 gv0 d0 x0 m0 c0 t0 k0 fnd true true) (ks_f none (kw_store z0 tk0 tv0 gk0 gv0 d0 x0 m0 c0 t0 k0 fnd true true)) := by
  refine ks_M.of 0 (by decide) (Nat.le_of_ble_eq_true rfl) ?_
  intro E C Z
  refine ks_aload_n rfl rfl C d_Store_demandOpen_0 ?_
  refine ks_get (k := 11) C 0 8 in_Store rfl (by decide) fk_Store_80 rfl rfl rfl d_Store_demandOpen_1 ?_
  refine ks_ifB_eq (tgt := 14) C (by decide) d_Store_demandOpen_4 (fun h => absurd h (by decide)) (fun _ => ?_)
  refine ks_aload_n rfl rfl C d_Store_demandOpen_7 ?_
  refine ks_get (k := 12) C 0 8 in_Store rfl (by decide) fk_Store_83 rfl rfl rfl d_Store_demandOpen_8 ?_
  refine ks_ifB_ne (tgt := 25) C (by decide) d_Store_demandOpen_11 (fun _ => ?_) (fun h => absurd h (by decide))
  exact ks_vret C Z rfl d_Store_demandOpen_25 rfl rfl ⟨rfl, rfl⟩
set_option maxRecDepth 100000 in
set_option maxHeartbeats 4000000 in
theorem c_Store_demandOpen_T1 (l : Launch) (hNT : l.stackTraces = false) (D : va_G) (K : Nat → ClassId) (z0 tk0 tv0 gk0 gv0 d0 x0 m0 c0 t0 k0 : Nat) (fnd opn : Bool) : kt_M l D (ks_T K) (kt_R 6) y_Store_demandOpen b_Store_demandOpen 1 none [.ref z0] (kw_store z0 tk0 tv0 gk0 gv0 d0 x0 m0 c0 t0 k0 fnd false opn) "java/lang/IllegalStateException" (kw_store z0 tk0 tv0 gk0 gv0 d0 x0 m0 c0 t0 k0 fnd false opn) := by
  refine kt_M.of hNT 0 (by decide) (Nat.le_of_ble_eq_true rfl) ?_
  intro E C Kt Z
  refine ks_aload_n rfl rfl C d_Store_demandOpen_0 ?_
  refine ks_get (k := 11) C 0 8 in_Store rfl (by decide) fk_Store_80 rfl rfl rfl d_Store_demandOpen_1 ?_
  refine ks_ifB_eq (tgt := 14) C (by decide) d_Store_demandOpen_4 (fun _ => ?_) (fun h => absurd h (by decide))
  exact ks_throwW (names := kt_n2) C Kt Z (by decide +kernel) (by decide +kernel) (kt_site kt_wISE kt_s257) d_Store_demandOpen_14 d_Store_demandOpen_17 d_Store_demandOpen_18 d_Store_demandOpen_21 d_Store_demandOpen_24 (by decide) (by decide) (by decide) (by decide) rfl rfl rfl
set_option maxRecDepth 100000 in
set_option maxHeartbeats 4000000 in
theorem c_Store_demandOpen_T2 (l : Launch) (hNT : l.stackTraces = false) (D : va_G) (K : Nat → ClassId) (z0 tk0 tv0 gk0 gv0 d0 x0 m0 c0 t0 k0 : Nat) (fnd : Bool) : kt_M l D (ks_T K) (kt_R 6) y_Store_demandOpen b_Store_demandOpen 1 none [.ref z0] (kw_store z0 tk0 tv0 gk0 gv0 d0 x0 m0 c0 t0 k0 fnd true false) "java/lang/IllegalStateException" (kw_store z0 tk0 tv0 gk0 gv0 d0 x0 m0 c0 t0 k0 fnd true false) := by
  refine kt_M.of hNT 0 (by decide) (Nat.le_of_ble_eq_true rfl) ?_
  intro E C Kt Z
  refine ks_aload_n rfl rfl C d_Store_demandOpen_0 ?_
  refine ks_get (k := 11) C 0 8 in_Store rfl (by decide) fk_Store_80 rfl rfl rfl d_Store_demandOpen_1 ?_
  refine ks_ifB_eq (tgt := 14) C (by decide) d_Store_demandOpen_4 (fun h => absurd h (by decide)) (fun _ => ?_)
  refine ks_aload_n rfl rfl C d_Store_demandOpen_7 ?_
  refine ks_get (k := 12) C 0 8 in_Store rfl (by decide) fk_Store_83 rfl rfl rfl d_Store_demandOpen_8 ?_
  refine ks_ifB_ne (tgt := 25) C (by decide) d_Store_demandOpen_11 (fun h => absurd h (by decide)) (fun _ => ?_)
  exact ks_throwW (names := kt_n2) C Kt Z (by decide +kernel) (by decide +kernel) (kt_site kt_wISE kt_s257) d_Store_demandOpen_14 d_Store_demandOpen_17 d_Store_demandOpen_18 d_Store_demandOpen_21 d_Store_demandOpen_24 (by decide) (by decide) (by decide) (by decide) rfl rfl rfl
set_option maxRecDepth 100000 in
set_option maxHeartbeats 4000000 in
theorem c_Store_demandFound_ok (l : Launch) (D : va_G) (K : Nat → ClassId) (z0 tk0 tv0 gk0 gv0 d0 x0 m0 c0 t0 k0 : Nat) (on opn : Bool) : ks_M l D (ks_T K) (ks_R 0) y_Store_demandFound b_Store_demandFound 1 none [.ref z0] (kw_store z0 tk0 tv0 gk0 gv0 d0 x0 m0 c0 t0 k0 true on opn) (ks_f none (kw_store z0 tk0 tv0 gk0 gv0 d0 x0 m0 c0 t0 k0 true on opn)) := by
  refine ks_M.of 0 (by decide) (Nat.le_of_ble_eq_true rfl) ?_
  intro E C Z
  refine ks_aload_n rfl rfl C d_Store_demandFound_0 ?_
  refine ks_get (k := 10) C 0 8 in_Store rfl (by decide) fk_Store_76 rfl rfl rfl d_Store_demandFound_1 ?_
  refine ks_ifB_ne (tgt := 18) C (by decide) d_Store_demandFound_4 (fun _ => ?_) (fun h => absurd h (by decide))
  exact ks_vret C Z rfl d_Store_demandFound_18 rfl rfl ⟨rfl, rfl⟩
set_option maxRecDepth 100000 in
set_option maxHeartbeats 4000000 in
theorem c_Store_demandFound_T (l : Launch) (hNT : l.stackTraces = false) (D : va_G) (K : Nat → ClassId) (z0 tk0 tv0 gk0 gv0 d0 x0 m0 c0 t0 k0 : Nat) (on opn : Bool) : kt_M l D (ks_T K) (kt_R 6) y_Store_demandFound b_Store_demandFound 1 none [.ref z0] (kw_store z0 tk0 tv0 gk0 gv0 d0 x0 m0 c0 t0 k0 false on opn) "java/util/NoSuchElementException" (kw_store z0 tk0 tv0 gk0 gv0 d0 x0 m0 c0 t0 k0 false on opn) := by
  refine kt_M.of hNT 0 (by decide) (Nat.le_of_ble_eq_true rfl) ?_
  intro E C Kt Z
  refine ks_aload_n rfl rfl C d_Store_demandFound_0 ?_
  refine ks_get (k := 10) C 0 8 in_Store rfl (by decide) fk_Store_76 rfl rfl rfl d_Store_demandFound_1 ?_
  refine ks_ifB_ne (tgt := 18) C (by decide) d_Store_demandFound_4 (fun h => absurd h (by decide)) (fun _ => ?_)
  exact ks_throwXW (ix := 13) (rx := prog_22_method_4_code) (by decide +kernel) (by decide +kernel) (by decide +kernel) (by decide +kernel) (names := kt_n2) C Kt Z (by decide +kernel) (by decide +kernel) (kt_site kt_wNSE kt_s269) d_Store_demandFound_7 d_Store_demandFound_10 d_Store_demandFound_11 d_Store_demandFound_14 d_Store_demandFound_17 (by decide) (by decide) (by decide) (by decide) rfl rfl rfl
set_option maxRecDepth 100000 in
set_option maxHeartbeats 4000000 in
theorem c_Store_demandRoom_ok (l : Launch) (D : va_G) (K : Nat → ClassId) (z0 tk0 tv0 gk0 gv0 d0 x0 m0 c0 t0 k0 : Nat) (fnd opn : Bool) (r0 r1 : Nat) (R : Nat → UInt8) (len : Nat) (n : Nat) (h1 : len ≤ 8448) (h2 : len + n ≤ 8448) : ks_M l D (ks_T K) (ks_R 1) y_Store_demandRoom b_Store_demandRoom 3 none [.ref z0, .ref r0, .int (nI n)] (kw_store z0 tk0 tv0 gk0 gv0 d0 x0 m0 c0 t0 k0 fnd true opn ++ kw_row K r0 r1 R len) (ks_f none (kw_store z0 tk0 tv0 gk0 gv0 d0 x0 m0 c0 t0 k0 fnd true opn ++ kw_row K r0 r1 R len)) := by
  refine ks_M.of 0 (by decide) (Nat.le_of_ble_eq_true rfl) ?_
  intro E C Z
  refine ks_aload_n rfl rfl C d_Store_demandRoom_0 ?_
  refine ks_get (k := 11) C 0 8 in_Store rfl (by decide) fk_Store_80 rfl rfl rfl d_Store_demandRoom_1 ?_
  refine ks_ifB_eq (tgt := 15) C (by decide) d_Store_demandRoom_4 (fun h => absurd h (by decide)) (fun _ => ?_)
  refine ks_aload_n rfl rfl C d_Store_demandRoom_7 ?_
  refine ks_iload_n rfl rfl C d_Store_demandRoom_8 ?_
  refine ks_cxW (ci := 0) (q0 := 0) (kw_store z0 tk0 tv0 gk0 gv0 d0 x0 m0 c0 t0 k0 _ _ _ ++ kw_row K r0 r1 _ _) (kw_store z0 tk0 tv0 gk0 gv0 d0 x0 m0 c0 t0 k0 _ _ _) C (c_Row_hasRoom l D K r0 r1 _ _ _ (by omega) (by omega)) yw_Row_hasRoom sel_Row_hasRoom lk_Store_259 d_Store_demandRoom_9 rfl rfl rfl [1, 2] [0] [0, 1, 2] rfl rfl rfl rfl (by decide) rfl rfl rfl rfl rfl ⟨by decide, by decide⟩ ⟨by decide, by decide⟩ rfl (Nat.le_of_ble_eq_true rfl) ?_
  refine ks_ifD_ne (tgt := 26) C (by decide) d_Store_demandRoom_12 (fun u2 => ?_) (fun u2 => ?_)
  · exact ks_vret C Z rfl d_Store_demandRoom_26 rfl rfl ⟨rfl, rfl⟩
  · exact (by omega : False).elim
set_option maxRecDepth 100000 in
set_option maxHeartbeats 4000000 in
theorem c_Store_demandRoom_T1 (l : Launch) (hNT : l.stackTraces = false) (D : va_G) (K : Nat → ClassId) (z0 tk0 tv0 gk0 gv0 d0 x0 m0 c0 t0 k0 : Nat) (fnd opn : Bool) (r0 r1 : Nat) (R : Nat → UInt8) (len : Nat) (n : Nat) : kt_M l D (ks_T K) (kt_R 6) y_Store_demandRoom b_Store_demandRoom 3 none [.ref z0, .ref r0, .int (nI n)] (kw_store z0 tk0 tv0 gk0 gv0 d0 x0 m0 c0 t0 k0 fnd false opn ++ kw_row K r0 r1 R len) "java/lang/IllegalStateException" (kw_store z0 tk0 tv0 gk0 gv0 d0 x0 m0 c0 t0 k0 fnd false opn ++ kw_row K r0 r1 R len) := by
  refine kt_M.of hNT 0 (by decide) (Nat.le_of_ble_eq_true rfl) ?_
  intro E C Kt Z
  refine ks_aload_n rfl rfl C d_Store_demandRoom_0 ?_
  refine ks_get (k := 11) C 0 8 in_Store rfl (by decide) fk_Store_80 rfl rfl rfl d_Store_demandRoom_1 ?_
  refine ks_ifB_eq (tgt := 15) C (by decide) d_Store_demandRoom_4 (fun _ => ?_) (fun h => absurd h (by decide))
  exact ks_throwW (names := kt_n2) C Kt Z (by decide +kernel) (by decide +kernel) (kt_site kt_wISE kt_s262) d_Store_demandRoom_15 d_Store_demandRoom_18 d_Store_demandRoom_19 d_Store_demandRoom_22 d_Store_demandRoom_25 (by decide) (by decide) (by decide) (by decide) rfl rfl rfl
set_option maxRecDepth 100000 in
set_option maxHeartbeats 4000000 in
theorem c_Store_demandRoom_T2 (l : Launch) (hNT : l.stackTraces = false) (D : va_G) (K : Nat → ClassId) (z0 tk0 tv0 gk0 gv0 d0 x0 m0 c0 t0 k0 : Nat) (fnd opn : Bool) (r0 r1 : Nat) (R : Nat → UInt8) (len : Nat) (n : Nat) (h1 : len ≤ 8448) (h2 : 8448 < len + n) (h3 : n ≤ 8448) : kt_M l D (ks_T K) (kt_R 6) y_Store_demandRoom b_Store_demandRoom 3 none [.ref z0, .ref r0, .int (nI n)] (kw_store z0 tk0 tv0 gk0 gv0 d0 x0 m0 c0 t0 k0 fnd true opn ++ kw_row K r0 r1 R len) "java/lang/IllegalStateException" (kw_store z0 tk0 tv0 gk0 gv0 d0 x0 m0 c0 t0 k0 fnd true opn ++ kw_row K r0 r1 R len) := by
  refine kt_M.of hNT 0 (by decide) (Nat.le_of_ble_eq_true rfl) ?_
  intro E C Kt Z
  refine ks_aload_n rfl rfl C d_Store_demandRoom_0 ?_
  refine ks_get (k := 11) C 0 8 in_Store rfl (by decide) fk_Store_80 rfl rfl rfl d_Store_demandRoom_1 ?_
  refine ks_ifB_eq (tgt := 15) C (by decide) d_Store_demandRoom_4 (fun h => absurd h (by decide)) (fun _ => ?_)
  refine ks_aload_n rfl rfl C d_Store_demandRoom_7 ?_
  refine ks_iload_n rfl rfl C d_Store_demandRoom_8 ?_
  refine ks_cxW (ci := 0) (q0 := 0) (kw_store z0 tk0 tv0 gk0 gv0 d0 x0 m0 c0 t0 k0 _ _ _ ++ kw_row K r0 r1 _ _) (kw_store z0 tk0 tv0 gk0 gv0 d0 x0 m0 c0 t0 k0 _ _ _) C (c_Row_hasRoom l D K r0 r1 _ _ _ (by omega) (by omega)) yw_Row_hasRoom sel_Row_hasRoom lk_Store_259 d_Store_demandRoom_9 rfl rfl rfl [1, 2] [0] [0, 1, 2] rfl rfl rfl rfl (by decide) rfl rfl rfl rfl rfl ⟨by decide, by decide⟩ ⟨by decide, by decide⟩ rfl (Nat.le_of_ble_eq_true rfl) ?_
  refine ks_ifD_ne (tgt := 26) C (by decide) d_Store_demandRoom_12 (fun u2 => ?_) (fun u2 => ?_)
  · exact (by omega : False).elim
  · exact ks_throwW (names := kt_n2) C Kt Z (by decide +kernel) (by decide +kernel) (kt_site kt_wISE kt_s262) d_Store_demandRoom_15 d_Store_demandRoom_18 d_Store_demandRoom_19 d_Store_demandRoom_22 d_Store_demandRoom_25 (by decide) (by decide) (by decide) (by decide) rfl rfl rfl
set_option maxRecDepth 100000 in
set_option maxHeartbeats 4000000 in
theorem c_Store_demandMark_ok (l : Launch) (D : va_G) (K : Nat → ClassId) (z0 tk0 tv0 gk0 gv0 d0 x0 m0 c0 t0 k0 : Nat) (fnd on opn : Bool) (m1 s0 s1 s2 s3 s4 : Nat) (S0 S1 S2 S3 S4 : Nat → UInt8) (cnt : Nat) (m : Nat) (h1 : 1 ≤ m) (h2 : m ≤ cnt) (h3 : cnt ≤ 5) : ks_M l D (ks_T K) (ks_R 1) y_Store_demandMark b_Store_demandMark 2 none [.ref z0, .int (nI m)] (kw_store z0 tk0 tv0 gk0 gv0 d0 x0 m0 c0 t0 k0 fnd on opn ++ kw_marks K m0 m1 s0 s1 s2 s3 s4 S0 S1 S2 S3 S4 cnt) (ks_f none (kw_store z0 tk0 tv0 gk0 gv0 d0 x0 m0 c0 t0 k0 fnd on opn ++ kw_marks K m0 m1 s0 s1 s2 s3 s4 S0 S1 S2 S3 S4 cnt)) := by
  refine ks_M.of 0 (by decide) (Nat.le_of_ble_eq_true rfl) ?_
  intro E C Z
  refine ks_iload_n rfl rfl C d_Store_demandMark_0 ?_
  refine ks_iconst (a := 1) rfl C d_Store_demandMark_1 ?_
  refine ks_icmpR_lt (tgt := 16) C (by omega) (by omega) (by decide) d_Store_demandMark_2 (fun u1 => ?_) (fun u1 => ?_)
  · exact (by omega : False).elim
  · refine ks_iload_n rfl rfl C d_Store_demandMark_5 ?_
    refine ks_aload_n rfl rfl C d_Store_demandMark_6 ?_
    refine ks_get (k := 6) C 0 8 in_Store rfl (by decide) fk_Store_42 rfl rfl rfl d_Store_demandMark_7 ?_
    refine ks_cxW (ci := 3) (q0 := 0) (kw_store z0 tk0 tv0 gk0 gv0 d0 x0 m0 c0 t0 k0 _ _ _ ++ kw_marks K m0 m1 s0 s1 s2 s3 s4 _ _ _ _ _ _) (kw_store z0 tk0 tv0 gk0 gv0 d0 x0 m0 c0 t0 k0 _ _ _) C (c_Marks_count l D K m0 m1 s0 s1 s2 s3 s4 _ _ _ _ _ _) yw_Marks_count sel_Marks_count lk_Store_206 d_Store_demandMark_10 rfl rfl rfl [1, 2, 3, 4, 5, 6, 7] [0] [0, 1, 2, 3, 4, 5, 6, 7] rfl rfl rfl rfl (by decide) rfl rfl rfl rfl rfl ⟨by decide, by decide⟩ ⟨by decide, by decide⟩ rfl (Nat.le_of_ble_eq_true rfl) ?_
    refine ks_icmpR_le (tgt := 27) C (by omega) (by omega) (by decide) d_Store_demandMark_13 (fun u2 => ?_) (fun u2 => ?_)
    · exact ks_vret C Z rfl d_Store_demandMark_27 rfl rfl ⟨rfl, rfl⟩
    · exact (by omega : False).elim
set_option maxRecDepth 100000 in
set_option maxHeartbeats 4000000 in
theorem c_Store_demandMark_T (l : Launch) (hNT : l.stackTraces = false) (D : va_G) (K : Nat → ClassId) (z0 tk0 tv0 gk0 gv0 d0 x0 m0 c0 t0 k0 : Nat) (fnd on opn : Bool) (m1 s0 s1 s2 s3 s4 : Nat) (S0 S1 S2 S3 S4 : Nat → UInt8) (cnt : Nat) (m : Nat) (h1 : m = 0 ∨ cnt < m) (h2 : m < 4294967296) (h3 : cnt ≤ 5) : kt_M l D (ks_T K) (kt_R 6) y_Store_demandMark b_Store_demandMark 2 none [.ref z0, .int (nI m)] (kw_store z0 tk0 tv0 gk0 gv0 d0 x0 m0 c0 t0 k0 fnd on opn ++ kw_marks K m0 m1 s0 s1 s2 s3 s4 S0 S1 S2 S3 S4 cnt) "java/lang/IndexOutOfBoundsException" (kw_store z0 tk0 tv0 gk0 gv0 d0 x0 m0 c0 t0 k0 fnd on opn ++ kw_marks K m0 m1 s0 s1 s2 s3 s4 S0 S1 S2 S3 S4 cnt) := by
  refine kt_M.of hNT 0 (by decide) (Nat.le_of_ble_eq_true rfl) ?_
  intro E C Kt Z
  refine ks_iload_n rfl rfl C d_Store_demandMark_0 ?_
  refine ks_iconst (a := 1) rfl C d_Store_demandMark_1 ?_
  refine ks_icmpR_lt (tgt := 16) C (by omega) (by omega) (by decide) d_Store_demandMark_2 (fun u1 => ?_) (fun u1 => ?_)
  · exact ks_throwW (names := kt_n2) C Kt Z (by decide +kernel) (by decide +kernel) (kt_site kt_wIOB kt_s273) d_Store_demandMark_16 d_Store_demandMark_19 d_Store_demandMark_20 d_Store_demandMark_23 d_Store_demandMark_26 (by decide) (by decide) (by decide) (by decide) rfl rfl rfl
  · refine ks_iload_n rfl rfl C d_Store_demandMark_5 ?_
    refine ks_aload_n rfl rfl C d_Store_demandMark_6 ?_
    refine ks_get (k := 6) C 0 8 in_Store rfl (by decide) fk_Store_42 rfl rfl rfl d_Store_demandMark_7 ?_
    refine ks_cxW (ci := 3) (q0 := 0) (kw_store z0 tk0 tv0 gk0 gv0 d0 x0 m0 c0 t0 k0 _ _ _ ++ kw_marks K m0 m1 s0 s1 s2 s3 s4 _ _ _ _ _ _) (kw_store z0 tk0 tv0 gk0 gv0 d0 x0 m0 c0 t0 k0 _ _ _) C (c_Marks_count l D K m0 m1 s0 s1 s2 s3 s4 _ _ _ _ _ _) yw_Marks_count sel_Marks_count lk_Store_206 d_Store_demandMark_10 rfl rfl rfl [1, 2, 3, 4, 5, 6, 7] [0] [0, 1, 2, 3, 4, 5, 6, 7] rfl rfl rfl rfl (by decide) rfl rfl rfl rfl rfl ⟨by decide, by decide⟩ ⟨by decide, by decide⟩ rfl (Nat.le_of_ble_eq_true rfl) ?_
    refine ks_icmpR_le (tgt := 27) C (by omega) (by omega) (by decide) d_Store_demandMark_13 (fun u2 => ?_) (fun u2 => ?_)
    · exact (by omega : False).elim
    · exact ks_throwW (names := kt_n2) C Kt Z (by decide +kernel) (by decide +kernel) (kt_site kt_wIOB kt_s273) d_Store_demandMark_16 d_Store_demandMark_19 d_Store_demandMark_20 d_Store_demandMark_23 d_Store_demandMark_26 (by decide) (by decide) (by decide) (by decide) rfl rfl rfl
set_option maxRecDepth 100000 in
set_option maxHeartbeats 4000000 in
theorem c_Store_endTransaction (l : Launch) (D : va_G) (K : Nat → ClassId) (z0 tk0 tv0 gk0 gv0 d0 x0 m0 c0 t0 k0 : Nat) (fnd on opn : Bool) (m1 s0 s1 s2 s3 s4 : Nat) (S0 S1 S2 S3 S4 : Nat → UInt8) (cnt : Nat) (h1 : cnt ≤ 5) : ks_M l D (ks_T K) (ks_R 1) y_Store_endTransaction b_Store_endTransaction 1 none [.ref z0] (kw_store z0 tk0 tv0 gk0 gv0 d0 x0 m0 c0 t0 k0 fnd on opn ++ kw_marks K m0 m1 s0 s1 s2 s3 s4 S0 S1 S2 S3 S4 cnt) (ks_f none (kw_store z0 tk0 tv0 gk0 gv0 d0 x0 m0 c0 t0 k0 fnd on false ++ kw_marks K m0 m1 s0 s1 s2 s3 s4 S0 S1 S2 S3 S4 0)) := by
  refine ks_M.of 0 (by decide) (Nat.le_of_ble_eq_true rfl) ?_
  intro E C Z
  refine ks_aload_n rfl rfl C d_Store_endTransaction_0 ?_
  refine ks_iconstB false rfl C d_Store_endTransaction_1 ?_
  refine ks_put (k := 12) (ws' := (kw_store z0 tk0 tv0 gk0 gv0 d0 x0 m0 c0 t0 k0 _ _ _ ++ kw_marks K m0 m1 s0 s1 s2 s3 s4 _ _ _ _ _ _)) C 0 8 t_Store ty_Store nm_Store in_Store rfl (by decide) fk_Store_83 rfl rfl (ks_nb1 _) (ks_fb1 _) rfl (Nat.le_of_ble_eq_true rfl) rfl d_Store_endTransaction_2 ?_
  refine ks_aload_n rfl rfl C d_Store_endTransaction_5 ?_
  refine ks_get (k := 6) C 0 8 in_Store rfl (by decide) fk_Store_42 rfl rfl rfl d_Store_endTransaction_6 ?_
  refine ks_iconst (a := 0) rfl C d_Store_endTransaction_9 ?_
  refine ks_cvW (ci := 3) (q0 := 0) (kw_store z0 tk0 tv0 gk0 gv0 d0 x0 m0 c0 t0 k0 _ _ _ ++ kw_marks K m0 m1 s0 s1 s2 s3 s4 _ _ _ _ _ _) (kw_store z0 tk0 tv0 gk0 gv0 d0 x0 m0 c0 t0 k0 _ _ _) C (c_Marks_forgetAbove l D K m0 m1 s0 s1 s2 s3 s4 _ _ _ _ _ _ _ (by omega) (by omega)) yw_Marks_forgetAbove sel_Marks_forgetAbove lk_Store_221 d_Store_endTransaction_10 rfl rfl rfl [1, 2, 3, 4, 5, 6, 7] [0] [0, 1, 2, 3, 4, 5, 6, 7] rfl rfl rfl rfl (by decide) rfl rfl rfl rfl rfl ⟨by decide, by decide⟩ ⟨by decide, by decide⟩ rfl (Nat.le_of_ble_eq_true rfl) ?_
  rw [ks_if0]
  exact ks_vret C Z rfl d_Store_endTransaction_13 rfl rfl ⟨rfl, rfl⟩
set_option maxRecDepth 100000 in
set_option maxHeartbeats 4000000 in
theorem c_Store_losePower (l : Launch) (D : va_G) (K : Nat → ClassId) (z0 tk0 tv0 gk0 gv0 d0 x0 m0 c0 t0 k0 : Nat) (fnd on opn : Bool) (tk1 : Nat) (Kb : Nat → UInt8) (kl : Nat) (tv1 : Nat) (Vb : Nat → UInt8) (vl : Nat) (gk1 : Nat) (Gb : Nat → UInt8) (gl : Nat) (gv1 : Nat) (Eb : Nat → UInt8) (el : Nat) (m1 s0 s1 s2 s3 s4 : Nat) (S0 S1 S2 S3 S4 : Nat → UInt8) (cnt : Nat) (h1 : cnt ≤ 5) : ks_M l D (ks_T K) (ks_R 2) y_Store_losePower b_Store_losePower 1 none [.ref z0] (kw_store z0 tk0 tv0 gk0 gv0 d0 x0 m0 c0 t0 k0 fnd on opn ++ kw_row K tk0 tk1 Kb kl ++ kw_row K tv0 tv1 Vb vl ++ kw_row K gk0 gk1 Gb gl ++ kw_row K gv0 gv1 Eb el ++ kw_marks K m0 m1 s0 s1 s2 s3 s4 S0 S1 S2 S3 S4 cnt) (ks_f none (kw_store z0 tk0 tv0 gk0 gv0 d0 x0 m0 c0 t0 k0 false false false ++ kw_row K tk0 tk1 Kb 0 ++ kw_row K tv0 tv1 Vb 0 ++ kw_row K gk0 gk1 Gb 0 ++ kw_row K gv0 gv1 Eb 0 ++ kw_marks K m0 m1 s0 s1 s2 s3 s4 S0 S1 S2 S3 S4 0)) := by
  refine ks_M.of 0 (by decide) (Nat.le_of_ble_eq_true rfl) ?_
  intro E C Z
  refine ks_aload_n rfl rfl C d_Store_losePower_0 ?_
  refine ks_cvW (ci := 8) (q0 := 0) (kw_store z0 tk0 tv0 gk0 gv0 d0 x0 m0 c0 t0 k0 _ _ _ ++ kw_row K tk0 tk1 _ _ ++ kw_row K tv0 tv1 _ _ ++ kw_row K gk0 gk1 _ _ ++ kw_row K gv0 gv1 _ _ ++ kw_marks K m0 m1 s0 s1 s2 s3 s4 _ _ _ _ _ _) (kw_row K tk0 tk1 _ _ ++ kw_row K tv0 tv1 _ _ ++ kw_row K gk0 gk1 _ _ ++ kw_row K gv0 gv1 _ _) C (c_Store_endTransaction l D K z0 tk0 tv0 gk0 gv0 d0 x0 m0 c0 t0 k0 _ _ _ m1 s0 s1 s2 s3 s4 _ _ _ _ _ _ (by omega)) yw_Store_endTransaction sel_Store_endTransaction lk_Store_189 d_Store_losePower_1 rfl rfl rfl [0, 9, 10, 11, 12, 13, 14, 15] [1, 2, 3, 4, 5, 6, 7, 8] [8, 0, 1, 2, 3, 4, 5, 6, 7, 9, 10, 11, 12, 13, 14, 15] rfl rfl rfl rfl (by decide) rfl rfl rfl rfl rfl ⟨by decide, by decide⟩ ⟨by decide, by decide⟩ rfl (Nat.le_of_ble_eq_true rfl) ?_
  refine ks_aload_n rfl rfl C d_Store_losePower_4 ?_
  refine ks_iconstB false rfl C d_Store_losePower_5 ?_
  refine ks_put (k := 11) (ws' := (kw_store z0 tk0 tv0 gk0 gv0 d0 x0 m0 c0 t0 k0 _ _ _ ++ kw_row K tk0 tk1 _ _ ++ kw_row K tv0 tv1 _ _ ++ kw_row K gk0 gk1 _ _ ++ kw_row K gv0 gv1 _ _ ++ kw_marks K m0 m1 s0 s1 s2 s3 s4 _ _ _ _ _ _)) C 0 8 t_Store ty_Store nm_Store in_Store rfl (by decide) fk_Store_80 rfl rfl (ks_nb1 _) (ks_fb1 _) rfl (Nat.le_of_ble_eq_true rfl) rfl d_Store_losePower_6 ?_
  refine ks_aload_n rfl rfl C d_Store_losePower_9 ?_
  refine ks_iconstB false rfl C d_Store_losePower_10 ?_
  refine ks_put (k := 10) (ws' := (kw_store z0 tk0 tv0 gk0 gv0 d0 x0 m0 c0 t0 k0 _ _ _ ++ kw_row K tk0 tk1 _ _ ++ kw_row K tv0 tv1 _ _ ++ kw_row K gk0 gk1 _ _ ++ kw_row K gv0 gv1 _ _ ++ kw_marks K m0 m1 s0 s1 s2 s3 s4 _ _ _ _ _ _)) C 0 8 t_Store ty_Store nm_Store in_Store rfl (by decide) fk_Store_76 rfl rfl (ks_nb1 _) (ks_fb1 _) rfl (Nat.le_of_ble_eq_true rfl) rfl d_Store_losePower_11 ?_
  refine ks_aload_n rfl rfl C d_Store_losePower_14 ?_
  refine ks_get (k := 0) C 0 8 in_Store rfl (by decide) fk_Store_12 rfl rfl rfl d_Store_losePower_15 ?_
  refine ks_cvW (ci := 0) (q0 := 0) (kw_store z0 tk0 tv0 gk0 gv0 d0 x0 m0 c0 t0 k0 _ _ _ ++ kw_row K tk0 tk1 _ _ ++ kw_row K tv0 tv1 _ _ ++ kw_row K gk0 gk1 _ _ ++ kw_row K gv0 gv1 _ _ ++ kw_marks K m0 m1 s0 s1 s2 s3 s4 _ _ _ _ _ _) (kw_store z0 tk0 tv0 gk0 gv0 d0 x0 m0 c0 t0 k0 _ _ _ ++ kw_row K tv0 tv1 _ _ ++ kw_row K gk0 gk1 _ _ ++ kw_row K gv0 gv1 _ _ ++ kw_marks K m0 m1 s0 s1 s2 s3 s4 _ _ _ _ _ _) C (c_Row_clear l D K tk0 tk1 _ _) yw_Row_clear sel_Row_clear lk_Store_164 d_Store_losePower_18 rfl rfl rfl [1, 2] [0, 3, 4, 5, 6, 7, 8, 9, 10, 11, 12, 13, 14, 15] [0, 14, 15, 1, 2, 3, 4, 5, 6, 7, 8, 9, 10, 11, 12, 13] rfl rfl rfl rfl (by decide) rfl rfl rfl rfl rfl ⟨by decide, by decide⟩ ⟨by decide, by decide⟩ rfl (Nat.le_of_ble_eq_true rfl) ?_
  refine ks_aload_n rfl rfl C d_Store_losePower_21 ?_
  refine ks_get (k := 1) C 0 8 in_Store rfl (by decide) fk_Store_16 rfl rfl rfl d_Store_losePower_22 ?_
  refine ks_cvW (ci := 0) (q0 := 0) (kw_store z0 tk0 tv0 gk0 gv0 d0 x0 m0 c0 t0 k0 _ _ _ ++ kw_row K tk0 tk1 _ _ ++ kw_row K tv0 tv1 _ _ ++ kw_row K gk0 gk1 _ _ ++ kw_row K gv0 gv1 _ _ ++ kw_marks K m0 m1 s0 s1 s2 s3 s4 _ _ _ _ _ _) (kw_store z0 tk0 tv0 gk0 gv0 d0 x0 m0 c0 t0 k0 _ _ _ ++ kw_row K tk0 tk1 _ _ ++ kw_row K gk0 gk1 _ _ ++ kw_row K gv0 gv1 _ _ ++ kw_marks K m0 m1 s0 s1 s2 s3 s4 _ _ _ _ _ _) C (c_Row_clear l D K tv0 tv1 _ _) yw_Row_clear sel_Row_clear lk_Store_164 d_Store_losePower_25 rfl rfl rfl [3, 4] [0, 1, 2, 5, 6, 7, 8, 9, 10, 11, 12, 13, 14, 15] [0, 1, 2, 14, 15, 3, 4, 5, 6, 7, 8, 9, 10, 11, 12, 13] rfl rfl rfl rfl (by decide) rfl rfl rfl rfl rfl ⟨by decide, by decide⟩ ⟨by decide, by decide⟩ rfl (Nat.le_of_ble_eq_true rfl) ?_
  refine ks_aload_n rfl rfl C d_Store_losePower_28 ?_
  refine ks_get (k := 2) C 0 8 in_Store rfl (by decide) fk_Store_19 rfl rfl rfl d_Store_losePower_29 ?_
  refine ks_cvW (ci := 0) (q0 := 0) (kw_store z0 tk0 tv0 gk0 gv0 d0 x0 m0 c0 t0 k0 _ _ _ ++ kw_row K tk0 tk1 _ _ ++ kw_row K tv0 tv1 _ _ ++ kw_row K gk0 gk1 _ _ ++ kw_row K gv0 gv1 _ _ ++ kw_marks K m0 m1 s0 s1 s2 s3 s4 _ _ _ _ _ _) (kw_store z0 tk0 tv0 gk0 gv0 d0 x0 m0 c0 t0 k0 _ _ _ ++ kw_row K tk0 tk1 _ _ ++ kw_row K tv0 tv1 _ _ ++ kw_row K gv0 gv1 _ _ ++ kw_marks K m0 m1 s0 s1 s2 s3 s4 _ _ _ _ _ _) C (c_Row_clear l D K gk0 gk1 _ _) yw_Row_clear sel_Row_clear lk_Store_164 d_Store_losePower_32 rfl rfl rfl [5, 6] [0, 1, 2, 3, 4, 7, 8, 9, 10, 11, 12, 13, 14, 15] [0, 1, 2, 3, 4, 14, 15, 5, 6, 7, 8, 9, 10, 11, 12, 13] rfl rfl rfl rfl (by decide) rfl rfl rfl rfl rfl ⟨by decide, by decide⟩ ⟨by decide, by decide⟩ rfl (Nat.le_of_ble_eq_true rfl) ?_
  refine ks_aload_n rfl rfl C d_Store_losePower_35 ?_
  refine ks_get (k := 3) C 0 8 in_Store rfl (by decide) fk_Store_22 rfl rfl rfl d_Store_losePower_36 ?_
  refine ks_cvW (ci := 0) (q0 := 0) (kw_store z0 tk0 tv0 gk0 gv0 d0 x0 m0 c0 t0 k0 _ _ _ ++ kw_row K tk0 tk1 _ _ ++ kw_row K tv0 tv1 _ _ ++ kw_row K gk0 gk1 _ _ ++ kw_row K gv0 gv1 _ _ ++ kw_marks K m0 m1 s0 s1 s2 s3 s4 _ _ _ _ _ _) (kw_store z0 tk0 tv0 gk0 gv0 d0 x0 m0 c0 t0 k0 _ _ _ ++ kw_row K tk0 tk1 _ _ ++ kw_row K tv0 tv1 _ _ ++ kw_row K gk0 gk1 _ _ ++ kw_marks K m0 m1 s0 s1 s2 s3 s4 _ _ _ _ _ _) C (c_Row_clear l D K gv0 gv1 _ _) yw_Row_clear sel_Row_clear lk_Store_164 d_Store_losePower_39 rfl rfl rfl [7, 8] [0, 1, 2, 3, 4, 5, 6, 9, 10, 11, 12, 13, 14, 15] [0, 1, 2, 3, 4, 5, 6, 14, 15, 7, 8, 9, 10, 11, 12, 13] rfl rfl rfl rfl (by decide) rfl rfl rfl rfl rfl ⟨by decide, by decide⟩ ⟨by decide, by decide⟩ rfl (Nat.le_of_ble_eq_true rfl) ?_
  exact ks_vret C Z rfl d_Store_losePower_42 rfl rfl ⟨rfl, rfl⟩
set_option maxRecDepth 100000 in
set_option maxHeartbeats 4000000 in
theorem c_Store_appendWord_ok (l : Launch) (D : va_G) (K : Nat → ClassId) (z0 tk0 tv0 gk0 gv0 d0 x0 m0 c0 t0 k0 : Nat) (fnd opn : Bool) (r0 r1 : Nat) (R : Nat → UInt8) (len : Nat) (w : Int64) (n : Nat) (h1 : len ≤ 8448) (h2 : n ≤ 8) (h3 : len + n ≤ 8448) : ks_M l D (ks_T K) (ks_R 2) y_Store_appendWord b_Store_appendWord 5 (some .int) [.ref z0, .ref r0, .long w, .int (nI n)] (kw_store z0 tk0 tv0 gk0 gv0 d0 x0 m0 c0 t0 k0 fnd true opn ++ kw_row K r0 r1 R len) (ks_f (some (.int (nI ((kv_app w n R (if n = 0 then 0 else len)).2)))) (kw_store z0 tk0 tv0 gk0 gv0 d0 x0 m0 c0 t0 k0 fnd true opn ++ kw_row K r0 r1 (kv_app w n R (if n = 0 then 0 else len)).1 (kv_app w n R (if n = 0 then 0 else len)).2)) := by
  refine ks_M.of 0 (by decide) (Nat.le_of_ble_eq_true rfl) ?_
  intro E C Z
  refine ks_iload rfl C d_Store_appendWord_0 ?_
  refine ks_ifR_lt (tgt := 12) C (by omega) (by decide) d_Store_appendWord_2 (fun u1 => ?_) (fun u1 => ?_)
  · exact (by omega : False).elim
  · refine ks_iload rfl C d_Store_appendWord_5 ?_
    refine ks_bipush (a := 8) rfl C d_Store_appendWord_7 ?_
    refine ks_icmpR_le (tgt := 22) C (by omega) (by omega) (by decide) d_Store_appendWord_9 (fun u2 => ?_) (fun u2 => ?_)
    · refine ks_aload_n rfl rfl C d_Store_appendWord_22 ?_
      refine ks_aload_n rfl rfl C d_Store_appendWord_23 ?_
      refine ks_iload rfl C d_Store_appendWord_24 ?_
      refine ks_cvW (ci := 8) (q0 := 0) (kw_store z0 tk0 tv0 gk0 gv0 d0 x0 m0 c0 t0 k0 _ _ _ ++ kw_row K r0 r1 _ _) ([] : va_W) C (c_Store_demandRoom_ok l D K z0 tk0 tv0 gk0 gv0 d0 x0 m0 c0 t0 k0 _ _ r0 r1 _ _ _ (by omega) (by omega)) yw_Store_demandRoom sel_Store_demandRoom lk_Store_97 d_Store_appendWord_26 rfl rfl rfl [0, 1, 2] [] [0, 1, 2] rfl rfl rfl rfl (by decide) rfl rfl rfl rfl rfl ⟨by decide, by decide⟩ ⟨by decide, by decide⟩ rfl (Nat.le_of_ble_eq_true rfl) ?_
      refine ks_iload rfl C d_Store_appendWord_29 ?_
      refine ks_ifR_ne (tgt := 41) C (by omega) (by decide) d_Store_appendWord_31 (fun u3 => ?_) (fun u3 => ?_)
      · refine ks_aload_n rfl rfl C d_Store_appendWord_41 ?_
        refine ks_lload_n rfl rfl C d_Store_appendWord_42 ?_
        refine ks_iload rfl C d_Store_appendWord_43 ?_
        refine ks_cvW (ci := 0) (q0 := 0) (kw_store z0 tk0 tv0 gk0 gv0 d0 x0 m0 c0 t0 k0 _ _ _ ++ kw_row K r0 r1 _ _) (kw_store z0 tk0 tv0 gk0 gv0 d0 x0 m0 c0 t0 k0 _ _ _) C (c_Row_append l D K r0 r1 _ _ _ _ (by omega) (by omega) (by omega)) yw_Row_append sel_Row_append lk_Store_251 d_Store_appendWord_45 rfl rfl rfl [1, 2] [0] [0, 1, 2] rfl rfl rfl rfl (by decide) rfl rfl rfl rfl rfl ⟨by decide, by decide⟩ ⟨by decide, by decide⟩ rfl (Nat.le_of_ble_eq_true rfl) ?_
        refine ks_aload_n rfl rfl C d_Store_appendWord_48 ?_
        refine ks_cxW (ci := 0) (q0 := 0) (kw_store z0 tk0 tv0 gk0 gv0 d0 x0 m0 c0 t0 k0 _ _ _ ++ kw_row K r0 r1 _ _) (kw_store z0 tk0 tv0 gk0 gv0 d0 x0 m0 c0 t0 k0 _ _ _) C (c_Row_length l D K r0 r1 _ _) yw_Row_length sel_Row_length lk_Store_105 d_Store_appendWord_49 rfl rfl rfl [1, 2] [0] [0, 1, 2] rfl rfl rfl rfl (by decide) rfl rfl rfl rfl rfl ⟨by decide, by decide⟩ ⟨by decide, by decide⟩ rfl (Nat.le_of_ble_eq_true rfl) ?_
        exact ks_iret C Z rfl rfl d_Store_appendWord_52 rfl rfl ⟨ks_eqN (by rw [if_neg u3, if_pos (by omega)]), by rw [if_neg u3, if_pos (by omega)]⟩
      · refine ks_aload_n rfl rfl C d_Store_appendWord_34 ?_
        refine ks_cvW (ci := 0) (q0 := 0) (kw_store z0 tk0 tv0 gk0 gv0 d0 x0 m0 c0 t0 k0 _ _ _ ++ kw_row K r0 r1 _ _) (kw_store z0 tk0 tv0 gk0 gv0 d0 x0 m0 c0 t0 k0 _ _ _) C (c_Row_clear l D K r0 r1 _ _) yw_Row_clear sel_Row_clear lk_Store_164 d_Store_appendWord_35 rfl rfl rfl [1, 2] [0] [0, 1, 2] rfl rfl rfl rfl (by decide) rfl rfl rfl rfl rfl ⟨by decide, by decide⟩ ⟨by decide, by decide⟩ rfl (Nat.le_of_ble_eq_true rfl) ?_
        refine ks_goto (tgt := 48) C (by decide) d_Store_appendWord_38 ?_
        refine ks_aload_n rfl rfl C d_Store_appendWord_48 ?_
        refine ks_cxW (ci := 0) (q0 := 0) (kw_store z0 tk0 tv0 gk0 gv0 d0 x0 m0 c0 t0 k0 _ _ _ ++ kw_row K r0 r1 _ _) (kw_store z0 tk0 tv0 gk0 gv0 d0 x0 m0 c0 t0 k0 _ _ _) C (c_Row_length l D K r0 r1 _ _) yw_Row_length sel_Row_length lk_Store_105 d_Store_appendWord_49 rfl rfl rfl [1, 2] [0] [0, 1, 2] rfl rfl rfl rfl (by decide) rfl rfl rfl rfl rfl ⟨by decide, by decide⟩ ⟨by decide, by decide⟩ rfl (Nat.le_of_ble_eq_true rfl) ?_
        exact ks_iret C Z rfl rfl d_Store_appendWord_52 rfl rfl (by have z := u3; subst z; exact ⟨rfl, rfl⟩)
    · exact (by omega : False).elim
set_option maxRecDepth 100000 in
set_option maxHeartbeats 4000000 in
theorem c_Store_appendWord_T0 (l : Launch) (hNT : l.stackTraces = false) (D : va_G) (K : Nat → ClassId) (z0 tk0 tv0 gk0 gv0 d0 x0 m0 c0 t0 k0 : Nat) (fnd on opn : Bool) (r0 r1 : Nat) (R : Nat → UInt8) (len : Nat) (w : Int64) (n : Nat) (h1 : n < 4294967296) (h2 : 8 < n) : kt_M l D (ks_T K) (kt_R 6) y_Store_appendWord b_Store_appendWord 5 (some .int) [.ref z0, .ref r0, .long w, .int (nI n)] (kw_store z0 tk0 tv0 gk0 gv0 d0 x0 m0 c0 t0 k0 fnd on opn ++ kw_row K r0 r1 R len) "java/lang/IllegalArgumentException" (kw_store z0 tk0 tv0 gk0 gv0 d0 x0 m0 c0 t0 k0 fnd on opn ++ kw_row K r0 r1 R len) := by
  refine kt_M.of hNT 0 (by decide) (Nat.le_of_ble_eq_true rfl) ?_
  intro E C Kt Z
  refine ks_iload rfl C d_Store_appendWord_0 ?_
  refine ks_ifR_lt (tgt := 12) C (by omega) (by decide) d_Store_appendWord_2 (fun u1 => ?_) (fun u1 => ?_)
  · exact ks_throw (names := kt_n2) C Kt Z (by decide +kernel) (by decide +kernel) (kt_site kt_wIAE kt_s249) d_Store_appendWord_12 d_Store_appendWord_15 d_Store_appendWord_16 d_Store_appendWord_18 d_Store_appendWord_21 (by decide) (by decide) (by decide) (by decide) rfl rfl rfl
  · refine ks_iload rfl C d_Store_appendWord_5 ?_
    refine ks_bipush (a := 8) rfl C d_Store_appendWord_7 ?_
    refine ks_icmpR_le (tgt := 22) C (by omega) (by omega) (by decide) d_Store_appendWord_9 (fun u2 => ?_) (fun u2 => ?_)
    · exact (by omega : False).elim
    · exact ks_throw (names := kt_n2) C Kt Z (by decide +kernel) (by decide +kernel) (kt_site kt_wIAE kt_s249) d_Store_appendWord_12 d_Store_appendWord_15 d_Store_appendWord_16 d_Store_appendWord_18 d_Store_appendWord_21 (by decide) (by decide) (by decide) (by decide) rfl rfl rfl
set_option maxRecDepth 100000 in
set_option maxHeartbeats 4000000 in
theorem c_Store_appendWord_T1 (l : Launch) (hNT : l.stackTraces = false) (D : va_G) (K : Nat → ClassId) (z0 tk0 tv0 gk0 gv0 d0 x0 m0 c0 t0 k0 : Nat) (fnd opn : Bool) (r0 r1 : Nat) (R : Nat → UInt8) (len : Nat) (w : Int64) (n : Nat) (h2 : n ≤ 8) : kt_M l D (ks_T K) (kt_R 7) y_Store_appendWord b_Store_appendWord 5 (some .int) [.ref z0, .ref r0, .long w, .int (nI n)] (kw_store z0 tk0 tv0 gk0 gv0 d0 x0 m0 c0 t0 k0 fnd false opn ++ kw_row K r0 r1 R len) "java/lang/IllegalStateException" (kw_store z0 tk0 tv0 gk0 gv0 d0 x0 m0 c0 t0 k0 fnd false opn ++ kw_row K r0 r1 R len) := by
  refine kt_M.of hNT 0 (by decide) (Nat.le_of_ble_eq_true rfl) ?_
  intro E C Kt Z
  refine ks_iload rfl C d_Store_appendWord_0 ?_
  refine ks_ifR_lt (tgt := 12) C (by omega) (by decide) d_Store_appendWord_2 (fun u1 => ?_) (fun u1 => ?_)
  · exact (by omega : False).elim
  · refine ks_iload rfl C d_Store_appendWord_5 ?_
    refine ks_bipush (a := 8) rfl C d_Store_appendWord_7 ?_
    refine ks_icmpR_le (tgt := 22) C (by omega) (by omega) (by decide) d_Store_appendWord_9 (fun u2 => ?_) (fun u2 => ?_)
    · refine ks_aload_n rfl rfl C d_Store_appendWord_22 ?_
      refine ks_aload_n rfl rfl C d_Store_appendWord_23 ?_
      refine ks_iload rfl C d_Store_appendWord_24 ?_
      exact ks_callTW (ci := 8) (q0 := 0) ([] : va_W) C Kt Z (c_Store_demandRoom_T1 l hNT D K z0 tk0 tv0 gk0 gv0 d0 x0 m0 c0 t0 k0 _ _ r0 r1 _ _ _) yw_Store_demandRoom sel_Store_demandRoom lk_Store_97 d_Store_appendWord_26 rfl rfl rfl [0, 1, 2] [] [0, 1, 2] rfl rfl rfl rfl (by decide) rfl rfl rfl rfl ⟨by decide, by decide⟩ ⟨by decide, by decide⟩ (Nat.le_of_ble_eq_true rfl) rfl rfl
    · exact (by omega : False).elim
set_option maxRecDepth 100000 in
set_option maxHeartbeats 4000000 in
theorem c_Store_appendWord_T2 (l : Launch) (hNT : l.stackTraces = false) (D : va_G) (K : Nat → ClassId) (z0 tk0 tv0 gk0 gv0 d0 x0 m0 c0 t0 k0 : Nat) (fnd opn : Bool) (r0 r1 : Nat) (R : Nat → UInt8) (len : Nat) (w : Int64) (n : Nat) (h1 : len ≤ 8448) (h2 : n ≤ 8) (h3 : 8448 < len + n) : kt_M l D (ks_T K) (kt_R 7) y_Store_appendWord b_Store_appendWord 5 (some .int) [.ref z0, .ref r0, .long w, .int (nI n)] (kw_store z0 tk0 tv0 gk0 gv0 d0 x0 m0 c0 t0 k0 fnd true opn ++ kw_row K r0 r1 R len) "java/lang/IllegalStateException" (kw_store z0 tk0 tv0 gk0 gv0 d0 x0 m0 c0 t0 k0 fnd true opn ++ kw_row K r0 r1 R len) := by
  refine kt_M.of hNT 0 (by decide) (Nat.le_of_ble_eq_true rfl) ?_
  intro E C Kt Z
  refine ks_iload rfl C d_Store_appendWord_0 ?_
  refine ks_ifR_lt (tgt := 12) C (by omega) (by decide) d_Store_appendWord_2 (fun u1 => ?_) (fun u1 => ?_)
  · exact (by omega : False).elim
  · refine ks_iload rfl C d_Store_appendWord_5 ?_
    refine ks_bipush (a := 8) rfl C d_Store_appendWord_7 ?_
    refine ks_icmpR_le (tgt := 22) C (by omega) (by omega) (by decide) d_Store_appendWord_9 (fun u2 => ?_) (fun u2 => ?_)
    · refine ks_aload_n rfl rfl C d_Store_appendWord_22 ?_
      refine ks_aload_n rfl rfl C d_Store_appendWord_23 ?_
      refine ks_iload rfl C d_Store_appendWord_24 ?_
      exact ks_callTW (ci := 8) (q0 := 0) ([] : va_W) C Kt Z (c_Store_demandRoom_T2 l hNT D K z0 tk0 tv0 gk0 gv0 d0 x0 m0 c0 t0 k0 _ _ r0 r1 _ _ _ (by omega) (by omega) (by omega)) yw_Store_demandRoom sel_Store_demandRoom lk_Store_97 d_Store_appendWord_26 rfl rfl rfl [0, 1, 2] [] [0, 1, 2] rfl rfl rfl rfl (by decide) rfl rfl rfl rfl ⟨by decide, by decide⟩ ⟨by decide, by decide⟩ (Nat.le_of_ble_eq_true rfl) rfl rfl
    · exact (by omega : False).elim
