/-! contracts of chains -/
set_option maxRecDepth 100000 in
set_option maxHeartbeats 4000000 in
theorem c_Chains_keyLength (l : Launch) (D : va_G) (K : Nat → ClassId) (c0 x0 x1 x2 pg ca : Nat) (B : Nat → UInt8) (G : Nat → Bool) (c : Nat) (h1 : c < 65536) : ks_M l D (ks_T K) (ks_R 1) y_Chains_keyLength b_Chains_keyLength 2 (some .int) [.ref c0, .int (nI c)] (kw_chains c0 x0 pg ca ++ kw_pages K x0 x1 x2 B G) (ks_f (some (.int (nI (kv_num B (c * 32 + 2))))) (kw_chains c0 x0 pg ca ++ kw_pages K x0 x1 x2 B G)) := by
  refine ks_M.of 0 (by decide) (Nat.le_of_ble_eq_true rfl) ?_
  intro E C Z
  refine ks_aload_n rfl rfl C d_Chains_keyLength_0 ?_
  refine ks_get (k := 0) C 0 4 in_Chains rfl (by decide) fk_Chains_18 rfl rfl rfl d_Chains_keyLength_1 ?_
  refine ks_iload_n rfl rfl C d_Chains_keyLength_4 ?_
  refine ks_bipush (a := 32) rfl C d_Chains_keyLength_5 ?_
  refine ks_imul C d_Chains_keyLength_7 ?_
  refine ks_iconst (a := 2) rfl C d_Chains_keyLength_8 ?_
  refine ks_iadd C d_Chains_keyLength_9 ?_
  refine ks_cx (ci := 1) (q0 := 0) (kw_chains c0 x0 _ _ ++ kw_pages K x0 x1 x2 _ _) C (c_Pages_number l D K x0 x1 x2 _ _ _ (by omega)) yw_Pages_number sel_Pages_number lk_Chains_22 d_Chains_keyLength_10 rfl rfl rfl [1, 2, 3] [0] [0, 1, 2, 3] rfl rfl rfl rfl (by decide) rfl rfl rfl rfl rfl ⟨by decide, by decide⟩ ⟨by decide, by decide⟩ rfl (Nat.le_of_ble_eq_true rfl) ?_
  refine ks_top_num (fun u1 => ?_)
  exact ks_iret C Z rfl rfl d_Chains_keyLength_13 rfl rfl ⟨rfl, rfl⟩
set_option maxRecDepth 100000 in
set_option maxHeartbeats 4000000 in
theorem c_Chains_valueLength (l : Launch) (D : va_G) (K : Nat → ClassId) (c0 x0 x1 x2 pg ca : Nat) (B : Nat → UInt8) (G : Nat → Bool) (c : Nat) (h1 : c < 65536) : ks_M l D (ks_T K) (ks_R 1) y_Chains_valueLength b_Chains_valueLength 2 (some .int) [.ref c0, .int (nI c)] (kw_chains c0 x0 pg ca ++ kw_pages K x0 x1 x2 B G) (ks_f (some (.int (nI (kv_num B (c * 32 + 4))))) (kw_chains c0 x0 pg ca ++ kw_pages K x0 x1 x2 B G)) := by
  refine ks_M.of 0 (by decide) (Nat.le_of_ble_eq_true rfl) ?_
  intro E C Z
  refine ks_aload_n rfl rfl C d_Chains_valueLength_0 ?_
  refine ks_get (k := 0) C 0 4 in_Chains rfl (by decide) fk_Chains_18 rfl rfl rfl d_Chains_valueLength_1 ?_
  refine ks_iload_n rfl rfl C d_Chains_valueLength_4 ?_
  refine ks_bipush (a := 32) rfl C d_Chains_valueLength_5 ?_
  refine ks_imul C d_Chains_valueLength_7 ?_
  refine ks_iconst (a := 4) rfl C d_Chains_valueLength_8 ?_
  refine ks_iadd C d_Chains_valueLength_9 ?_
  refine ks_cx (ci := 1) (q0 := 0) (kw_chains c0 x0 _ _ ++ kw_pages K x0 x1 x2 _ _) C (c_Pages_number l D K x0 x1 x2 _ _ _ (by omega)) yw_Pages_number sel_Pages_number lk_Chains_22 d_Chains_valueLength_10 rfl rfl rfl [1, 2, 3] [0] [0, 1, 2, 3] rfl rfl rfl rfl (by decide) rfl rfl rfl rfl rfl ⟨by decide, by decide⟩ ⟨by decide, by decide⟩ rfl (Nat.le_of_ble_eq_true rfl) ?_
  refine ks_top_num (fun u1 => ?_)
  exact ks_iret C Z rfl rfl d_Chains_valueLength_13 rfl rfl ⟨rfl, rfl⟩
set_option maxRecDepth 100000 in
set_option maxHeartbeats 4000000 in
theorem c_Chains_size (l : Launch) (D : va_G) (K : Nat → ClassId) (c0 x0 x1 x2 pg ca : Nat) (B : Nat → UInt8) (G : Nat → Bool) (c : Nat) (h1 : c < 65536) : ks_M l D (ks_T K) (ks_R 2) y_Chains_size b_Chains_size 2 (some .int) [.ref c0, .int (nI c)] (kw_chains c0 x0 pg ca ++ kw_pages K x0 x1 x2 B G) (ks_f (some (.int (nI (kv_size B c)))) (kw_chains c0 x0 pg ca ++ kw_pages K x0 x1 x2 B G)) := by
  refine ks_M.of 0 (by decide) (Nat.le_of_ble_eq_true rfl) ?_
  intro E C Z
  refine ks_iload_n rfl rfl C d_Chains_size_0 ?_
  refine ks_if_ne (tgt := 8) C (by omega) (by decide) d_Chains_size_1 (fun u1 => ?_) (fun u1 => ?_)
  · refine ks_bipush (a := 16) rfl C d_Chains_size_8 ?_
    refine ks_aload_n rfl rfl C d_Chains_size_10 ?_
    refine ks_iload_n rfl rfl C d_Chains_size_11 ?_
    refine ks_cx (ci := 4) (q0 := 0) (kw_chains c0 x0 _ _ ++ kw_pages K x0 x1 x2 _ _) C (c_Chains_keyLength l D K c0 x0 x1 x2 _ _ _ _ _ (by omega)) yw_Chains_keyLength sel_Chains_keyLength lk_Chains_28 d_Chains_size_12 rfl rfl rfl [0, 1, 2, 3] [] [0, 1, 2, 3] rfl rfl rfl rfl (by decide) rfl rfl rfl rfl rfl ⟨by decide, by decide⟩ ⟨by decide, by decide⟩ rfl (Nat.le_of_ble_eq_true rfl) ?_
    refine ks_top_num (fun u2 => ?_)
    refine ks_iadd C d_Chains_size_15 ?_
    refine ks_aload_n rfl rfl C d_Chains_size_16 ?_
    refine ks_iload_n rfl rfl C d_Chains_size_17 ?_
    refine ks_cx (ci := 4) (q0 := 0) (kw_chains c0 x0 _ _ ++ kw_pages K x0 x1 x2 _ _) C (c_Chains_valueLength l D K c0 x0 x1 x2 _ _ _ _ _ (by omega)) yw_Chains_valueLength sel_Chains_valueLength lk_Chains_31 d_Chains_size_18 rfl rfl rfl [0, 1, 2, 3] [] [0, 1, 2, 3] rfl rfl rfl rfl (by decide) rfl rfl rfl rfl rfl ⟨by decide, by decide⟩ ⟨by decide, by decide⟩ rfl (Nat.le_of_ble_eq_true rfl) ?_
    refine ks_top_num (fun u3 => ?_)
    refine ks_iadd C d_Chains_size_21 ?_
    exact ks_iret C Z rfl rfl d_Chains_size_22 rfl rfl ⟨ks_eqN (by unfold kv_size; rw [if_neg (by omega)]), rfl⟩
  · refine ks_iconst (a := 0) rfl C d_Chains_size_4 ?_
    refine ks_goto (tgt := 22) C (by decide) d_Chains_size_5 ?_
    exact ks_iret C Z rfl rfl d_Chains_size_22 rfl rfl ⟨ks_eqN (by unfold kv_size; rw [if_pos (by omega)]), rfl⟩
set_option maxRecDepth 100000 in
set_option maxHeartbeats 4000000 in
theorem c_Chains_pagesFor (l : Launch) (D : va_G) (K : Nat → ClassId) (c0 x0 x1 x2 pg ca : Nat) (B : Nat → UInt8) (G : Nat → Bool) (c : Nat) (h1 : c < 65536) : ks_M l D (ks_T K) (ks_R 2) y_Chains_pagesFor b_Chains_pagesFor 3 (some .int) [.ref c0, .int (nI c)] (kw_chains c0 x0 pg ca ++ kw_pages K x0 x1 x2 B G) (ks_f (some (.int (nI (kv_pagesFor B c)))) (kw_chains c0 x0 pg ca ++ kw_pages K x0 x1 x2 B G)) := by
  refine ks_M.of 1 (by decide) (Nat.le_of_ble_eq_true rfl) ?_
  intro E C Z
  refine ks_aload_n rfl rfl C d_Chains_pagesFor_0 ?_
  refine ks_iload_n rfl rfl C d_Chains_pagesFor_1 ?_
  refine ks_cx (ci := 4) (q0 := 0) (kw_chains c0 x0 _ _ ++ kw_pages K x0 x1 x2 _ _) C (c_Chains_keyLength l D K c0 x0 x1 x2 _ _ _ _ _ (by omega)) yw_Chains_keyLength sel_Chains_keyLength lk_Chains_28 d_Chains_pagesFor_2 rfl rfl rfl [0, 1, 2, 3] [] [0, 1, 2, 3] rfl rfl rfl rfl (by decide) rfl rfl rfl rfl rfl ⟨by decide, by decide⟩ ⟨by decide, by decide⟩ rfl (Nat.le_of_ble_eq_true rfl) ?_
  refine ks_top_num (fun u1 => ?_)
  refine ks_aload_n rfl rfl C d_Chains_pagesFor_5 ?_
  refine ks_iload_n rfl rfl C d_Chains_pagesFor_6 ?_
  refine ks_cx (ci := 4) (q0 := 0) (kw_chains c0 x0 _ _ ++ kw_pages K x0 x1 x2 _ _) C (c_Chains_valueLength l D K c0 x0 x1 x2 _ _ _ _ _ (by omega)) yw_Chains_valueLength sel_Chains_valueLength lk_Chains_31 d_Chains_pagesFor_7 rfl rfl rfl [0, 1, 2, 3] [] [0, 1, 2, 3] rfl rfl rfl rfl (by decide) rfl rfl rfl rfl rfl ⟨by decide, by decide⟩ ⟨by decide, by decide⟩ rfl (Nat.le_of_ble_eq_true rfl) ?_
  refine ks_top_num (fun u2 => ?_)
  refine ks_iadd C d_Chains_pagesFor_10 ?_
  refine ks_bipush (a := 26) rfl C d_Chains_pagesFor_11 ?_
  refine ks_isubZ C d_Chains_pagesFor_13 ?_
  refine ks_istore_n C rfl (by decide) rfl d_Chains_pagesFor_14 ?_
  refine ks_iload_n rfl rfl C d_Chains_pagesFor_15 ?_
  refine ks_ifZ_gt (tgt := 23) C (by omega) (by omega) (by decide) d_Chains_pagesFor_16 (fun u3 => ?_) (fun u3 => ?_)
  · refine ks_Zloc (i := 2) rfl (by omega) ?_
    refine ks_iconst (a := 1) rfl C d_Chains_pagesFor_23 ?_
    refine ks_iload_n rfl rfl C d_Chains_pagesFor_24 ?_
    refine ks_bipush (a := 32) rfl C d_Chains_pagesFor_25 ?_
    refine ks_iadd C d_Chains_pagesFor_27 ?_
    refine ks_iconst (a := 2) rfl C d_Chains_pagesFor_28 ?_
    refine ks_isub (by omega) C d_Chains_pagesFor_29 ?_
    refine ks_iconst (a := 1) rfl C d_Chains_pagesFor_30 ?_
    refine ks_isub (by omega) C d_Chains_pagesFor_31 ?_
    refine ks_bipush (a := 30) rfl C d_Chains_pagesFor_32 ?_
    refine ks_idiv (by omega) (by decide) (by decide) C d_Chains_pagesFor_34 ?_
    refine ks_iadd C d_Chains_pagesFor_35 ?_
    exact ks_iret C Z rfl rfl d_Chains_pagesFor_36 rfl rfl ⟨ks_eqN (by unfold kv_pagesFor; rw [if_neg (by omega)]; omega), rfl⟩
  · refine ks_iconst (a := 1) rfl C d_Chains_pagesFor_19 ?_
    refine ks_goto (tgt := 36) C (by decide) d_Chains_pagesFor_20 ?_
    exact ks_iret C Z rfl rfl d_Chains_pagesFor_36 rfl rfl ⟨ks_eqN (by unfold kv_pagesFor; rw [if_pos (by omega)]), rfl⟩
set_option maxRecDepth 100000 in
set_option maxHeartbeats 4000000 in
theorem c_Chains_free (l : Launch) (D : va_G) (K : Nat → ClassId) (c0 x0 x1 x2 pg ca : Nat) (B : Nat → UInt8) (G : Nat → Bool) (c : Nat) (h1 : c < 65536) : ks_M l D (ks_T K) (ks_R 3) y_Chains_free b_Chains_free 5 none [.ref c0, .int (nI c)] (kw_chains c0 x0 pg ca ++ kw_pages K x0 x1 x2 B G) (ks_f none (kw_chains c0 x0 pg ca ++ kw_pages K x0 x1 x2 (kv_freeC (B, G) c).1 (kv_freeC (B, G) c).2)) := by
  refine ks_M.of 3 (by decide) (Nat.le_of_ble_eq_true rfl) ?_
  intro E C Z
  have loop : ∀ (f : Nat) (B1 : Nat → UInt8) (G1 : Nat → Bool) (g i : Nat), i + f = 2720 → g < 65536 → kv_freeL f (B1, G1) g = kv_freeC (B, G) c → ks_w E D 5 (kw_chains c0 x0 pg ca ++ kw_pages K x0 x1 x2 B1 G1) [some (.ref c0), some (.int (nI c)), some (.int (nI g)), some (.int (nI i)), none] 0 0 4 [] := by
    intro f
    induction f with
    | zero =>
      intro B1 G1 g i g1 g2 g3
      refine ks_iload_n rfl rfl C d_Chains_free_4 ?_
      refine ks_sipush (a := 2720) rfl C d_Chains_free_5 ?_
      refine ks_icmp_ge (tgt := 45) C (by omega) (by omega) (by decide) d_Chains_free_8 (fun u1 => ?_) (fun u1 => ?_)
      · exact ks_vret C Z rfl d_Chains_free_45 rfl rfl ⟨rfl, by rw [← g3]; rfl⟩
      · exact (by omega : False).elim
    | succ f ih =>
      intro B1 G1 g i g1 g2 g3
      refine ks_iload_n rfl rfl C d_Chains_free_4 ?_
      refine ks_sipush (a := 2720) rfl C d_Chains_free_5 ?_
      refine ks_icmp_ge (tgt := 45) C (by omega) (by omega) (by decide) d_Chains_free_8 (fun u2 => ?_) (fun u2 => ?_)
      · exact ks_vret C Z rfl d_Chains_free_45 rfl rfl (False.elim (by omega))
      · refine ks_iload_n rfl rfl C d_Chains_free_11 ?_
        refine ks_if_eq (tgt := 45) C (by omega) (by decide) d_Chains_free_12 (fun u3 => ?_) (fun u3 => ?_)
        · exact ks_vret C Z rfl d_Chains_free_45 rfl rfl ⟨rfl, by rw [← g3, kv_freeL, if_pos (by omega)]⟩
        · refine ks_aload_n rfl rfl C d_Chains_free_15 ?_
          refine ks_get (k := 0) C 0 4 in_Chains rfl (by decide) fk_Chains_18 rfl rfl rfl d_Chains_free_16 ?_
          refine ks_iload_n rfl rfl C d_Chains_free_19 ?_
          refine ks_bipush (a := 32) rfl C d_Chains_free_20 ?_
          refine ks_imul C d_Chains_free_22 ?_
          refine ks_cx (ci := 1) (q0 := 0) (kw_chains c0 x0 _ _ ++ kw_pages K x0 x1 x2 _ _) C (c_Pages_number l D K x0 x1 x2 _ _ _ (by omega)) yw_Pages_number sel_Pages_number lk_Chains_22 d_Chains_free_23 rfl rfl rfl [1, 2, 3] [0] [0, 1, 2, 3] rfl rfl rfl rfl (by decide) rfl rfl rfl rfl rfl ⟨by decide, by decide⟩ ⟨by decide, by decide⟩ rfl (Nat.le_of_ble_eq_true rfl) ?_
          refine ks_top_num (fun u4 => ?_)
          refine ks_istore C (by decide) rfl d_Chains_free_26 ?_
          refine ks_aload_n rfl rfl C d_Chains_free_28 ?_
          refine ks_get (k := 0) C 0 4 in_Chains rfl (by decide) fk_Chains_18 rfl rfl rfl d_Chains_free_29 ?_
          refine ks_iload_n rfl rfl C d_Chains_free_32 ?_
          refine ks_cv (ci := 1) (q0 := 0) (kw_chains c0 x0 _ _ ++ kw_pages K x0 x1 x2 _ _) C (c_Pages_freePage l D K x0 x1 x2 _ _ _ (by omega)) yw_Pages_freePage sel_Pages_freePage lk_Chains_51 d_Chains_free_33 rfl rfl rfl [1, 2, 3] [0] [0, 1, 2, 3] rfl rfl rfl rfl (by decide) rfl rfl rfl rfl rfl ⟨by decide, by decide⟩ ⟨by decide, by decide⟩ rfl (Nat.le_of_ble_eq_true rfl) ?_
          refine ks_iload rfl C d_Chains_free_36 ?_
          refine ks_istore_n C rfl (by decide) rfl d_Chains_free_38 ?_
          refine ks_iinc C rfl (z := 1) rfl (by decide) rfl d_Chains_free_39 ?_
          refine ks_goto (tgt := 4) C (by decide) d_Chains_free_42 ?_
          refine ks_forget 4 ?_
          exact ih _ _ _ _ (by omega) (by omega) (by rw [← g3, kv_freeL, if_neg (by omega)])
  refine ks_iload_n rfl rfl C d_Chains_free_0 ?_
  refine ks_istore_n C rfl (by decide) rfl d_Chains_free_1 ?_
  refine ks_iconst (a := 0) rfl C d_Chains_free_2 ?_
  refine ks_istore_n C rfl (by decide) rfl d_Chains_free_3 ?_
  exact loop 2720 B G c 0 (by omega) (by omega) rfl
set_option maxRecDepth 100000 in
set_option maxHeartbeats 4000000 in
theorem c_Chains_write (l : Launch) (D : va_G) (K : Nat → ClassId) (c0 x0 x1 x2 r0 r1 pg ca : Nat) (B : Nat → UInt8) (G : Nat → Bool) (R : Nat → UInt8) (len : Nat) (h1 : len ≤ 8448) (h2 : pg < 65536) (h3 : ca ≤ 32) : ks_M l D (ks_T K) (ks_R 3) y_Chains_write b_Chains_write 5 none [.ref c0, .ref r0] (kw_chains c0 x0 pg ca ++ kw_pages K x0 x1 x2 B G ++ kw_row K r0 r1 R len) (ks_f none (kw_chains c0 x0 (kv_wrL R len 2720 (B, G) pg ca 0).2.1 (kv_wrL R len 2720 (B, G) pg ca 0).2.2 ++ kw_pages K x0 x1 x2 (kv_wrL R len 2720 (B, G) pg ca 0).1.1 (kv_wrL R len 2720 (B, G) pg ca 0).1.2 ++ kw_row K r0 r1 R len)) := by
  refine ks_M.of 3 (by decide) (Nat.le_of_ble_eq_true rfl) ?_
  intro E C Z
  have loop : ∀ (f : Nat) (B1 : Nat → UInt8) (G1 : Nat → Bool) (p1 a1 d i : Nat), i + f = 2720 → p1 < 65536 → a1 ≤ 32 → d ≤ 8448 → kv_wrL R len f (B1, G1) p1 a1 d = (kv_wrL R len 2720 (B, G) pg ca 0) → ks_w E D 5 (kw_chains c0 x0 p1 a1 ++ kw_pages K x0 x1 x2 B1 G1 ++ kw_row K r0 r1 R len) [some (.ref c0), some (.ref r0), some (.int (nI d)), some (.int (nI i)), none] 0 0 4 [] := by
    intro f
    induction f with
    | zero =>
      intro B1 G1 p1 a1 d i g1 g2 g3 g4 g5
      refine ks_iload_n rfl rfl C d_Chains_write_4 ?_
      refine ks_sipush (a := 2720) rfl C d_Chains_write_5 ?_
      refine ks_icmp_ge (tgt := 127) C (by omega) (by omega) (by decide) d_Chains_write_8 (fun u1 => ?_) (fun u1 => ?_)
      · exact ks_vret C Z rfl d_Chains_write_127 rfl rfl ⟨rfl, by rw [← g5]; rfl⟩
      · exact (by omega : False).elim
    | succ f ih =>
      intro B1 G1 p1 a1 d i g1 g2 g3 g4 g5
      refine ks_iload_n rfl rfl C d_Chains_write_4 ?_
      refine ks_sipush (a := 2720) rfl C d_Chains_write_5 ?_
      refine ks_icmp_ge (tgt := 127) C (by omega) (by omega) (by decide) d_Chains_write_8 (fun u2 => ?_) (fun u2 => ?_)
      · exact ks_vret C Z rfl d_Chains_write_127 rfl rfl (False.elim (by omega))
      · refine ks_iload_n rfl rfl C d_Chains_write_11 ?_
        refine ks_aload_n rfl rfl C d_Chains_write_12 ?_
        refine ks_cx (ci := 0) (q0 := 0) (kw_chains c0 x0 _ _ ++ kw_pages K x0 x1 x2 _ _ ++ kw_row K r0 r1 _ _) C (c_Row_length l D K r0 r1 _ _) yw_Row_length sel_Row_length lk_Chains_38 d_Chains_write_13 rfl rfl rfl [4, 5] [0, 1, 2, 3] [0, 1, 2, 3, 4, 5] rfl rfl rfl rfl (by decide) rfl rfl rfl rfl rfl ⟨by decide, by decide⟩ ⟨by decide, by decide⟩ rfl (Nat.le_of_ble_eq_true rfl) ?_
        refine ks_icmp_ge (tgt := 127) C (by omega) (by omega) (by decide) d_Chains_write_16 (fun u3 => ?_) (fun u3 => ?_)
        · exact ks_vret C Z rfl d_Chains_write_127 rfl rfl ⟨rfl, by rw [← g5, kv_wrL, if_neg (by omega)]⟩
        · refine ks_aload_n rfl rfl C d_Chains_write_19 ?_
          refine ks_get (k := 2) C 0 4 in_Chains rfl (by decide) fk_Chains_15 rfl rfl rfl d_Chains_write_20 ?_
          refine ks_bipush (a := 32) rfl C d_Chains_write_23 ?_
          refine ks_icmp_ne (tgt := 64) C (by omega) (by omega) (by decide) d_Chains_write_25 (fun u4 => ?_) (fun u4 => ?_)
          · refine ks_bipush (a := 32) rfl C d_Chains_write_64 ?_
            refine ks_aload_n rfl rfl C d_Chains_write_66 ?_
            refine ks_get (k := 2) C 0 4 in_Chains rfl (by decide) fk_Chains_15 rfl rfl rfl d_Chains_write_67 ?_
            refine ks_isub (by omega) C d_Chains_write_70 ?_
            refine ks_aload_n rfl rfl C d_Chains_write_71 ?_
            refine ks_cx (ci := 0) (q0 := 0) (kw_chains c0 x0 _ _ ++ kw_pages K x0 x1 x2 _ _ ++ kw_row K r0 r1 _ _) C (c_Row_length l D K r0 r1 _ _) yw_Row_length sel_Row_length lk_Chains_38 d_Chains_write_72 rfl rfl rfl [4, 5] [0, 1, 2, 3] [0, 1, 2, 3, 4, 5] rfl rfl rfl rfl (by decide) rfl rfl rfl rfl rfl ⟨by decide, by decide⟩ ⟨by decide, by decide⟩ rfl (Nat.le_of_ble_eq_true rfl) ?_
            refine ks_iload_n rfl rfl C d_Chains_write_75 ?_
            refine ks_isub (by omega) C d_Chains_write_76 ?_
            refine ks_min C lk_Chains_63 wm_min (by omega) (by omega) (by decide) (Nat.le_of_ble_eq_true rfl) (by decide) (by decide) d_Chains_write_77 ?_
            refine ks_istore C (by decide) rfl d_Chains_write_80 ?_
            refine ks_aload_n rfl rfl C d_Chains_write_82 ?_
            refine ks_get (k := 0) C 0 4 in_Chains rfl (by decide) fk_Chains_18 rfl rfl rfl d_Chains_write_83 ?_
            refine ks_aload_n rfl rfl C d_Chains_write_86 ?_
            refine ks_iload_n rfl rfl C d_Chains_write_87 ?_
            refine ks_iload rfl C d_Chains_write_88 ?_
            refine ks_aload_n rfl rfl C d_Chains_write_90 ?_
            refine ks_get (k := 1) C 0 4 in_Chains rfl (by decide) fk_Chains_9 rfl rfl rfl d_Chains_write_91 ?_
            refine ks_bipush (a := 32) rfl C d_Chains_write_94 ?_
            refine ks_imul C d_Chains_write_96 ?_
            refine ks_aload_n rfl rfl C d_Chains_write_97 ?_
            refine ks_get (k := 2) C 0 4 in_Chains rfl (by decide) fk_Chains_15 rfl rfl rfl d_Chains_write_98 ?_
            refine ks_iadd C d_Chains_write_101 ?_
            refine ks_cv (ci := 1) (q0 := 0) (kw_chains c0 x0 _ _ ++ kw_pages K x0 x1 x2 _ _ ++ kw_row K r0 r1 _ _) C (c_Pages_write l D K x0 x1 x2 _ _ r0 r1 _ _ _ _ _ (by omega) (by omega) (by omega) (by omega)) yw_Pages_write sel_Pages_write lk_Chains_77 d_Chains_write_102 rfl rfl rfl [1, 2, 3, 4, 5] [0] [0, 1, 2, 3, 4, 5] rfl rfl rfl rfl (by decide) rfl rfl rfl rfl rfl ⟨by decide, by decide⟩ ⟨by decide, by decide⟩ rfl (Nat.le_of_ble_eq_true rfl) ?_
            refine ks_aload_n rfl rfl C d_Chains_write_105 ?_
            refine ks_dup rfl C d_Chains_write_106 ?_
            refine ks_get (k := 2) C 0 4 in_Chains rfl (by decide) fk_Chains_15 rfl rfl rfl d_Chains_write_107 ?_
            refine ks_iload rfl C d_Chains_write_110 ?_
            refine ks_iadd C d_Chains_write_112 ?_
            refine ks_put (k := 2) (ws' := (kw_chains c0 x0 _ _ ++ kw_pages K x0 x1 x2 _ _ ++ kw_row K r0 r1 _ _)) C 0 4 t_Chains ty_Chains nm_Chains in_Chains rfl (by decide) fk_Chains_15 rfl rfl rfl rfl rfl (Nat.le_of_ble_eq_true rfl) rfl d_Chains_write_113 ?_
            refine ks_iload_n rfl rfl C d_Chains_write_116 ?_
            refine ks_iload rfl C d_Chains_write_117 ?_
            refine ks_iadd C d_Chains_write_119 ?_
            refine ks_istore_n C rfl (by decide) rfl d_Chains_write_120 ?_
            refine ks_iinc C rfl (z := 1) rfl (by decide) rfl d_Chains_write_121 ?_
            refine ks_goto (tgt := 4) C (by decide) d_Chains_write_124 ?_
            refine ks_forget 4 ?_
            first | exact ih _ _ _ _ _ _ (by omega) (by omega) (by omega) (by omega) (by rw [← g5, kv_wrL, if_pos (by omega), if_neg (by omega)]) | exact ih _ _ _ _ _ _ (by omega) (by omega) (by omega) (by omega) (by rw [← g5, kv_wrL, if_pos (by omega), if_pos rfl])
          · obtain rfl : a1 = 32 := by omega
            refine ks_aload_n rfl rfl C d_Chains_write_28 ?_
            refine ks_get (k := 0) C 0 4 in_Chains rfl (by decide) fk_Chains_18 rfl rfl rfl d_Chains_write_29 ?_
            refine ks_cx (ci := 1) (q0 := 0) (kw_chains c0 x0 _ _ ++ kw_pages K x0 x1 x2 _ _ ++ kw_row K r0 r1 _ _) C (c_Pages_newPage l D K x0 x1 x2 _ _) yw_Pages_newPage sel_Pages_newPage lk_Chains_34 d_Chains_write_32 rfl rfl rfl [1, 2, 3] [0, 4, 5] [0, 3, 4, 5, 1, 2] rfl rfl rfl rfl (by decide) rfl rfl rfl rfl rfl ⟨by decide, by decide⟩ ⟨by decide, by decide⟩ rfl (Nat.le_of_ble_eq_true rfl) ?_
            refine ks_top_newP (fun u5 => ?_)
            refine ks_istore C (by decide) rfl d_Chains_write_35 ?_
            refine ks_aload_n rfl rfl C d_Chains_write_37 ?_
            refine ks_get (k := 0) C 0 4 in_Chains rfl (by decide) fk_Chains_18 rfl rfl rfl d_Chains_write_38 ?_
            refine ks_aload_n rfl rfl C d_Chains_write_41 ?_
            refine ks_get (k := 1) C 0 4 in_Chains rfl (by decide) fk_Chains_9 rfl rfl rfl d_Chains_write_42 ?_
            refine ks_bipush (a := 32) rfl C d_Chains_write_45 ?_
            refine ks_imul C d_Chains_write_47 ?_
            refine ks_iload rfl C d_Chains_write_48 ?_
            refine ks_cv (ci := 1) (q0 := 0) (kw_chains c0 x0 _ _ ++ kw_pages K x0 x1 x2 _ _ ++ kw_row K r0 r1 _ _) C (c_Pages_setNumber l D K x0 x1 x2 _ _ _ _ (by omega)) yw_Pages_setNumber sel_Pages_setNumber lk_Chains_43 d_Chains_write_50 rfl rfl rfl [1, 2, 3] [0, 4, 5] [0, 3, 4, 5, 1, 2] rfl rfl rfl rfl (by decide) rfl rfl rfl rfl rfl ⟨by decide, by decide⟩ ⟨by decide, by decide⟩ rfl (Nat.le_of_ble_eq_true rfl) ?_
            refine ks_aload_n rfl rfl C d_Chains_write_53 ?_
            refine ks_iload rfl C d_Chains_write_54 ?_
            refine ks_put (k := 1) (ws' := (kw_chains c0 x0 _ _ ++ kw_pages K x0 x1 x2 _ _ ++ kw_row K r0 r1 _ _)) C 0 4 t_Chains ty_Chains nm_Chains in_Chains rfl (by decide) fk_Chains_9 rfl rfl rfl rfl rfl (Nat.le_of_ble_eq_true rfl) rfl d_Chains_write_56 ?_
            refine ks_aload_n rfl rfl C d_Chains_write_59 ?_
            refine ks_iconst (a := 2) rfl C d_Chains_write_60 ?_
            refine ks_put (k := 2) (ws' := (kw_chains c0 x0 _ _ ++ kw_pages K x0 x1 x2 _ _ ++ kw_row K r0 r1 _ _)) C 0 4 t_Chains ty_Chains nm_Chains in_Chains rfl (by decide) fk_Chains_15 rfl rfl rfl rfl rfl (Nat.le_of_ble_eq_true rfl) rfl d_Chains_write_61 ?_
            refine ks_bipush (a := 32) rfl C d_Chains_write_64 ?_
            refine ks_aload_n rfl rfl C d_Chains_write_66 ?_
            refine ks_get (k := 2) C 0 4 in_Chains rfl (by decide) fk_Chains_15 rfl rfl rfl d_Chains_write_67 ?_
            refine ks_isub (by omega) C d_Chains_write_70 ?_
            refine ks_aload_n rfl rfl C d_Chains_write_71 ?_
            refine ks_cx (ci := 0) (q0 := 0) (kw_chains c0 x0 _ _ ++ kw_pages K x0 x1 x2 _ _ ++ kw_row K r0 r1 _ _) C (c_Row_length l D K r0 r1 _ _) yw_Row_length sel_Row_length lk_Chains_38 d_Chains_write_72 rfl rfl rfl [4, 5] [0, 1, 2, 3] [0, 1, 2, 3, 4, 5] rfl rfl rfl rfl (by decide) rfl rfl rfl rfl rfl ⟨by decide, by decide⟩ ⟨by decide, by decide⟩ rfl (Nat.le_of_ble_eq_true rfl) ?_
            refine ks_iload_n rfl rfl C d_Chains_write_75 ?_
            refine ks_isub (by omega) C d_Chains_write_76 ?_
            refine ks_min C lk_Chains_63 wm_min (by omega) (by omega) (by decide) (Nat.le_of_ble_eq_true rfl) (by decide) (by decide) d_Chains_write_77 ?_
            refine ks_istore C (by decide) rfl d_Chains_write_80 ?_
            refine ks_aload_n rfl rfl C d_Chains_write_82 ?_
            refine ks_get (k := 0) C 0 4 in_Chains rfl (by decide) fk_Chains_18 rfl rfl rfl d_Chains_write_83 ?_
            refine ks_aload_n rfl rfl C d_Chains_write_86 ?_
            refine ks_iload_n rfl rfl C d_Chains_write_87 ?_
            refine ks_iload rfl C d_Chains_write_88 ?_
            refine ks_aload_n rfl rfl C d_Chains_write_90 ?_
            refine ks_get (k := 1) C 0 4 in_Chains rfl (by decide) fk_Chains_9 rfl rfl rfl d_Chains_write_91 ?_
            refine ks_bipush (a := 32) rfl C d_Chains_write_94 ?_
            refine ks_imul C d_Chains_write_96 ?_
            refine ks_aload_n rfl rfl C d_Chains_write_97 ?_
            refine ks_get (k := 2) C 0 4 in_Chains rfl (by decide) fk_Chains_15 rfl rfl rfl d_Chains_write_98 ?_
            refine ks_iadd C d_Chains_write_101 ?_
            refine ks_cv (ci := 1) (q0 := 0) (kw_chains c0 x0 _ _ ++ kw_pages K x0 x1 x2 _ _ ++ kw_row K r0 r1 _ _) C (c_Pages_write l D K x0 x1 x2 _ _ r0 r1 _ _ _ _ _ (by omega) (by omega) (by omega) (by omega)) yw_Pages_write sel_Pages_write lk_Chains_77 d_Chains_write_102 rfl rfl rfl [1, 2, 3, 4, 5] [0] [0, 1, 2, 3, 4, 5] rfl rfl rfl rfl (by decide) rfl rfl rfl rfl rfl ⟨by decide, by decide⟩ ⟨by decide, by decide⟩ rfl (Nat.le_of_ble_eq_true rfl) ?_
            refine ks_aload_n rfl rfl C d_Chains_write_105 ?_
            refine ks_dup rfl C d_Chains_write_106 ?_
            refine ks_get (k := 2) C 0 4 in_Chains rfl (by decide) fk_Chains_15 rfl rfl rfl d_Chains_write_107 ?_
            refine ks_iload rfl C d_Chains_write_110 ?_
            refine ks_iadd C d_Chains_write_112 ?_
            refine ks_put (k := 2) (ws' := (kw_chains c0 x0 _ _ ++ kw_pages K x0 x1 x2 _ _ ++ kw_row K r0 r1 _ _)) C 0 4 t_Chains ty_Chains nm_Chains in_Chains rfl (by decide) fk_Chains_15 rfl rfl rfl rfl rfl (Nat.le_of_ble_eq_true rfl) rfl d_Chains_write_113 ?_
            refine ks_iload_n rfl rfl C d_Chains_write_116 ?_
            refine ks_iload rfl C d_Chains_write_117 ?_
            refine ks_iadd C d_Chains_write_119 ?_
            refine ks_istore_n C rfl (by decide) rfl d_Chains_write_120 ?_
            refine ks_iinc C rfl (z := 1) rfl (by decide) rfl d_Chains_write_121 ?_
            refine ks_goto (tgt := 4) C (by decide) d_Chains_write_124 ?_
            refine ks_forget 4 ?_
            first | exact ih _ _ _ _ _ _ (by omega) (by omega) (by omega) (by omega) (by rw [← g5, kv_wrL, if_pos (by omega), if_neg (by omega)]) | exact ih _ _ _ _ _ _ (by omega) (by omega) (by omega) (by omega) (by rw [← g5, kv_wrL, if_pos (by omega), if_pos rfl])
  refine ks_iconst (a := 0) rfl C d_Chains_write_0 ?_
  refine ks_istore_n C rfl (by decide) rfl d_Chains_write_1 ?_
  refine ks_iconst (a := 0) rfl C d_Chains_write_2 ?_
  refine ks_istore_n C rfl (by decide) rfl d_Chains_write_3 ?_
  exact loop 2720 B G pg ca 0 0 (by omega) (by omega) (by omega) (by omega) rfl
set_option maxRecDepth 100000 in
set_option maxHeartbeats 4000000 in
theorem c_Chains_read (l : Launch) (D : va_G) (K : Nat → ClassId) (c0 x0 x1 x2 r0 r1 pg ca : Nat) (B : Nat → UInt8) (G : Nat → Bool) (R : Nat → UInt8) (len : Nat) (n : Nat) (h1 : n < 65536) (h2 : pg < 65536) (h3 : ca ≤ 32) : ks_M l D (ks_T K) (ks_R 2) y_Chains_read b_Chains_read 5 none [.ref c0, .ref r0, .int (nI n)] (kw_chains c0 x0 pg ca ++ kw_pages K x0 x1 x2 B G ++ kw_row K r0 r1 R len) (ks_f none (kw_chains c0 x0 (kv_rdL B n 2720 R 0 pg ca).2.1 (kv_rdL B n 2720 R 0 pg ca).2.2 ++ kw_pages K x0 x1 x2 B G ++ kw_row K r0 r1 (kv_rdL B n 2720 R 0 pg ca).1.1 (kv_rdL B n 2720 R 0 pg ca).1.2)) := by
  refine ks_M.of 2 (by decide) (Nat.le_of_ble_eq_true rfl) ?_
  intro E C Z
  have loop : ∀ (f : Nat) (R1 : Nat → UInt8) (l1 p1 a1 i : Nat), i + f = 2720 → p1 < 65536 → a1 ≤ 32 → l1 ≤ 8448 → kv_rdL B n f R1 l1 p1 a1 = (kv_rdL B n 2720 R 0 pg ca) → ks_w E D 5 (kw_chains c0 x0 p1 a1 ++ kw_pages K x0 x1 x2 B G ++ kw_row K r0 r1 R1 l1) [some (.ref c0), some (.ref r0), some (.int (nI n)), some (.int (nI i)), none] 0 0 6 [] := by
    intro f
    induction f with
    | zero =>
      intro R1 l1 p1 a1 i g1 g2 g3 g4 g5
      refine ks_iload_n rfl rfl C d_Chains_read_6 ?_
      refine ks_sipush (a := 2720) rfl C d_Chains_read_7 ?_
      refine ks_icmp_ge (tgt := 113) C (by omega) (by omega) (by decide) d_Chains_read_10 (fun u1 => ?_) (fun u1 => ?_)
      · exact ks_vret C Z rfl d_Chains_read_113 rfl rfl ⟨rfl, by rw [← g5]; rfl⟩
      · exact (by omega : False).elim
    | succ f ih =>
      intro R1 l1 p1 a1 i g1 g2 g3 g4 g5
      refine ks_iload_n rfl rfl C d_Chains_read_6 ?_
      refine ks_sipush (a := 2720) rfl C d_Chains_read_7 ?_
      refine ks_icmp_ge (tgt := 113) C (by omega) (by omega) (by decide) d_Chains_read_10 (fun u2 => ?_) (fun u2 => ?_)
      · exact ks_vret C Z rfl d_Chains_read_113 rfl rfl (False.elim (by omega))
      · refine ks_aload_n rfl rfl C d_Chains_read_13 ?_
        refine ks_cx (ci := 0) (q0 := 0) (kw_chains c0 x0 _ _ ++ kw_pages K x0 x1 x2 _ _ ++ kw_row K r0 r1 _ _) C (c_Row_length l D K r0 r1 _ _) yw_Row_length sel_Row_length lk_Chains_38 d_Chains_read_14 rfl rfl rfl [4, 5] [0, 1, 2, 3] [0, 1, 2, 3, 4, 5] rfl rfl rfl rfl (by decide) rfl rfl rfl rfl rfl ⟨by decide, by decide⟩ ⟨by decide, by decide⟩ rfl (Nat.le_of_ble_eq_true rfl) ?_
        refine ks_iload_n rfl rfl C d_Chains_read_17 ?_
        refine ks_icmp_ge (tgt := 113) C (by omega) (by omega) (by decide) d_Chains_read_18 (fun u3 => ?_) (fun u3 => ?_)
        · exact ks_vret C Z rfl d_Chains_read_113 rfl rfl ⟨rfl, by rw [← g5, kv_rdL, if_neg (by omega)]⟩
        · refine ks_aload_n rfl rfl C d_Chains_read_21 ?_
          refine ks_get (k := 2) C 0 4 in_Chains rfl (by decide) fk_Chains_15 rfl rfl rfl d_Chains_read_22 ?_
          refine ks_bipush (a := 32) rfl C d_Chains_read_25 ?_
          refine ks_icmp_ne (tgt := 53) C (by omega) (by omega) (by decide) d_Chains_read_27 (fun u4 => ?_) (fun u4 => ?_)
          · refine ks_bipush (a := 32) rfl C d_Chains_read_53 ?_
            refine ks_aload_n rfl rfl C d_Chains_read_55 ?_
            refine ks_get (k := 2) C 0 4 in_Chains rfl (by decide) fk_Chains_15 rfl rfl rfl d_Chains_read_56 ?_
            refine ks_isub (by omega) C d_Chains_read_59 ?_
            refine ks_iload_n rfl rfl C d_Chains_read_60 ?_
            refine ks_aload_n rfl rfl C d_Chains_read_61 ?_
            refine ks_cx (ci := 0) (q0 := 0) (kw_chains c0 x0 _ _ ++ kw_pages K x0 x1 x2 _ _ ++ kw_row K r0 r1 _ _) C (c_Row_length l D K r0 r1 _ _) yw_Row_length sel_Row_length lk_Chains_38 d_Chains_read_62 rfl rfl rfl [4, 5] [0, 1, 2, 3] [0, 1, 2, 3, 4, 5] rfl rfl rfl rfl (by decide) rfl rfl rfl rfl rfl ⟨by decide, by decide⟩ ⟨by decide, by decide⟩ rfl (Nat.le_of_ble_eq_true rfl) ?_
            refine ks_isub (by omega) C d_Chains_read_65 ?_
            refine ks_min C lk_Chains_63 wm_min (by omega) (by omega) (by decide) (Nat.le_of_ble_eq_true rfl) (by decide) (by decide) d_Chains_read_66 ?_
            refine ks_istore C (by decide) rfl d_Chains_read_69 ?_
            refine ks_aload_n rfl rfl C d_Chains_read_71 ?_
            refine ks_aload_n rfl rfl C d_Chains_read_72 ?_
            refine ks_get (k := 0) C 0 4 in_Chains rfl (by decide) fk_Chains_18 rfl rfl rfl d_Chains_read_73 ?_
            refine ks_cx (ci := 1) (q0 := 0) (kw_chains c0 x0 _ _ ++ kw_pages K x0 x1 x2 _ _ ++ kw_row K r0 r1 _ _) C (c_Pages_bytes l D K x0 x1 x2 _ _) yw_Pages_bytes sel_Pages_bytes lk_Chains_69 d_Chains_read_76 rfl rfl rfl [1, 2, 3] [0, 4, 5] [0, 3, 4, 5, 1, 2] rfl rfl rfl rfl (by decide) rfl rfl rfl rfl rfl ⟨by decide, by decide⟩ ⟨by decide, by decide⟩ rfl (Nat.le_of_ble_eq_true rfl) ?_
            refine ks_aload_n rfl rfl C d_Chains_read_79 ?_
            refine ks_get (k := 1) C 0 4 in_Chains rfl (by decide) fk_Chains_9 rfl rfl rfl d_Chains_read_80 ?_
            refine ks_bipush (a := 32) rfl C d_Chains_read_83 ?_
            refine ks_imul C d_Chains_read_85 ?_
            refine ks_aload_n rfl rfl C d_Chains_read_86 ?_
            refine ks_get (k := 2) C 0 4 in_Chains rfl (by decide) fk_Chains_15 rfl rfl rfl d_Chains_read_87 ?_
            refine ks_iadd C d_Chains_read_90 ?_
            refine ks_iload rfl C d_Chains_read_91 ?_
            refine ks_cv (ci := 0) (q0 := 0) (kw_chains c0 x0 _ _ ++ kw_pages K x0 x1 x2 _ _ ++ kw_row K r0 r1 _ _) C (c_Row_appendFrom l D K r0 r1 x1 _ _ _ _ _ _ (by omega) (by omega) (by omega) (by omega)) yw_Row_appendFrom sel_Row_appendFrom lk_Chains_83 d_Chains_read_93 rfl rfl rfl [4, 5, 2] [0, 1, 3] [0, 1, 5, 2, 3, 4] rfl rfl rfl rfl (by decide) rfl rfl rfl rfl rfl ⟨by decide, by decide⟩ ⟨by decide, by decide⟩ rfl (Nat.le_of_ble_eq_true rfl) ?_
            refine ks_aload_n rfl rfl C d_Chains_read_96 ?_
            refine ks_dup rfl C d_Chains_read_97 ?_
            refine ks_get (k := 2) C 0 4 in_Chains rfl (by decide) fk_Chains_15 rfl rfl rfl d_Chains_read_98 ?_
            refine ks_iload rfl C d_Chains_read_101 ?_
            refine ks_iadd C d_Chains_read_103 ?_
            refine ks_put (k := 2) (ws' := (kw_chains c0 x0 _ _ ++ kw_pages K x0 x1 x2 _ _ ++ kw_row K r0 r1 _ _)) C 0 4 t_Chains ty_Chains nm_Chains in_Chains rfl (by decide) fk_Chains_15 rfl rfl rfl rfl rfl (Nat.le_of_ble_eq_true rfl) rfl d_Chains_read_104 ?_
            refine ks_iinc C rfl (z := 1) rfl (by decide) rfl d_Chains_read_107 ?_
            refine ks_goto (tgt := 6) C (by decide) d_Chains_read_110 ?_
            refine ks_forget 4 ?_
            first | exact ih _ _ _ _ _ (by omega) (by omega) (by omega) (kv_from_le (by omega)) (by rw [← g5, kv_rdL, if_pos (by omega), if_neg (by omega)]) | exact ih _ _ _ _ _ (by omega) (by omega) (by omega) (kv_from_le (by omega)) (by rw [← g5, kv_rdL, if_pos (by omega), if_pos rfl])
          · obtain rfl : a1 = 32 := by omega
            refine ks_aload_n rfl rfl C d_Chains_read_30 ?_
            refine ks_aload_n rfl rfl C d_Chains_read_31 ?_
            refine ks_get (k := 0) C 0 4 in_Chains rfl (by decide) fk_Chains_18 rfl rfl rfl d_Chains_read_32 ?_
            refine ks_aload_n rfl rfl C d_Chains_read_35 ?_
            refine ks_get (k := 1) C 0 4 in_Chains rfl (by decide) fk_Chains_9 rfl rfl rfl d_Chains_read_36 ?_
            refine ks_bipush (a := 32) rfl C d_Chains_read_39 ?_
            refine ks_imul C d_Chains_read_41 ?_
            refine ks_cx (ci := 1) (q0 := 0) (kw_chains c0 x0 _ _ ++ kw_pages K x0 x1 x2 _ _ ++ kw_row K r0 r1 _ _) C (c_Pages_number l D K x0 x1 x2 _ _ _ (by omega)) yw_Pages_number sel_Pages_number lk_Chains_22 d_Chains_read_42 rfl rfl rfl [1, 2, 3] [0, 4, 5] [0, 3, 4, 5, 1, 2] rfl rfl rfl rfl (by decide) rfl rfl rfl rfl rfl ⟨by decide, by decide⟩ ⟨by decide, by decide⟩ rfl (Nat.le_of_ble_eq_true rfl) ?_
            refine ks_top_num (fun u5 => ?_)
            refine ks_put (k := 1) (ws' := (kw_chains c0 x0 _ _ ++ kw_pages K x0 x1 x2 _ _ ++ kw_row K r0 r1 _ _)) C 0 4 t_Chains ty_Chains nm_Chains in_Chains rfl (by decide) fk_Chains_9 rfl rfl rfl rfl rfl (Nat.le_of_ble_eq_true rfl) rfl d_Chains_read_45 ?_
            refine ks_aload_n rfl rfl C d_Chains_read_48 ?_
            refine ks_iconst (a := 2) rfl C d_Chains_read_49 ?_
            refine ks_put (k := 2) (ws' := (kw_chains c0 x0 _ _ ++ kw_pages K x0 x1 x2 _ _ ++ kw_row K r0 r1 _ _)) C 0 4 t_Chains ty_Chains nm_Chains in_Chains rfl (by decide) fk_Chains_15 rfl rfl rfl rfl rfl (Nat.le_of_ble_eq_true rfl) rfl d_Chains_read_50 ?_
            refine ks_bipush (a := 32) rfl C d_Chains_read_53 ?_
            refine ks_aload_n rfl rfl C d_Chains_read_55 ?_
            refine ks_get (k := 2) C 0 4 in_Chains rfl (by decide) fk_Chains_15 rfl rfl rfl d_Chains_read_56 ?_
            refine ks_isub (by omega) C d_Chains_read_59 ?_
            refine ks_iload_n rfl rfl C d_Chains_read_60 ?_
            refine ks_aload_n rfl rfl C d_Chains_read_61 ?_
            refine ks_cx (ci := 0) (q0 := 0) (kw_chains c0 x0 _ _ ++ kw_pages K x0 x1 x2 _ _ ++ kw_row K r0 r1 _ _) C (c_Row_length l D K r0 r1 _ _) yw_Row_length sel_Row_length lk_Chains_38 d_Chains_read_62 rfl rfl rfl [4, 5] [0, 1, 2, 3] [0, 1, 2, 3, 4, 5] rfl rfl rfl rfl (by decide) rfl rfl rfl rfl rfl ⟨by decide, by decide⟩ ⟨by decide, by decide⟩ rfl (Nat.le_of_ble_eq_true rfl) ?_
            refine ks_isub (by omega) C d_Chains_read_65 ?_
            refine ks_min C lk_Chains_63 wm_min (by omega) (by omega) (by decide) (Nat.le_of_ble_eq_true rfl) (by decide) (by decide) d_Chains_read_66 ?_
            refine ks_istore C (by decide) rfl d_Chains_read_69 ?_
            refine ks_aload_n rfl rfl C d_Chains_read_71 ?_
            refine ks_aload_n rfl rfl C d_Chains_read_72 ?_
            refine ks_get (k := 0) C 0 4 in_Chains rfl (by decide) fk_Chains_18 rfl rfl rfl d_Chains_read_73 ?_
            refine ks_cx (ci := 1) (q0 := 0) (kw_chains c0 x0 _ _ ++ kw_pages K x0 x1 x2 _ _ ++ kw_row K r0 r1 _ _) C (c_Pages_bytes l D K x0 x1 x2 _ _) yw_Pages_bytes sel_Pages_bytes lk_Chains_69 d_Chains_read_76 rfl rfl rfl [1, 2, 3] [0, 4, 5] [0, 3, 4, 5, 1, 2] rfl rfl rfl rfl (by decide) rfl rfl rfl rfl rfl ⟨by decide, by decide⟩ ⟨by decide, by decide⟩ rfl (Nat.le_of_ble_eq_true rfl) ?_
            refine ks_aload_n rfl rfl C d_Chains_read_79 ?_
            refine ks_get (k := 1) C 0 4 in_Chains rfl (by decide) fk_Chains_9 rfl rfl rfl d_Chains_read_80 ?_
            refine ks_bipush (a := 32) rfl C d_Chains_read_83 ?_
            refine ks_imul C d_Chains_read_85 ?_
            refine ks_aload_n rfl rfl C d_Chains_read_86 ?_
            refine ks_get (k := 2) C 0 4 in_Chains rfl (by decide) fk_Chains_15 rfl rfl rfl d_Chains_read_87 ?_
            refine ks_iadd C d_Chains_read_90 ?_
            refine ks_iload rfl C d_Chains_read_91 ?_
            refine ks_cv (ci := 0) (q0 := 0) (kw_chains c0 x0 _ _ ++ kw_pages K x0 x1 x2 _ _ ++ kw_row K r0 r1 _ _) C (c_Row_appendFrom l D K r0 r1 x1 _ _ _ _ _ _ (by omega) (by omega) (by omega) (by omega)) yw_Row_appendFrom sel_Row_appendFrom lk_Chains_83 d_Chains_read_93 rfl rfl rfl [4, 5, 2] [0, 1, 3] [0, 1, 5, 2, 3, 4] rfl rfl rfl rfl (by decide) rfl rfl rfl rfl rfl ⟨by decide, by decide⟩ ⟨by decide, by decide⟩ rfl (Nat.le_of_ble_eq_true rfl) ?_
            refine ks_aload_n rfl rfl C d_Chains_read_96 ?_
            refine ks_dup rfl C d_Chains_read_97 ?_
            refine ks_get (k := 2) C 0 4 in_Chains rfl (by decide) fk_Chains_15 rfl rfl rfl d_Chains_read_98 ?_
            refine ks_iload rfl C d_Chains_read_101 ?_
            refine ks_iadd C d_Chains_read_103 ?_
            refine ks_put (k := 2) (ws' := (kw_chains c0 x0 _ _ ++ kw_pages K x0 x1 x2 _ _ ++ kw_row K r0 r1 _ _)) C 0 4 t_Chains ty_Chains nm_Chains in_Chains rfl (by decide) fk_Chains_15 rfl rfl rfl rfl rfl (Nat.le_of_ble_eq_true rfl) rfl d_Chains_read_104 ?_
            refine ks_iinc C rfl (z := 1) rfl (by decide) rfl d_Chains_read_107 ?_
            refine ks_goto (tgt := 6) C (by decide) d_Chains_read_110 ?_
            refine ks_forget 4 ?_
            first | exact ih _ _ _ _ _ (by omega) (by omega) (by omega) (kv_from_le (by omega)) (by rw [← g5, kv_rdL, if_pos (by omega), if_neg (by omega)]) | exact ih _ _ _ _ _ (by omega) (by omega) (by omega) (kv_from_le (by omega)) (by rw [← g5, kv_rdL, if_pos (by omega), if_pos rfl])
  refine ks_aload_n rfl rfl C d_Chains_read_0 ?_
  refine ks_cv (ci := 0) (q0 := 0) (kw_chains c0 x0 _ _ ++ kw_pages K x0 x1 x2 _ _ ++ kw_row K r0 r1 _ _) C (c_Row_clear l D K r0 r1 _ _) yw_Row_clear sel_Row_clear lk_Chains_80 d_Chains_read_1 rfl rfl rfl [4, 5] [0, 1, 2, 3] [0, 1, 2, 3, 4, 5] rfl rfl rfl rfl (by decide) rfl rfl rfl rfl rfl ⟨by decide, by decide⟩ ⟨by decide, by decide⟩ rfl (Nat.le_of_ble_eq_true rfl) ?_
  refine ks_iconst (a := 0) rfl C d_Chains_read_4 ?_
  refine ks_istore_n C rfl (by decide) rfl d_Chains_read_5 ?_
  exact loop 2720 R 0 pg ca 0 (by omega) (by omega) (by omega) (by omega) rfl
set_option maxRecDepth 100000 in
set_option maxHeartbeats 4000000 in
theorem c_Chains_copyKeyTo (l : Launch) (D : va_G) (K : Nat → ClassId) (c0 x0 x1 x2 r0 r1 pg ca : Nat) (B : Nat → UInt8) (G : Nat → Bool) (R : Nat → UInt8) (len : Nat) (c : Nat) (h1 : c < 65536) : ks_M l D (ks_T K) (ks_R 3) y_Chains_copyKeyTo b_Chains_copyKeyTo 3 none [.ref c0, .int (nI c), .ref r0] (kw_chains c0 x0 pg ca ++ kw_pages K x0 x1 x2 B G ++ kw_row K r0 r1 R len) (ks_f none (kw_chains c0 x0 (kv_rdL B (kv_num B (c * 32 + 2)) 2720 R 0 c 6).2.1 (kv_rdL B (kv_num B (c * 32 + 2)) 2720 R 0 c 6).2.2 ++ kw_pages K x0 x1 x2 B G ++ kw_row K r0 r1 (kv_rdL B (kv_num B (c * 32 + 2)) 2720 R 0 c 6).1.1 (kv_rdL B (kv_num B (c * 32 + 2)) 2720 R 0 c 6).1.2)) := by
  refine ks_M.of 0 (by decide) (Nat.le_of_ble_eq_true rfl) ?_
  intro E C Z
  refine ks_aload_n rfl rfl C d_Chains_copyKeyTo_0 ?_
  refine ks_iload_n rfl rfl C d_Chains_copyKeyTo_1 ?_
  refine ks_put (k := 1) (ws' := (kw_chains c0 x0 _ _ ++ kw_pages K x0 x1 x2 _ _ ++ kw_row K r0 r1 _ _)) C 0 4 t_Chains ty_Chains nm_Chains in_Chains rfl (by decide) fk_Chains_9 rfl rfl rfl rfl rfl (Nat.le_of_ble_eq_true rfl) rfl d_Chains_copyKeyTo_2 ?_
  refine ks_aload_n rfl rfl C d_Chains_copyKeyTo_5 ?_
  refine ks_bipush (a := 6) rfl C d_Chains_copyKeyTo_6 ?_
  refine ks_put (k := 2) (ws' := (kw_chains c0 x0 _ _ ++ kw_pages K x0 x1 x2 _ _ ++ kw_row K r0 r1 _ _)) C 0 4 t_Chains ty_Chains nm_Chains in_Chains rfl (by decide) fk_Chains_15 rfl rfl rfl rfl rfl (Nat.le_of_ble_eq_true rfl) rfl d_Chains_copyKeyTo_8 ?_
  refine ks_aload_n rfl rfl C d_Chains_copyKeyTo_11 ?_
  refine ks_aload_n rfl rfl C d_Chains_copyKeyTo_12 ?_
  refine ks_aload_n rfl rfl C d_Chains_copyKeyTo_13 ?_
  refine ks_iload_n rfl rfl C d_Chains_copyKeyTo_14 ?_
  refine ks_cx (ci := 4) (q0 := 0) (kw_chains c0 x0 _ _ ++ kw_pages K x0 x1 x2 _ _ ++ kw_row K r0 r1 _ _) C (c_Chains_keyLength l D K c0 x0 x1 x2 _ _ _ _ _ (by omega)) yw_Chains_keyLength sel_Chains_keyLength lk_Chains_28 d_Chains_copyKeyTo_15 rfl rfl rfl [0, 1, 2, 3] [4, 5] [2, 3, 4, 5, 0, 1] rfl rfl rfl rfl (by decide) rfl rfl rfl rfl rfl ⟨by decide, by decide⟩ ⟨by decide, by decide⟩ rfl (Nat.le_of_ble_eq_true rfl) ?_
  refine ks_top_num (fun u1 => ?_)
  refine ks_cv (ci := 4) (q0 := 0) (kw_chains c0 x0 _ _ ++ kw_pages K x0 x1 x2 _ _ ++ kw_row K r0 r1 _ _) C (c_Chains_read l D K c0 x0 x1 x2 r0 r1 _ _ _ _ _ _ _ (by omega) (by omega) (by omega)) yw_Chains_read sel_Chains_read lk_Chains_59 d_Chains_copyKeyTo_18 rfl rfl rfl [0, 1, 2, 3, 4, 5] [] [0, 1, 2, 3, 4, 5] rfl rfl rfl rfl (by decide) rfl rfl rfl rfl rfl ⟨by decide, by decide⟩ ⟨by decide, by decide⟩ rfl (Nat.le_of_ble_eq_true rfl) ?_
  exact ks_vret C Z rfl d_Chains_copyKeyTo_21 rfl rfl ⟨rfl, rfl⟩
set_option maxRecDepth 100000 in
set_option maxHeartbeats 4000000 in
theorem c_Chains_compare (l : Launch) (D : va_G) (K : Nat → ClassId) (c0 x0 x1 x2 r0 r1 pg ca : Nat) (B : Nat → UInt8) (G : Nat → Bool) (R : Nat → UInt8) (len : Nat) (c : Nat) (h1 : c < 65536) (h2 : len ≤ 8448) : ks_M l D (ks_T K) (ks_R 1) y_Chains_compare b_Chains_compare 11 (some .int) [.ref c0, .ref r0, .int (nI c)] (kw_chains c0 x0 pg ca ++ kw_pages K x0 x1 x2 B G ++ kw_row K r0 r1 R len) (ks_f (some (.int (Int32.ofInt (kv_cmp B R len c)))) (kw_chains c0 x0 pg ca ++ kw_pages K x0 x1 x2 B G ++ kw_row K r0 r1 R len)) := by
  refine ks_M.of 8 (by decide) (Nat.le_of_ble_eq_true rfl) ?_
  intro E C Z
  have loop : ∀ (f : Nat) (pl s d i : Nat), i + f = 2720 → pl < 65536 → s ≤ 32 → d ≤ 8448 → kv_cmpL B R len (kv_num B (c * 32 + 2)) (min len (kv_num B (c * 32 + 2))) f pl s d = kv_cmp B R len c → ks_w E D 11 (kw_chains c0 x0 pg ca ++ kw_pages K x0 x1 x2 B G ++ kw_row K r0 r1 R len) [some (.ref c0), some (.ref r0), some (.int (nI c)), some (.int (nI (kv_num B (c * 32 + 2)))), some (.int (nI (min len (kv_num B (c * 32 + 2))))), some (.int (nI pl)), some (.int (nI s)), some (.int (nI d)), some (.int (nI i)), none, none] 0 0 37 [] := by
    intro f
    induction f with
    | zero =>
      intro pl s d i g1 g2 g3 g4 g5
      have hk := kv_num_lt B (c * 32 + 2)
      refine ks_iload rfl C d_Chains_compare_37 ?_
      refine ks_sipush (a := 2720) rfl C d_Chains_compare_39 ?_
      refine ks_icmp_ge (tgt := 130) C (by omega) (by omega) (by decide) d_Chains_compare_42 (fun u1 => ?_) (fun u1 => ?_)
      · refine ks_aload_n rfl rfl C d_Chains_compare_130 ?_
        refine ks_cx (ci := 0) (q0 := 0) (kw_chains c0 x0 _ _ ++ kw_pages K x0 x1 x2 _ _ ++ kw_row K r0 r1 _ _) C (c_Row_length l D K r0 r1 _ _) yw_Row_length sel_Row_length lk_Chains_38 d_Chains_compare_131 rfl rfl rfl [4, 5] [0, 1, 2, 3] [0, 1, 2, 3, 4, 5] rfl rfl rfl rfl (by decide) rfl rfl rfl rfl rfl ⟨by decide, by decide⟩ ⟨by decide, by decide⟩ rfl (Nat.le_of_ble_eq_true rfl) ?_
        refine ks_iload_n rfl rfl C d_Chains_compare_134 ?_
        refine ks_isubZ C d_Chains_compare_135 ?_
        exact ks_iret C Z rfl rfl d_Chains_compare_136 rfl rfl ⟨by rw [← g5]; rfl, rfl⟩
      · exact (by omega : False).elim
    | succ f ih =>
      intro pl s d i g1 g2 g3 g4 g5
      have hk := kv_num_lt B (c * 32 + 2)
      refine ks_iload rfl C d_Chains_compare_37 ?_
      refine ks_sipush (a := 2720) rfl C d_Chains_compare_39 ?_
      refine ks_icmp_ge (tgt := 130) C (by omega) (by omega) (by decide) d_Chains_compare_42 (fun u2 => ?_) (fun u2 => ?_)
      · refine ks_aload_n rfl rfl C d_Chains_compare_130 ?_
        refine ks_cx (ci := 0) (q0 := 0) (kw_chains c0 x0 _ _ ++ kw_pages K x0 x1 x2 _ _ ++ kw_row K r0 r1 _ _) C (c_Row_length l D K r0 r1 _ _) yw_Row_length sel_Row_length lk_Chains_38 d_Chains_compare_131 rfl rfl rfl [4, 5] [0, 1, 2, 3] [0, 1, 2, 3, 4, 5] rfl rfl rfl rfl (by decide) rfl rfl rfl rfl rfl ⟨by decide, by decide⟩ ⟨by decide, by decide⟩ rfl (Nat.le_of_ble_eq_true rfl) ?_
        refine ks_iload_n rfl rfl C d_Chains_compare_134 ?_
        refine ks_isubZ C d_Chains_compare_135 ?_
        exact ks_iret C Z rfl rfl d_Chains_compare_136 rfl rfl (False.elim (by omega))
      · refine ks_iload rfl C d_Chains_compare_45 ?_
        refine ks_iload rfl C d_Chains_compare_47 ?_
        refine ks_icmp_ge (tgt := 130) C (by omega) (by omega) (by decide) d_Chains_compare_49 (fun u3 => ?_) (fun u3 => ?_)
        · refine ks_aload_n rfl rfl C d_Chains_compare_130 ?_
          refine ks_cx (ci := 0) (q0 := 0) (kw_chains c0 x0 _ _ ++ kw_pages K x0 x1 x2 _ _ ++ kw_row K r0 r1 _ _) C (c_Row_length l D K r0 r1 _ _) yw_Row_length sel_Row_length lk_Chains_38 d_Chains_compare_131 rfl rfl rfl [4, 5] [0, 1, 2, 3] [0, 1, 2, 3, 4, 5] rfl rfl rfl rfl (by decide) rfl rfl rfl rfl rfl ⟨by decide, by decide⟩ ⟨by decide, by decide⟩ rfl (Nat.le_of_ble_eq_true rfl) ?_
          refine ks_iload_n rfl rfl C d_Chains_compare_134 ?_
          refine ks_isubZ C d_Chains_compare_135 ?_
          exact ks_iret C Z rfl rfl d_Chains_compare_136 rfl rfl ⟨by rw [← g5, kv_cmpL, if_neg (by omega)], rfl⟩
        · refine ks_bipush (a := 32) rfl C d_Chains_compare_52 ?_
          refine ks_iload rfl C d_Chains_compare_54 ?_
          refine ks_isub (by omega) C d_Chains_compare_56 ?_
          refine ks_iload rfl C d_Chains_compare_57 ?_
          refine ks_iload rfl C d_Chains_compare_59 ?_
          refine ks_isub (by omega) C d_Chains_compare_61 ?_
          refine ks_min C lk_Chains_63 wm_min (by omega) (by omega) (by decide) (Nat.le_of_ble_eq_true rfl) (by decide) (by decide) d_Chains_compare_62 ?_
          refine ks_istore C (by decide) rfl d_Chains_compare_65 ?_
          refine ks_aload_n rfl rfl C d_Chains_compare_67 ?_
          refine ks_iload rfl C d_Chains_compare_68 ?_
          refine ks_iload rfl C d_Chains_compare_70 ?_
          refine ks_aload_n rfl rfl C d_Chains_compare_72 ?_
          refine ks_get (k := 0) C 0 4 in_Chains rfl (by decide) fk_Chains_18 rfl rfl rfl d_Chains_compare_73 ?_
          refine ks_cx (ci := 1) (q0 := 0) (kw_chains c0 x0 _ _ ++ kw_pages K x0 x1 x2 _ _ ++ kw_row K r0 r1 _ _) C (c_Pages_bytes l D K x0 x1 x2 _ _) yw_Pages_bytes sel_Pages_bytes lk_Chains_69 d_Chains_compare_76 rfl rfl rfl [1, 2, 3] [0, 4, 5] [0, 3, 4, 5, 1, 2] rfl rfl rfl rfl (by decide) rfl rfl rfl rfl rfl ⟨by decide, by decide⟩ ⟨by decide, by decide⟩ rfl (Nat.le_of_ble_eq_true rfl) ?_
          refine ks_iload rfl C d_Chains_compare_79 ?_
          refine ks_bipush (a := 32) rfl C d_Chains_compare_81 ?_
          refine ks_imul C d_Chains_compare_83 ?_
          refine ks_iload rfl C d_Chains_compare_84 ?_
          refine ks_iadd C d_Chains_compare_86 ?_
          refine ks_cx (ci := 0) (q0 := 0) (kw_chains c0 x0 _ _ ++ kw_pages K x0 x1 x2 _ _ ++ kw_row K r0 r1 _ _) C (c_Row_difference l D K r0 r1 x1 _ _ _ _ _ _ _ (by omega) (by omega) (by omega) (by omega) (by omega)) yw_Row_difference sel_Row_difference lk_Chains_73 d_Chains_compare_87 rfl rfl rfl [4, 5, 2] [0, 1, 3] [0, 1, 5, 2, 3, 4] rfl rfl rfl rfl (by decide) rfl rfl rfl rfl rfl ⟨by decide, by decide⟩ ⟨by decide, by decide⟩ rfl (Nat.le_of_ble_eq_true rfl) ?_
          refine ks_top_diff (fun u4 => ?_)
          refine ks_istore C (by decide) rfl d_Chains_compare_90 ?_
          refine ks_iload rfl C d_Chains_compare_92 ?_
          refine ks_ifZ_eq (tgt := 100) C (by omega) (by omega) (by decide) d_Chains_compare_94 (fun u5 => ?_) (fun u5 => ?_)
          · refine ks_iload rfl C d_Chains_compare_100 ?_
            refine ks_iload rfl C d_Chains_compare_102 ?_
            refine ks_iadd C d_Chains_compare_104 ?_
            refine ks_istore C (by decide) rfl d_Chains_compare_105 ?_
            refine ks_aload_n rfl rfl C d_Chains_compare_107 ?_
            refine ks_get (k := 0) C 0 4 in_Chains rfl (by decide) fk_Chains_18 rfl rfl rfl d_Chains_compare_108 ?_
            refine ks_iload rfl C d_Chains_compare_111 ?_
            refine ks_bipush (a := 32) rfl C d_Chains_compare_113 ?_
            refine ks_imul C d_Chains_compare_115 ?_
            refine ks_cx (ci := 1) (q0 := 0) (kw_chains c0 x0 _ _ ++ kw_pages K x0 x1 x2 _ _ ++ kw_row K r0 r1 _ _) C (c_Pages_number l D K x0 x1 x2 _ _ _ (by omega)) yw_Pages_number sel_Pages_number lk_Chains_22 d_Chains_compare_116 rfl rfl rfl [1, 2, 3] [0, 4, 5] [0, 3, 4, 5, 1, 2] rfl rfl rfl rfl (by decide) rfl rfl rfl rfl rfl ⟨by decide, by decide⟩ ⟨by decide, by decide⟩ rfl (Nat.le_of_ble_eq_true rfl) ?_
            refine ks_top_num (fun u6 => ?_)
            refine ks_istore C (by decide) rfl d_Chains_compare_119 ?_
            refine ks_iconst (a := 2) rfl C d_Chains_compare_121 ?_
            refine ks_istore C (by decide) rfl d_Chains_compare_122 ?_
            refine ks_iinc C rfl (z := 1) rfl (by decide) rfl d_Chains_compare_124 ?_
            refine ks_goto (tgt := 37) C (by decide) d_Chains_compare_127 ?_
            refine ks_forget 9 ?_
            refine ks_forget 10 ?_
            exact ih _ _ _ _ (by omega) (by omega) (by omega) (by omega) (by rw [← g5, kv_cmpL, if_pos (by omega), if_pos u5])
          · refine ks_iload rfl C d_Chains_compare_97 ?_
            exact ks_iret C Z rfl rfl d_Chains_compare_99 rfl rfl ⟨by rw [← g5, kv_cmpL, if_pos (by omega), if_neg u5], rfl⟩
  refine ks_aload_n rfl rfl C d_Chains_compare_0 ?_
  refine ks_get (k := 0) C 0 4 in_Chains rfl (by decide) fk_Chains_18 rfl rfl rfl d_Chains_compare_1 ?_
  refine ks_iload_n rfl rfl C d_Chains_compare_4 ?_
  refine ks_bipush (a := 32) rfl C d_Chains_compare_5 ?_
  refine ks_imul C d_Chains_compare_7 ?_
  refine ks_iconst (a := 2) rfl C d_Chains_compare_8 ?_
  refine ks_iadd C d_Chains_compare_9 ?_
  refine ks_cx (ci := 1) (q0 := 0) (kw_chains c0 x0 _ _ ++ kw_pages K x0 x1 x2 _ _ ++ kw_row K r0 r1 _ _) C (c_Pages_number l D K x0 x1 x2 _ _ _ (by omega)) yw_Pages_number sel_Pages_number lk_Chains_22 d_Chains_compare_10 rfl rfl rfl [1, 2, 3] [0, 4, 5] [0, 3, 4, 5, 1, 2] rfl rfl rfl rfl (by decide) rfl rfl rfl rfl rfl ⟨by decide, by decide⟩ ⟨by decide, by decide⟩ rfl (Nat.le_of_ble_eq_true rfl) ?_
  refine ks_top_num (fun u7 => ?_)
  refine ks_istore_n C rfl (by decide) rfl d_Chains_compare_13 ?_
  refine ks_aload_n rfl rfl C d_Chains_compare_14 ?_
  refine ks_cx (ci := 0) (q0 := 0) (kw_chains c0 x0 _ _ ++ kw_pages K x0 x1 x2 _ _ ++ kw_row K r0 r1 _ _) C (c_Row_length l D K r0 r1 _ _) yw_Row_length sel_Row_length lk_Chains_38 d_Chains_compare_15 rfl rfl rfl [4, 5] [0, 1, 2, 3] [0, 1, 2, 3, 4, 5] rfl rfl rfl rfl (by decide) rfl rfl rfl rfl rfl ⟨by decide, by decide⟩ ⟨by decide, by decide⟩ rfl (Nat.le_of_ble_eq_true rfl) ?_
  refine ks_iload_n rfl rfl C d_Chains_compare_18 ?_
  refine ks_min C lk_Chains_63 wm_min (by omega) (by omega) (by decide) (Nat.le_of_ble_eq_true rfl) (by decide) (by decide) d_Chains_compare_19 ?_
  refine ks_istore C (by decide) rfl d_Chains_compare_22 ?_
  refine ks_iload_n rfl rfl C d_Chains_compare_24 ?_
  refine ks_istore C (by decide) rfl d_Chains_compare_25 ?_
  refine ks_bipush (a := 6) rfl C d_Chains_compare_27 ?_
  refine ks_istore C (by decide) rfl d_Chains_compare_29 ?_
  refine ks_iconst (a := 0) rfl C d_Chains_compare_31 ?_
  refine ks_istore C (by decide) rfl d_Chains_compare_32 ?_
  refine ks_iconst (a := 0) rfl C d_Chains_compare_34 ?_
  refine ks_istore C (by decide) rfl d_Chains_compare_35 ?_
  exact loop 2720 c 6 0 0 (by omega) (by omega) (by omega) (by omega) rfl
