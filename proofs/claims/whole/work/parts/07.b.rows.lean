/-! contracts of rows and pages with loops -/
theorem kv_same_0 (R : Nat → UInt8) (len : Nat) (c : UInt8) : kv_same R len c 0 = R := by
  funext j; unfold kv_same; rw [if_neg (by omega)]
theorem kv_same_s (R : Nat → UInt8) (len : Nat) (c : UInt8) (i : Nat) : va_up (kv_same R len c i) (len + i) c = kv_same R len c (i + 1) := by
  funext j
  unfold kv_same va_up
  dsimp only
  by_cases h : j = len + i
  · subst h; rw [if_pos rfl, if_pos (by omega)]
  · rw [if_neg h]
    by_cases h2 : len ≤ j ∧ j < len + i
    · rw [if_pos h2, if_pos (by omega)]
    · rw [if_neg h2, if_neg (by omega)]
theorem kv_clr_0 (G : Nat → Bool) : kv_clr G 0 = G := by funext q; unfold kv_clr; rw [if_neg (by omega)]
theorem kv_clr_s (G : Nat → Bool) (i : Nat) : va_up (kv_clr G i) i false = kv_clr G (i + 1) := by
  funext q
  unfold kv_clr va_up
  dsimp only
  by_cases h : q = i
  · subst h; rw [if_pos rfl, if_pos (by omega)]
  · rw [if_neg h]
    by_cases h2 : q < i
    · rw [if_pos h2, if_pos (by omega)]
    · rw [if_neg h2, if_neg (by omega)]
theorem kv_clr_n (G : Nat → Bool) (i : Nat) (h : G i = false) : kv_clr G i = kv_clr G (i + 1) := by
  funext q
  unfold kv_clr
  by_cases h2 : q < i
  · rw [if_pos h2, if_pos (by omega)]
  · rw [if_neg h2]
    by_cases h3 : q = i
    · subst h3; rw [if_pos (by omega), h]
    · rw [if_neg (by omega)]
theorem kv_clr_at (G : Nat → Bool) (i : Nat) : kv_clr G i i = G i := by unfold kv_clr; rw [if_neg (by omega)]
theorem kv_undo_0 (B : Nat → UInt8) (G : Nat → Bool) (F : Nat → UInt8) : kv_undo B G F 0 = B := by funext q; unfold kv_undo; rw [if_neg (by omega)]
theorem kv_undo_s (B : Nat → UInt8) (G : Nat → Bool) (F : Nat → UInt8) (i : Nat) (h : G i = true) : va_cpy F (kv_undo B G F i) (i * 32) (i * 32) 32 = kv_undo B G F (i + 1) := by
  funext j
  unfold kv_undo va_cpy
  dsimp only
  by_cases h2 : i * 32 ≤ j ∧ j < i * 32 + 32
  · have e : j / 32 = i := by omega
    rw [if_pos h2, e, if_pos ⟨by omega, h⟩]
    congr 1
    omega
  · rw [if_neg h2]
    have e : ¬ j / 32 = i := by omega
    by_cases h3 : j / 32 < i ∧ G (j / 32) = true
    · rw [if_pos h3, if_pos ⟨by omega, h3.2⟩]
    · rw [if_neg h3, if_neg (fun z => h3 ⟨by omega, z.2⟩)]
theorem kv_undo_n (B : Nat → UInt8) (G : Nat → Bool) (F : Nat → UInt8) (i : Nat) (h : G i = false) : kv_undo B G F i = kv_undo B G F (i + 1) := by
  funext j
  unfold kv_undo
  by_cases h3 : j / 32 < i ∧ G (j / 32) = true
  · rw [if_pos h3, if_pos ⟨by omega, h3.2⟩]
  · rw [if_neg h3, if_neg]
    intro z
    by_cases e : j / 32 = i
    · rw [e, h] at z; exact absurd z.2 (by decide)
    · exact h3 ⟨by omega, z.2⟩
theorem ks_m1 {n : Nat} (h : 1 ≤ n) : nI (n - 1) = nI (n + 4294967295) := by
  have e : n + 4294967295 = (n - 1) + 4294967296 := by omega
  rw [e, ← nI_add]
  exact (Int32.add_zero _).symm
theorem ks_nbw (w : Int64) {i : Nat} (h : i < 8) : vp_nar .byte ((w >>> ((nI (8 * i)).toInt64 &&& 63)).toInt32.toInt8.toInt32) = sb_b (kv_byte w i).toNat := by
  rw [pk_vb]
  have e : (w >>> ((nI (8 * i)).toInt64 &&& 63)).toInt32.toInt8 = Int8.ofNat (w.toBitVec.toNat / 256 ^ i) := by
    apply Int8.toBitVec_inj.mp
    rw [Int32.toBitVec_toInt8, Int8.toBitVec_ofNat', Int64.toBitVec_toInt32]
    have e0 : (w >>> ((nI (8 * i)).toInt64 &&& 63)).toBitVec = w.toBitVec.sshiftRight (8 * i) := by
      show w.toBitVec.sshiftRight (((nI (8 * i)).toInt64 &&& 63).toBitVec.smod 64).toNat = _
      have : ∀ k : Fin 8, (((nI (8 * k.val)).toInt64 &&& 63).toBitVec.smod 64).toNat = 8 * k.val := by decide +kernel
      rw [this ⟨i, h⟩]
    rw [e0]
    apply BitVec.eq_of_getLsbD_eq
    intro j hj
    rw [BitVec.getLsbD_signExtend, BitVec.getLsbD_signExtend, BitVec.getLsbD_sshiftRight, BitVec.getLsbD_ofNat]
    have hd : (w.toBitVec.toNat / 256 ^ i).testBit j = w.toBitVec.toNat.testBit (8 * i + j) := by
      rw [show (256 : Nat) ^ i = 2 ^ (8 * i) from (Nat.pow_mul 2 8 i).symm, Nat.testBit_div_two_pow, Nat.add_comm]
    rw [hd]
    simp [show j < 8 from hj, show j < 32 by omega, show ¬ 64 ≤ j by omega, show 8 * i + j < 64 by omega]
    rw [if_pos (by omega)]
    rfl
  rw [e, ← ks_sbi, ks_sbm]
  unfold kv_byte
  rw [UInt8.toNat_ofNat']
set_option maxRecDepth 100000 in
set_option maxHeartbeats 4000000 in
theorem c_Row_append (l : Launch) (D : va_G) (K : Nat → ClassId) (r0 r1 : Nat) (R : Nat → UInt8) (len : Nat) (w : Int64) (n : Nat) (h1 : len ≤ 8448) (h2 : 1 ≤ n) (h3 : n ≤ 8) : ks_M l D (ks_T K) (ks_R 1) y_Row_append b_Row_append 5 none [.ref r0, .long w, .int (nI n)] (kw_row K r0 r1 R len) (ks_f none (kw_row K r0 r1 (if n ≤ 8448 - len then kv_app w n R len else (R, len)).1 (if n ≤ 8448 - len then kv_app w n R len else (R, len)).2)) := by
  refine ks_M.of 1 (by decide) (Nat.le_of_ble_eq_true rfl) ?_
  intro E C Z
  have loop : ∀ (f : Nat) (R1 : Nat → UInt8) (len1 : Nat), len1 + f ≤ 8448 → f ≤ 8 → kv_app w f R1 len1 = (if n ≤ 8448 - len then kv_app w n R len else (R, len)) → ks_w E D 5 (kw_row K r0 r1 R1 len1) [some (.ref r0), some (.long w), none, some (.int (nI n)), some (.int (nI (f + 4294967295)))] 0 0 14 [] := by
    intro f
    induction f with
    | zero =>
      intro R1 len1 g1 g2 g3
      refine ks_iload rfl C d_Row_append_14 ?_
      refine ks_ifI_lt (tgt := 53) C (by decide) d_Row_append_16 (fun u1 => ?_) (fun u1 => ?_)
      · exact ks_vret C Z rfl d_Row_append_53 rfl rfl ⟨rfl, by rw [← g3]; rfl⟩
      · exact absurd (by decide : nI (0 + 4294967295) < 0) u1
    | succ f ih =>
      intro R1 len1 g1 g2 g3
      rw [show nI (f + 1 + 4294967295) = nI f from (ks_m1 (n := f + 1) (by omega)).symm]
      refine ks_iload rfl C d_Row_append_14 ?_
      refine ks_iflt0 (tgt := 53) C (by omega) d_Row_append_16 (by decide) ?_
      refine ks_aload_n rfl rfl C d_Row_append_19 ?_
      refine ks_get (k := 0) C 0 0 in_Row rfl (by decide) fk_Row_9 rfl rfl rfl d_Row_append_20 ?_
      refine ks_aload_n rfl rfl C d_Row_append_23 ?_
      refine ks_get (k := 1) C 0 0 in_Row rfl (by decide) fk_Row_15 rfl rfl rfl d_Row_append_24 ?_
      refine ks_lload_n rfl rfl C d_Row_append_27 ?_
      refine ks_bipush (a := 8) rfl C d_Row_append_28 ?_
      refine ks_iload rfl C d_Row_append_30 ?_
      refine ks_imul C d_Row_append_32 ?_
      refine ks_lshr C d_Row_append_33 ?_
      refine ks_l2i C d_Row_append_34 ?_
      refine ks_i2b C d_Row_append_35 ?_
      refine ks_bast (ws' := (kw_row K r0 r1 _ _)) C 1 0 rfl rfl (by omega) (by omega) (ks_nbw w (by omega)) rfl d_Row_append_36 ?_
      refine ks_aload_n rfl rfl C d_Row_append_37 ?_
      refine ks_dup rfl C d_Row_append_38 ?_
      refine ks_get (k := 1) C 0 0 in_Row rfl (by decide) fk_Row_15 rfl rfl rfl d_Row_append_39 ?_
      refine ks_iconst (a := 1) rfl C d_Row_append_42 ?_
      refine ks_iadd C d_Row_append_43 ?_
      refine ks_put (k := 1) (ws' := (kw_row K r0 r1 _ _)) C 0 0 t_Row ty_Row nm_Row in_Row rfl (by decide) fk_Row_15 rfl rfl rfl rfl rfl (Nat.le_of_ble_eq_true rfl) rfl d_Row_append_44 ?_
      refine ks_iinc C rfl (z := 4294967295) rfl (by decide) rfl d_Row_append_47 ?_
      refine ks_goto (tgt := 14) C (by decide) d_Row_append_50 ?_
      exact ih _ _ (by omega) (by omega) g3
  refine ks_aload_n rfl rfl C d_Row_append_0 ?_
  refine ks_iload_n rfl rfl C d_Row_append_1 ?_
  refine ks_cx (ci := 0) (q0 := 0) (kw_row K r0 r1 _ _) C (c_Row_hasRoom l D K r0 r1 _ _ _ (by omega) (by omega)) yw_Row_hasRoom sel_Row_hasRoom lk_Row_19 d_Row_append_2 rfl rfl rfl [0, 1] [] [0, 1] rfl rfl rfl rfl (by decide) rfl rfl rfl rfl rfl ⟨by decide, by decide⟩ ⟨by decide, by decide⟩ rfl (Nat.le_of_ble_eq_true rfl) ?_
  refine ks_ifD_ne (tgt := 9) C (by decide) d_Row_append_5 (fun u3 => ?_) (fun u3 => ?_)
  · refine ks_iload_n rfl rfl C d_Row_append_9 ?_
    refine ks_iconst (a := 1) rfl C d_Row_append_10 ?_
    refine ks_isub (by omega) C d_Row_append_11 ?_
    refine ks_istore C (by decide) rfl d_Row_append_12 ?_
    rw [ks_m1 h2]
    exact loop n R len (by omega) h3 (by rw [if_pos (by omega)])
  · exact ks_vret C Z rfl d_Row_append_8 rfl rfl ⟨rfl, by rw [if_neg (by omega)]⟩
set_option maxRecDepth 100000 in
set_option maxHeartbeats 4000000 in
theorem c_Row_appendSame (l : Launch) (D : va_G) (K : Nat → ClassId) (r0 r1 : Nat) (R : Nat → UInt8) (len : Nat) (n : Nat) (b : Int32) (c : UInt8) (h1 : len ≤ 8448) (h2 : n < 1073741824) (h3 : b.toInt8.toInt32 = sb_b c.toNat) : ks_M l D (ks_T K) (ks_R 1) y_Row_appendSame b_Row_appendSame 4 none [.ref r0, .int (nI n), .int b] (kw_row K r0 r1 R len) (ks_f none (kw_row K r0 r1 (if n ≤ 8448 - len then kv_same R len c n else R) (if n ≤ 8448 - len then len + n else len))) := by
  refine ks_M.of 1 (by decide) (Nat.le_of_ble_eq_true rfl) ?_
  intro E C Z
  have loop : ∀ (f : Nat) (i : Nat), i + f = n → n ≤ 8448 - len → ks_w E D 4 (kw_row K r0 r1 (kv_same R len c i) len) [some (.ref r0), some (.int (nI n)), some (.int b), some (.int (nI i))] 0 0 11 [] := by
    intro f
    induction f with
    | zero =>
      intro i g1 g2
      refine ks_iload_n rfl rfl C d_Row_appendSame_11 ?_
      refine ks_iload_n rfl rfl C d_Row_appendSame_12 ?_
      refine ks_icmp_ge (tgt := 35) C (by omega) (by omega) (by decide) d_Row_appendSame_13 (fun u1 => ?_) (fun u1 => ?_)
      · refine ks_aload_n rfl rfl C d_Row_appendSame_35 ?_
        refine ks_dup rfl C d_Row_appendSame_36 ?_
        refine ks_get (k := 1) C 0 0 in_Row rfl (by decide) fk_Row_15 rfl rfl rfl d_Row_appendSame_37 ?_
        refine ks_iload_n rfl rfl C d_Row_appendSame_40 ?_
        refine ks_iadd C d_Row_appendSame_41 ?_
        refine ks_put (k := 1) (ws' := (kw_row K r0 r1 _ _)) C 0 0 t_Row ty_Row nm_Row in_Row rfl (by decide) fk_Row_15 rfl rfl rfl rfl rfl (Nat.le_of_ble_eq_true rfl) rfl d_Row_appendSame_42 ?_
        exact ks_vret C Z rfl d_Row_appendSame_45 rfl rfl ⟨rfl, by rw [if_pos g2, if_pos g2, show i = n by omega]⟩
      · exact (by omega : False).elim
    | succ f ih =>
      intro i g1 g2
      refine ks_iload_n rfl rfl C d_Row_appendSame_11 ?_
      refine ks_iload_n rfl rfl C d_Row_appendSame_12 ?_
      refine ks_icmp_ge (tgt := 35) C (by omega) (by omega) (by decide) d_Row_appendSame_13 (fun u2 => ?_) (fun u2 => ?_)
      · exact (by omega : False).elim
      · refine ks_aload_n rfl rfl C d_Row_appendSame_16 ?_
        refine ks_get (k := 0) C 0 0 in_Row rfl (by decide) fk_Row_9 rfl rfl rfl d_Row_appendSame_17 ?_
        refine ks_aload_n rfl rfl C d_Row_appendSame_20 ?_
        refine ks_get (k := 1) C 0 0 in_Row rfl (by decide) fk_Row_15 rfl rfl rfl d_Row_appendSame_21 ?_
        refine ks_iload_n rfl rfl C d_Row_appendSame_24 ?_
        refine ks_iadd C d_Row_appendSame_25 ?_
        refine ks_iload_n rfl rfl C d_Row_appendSame_26 ?_
        refine ks_i2b C d_Row_appendSame_27 ?_
        refine ks_bast (ws' := (kw_row K r0 r1 _ _)) C 1 0 rfl rfl (by omega) (by omega) (by rw [pk_vb]; exact h3) rfl d_Row_appendSame_28 ?_
        refine ks_iinc C rfl (z := 1) rfl (by decide) rfl d_Row_appendSame_29 ?_
        refine ks_goto (tgt := 11) C (by decide) d_Row_appendSame_32 ?_
        rw [kv_same_s]
        exact ih (i + 1) (by omega) g2
  refine ks_aload_n rfl rfl C d_Row_appendSame_0 ?_
  refine ks_iload_n rfl rfl C d_Row_appendSame_1 ?_
  refine ks_cx (ci := 0) (q0 := 0) (kw_row K r0 r1 _ _) C (c_Row_hasRoom l D K r0 r1 _ _ _ (by omega) (by omega)) yw_Row_hasRoom sel_Row_hasRoom lk_Row_19 d_Row_appendSame_2 rfl rfl rfl [0, 1] [] [0, 1] rfl rfl rfl rfl (by decide) rfl rfl rfl rfl rfl ⟨by decide, by decide⟩ ⟨by decide, by decide⟩ rfl (Nat.le_of_ble_eq_true rfl) ?_
  refine ks_ifD_ne (tgt := 9) C (by decide) d_Row_appendSame_5 (fun u3 => ?_) (fun u3 => ?_)
  · refine ks_iconst (a := 0) rfl C d_Row_appendSame_9 ?_
    refine ks_istore_n C rfl (by decide) rfl d_Row_appendSame_10 ?_
    have e := loop n 0 (by omega) (by omega)
    rw [kv_same_0] at e
    exact e
  · exact ks_vret C Z rfl d_Row_appendSame_8 rfl rfl ⟨rfl, by rw [if_neg (by omega), if_neg (by omega)]⟩
set_option maxRecDepth 100000 in
set_option maxHeartbeats 4000000 in
theorem c_Row_become (l : Launch) (D : va_G) (K : Nat → ClassId) (r0 r1 q0 q1 : Nat) (R : Nat → UInt8) (len : Nat) (Q : Nat → UInt8) (ql : Nat) (h1 : ql ≤ 8448) : ks_M l D (ks_T K) (ks_R 2) y_Row_become b_Row_become 2 none [.ref r0, .ref q0] (kw_row K r0 r1 R len ++ kw_row K q0 q1 Q ql) (ks_f none (kw_row K r0 r1 (kv_from R 0 Q 8448 0 ql).1 (kv_from R 0 Q 8448 0 ql).2 ++ kw_row K q0 q1 Q ql)) := by
  refine ks_M.of 0 (by decide) (Nat.le_of_ble_eq_true rfl) ?_
  intro E C Z
  refine ks_aload_n rfl rfl C d_Row_become_0 ?_
  refine ks_cv (ci := 0) (q0 := 0) (kw_row K r0 r1 _ _ ++ kw_row K q0 q1 _ _) C (c_Row_clear l D K r0 r1 _ _) yw_Row_clear sel_Row_clear lk_Row_29 d_Row_become_1 rfl rfl rfl [0, 1] [2, 3] [2, 3, 0, 1] rfl rfl rfl rfl (by decide) rfl rfl rfl rfl rfl ⟨by decide, by decide⟩ ⟨by decide, by decide⟩ rfl (Nat.le_of_ble_eq_true rfl) ?_
  refine ks_aload_n rfl rfl C d_Row_become_4 ?_
  refine ks_aload_n rfl rfl C d_Row_become_5 ?_
  refine ks_get (k := 0) C 2 0 in_Row rfl (by decide) fk_Row_9 rfl rfl rfl d_Row_become_6 ?_
  refine ks_iconst (a := 0) rfl C d_Row_become_9 ?_
  refine ks_aload_n rfl rfl C d_Row_become_10 ?_
  refine ks_get (k := 1) C 2 0 in_Row rfl (by decide) fk_Row_15 rfl rfl rfl d_Row_become_11 ?_
  refine ks_cv (ci := 0) (q0 := 0) (kw_row K r0 r1 _ _ ++ kw_row K q0 q1 _ _) C (c_Row_appendFrom l D K r0 r1 q1 _ _ _ _ _ _ (by omega) (by omega) (by omega) (by omega)) yw_Row_appendFrom sel_Row_appendFrom lk_Row_32 d_Row_become_14 rfl rfl rfl [0, 1, 3] [2] [1, 2, 0, 3] rfl rfl rfl rfl (by decide) rfl rfl rfl rfl rfl ⟨by decide, by decide⟩ ⟨by decide, by decide⟩ rfl (Nat.le_of_ble_eq_true rfl) ?_
  exact ks_vret C Z rfl d_Row_become_17 rfl rfl ⟨rfl, rfl⟩
set_option maxRecDepth 100000 in
set_option maxHeartbeats 4000000 in
theorem c_Row_word (l : Launch) (D : va_G) (K : Nat → ClassId) (r0 r1 : Nat) (R : Nat → UInt8) (len : Nat) (a : Nat) (h1 : len ≤ 8448) (h2 : a < 1073741824) : ks_M l D (ks_T K) (ks_R 1) y_Row_word b_Row_word 6 (some .long) [.ref r0, .int (nI a)] (kw_row K r0 r1 R len) (ks_f (some (.long (kv_wordAt R len a))) (kw_row K r0 r1 R len)) := by
  refine ks_M.of 4 (by decide) (Nat.le_of_ble_eq_true rfl) ?_
  intro E C Z
  have loop : ∀ (f : Nat) (i : Nat) (w : Int64), i + f = min len (a + 8) → kv_word R f i w = kv_wordAt R len a → ks_w E D 6 (kw_row K r0 r1 R len) [some (.ref r0), some (.int (nI a)), some (.int (nI (min len (a + 8)))), some (.long w), none, some (.int (nI i))] 0 0 31 [] := by
    intro f
    induction f with
    | zero =>
      intro i w g1 g2
      refine ks_iload rfl C d_Row_word_31 ?_
      refine ks_iload_n rfl rfl C d_Row_word_33 ?_
      refine ks_icmp_ge (tgt := 61) C (by omega) (by omega) (by decide) d_Row_word_34 (fun u1 => ?_) (fun u1 => ?_)
      · refine ks_lload_n rfl rfl C d_Row_word_61 ?_
        exact ks_lret C Z rfl d_Row_word_62 rfl rfl ⟨by rw [← g2]; rfl, rfl⟩
      · exact (by omega : False).elim
    | succ f ih =>
      intro i w g1 g2
      refine ks_iload rfl C d_Row_word_31 ?_
      refine ks_iload_n rfl rfl C d_Row_word_33 ?_
      refine ks_icmp_ge (tgt := 61) C (by omega) (by omega) (by decide) d_Row_word_34 (fun u2 => ?_) (fun u2 => ?_)
      · exact (by omega : False).elim
      · refine ks_lload_n rfl rfl C d_Row_word_37 ?_
        refine ks_bipush (a := 8) rfl C d_Row_word_38 ?_
        refine ks_lshl C d_Row_word_40 ?_
        refine ks_aload_n rfl rfl C d_Row_word_41 ?_
        refine ks_get (k := 0) C 0 0 in_Row rfl (by decide) fk_Row_9 rfl rfl rfl d_Row_word_42 ?_
        refine ks_iload rfl C d_Row_word_45 ?_
        refine ks_bald C 1 0 rfl rfl (by omega) (by omega) d_Row_word_47 d_Row_word_48 d_Row_word_51 ?_
        refine ks_top_byte (fun u3 => ?_)
        refine ks_i2l C d_Row_word_52 ?_
        refine ks_lor C d_Row_word_53 ?_
        refine ks_lstore_n C rfl (by decide) rfl d_Row_word_54 ?_
        refine ks_iinc C rfl (z := 1) rfl (by decide) rfl d_Row_word_55 ?_
        refine ks_goto (tgt := 31) C (by decide) d_Row_word_58 ?_
        exact ih (i + 1) _ (by omega) g2
  refine ks_iload_n rfl rfl C d_Row_word_0 ?_
  refine ks_iflt0 (tgt := 12) C (by omega) d_Row_word_1 (by decide) ?_
  refine ks_iload_n rfl rfl C d_Row_word_4 ?_
  refine ks_aload_n rfl rfl C d_Row_word_5 ?_
  refine ks_get (k := 1) C 0 0 in_Row rfl (by decide) fk_Row_15 rfl rfl rfl d_Row_word_6 ?_
  refine ks_icmp_lt (tgt := 14) C (by omega) (by omega) (by decide) d_Row_word_9 (fun u5 => ?_) (fun u5 => ?_)
  · refine ks_aload_n rfl rfl C d_Row_word_14 ?_
    refine ks_get (k := 1) C 0 0 in_Row rfl (by decide) fk_Row_15 rfl rfl rfl d_Row_word_15 ?_
    refine ks_iload_n rfl rfl C d_Row_word_18 ?_
    refine ks_bipush (a := 8) rfl C d_Row_word_19 ?_
    refine ks_iadd C d_Row_word_21 ?_
    refine ks_min C lk_Row_36 wm_min (by omega) (by omega) (by decide) (Nat.le_of_ble_eq_true rfl) (by decide) (by decide) d_Row_word_22 ?_
    refine ks_istore_n C rfl (by decide) rfl d_Row_word_25 ?_
    refine ks_lconst rfl C d_Row_word_26 ?_
    refine ks_lstore_n C rfl (by decide) rfl d_Row_word_27 ?_
    refine ks_iload_n rfl rfl C d_Row_word_28 ?_
    refine ks_istore C (by decide) rfl d_Row_word_29 ?_
    exact loop (min len (a + 8) - a) a 0 (by omega) (by unfold kv_wordAt; rw [if_pos (by omega)])
  · refine ks_lconst rfl C d_Row_word_12 ?_
    exact ks_lret C Z rfl d_Row_word_13 rfl rfl ⟨by unfold kv_wordAt; rw [if_neg (by omega)]; rfl, rfl⟩
set_option maxRecDepth 100000 in
set_option maxHeartbeats 4000000 in
theorem c_Row_difference (l : Launch) (D : va_G) (K : Nat → ClassId) (r0 r1 o0 : Nat) (R : Nat → UInt8) (len : Nat) (O : Nat → UInt8) (ol s n a : Nat) (h1 : len ≤ 8448) (h2 : s < 1073741824) (h3 : n < 1073741824) (h4 : a < 1073741824) (h5 : ol < 1073741824) : ks_M l D (ks_T K) (ks_R 0) y_Row_difference b_Row_difference 7 (some .int) [.ref r0, .int (nI s), .int (nI n), .ref o0, .int (nI a)] (kw_row K r0 r1 R len ++ kw_arr K o0 ol O) (ks_f (some (.int (Int32.ofInt (kv_diff R len s n O ol a)))) (kw_row K r0 r1 R len ++ kw_arr K o0 ol O)) := by
  refine ks_M.of 2 (by decide) (Nat.le_of_ble_eq_true rfl) ?_
  intro E C Z
  have loop : ∀ (f : Nat) (i : Nat), i + f = n → s + n ≤ len → a + n ≤ ol → kv_dif R s O a f i = kv_diff R len s n O ol a → ks_w E D 7 (kw_row K r0 r1 R len ++ kw_arr K o0 ol O) [some (.ref r0), some (.int (nI s)), some (.int (nI n)), some (.ref o0), some (.int (nI a)), some (.int (nI i)), none] 0 0 33 [] := by
    intro f
    induction f with
    | zero =>
      intro i g1 g2 g3 g4
      refine ks_iload rfl C d_Row_difference_33 ?_
      refine ks_iload_n rfl rfl C d_Row_difference_35 ?_
      refine ks_icmp_ge (tgt := 80) C (by omega) (by omega) (by decide) d_Row_difference_36 (fun u1 => ?_) (fun u1 => ?_)
      · refine ks_iconst (a := 0) rfl C d_Row_difference_80 ?_
        exact ks_iret C Z rfl rfl d_Row_difference_81 rfl rfl ⟨by rw [← g4]; rfl, rfl⟩
      · exact (by omega : False).elim
    | succ f ih =>
      intro i g1 g2 g3 g4
      refine ks_iload rfl C d_Row_difference_33 ?_
      refine ks_iload_n rfl rfl C d_Row_difference_35 ?_
      refine ks_icmp_ge (tgt := 80) C (by omega) (by omega) (by decide) d_Row_difference_36 (fun u2 => ?_) (fun u2 => ?_)
      · exact (by omega : False).elim
      · refine ks_aload_n rfl rfl C d_Row_difference_39 ?_
        refine ks_get (k := 0) C 0 0 in_Row rfl (by decide) fk_Row_9 rfl rfl rfl d_Row_difference_40 ?_
        refine ks_iload_n rfl rfl C d_Row_difference_43 ?_
        refine ks_iload rfl C d_Row_difference_44 ?_
        refine ks_iadd C d_Row_difference_46 ?_
        refine ks_bald C 1 0 rfl rfl (by omega) (by omega) d_Row_difference_47 d_Row_difference_48 d_Row_difference_51 ?_
        refine ks_top_byte (fun u3 => ?_)
        refine ks_aload_n rfl rfl C d_Row_difference_52 ?_
        refine ks_iload rfl C d_Row_difference_53 ?_
        refine ks_iload rfl C d_Row_difference_55 ?_
        refine ks_iadd C d_Row_difference_57 ?_
        refine ks_bald C 2 0 rfl rfl (by omega) (by omega) d_Row_difference_58 d_Row_difference_59 d_Row_difference_62 ?_
        refine ks_top_byte (fun u4 => ?_)
        refine ks_isubZ C d_Row_difference_63 ?_
        refine ks_istore C (by decide) rfl d_Row_difference_64 ?_
        refine ks_iload rfl C d_Row_difference_66 ?_
        refine ks_ifZ_eq (tgt := 74) C (by omega) (by omega) (by decide) d_Row_difference_68 (fun u5 => ?_) (fun u5 => ?_)
        · refine ks_iinc C rfl (z := 1) rfl (by decide) rfl d_Row_difference_74 ?_
          refine ks_goto (tgt := 33) C (by decide) d_Row_difference_77 ?_
          refine ks_forget 6 ?_
          exact ih (i + 1) (by omega) g2 g3 (by rw [← g4, kv_dif, if_pos (by omega)])
        · refine ks_iload rfl C d_Row_difference_71 ?_
          exact ks_iret C Z rfl rfl d_Row_difference_73 rfl rfl ⟨by rw [← g4, kv_dif, if_neg (by omega)], rfl⟩
  refine ks_iload_n rfl rfl C d_Row_difference_0 ?_
  refine ks_iflt0 (tgt := 28) C (by omega) d_Row_difference_1 (by decide) ?_
  refine ks_iload_n rfl rfl C d_Row_difference_4 ?_
  refine ks_aload_n rfl rfl C d_Row_difference_5 ?_
  refine ks_get (k := 1) C 0 0 in_Row rfl (by decide) fk_Row_15 rfl rfl rfl d_Row_difference_6 ?_
  refine ks_iload_n rfl rfl C d_Row_difference_9 ?_
  refine ks_isubI C d_Row_difference_10 ?_
  refine ks_icmpS_gt (tgt := 28) C (by omega) (by omega) (by omega) (by decide) d_Row_difference_11 (fun u7 => ?_) (fun u7 => ?_)
  · refine ks_iconst (a := 0) rfl C d_Row_difference_28 ?_
    exact ks_iret C Z rfl rfl d_Row_difference_29 rfl rfl ⟨by rw [kv_diff, if_neg (by omega)]; rfl, rfl⟩
  · refine ks_iload rfl C d_Row_difference_14 ?_
    refine ks_iflt0 (tgt := 28) C (by omega) d_Row_difference_16 (by decide) ?_
    refine ks_iload rfl C d_Row_difference_19 ?_
    refine ks_aload_n rfl rfl C d_Row_difference_21 ?_
    refine ks_alen C 2 0 rfl rfl d_Row_difference_22 ?_
    refine ks_iload_n rfl rfl C d_Row_difference_23 ?_
    refine ks_isubI C d_Row_difference_24 ?_
    refine ks_icmpS_le (tgt := 30) C (by omega) (by omega) (by omega) (by decide) d_Row_difference_25 (fun u9 => ?_) (fun u9 => ?_)
    · refine ks_iconst (a := 0) rfl C d_Row_difference_30 ?_
      refine ks_istore C (by decide) rfl d_Row_difference_31 ?_
      exact loop n 0 (by omega) (by omega) (by omega) (by unfold kv_diff; rw [if_pos (by omega)])
    · refine ks_iconst (a := 0) rfl C d_Row_difference_28 ?_
      exact ks_iret C Z rfl rfl d_Row_difference_29 rfl rfl ⟨by rw [kv_diff, if_neg (by omega)]; rfl, rfl⟩
set_option maxRecDepth 100000 in
set_option maxHeartbeats 4000000 in
theorem c_Pages_forgetChanges (l : Launch) (D : va_G) (K : Nat → ClassId) (x0 x1 x2 : Nat) (B : Nat → UInt8) (G : Nat → Bool) : ks_M l D (ks_T K) (ks_R 0) y_Pages_forgetChanges b_Pages_forgetChanges 2 none [.ref x0] (kw_pages K x0 x1 x2 B G) (ks_f none (kw_pages K x0 x1 x2 B (kv_clr G 2720))) := by
  refine ks_M.of 1 (by decide) (Nat.le_of_ble_eq_true rfl) ?_
  intro E C Z
  have loop : ∀ (f : Nat) (i : Nat), i + f = 2720 → ks_w E D 2 (kw_pages K x0 x1 x2 B (kv_clr G i)) [some (.ref x0), some (.int (nI i))] 0 0 2 [] := by
    intro f
    induction f with
    | zero =>
      intro i g1
      refine ks_iload_n rfl rfl C d_Pages_forgetChanges_2 ?_
      refine ks_sipush (a := 2720) rfl C d_Pages_forgetChanges_3 ?_
      refine ks_icmp_ge (tgt := 22) C (by omega) (by omega) (by decide) d_Pages_forgetChanges_6 (fun u1 => ?_) (fun u1 => ?_)
      · exact ks_vret C Z rfl d_Pages_forgetChanges_22 rfl rfl ⟨rfl, by rw [show i = 2720 by omega]⟩
      · exact (by omega : False).elim
    | succ f ih =>
      intro i g1
      refine ks_iload_n rfl rfl C d_Pages_forgetChanges_2 ?_
      refine ks_sipush (a := 2720) rfl C d_Pages_forgetChanges_3 ?_
      refine ks_icmp_ge (tgt := 22) C (by omega) (by omega) (by decide) d_Pages_forgetChanges_6 (fun u2 => ?_) (fun u2 => ?_)
      · exact (by omega : False).elim
      · refine ks_aload_n rfl rfl C d_Pages_forgetChanges_9 ?_
        refine ks_get (k := 1) C 0 1 in_Pages rfl (by decide) fk_Pages_16 rfl rfl rfl d_Pages_forgetChanges_10 ?_
        refine ks_iload_n rfl rfl C d_Pages_forgetChanges_13 ?_
        refine ks_iconstB false rfl C d_Pages_forgetChanges_14 ?_
        refine ks_zast (ws' := (kw_pages K x0 x1 x2 _ _)) C 2 1 rfl rfl (by omega) (by omega) (ks_nz _) rfl d_Pages_forgetChanges_15 ?_
        refine ks_iinc C rfl (z := 1) rfl (by decide) rfl d_Pages_forgetChanges_16 ?_
        refine ks_goto (tgt := 2) C (by decide) d_Pages_forgetChanges_19 ?_
        rw [kv_clr_s]
        exact ih (i + 1) (by omega)
  refine ks_iconst (a := 0) rfl C d_Pages_forgetChanges_0 ?_
  refine ks_istore_n C rfl (by decide) rfl d_Pages_forgetChanges_1 ?_
  have e := loop 2720 0 (by omega)
  rw [kv_clr_0] at e
  exact e
set_option maxRecDepth 100000 in
set_option maxHeartbeats 4000000 in
theorem c_Pages_undoChanges (l : Launch) (D : va_G) (K : Nat → ClassId) (x0 x1 x2 : Nat) (B : Nat → UInt8) (G : Nat → Bool) (f0 : Nat) (F : Nat → UInt8) : ks_M l D (ks_T K) (ks_R 1) y_Pages_undoChanges b_Pages_undoChanges 3 none [.ref x0, .ref f0] (kw_pages K x0 x1 x2 B G ++ kw_arr K f0 87040 F) (ks_f none (kw_pages K x0 x1 x2 (kv_undo B G F 2720) (kv_clr G 2720) ++ kw_arr K f0 87040 F)) := by
  refine ks_M.of 1 (by decide) (Nat.le_of_ble_eq_true rfl) ?_
  intro E C Z
  have loop : ∀ (f : Nat) (i : Nat), i + f = 2720 → ks_w E D 3 (kw_pages K x0 x1 x2 (kv_undo B G F i) (kv_clr G i) ++ kw_arr K f0 87040 F) [some (.ref x0), some (.ref f0), some (.int (nI i))] 0 0 2 [] := by
    intro f
    induction f with
    | zero =>
      intro i g1
      refine ks_iload_n rfl rfl C d_Pages_undoChanges_2 ?_
      refine ks_sipush (a := 2720) rfl C d_Pages_undoChanges_3 ?_
      refine ks_icmp_ge (tgt := 49) C (by omega) (by omega) (by decide) d_Pages_undoChanges_6 (fun u1 => ?_) (fun u1 => ?_)
      · exact ks_vret C Z rfl d_Pages_undoChanges_49 rfl rfl ⟨rfl, by rw [show i = 2720 by omega]⟩
      · exact (by omega : False).elim
    | succ f ih =>
      intro i g1
      refine ks_iload_n rfl rfl C d_Pages_undoChanges_2 ?_
      refine ks_sipush (a := 2720) rfl C d_Pages_undoChanges_3 ?_
      refine ks_icmp_ge (tgt := 49) C (by omega) (by omega) (by decide) d_Pages_undoChanges_6 (fun u2 => ?_) (fun u2 => ?_)
      · exact (by omega : False).elim
      · refine ks_aload_n rfl rfl C d_Pages_undoChanges_9 ?_
        refine ks_get (k := 1) C 0 1 in_Pages rfl (by decide) fk_Pages_16 rfl rfl rfl d_Pages_undoChanges_10 ?_
        refine ks_iload_n rfl rfl C d_Pages_undoChanges_13 ?_
        refine ks_zald C 2 1 rfl rfl (by omega) (by omega) d_Pages_undoChanges_14 ?_
        refine ks_ifB_eq (tgt := 43) C (by decide) d_Pages_undoChanges_15 (fun u3 => ?_) (fun u3 => ?_)
        · refine ks_iinc C rfl (z := 1) rfl (by decide) rfl d_Pages_undoChanges_43 ?_
          refine ks_goto (tgt := 2) C (by decide) d_Pages_undoChanges_46 ?_
          first | (rw [kv_clr_at] at u3; rw [kv_clr_s, kv_undo_s B G F i u3]; exact ih (i + 1) (by omega)) | (rw [kv_clr_at] at u3; rw [kv_clr_n G i u3, kv_undo_n B G F i u3]; exact ih (i + 1) (by omega))
        · refine ks_aload_n rfl rfl C d_Pages_undoChanges_18 ?_
          refine ks_iload_n rfl rfl C d_Pages_undoChanges_19 ?_
          refine ks_bipush (a := 32) rfl C d_Pages_undoChanges_20 ?_
          refine ks_imul C d_Pages_undoChanges_22 ?_
          refine ks_aload_n rfl rfl C d_Pages_undoChanges_23 ?_
          refine ks_get (k := 0) C 0 1 in_Pages rfl (by decide) fk_Pages_10 rfl rfl rfl d_Pages_undoChanges_24 ?_
          refine ks_iload_n rfl rfl C d_Pages_undoChanges_27 ?_
          refine ks_bipush (a := 32) rfl C d_Pages_undoChanges_28 ?_
          refine ks_imul C d_Pages_undoChanges_30 ?_
          refine ks_bipush (a := 32) rfl C d_Pages_undoChanges_31 ?_
          refine ks_copy (ws' := (kw_pages K x0 x1 x2 _ _ ++ kw_arr K f0 87040 _)) C 3 1 0 rfl lk_Pages_20 wm_copy rfl rfl (by omega) (by omega) (by omega) (by omega) (by decide) (Nat.le_of_ble_eq_true rfl) rfl d_Pages_undoChanges_33 ?_
          refine ks_aload_n rfl rfl C d_Pages_undoChanges_36 ?_
          refine ks_get (k := 1) C 0 1 in_Pages rfl (by decide) fk_Pages_16 rfl rfl rfl d_Pages_undoChanges_37 ?_
          refine ks_iload_n rfl rfl C d_Pages_undoChanges_40 ?_
          refine ks_iconstB false rfl C d_Pages_undoChanges_41 ?_
          refine ks_zast (ws' := (kw_pages K x0 x1 x2 _ _ ++ kw_arr K f0 87040 _)) C 2 1 rfl rfl (by omega) (by omega) (ks_nz _) rfl d_Pages_undoChanges_42 ?_
          refine ks_iinc C rfl (z := 1) rfl (by decide) rfl d_Pages_undoChanges_43 ?_
          refine ks_goto (tgt := 2) C (by decide) d_Pages_undoChanges_46 ?_
          first | (rw [kv_clr_at] at u3; rw [kv_clr_s, kv_undo_s B G F i u3]; exact ih (i + 1) (by omega)) | (rw [kv_clr_at] at u3; rw [kv_clr_n G i u3, kv_undo_n B G F i u3]; exact ih (i + 1) (by omega))
  refine ks_iconst (a := 0) rfl C d_Pages_undoChanges_0 ?_
  refine ks_istore_n C rfl (by decide) rfl d_Pages_undoChanges_1 ?_
  have e := loop 2720 0 (by omega)
  rw [kv_clr_0, kv_undo_0] at e
  exact e
