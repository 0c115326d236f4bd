/-! the store's calls: rows, words, trees -/
section KSQ
variable {E : ks_E} {l0 : Launch} {D : va_G} {tys : List (ClassId × FieldType)} {R0 : Room} {cc : ByteArray} {nL : Nat} {own : String} {ws : va_W} {lo : List (Option Value)} {cs ss pc : Nat} {st : List Value}
theorem ks_tsIn {a len : Nat} {dflt hi off : Int} {offs : Array Int} {tgt : Nat} (C : ks_ok E l0 D tys R0 cc nL own) (ha : a < 2 ^ 31) (hh : (a : Int) ≤ hi) (ho : offs[a]? = some off) (ht : (pc : Int) + off = (tgt : Int)) (hd : decode cc pc = .ok (.tableswitch dflt 0 hi offs, len)) (k : ks_w E D nL ws lo cs ss tgt st) : ks_w E D nL ws lo cs ss pc (.int (nI a) :: st) := by
  obtain ⟨p, l, e, R, s, m, args, below, meth, c, Q, A⟩ := E
  obtain ⟨-, -, hx, hb, hml, hown, hts, hK, hA, hlocks, hNw⟩ := C
  intro H locs ls hP hD hS hl
  have ea := nI_toInt ha
  exact lv_tableIn hx hb hd (by rw [ea]; omega) (by rw [ea]; omega) (by rw [ea, Int.sub_zero, Int.toNat_natCast]; exact ho) ht (k H locs ls hP hD hS hl)
theorem ks_tsOut {a len : Nat} {dflt hi : Int} {offs : Array Int} {tgt : Nat} (C : ks_ok E l0 D tys R0 cc nL own) (ha : a < 2 ^ 31) (hh : hi < (a : Int)) (ht : (pc : Int) + dflt = (tgt : Int)) (hd : decode cc pc = .ok (.tableswitch dflt 0 hi offs, len)) (k : ks_w E D nL ws lo cs ss tgt st) : ks_w E D nL ws lo cs ss pc (.int (nI a) :: st) := by
  obtain ⟨p, l, e, R, s, m, args, below, meth, c, Q, A⟩ := E
  obtain ⟨-, -, hx, hb, hml, hown, hts, hK, hA, hlocks, hNw⟩ := C
  intro H locs ls hP hD hS hl
  have ea := nI_toInt ha
  exact lv_tableOut hx hb hd (.inr (by rw [ea]; omega)) ht (k H locs ls hP hD hS hl)
end KSQ
theorem ks_as3 {a b c : Nat} (h : c ≤ a + b) : nI a + (nI b - nI c) = nI (a + b - c) := by
  rw [← pk_sub h]
  have e : nI (a + b) = nI a + nI b := Int32.ofNat_add a b
  rw [e]
  apply Int32.toBitVec_inj.mp
  rw [Int32.toBitVec_add, Int32.toBitVec_sub, Int32.toBitVec_sub, Int32.toBitVec_add, BitVec.sub_eq_add_neg, BitVec.sub_eq_add_neg, BitVec.add_assoc]
set_option maxRecDepth 100000 in
set_option maxHeartbeats 4000000 in
theorem c_Trees_hasR (l : Launch) (D : va_G) (K : Nat → ClassId) (t0 t1 t2 n0 n1 c0 x0 x1 x2 pg ca top : Nat) (pn ps P : Nat → Nat) (B : Nat → UInt8) (G : Nat → Bool) (t : Nat) (h1 : t < 4294967296) : ks_M l D (ks_T K) (ks_R 2) y_Trees_has b_Trees_has 2 (some .boolean) [.ref t0, .int (nI t)] (kw_trees K t0 t1 t2 x0 n0 c0 pn ps top ++ kw_nodes K n0 n1 x0 P ++ kw_chains c0 x0 pg ca ++ kw_pages K x0 x1 x2 B G) (ks_f (some (.int (ks_b (kv_has B t)))) (kw_trees K t0 t1 t2 x0 n0 c0 pn ps top ++ kw_nodes K n0 n1 x0 P ++ kw_chains c0 x0 pg ca ++ kw_pages K x0 x1 x2 B G)) := by
  refine ks_M.of 0 (by decide) (Nat.le_of_ble_eq_true rfl) ?_
  intro E C Z
  refine ks_iload_n rfl rfl C d_Trees_has_0 ?_
  refine ks_ifR_lt (tgt := 22) C (by omega) (by decide) d_Trees_has_1 (fun u1 => ?_) (fun u1 => ?_)
  · refine ks_iconstB false rfl C d_Trees_has_22 ?_
    exact ks_iret C Z rfl (ks_nb1 _) d_Trees_has_23 rfl rfl ⟨ks_eqB (by unfold kv_has; rw [decide_eq_false (by omega)]; rfl), rfl⟩
  · refine ks_iload_n rfl rfl C d_Trees_has_4 ?_
    refine ks_bipush (a := 64) rfl C d_Trees_has_5 ?_
    refine ks_icmpR_ge (tgt := 22) C (by omega) (by omega) (by decide) d_Trees_has_7 (fun u2 => ?_) (fun u2 => ?_)
    · refine ks_iconstB false rfl C d_Trees_has_22 ?_
      exact ks_iret C Z rfl (ks_nb1 _) d_Trees_has_23 rfl rfl ⟨ks_eqB (by unfold kv_has; rw [decide_eq_false (by omega)]; rfl), rfl⟩
    · refine ks_aload_n rfl rfl C d_Trees_has_10 ?_
      refine ks_iload_n rfl rfl C d_Trees_has_11 ?_
      refine ks_cxW (ci := 6) (q0 := 0) (kw_trees K t0 t1 t2 x0 n0 c0 _ _ _ ++ kw_nodes K n0 n1 x0 _ ++ kw_chains c0 x0 _ _ ++ kw_pages K x0 x1 x2 _ _) ([] : va_W) C (c_Trees_root l D K t0 t1 t2 n0 n1 c0 x0 x1 x2 _ _ _ _ _ _ _ _ _ (by omega)) yw_Trees_root sel_Trees_root lk_Trees_36 d_Trees_has_12 rfl rfl rfl [0, 1, 2, 3, 4, 5, 6, 7, 8] [] [0, 1, 2, 3, 4, 5, 6, 7, 8] rfl rfl rfl rfl (by decide) rfl rfl rfl rfl rfl ⟨by decide, by decide⟩ ⟨by decide, by decide⟩ rfl (Nat.le_of_ble_eq_true rfl) ?_
      refine ks_top_root (fun u3 => ?_)
      refine ks_if_eq (tgt := 22) C (by omega) (by decide) d_Trees_has_15 (fun u4 => ?_) (fun u4 => ?_)
      · refine ks_iconstB false rfl C d_Trees_has_22 ?_
        exact ks_iret C Z rfl (ks_nb1 _) d_Trees_has_23 rfl rfl ⟨ks_eqB (by unfold kv_has; rw [decide_eq_false (p := kv_root B t ≠ 0) (by omega), Bool.and_false]), rfl⟩
      · refine ks_iconstB true rfl C d_Trees_has_18 ?_
        refine ks_goto (tgt := 23) C (by decide) d_Trees_has_19 ?_
        exact ks_iret C Z rfl (ks_nb1 _) d_Trees_has_23 rfl rfl ⟨ks_eqB (by unfold kv_has; rw [decide_eq_true (by omega), decide_eq_true (by omega)]; rfl), rfl⟩
set_option maxRecDepth 100000 in
set_option maxHeartbeats 4000000 in
theorem c_Row_wordR (l : Launch) (D : va_G) (K : Nat → ClassId) (r0 r1 : Nat) (R : Nat → UInt8) (len : Nat) (a : Nat) (h1 : len ≤ 8448) (h2 : a < 4294967296) : ks_M l D (ks_T K) (ks_R 1) y_Row_word b_Row_word 6 (some .long) [.ref r0, .int (nI a)] (kw_row K r0 r1 R len) (ks_f (some (.long (kv_wordAt R len a))) (kw_row K r0 r1 R len)) := by
  refine ks_M.of 4 (by decide) (Nat.le_of_ble_eq_true rfl) ?_
  intro E C Z
  have loop : ∀ (f : Nat) (i : Nat) (w : Int64), i + f = min len (a + 8) → kv_word R f i w = kv_wordAt R len a → ks_w E D 6 (kw_row K r0 r1 R len) [some (.ref r0), some (.int (nI a)), some (.int (nI (min len (a + 8)))), some (.long w), none, some (.int (nI i))] 0 0 31 [] := by
    intro f
    induction f with
    | zero =>
      intro i w g1 g2
      refine ks_iload rfl C d_Row_word_31 ?_
      refine ks_iload_n rfl rfl C d_Row_word_33 ?_
      refine ks_icmp_ge (tgt := 61) C (by omega) (by omega) (by decide) d_Row_word_34 (fun u1 => ?_) (fun u1 => ?_)
      · refine ks_lload_n rfl rfl C d_Row_word_61 ?_
        exact ks_lret C Z rfl d_Row_word_62 rfl rfl ⟨by rw [← g2]; rfl, rfl⟩
      · exact (by omega : False).elim
    | succ f ih =>
      intro i w g1 g2
      refine ks_iload rfl C d_Row_word_31 ?_
      refine ks_iload_n rfl rfl C d_Row_word_33 ?_
      refine ks_icmp_ge (tgt := 61) C (by omega) (by omega) (by decide) d_Row_word_34 (fun u2 => ?_) (fun u2 => ?_)
      · exact (by omega : False).elim
      · refine ks_lload_n rfl rfl C d_Row_word_37 ?_
        refine ks_bipush (a := 8) rfl C d_Row_word_38 ?_
        refine ks_lshl C d_Row_word_40 ?_
        refine ks_aload_n rfl rfl C d_Row_word_41 ?_
        refine ks_get (k := 0) C 0 0 in_Row rfl (by decide) fk_Row_9 rfl rfl rfl d_Row_word_42 ?_
        refine ks_iload rfl C d_Row_word_45 ?_
        refine ks_bald C 1 0 rfl rfl (by omega) (by omega) d_Row_word_47 d_Row_word_48 d_Row_word_51 ?_
        refine ks_top_byte (fun u3 => ?_)
        refine ks_i2l C d_Row_word_52 ?_
        refine ks_lor C d_Row_word_53 ?_
        refine ks_lstore_n C rfl (by decide) rfl d_Row_word_54 ?_
        refine ks_iinc C rfl (z := 1) rfl (by decide) rfl d_Row_word_55 ?_
        refine ks_goto (tgt := 31) C (by decide) d_Row_word_58 ?_
        exact ih (i + 1) _ (by omega) g2
  refine ks_iload_n rfl rfl C d_Row_word_0 ?_
  refine ks_ifR_lt (tgt := 12) C (by omega) (by decide) d_Row_word_1 (fun u4 => ?_) (fun u4 => ?_)
  · refine ks_lconst rfl C d_Row_word_12 ?_
    exact ks_lret C Z rfl d_Row_word_13 rfl rfl ⟨by unfold kv_wordAt; rw [if_neg (by omega)]; rfl, rfl⟩
  · refine ks_iload_n rfl rfl C d_Row_word_4 ?_
    refine ks_aload_n rfl rfl C d_Row_word_5 ?_
    refine ks_get (k := 1) C 0 0 in_Row rfl (by decide) fk_Row_15 rfl rfl rfl d_Row_word_6 ?_
    refine ks_icmpR_lt (tgt := 14) C (by omega) (by omega) (by decide) d_Row_word_9 (fun u5 => ?_) (fun u5 => ?_)
    · refine ks_aload_n rfl rfl C d_Row_word_14 ?_
      refine ks_get (k := 1) C 0 0 in_Row rfl (by decide) fk_Row_15 rfl rfl rfl d_Row_word_15 ?_
      refine ks_iload_n rfl rfl C d_Row_word_18 ?_
      refine ks_bipush (a := 8) rfl C d_Row_word_19 ?_
      refine ks_iadd C d_Row_word_21 ?_
      refine ks_min C lk_Row_36 wm_min (by omega) (by omega) (by decide) (Nat.le_of_ble_eq_true rfl) (by decide) (by decide) d_Row_word_22 ?_
      refine ks_istore_n C rfl (by decide) rfl d_Row_word_25 ?_
      refine ks_lconst rfl C d_Row_word_26 ?_
      refine ks_lstore_n C rfl (by decide) rfl d_Row_word_27 ?_
      refine ks_iload_n rfl rfl C d_Row_word_28 ?_
      refine ks_istore C (by decide) rfl d_Row_word_29 ?_
      exact loop (min len (a + 8) - a) a 0 (by omega) (by unfold kv_wordAt; rw [if_pos (by omega)])
    · refine ks_lconst rfl C d_Row_word_12 ?_
      exact ks_lret C Z rfl d_Row_word_13 rfl rfl ⟨by unfold kv_wordAt; rw [if_neg (by omega)]; rfl, rfl⟩
set_option maxRecDepth 100000 in
set_option maxHeartbeats 4000000 in
theorem c_Store_demandTree_ok (l : Launch) (D : va_G) (K : Nat → ClassId) (z0 tk0 tv0 gk0 gv0 d0 x0 m0 c0 t0 k0 : Nat) (fnd on opn : Bool) (t1 t2 n0 n1 x1 x2 pg ca top : Nat) (pn ps P : Nat → Nat) (B : Nat → UInt8) (G : Nat → Bool) (t : Nat) (h1 : kv_has B t = true) (h0 : t < 4294967296) : ks_M l D (ks_T K) (ks_R 3) y_Store_demandTree b_Store_demandTree 2 none [.ref z0, .int (nI t)] (kw_store z0 tk0 tv0 gk0 gv0 d0 x0 m0 c0 t0 k0 fnd on opn ++ kw_trees K t0 t1 t2 x0 n0 c0 pn ps top ++ kw_nodes K n0 n1 x0 P ++ kw_chains c0 x0 pg ca ++ kw_pages K x0 x1 x2 B G) (ks_f none (kw_store z0 tk0 tv0 gk0 gv0 d0 x0 m0 c0 t0 k0 fnd on opn ++ kw_trees K t0 t1 t2 x0 n0 c0 pn ps top ++ kw_nodes K n0 n1 x0 P ++ kw_chains c0 x0 pg ca ++ kw_pages K x0 x1 x2 B G)) := by
  refine ks_M.of 0 (by decide) (Nat.le_of_ble_eq_true rfl) ?_
  intro E C Z
  refine ks_aload_n rfl rfl C d_Store_demandTree_0 ?_
  refine ks_get (k := 8) C 0 8 in_Store rfl (by decide) fk_Store_63 rfl rfl rfl d_Store_demandTree_1 ?_
  refine ks_iload_n rfl rfl C d_Store_demandTree_4 ?_
  refine ks_cxW (ci := 6) (q0 := 0) (kw_store z0 tk0 tv0 gk0 gv0 d0 x0 m0 c0 t0 k0 _ _ _ ++ kw_trees K t0 t1 t2 x0 n0 c0 _ _ _ ++ kw_nodes K n0 n1 x0 _ ++ kw_chains c0 x0 _ _ ++ kw_pages K x0 x1 x2 _ _) (kw_store z0 tk0 tv0 gk0 gv0 d0 x0 m0 c0 t0 k0 _ _ _) C (c_Trees_hasR l D K t0 t1 t2 n0 n1 c0 x0 x1 x2 _ _ _ _ _ _ _ _ _ (by omega)) yw_Trees_has sel_Trees_has lk_Store_239 d_Store_demandTree_5 rfl rfl rfl [1, 2, 3, 4, 5, 6, 7, 8, 9] [0] [0, 1, 2, 3, 4, 5, 6, 7, 8, 9] rfl rfl rfl rfl (by decide) rfl rfl rfl rfl rfl ⟨by decide, by decide⟩ ⟨by decide, by decide⟩ rfl (Nat.le_of_ble_eq_true rfl) ?_
  refine ks_ifB_ne (tgt := 22) C (by decide) d_Store_demandTree_8 (fun u1 => ?_) (fun u1 => ?_)
  · exact ks_vret C Z rfl d_Store_demandTree_22 rfl rfl ⟨rfl, rfl⟩
  · exact absurd (h1.symm.trans u1) (by decide)
set_option maxRecDepth 100000 in
set_option maxHeartbeats 4000000 in
theorem c_Store_demandTree_T (l : Launch) (hNT : l.stackTraces = false) (D : va_G) (K : Nat → ClassId) (z0 tk0 tv0 gk0 gv0 d0 x0 m0 c0 t0 k0 : Nat) (fnd on opn : Bool) (t1 t2 n0 n1 x1 x2 pg ca top : Nat) (pn ps P : Nat → Nat) (B : Nat → UInt8) (G : Nat → Bool) (t : Nat) (h1 : kv_has B t = false) (h0 : t < 4294967296) : kt_M l D (ks_T K) (kt_R 6) y_Store_demandTree b_Store_demandTree 2 none [.ref z0, .int (nI t)] (kw_store z0 tk0 tv0 gk0 gv0 d0 x0 m0 c0 t0 k0 fnd on opn ++ kw_trees K t0 t1 t2 x0 n0 c0 pn ps top ++ kw_nodes K n0 n1 x0 P ++ kw_chains c0 x0 pg ca ++ kw_pages K x0 x1 x2 B G) "java/util/NoSuchElementException" (kw_store z0 tk0 tv0 gk0 gv0 d0 x0 m0 c0 t0 k0 fnd on opn ++ kw_trees K t0 t1 t2 x0 n0 c0 pn ps top ++ kw_nodes K n0 n1 x0 P ++ kw_chains c0 x0 pg ca ++ kw_pages K x0 x1 x2 B G) := by
  refine kt_M.of hNT 0 (by decide) (Nat.le_of_ble_eq_true rfl) ?_
  intro E C Kt Z
  refine ks_aload_n rfl rfl C d_Store_demandTree_0 ?_
  refine ks_get (k := 8) C 0 8 in_Store rfl (by decide) fk_Store_63 rfl rfl rfl d_Store_demandTree_1 ?_
  refine ks_iload_n rfl rfl C d_Store_demandTree_4 ?_
  refine ks_cxW (ci := 6) (q0 := 0) (kw_store z0 tk0 tv0 gk0 gv0 d0 x0 m0 c0 t0 k0 _ _ _ ++ kw_trees K t0 t1 t2 x0 n0 c0 _ _ _ ++ kw_nodes K n0 n1 x0 _ ++ kw_chains c0 x0 _ _ ++ kw_pages K x0 x1 x2 _ _) (kw_store z0 tk0 tv0 gk0 gv0 d0 x0 m0 c0 t0 k0 _ _ _) C (c_Trees_hasR l D K t0 t1 t2 n0 n1 c0 x0 x1 x2 _ _ _ _ _ _ _ _ _ (by omega)) yw_Trees_has sel_Trees_has lk_Store_239 d_Store_demandTree_5 rfl rfl rfl [1, 2, 3, 4, 5, 6, 7, 8, 9] [0] [0, 1, 2, 3, 4, 5, 6, 7, 8, 9] rfl rfl rfl rfl (by decide) rfl rfl rfl rfl rfl ⟨by decide, by decide⟩ ⟨by decide, by decide⟩ rfl (Nat.le_of_ble_eq_true rfl) ?_
  refine ks_ifB_ne (tgt := 22) C (by decide) d_Store_demandTree_8 (fun u1 => ?_) (fun u1 => ?_)
  · exact absurd (h1.symm.trans u1) (by decide)
  · exact ks_throwXW (ix := 13) (rx := prog_22_method_4_code) (by decide +kernel) (by decide +kernel) (by decide +kernel) (by decide +kernel) (names := kt_n2) C Kt Z (by decide +kernel) (by decide +kernel) (kt_site kt_wNSE kt_s266) d_Store_demandTree_11 d_Store_demandTree_14 d_Store_demandTree_15 d_Store_demandTree_18 d_Store_demandTree_21 (by decide) (by decide) (by decide) (by decide) rfl rfl rfl
set_option maxRecDepth 100000 in
set_option maxHeartbeats 4000000 in
theorem c_Store_key_ok (l : Launch) (D : va_G) (K : Nat → ClassId) (z0 tk0 tv0 gk0 gv0 d0 x0 m0 c0 t0 k0 : Nat) (fnd opn : Bool) (tk1 : Nat) (Kb : Nat → UInt8) (kl : Nat) (w : Int64) (n : Nat) (h1 : kl ≤ 8448) (h2 : n ≤ 8) (h3 : kl + n ≤ 8448) : ks_M l D (ks_T K) (ks_R 3) y_Store_key b_Store_key 4 (some .int) [.ref z0, .long w, .int (nI n)] (kw_store z0 tk0 tv0 gk0 gv0 d0 x0 m0 c0 t0 k0 fnd true opn ++ kw_row K tk0 tk1 Kb kl) (ks_f (some (.int (nI ((kv_app w n Kb (if n = 0 then 0 else kl)).2)))) (kw_store z0 tk0 tv0 gk0 gv0 d0 x0 m0 c0 t0 k0 fnd true opn ++ kw_row K tk0 tk1 (kv_app w n Kb (if n = 0 then 0 else kl)).1 (kv_app w n Kb (if n = 0 then 0 else kl)).2)) := by
  refine ks_M.of 0 (by decide) (Nat.le_of_ble_eq_true rfl) ?_
  intro E C Z
  refine ks_aload_n rfl rfl C d_Store_key_0 ?_
  refine ks_aload_n rfl rfl C d_Store_key_1 ?_
  refine ks_get (k := 0) C 0 8 in_Store rfl (by decide) fk_Store_12 rfl rfl rfl d_Store_key_2 ?_
  refine ks_lload_n rfl rfl C d_Store_key_5 ?_
  refine ks_iload_n rfl rfl C d_Store_key_6 ?_
  refine ks_cxW (ci := 8) (q0 := 0) (kw_store z0 tk0 tv0 gk0 gv0 d0 x0 m0 c0 t0 k0 _ _ _ ++ kw_row K tk0 tk1 _ _) ([] : va_W) C (c_Store_appendWord_ok l D K z0 tk0 tv0 gk0 gv0 d0 x0 m0 c0 t0 k0 _ _ tk0 tk1 _ _ _ _ (by omega) (by omega) (by omega)) yw_Store_appendWord sel_Store_appendWord lk_Store_86 d_Store_key_7 rfl rfl rfl [0, 1, 2] [] [0, 1, 2] rfl rfl rfl rfl (by decide) rfl rfl rfl rfl rfl ⟨by decide, by decide⟩ ⟨by decide, by decide⟩ rfl (Nat.le_of_ble_eq_true rfl) ?_
  exact ks_iret C Z rfl rfl d_Store_key_10 rfl rfl ⟨rfl, rfl⟩
set_option maxRecDepth 100000 in
set_option maxHeartbeats 4000000 in
theorem c_Store_key_T0 (l : Launch) (hNT : l.stackTraces = false) (D : va_G) (K : Nat → ClassId) (z0 tk0 tv0 gk0 gv0 d0 x0 m0 c0 t0 k0 : Nat) (fnd on opn : Bool) (tk1 : Nat) (Kb : Nat → UInt8) (kl : Nat) (w : Int64) (n : Nat) (h1 : n < 4294967296) (h2 : 8 < n) : kt_M l D (ks_T K) (kt_R 7) y_Store_key b_Store_key 4 (some .int) [.ref z0, .long w, .int (nI n)] (kw_store z0 tk0 tv0 gk0 gv0 d0 x0 m0 c0 t0 k0 fnd on opn ++ kw_row K tk0 tk1 Kb kl) "java/lang/IllegalArgumentException" (kw_store z0 tk0 tv0 gk0 gv0 d0 x0 m0 c0 t0 k0 fnd on opn ++ kw_row K tk0 tk1 Kb kl) := by
  refine kt_M.of hNT 0 (by decide) (Nat.le_of_ble_eq_true rfl) ?_
  intro E C Kt Z
  refine ks_aload_n rfl rfl C d_Store_key_0 ?_
  refine ks_aload_n rfl rfl C d_Store_key_1 ?_
  refine ks_get (k := 0) C 0 8 in_Store rfl (by decide) fk_Store_12 rfl rfl rfl d_Store_key_2 ?_
  refine ks_lload_n rfl rfl C d_Store_key_5 ?_
  refine ks_iload_n rfl rfl C d_Store_key_6 ?_
  exact ks_callTW (ci := 8) (q0 := 0) ([] : va_W) C Kt Z (c_Store_appendWord_T0 l hNT D K z0 tk0 tv0 gk0 gv0 d0 x0 m0 c0 t0 k0 _ _ _ tk0 tk1 _ _ _ _ (by omega) (by omega)) yw_Store_appendWord sel_Store_appendWord lk_Store_86 d_Store_key_7 rfl rfl rfl [0, 1, 2] [] [0, 1, 2] rfl rfl rfl rfl (by decide) rfl rfl rfl rfl ⟨by decide, by decide⟩ ⟨by decide, by decide⟩ (Nat.le_of_ble_eq_true rfl) rfl rfl
set_option maxRecDepth 100000 in
set_option maxHeartbeats 4000000 in
theorem c_Store_key_T1 (l : Launch) (hNT : l.stackTraces = false) (D : va_G) (K : Nat → ClassId) (z0 tk0 tv0 gk0 gv0 d0 x0 m0 c0 t0 k0 : Nat) (fnd opn : Bool) (tk1 : Nat) (Kb : Nat → UInt8) (kl : Nat) (w : Int64) (n : Nat) (h2 : n ≤ 8) : kt_M l D (ks_T K) (kt_R 8) y_Store_key b_Store_key 4 (some .int) [.ref z0, .long w, .int (nI n)] (kw_store z0 tk0 tv0 gk0 gv0 d0 x0 m0 c0 t0 k0 fnd false opn ++ kw_row K tk0 tk1 Kb kl) "java/lang/IllegalStateException" (kw_store z0 tk0 tv0 gk0 gv0 d0 x0 m0 c0 t0 k0 fnd false opn ++ kw_row K tk0 tk1 Kb kl) := by
  refine kt_M.of hNT 0 (by decide) (Nat.le_of_ble_eq_true rfl) ?_
  intro E C Kt Z
  refine ks_aload_n rfl rfl C d_Store_key_0 ?_
  refine ks_aload_n rfl rfl C d_Store_key_1 ?_
  refine ks_get (k := 0) C 0 8 in_Store rfl (by decide) fk_Store_12 rfl rfl rfl d_Store_key_2 ?_
  refine ks_lload_n rfl rfl C d_Store_key_5 ?_
  refine ks_iload_n rfl rfl C d_Store_key_6 ?_
  exact ks_callTW (ci := 8) (q0 := 0) ([] : va_W) C Kt Z (c_Store_appendWord_T1 l hNT D K z0 tk0 tv0 gk0 gv0 d0 x0 m0 c0 t0 k0 _ _ tk0 tk1 _ _ _ _ (by omega)) yw_Store_appendWord sel_Store_appendWord lk_Store_86 d_Store_key_7 rfl rfl rfl [0, 1, 2] [] [0, 1, 2] rfl rfl rfl rfl (by decide) rfl rfl rfl rfl ⟨by decide, by decide⟩ ⟨by decide, by decide⟩ (Nat.le_of_ble_eq_true rfl) rfl rfl
set_option maxRecDepth 100000 in
set_option maxHeartbeats 4000000 in
theorem c_Store_key_T2 (l : Launch) (hNT : l.stackTraces = false) (D : va_G) (K : Nat → ClassId) (z0 tk0 tv0 gk0 gv0 d0 x0 m0 c0 t0 k0 : Nat) (fnd opn : Bool) (tk1 : Nat) (Kb : Nat → UInt8) (kl : Nat) (w : Int64) (n : Nat) (h1 : kl ≤ 8448) (h2 : n ≤ 8) (h3 : 8448 < kl + n) : kt_M l D (ks_T K) (kt_R 8) y_Store_key b_Store_key 4 (some .int) [.ref z0, .long w, .int (nI n)] (kw_store z0 tk0 tv0 gk0 gv0 d0 x0 m0 c0 t0 k0 fnd true opn ++ kw_row K tk0 tk1 Kb kl) "java/lang/IllegalStateException" (kw_store z0 tk0 tv0 gk0 gv0 d0 x0 m0 c0 t0 k0 fnd true opn ++ kw_row K tk0 tk1 Kb kl) := by
  refine kt_M.of hNT 0 (by decide) (Nat.le_of_ble_eq_true rfl) ?_
  intro E C Kt Z
  refine ks_aload_n rfl rfl C d_Store_key_0 ?_
  refine ks_aload_n rfl rfl C d_Store_key_1 ?_
  refine ks_get (k := 0) C 0 8 in_Store rfl (by decide) fk_Store_12 rfl rfl rfl d_Store_key_2 ?_
  refine ks_lload_n rfl rfl C d_Store_key_5 ?_
  refine ks_iload_n rfl rfl C d_Store_key_6 ?_
  exact ks_callTW (ci := 8) (q0 := 0) ([] : va_W) C Kt Z (c_Store_appendWord_T2 l hNT D K z0 tk0 tv0 gk0 gv0 d0 x0 m0 c0 t0 k0 _ _ tk0 tk1 _ _ _ _ (by omega) (by omega) (by omega)) yw_Store_appendWord sel_Store_appendWord lk_Store_86 d_Store_key_7 rfl rfl rfl [0, 1, 2] [] [0, 1, 2] rfl rfl rfl rfl (by decide) rfl rfl rfl rfl ⟨by decide, by decide⟩ ⟨by decide, by decide⟩ (Nat.le_of_ble_eq_true rfl) rfl rfl
set_option maxRecDepth 100000 in
set_option maxHeartbeats 4000000 in
theorem c_Store_value_ok (l : Launch) (D : va_G) (K : Nat → ClassId) (z0 tk0 tv0 gk0 gv0 d0 x0 m0 c0 t0 k0 : Nat) (fnd opn : Bool) (tv1 : Nat) (Vb : Nat → UInt8) (vl : Nat) (w : Int64) (n : Nat) (h1 : vl ≤ 8448) (h2 : n ≤ 8) (h3 : vl + n ≤ 8448) : ks_M l D (ks_T K) (ks_R 3) y_Store_value b_Store_value 4 (some .int) [.ref z0, .long w, .int (nI n)] (kw_store z0 tk0 tv0 gk0 gv0 d0 x0 m0 c0 t0 k0 fnd true opn ++ kw_row K tv0 tv1 Vb vl) (ks_f (some (.int (nI ((kv_app w n Vb (if n = 0 then 0 else vl)).2)))) (kw_store z0 tk0 tv0 gk0 gv0 d0 x0 m0 c0 t0 k0 fnd true opn ++ kw_row K tv0 tv1 (kv_app w n Vb (if n = 0 then 0 else vl)).1 (kv_app w n Vb (if n = 0 then 0 else vl)).2)) := by
  refine ks_M.of 0 (by decide) (Nat.le_of_ble_eq_true rfl) ?_
  intro E C Z
  refine ks_aload_n rfl rfl C d_Store_value_0 ?_
  refine ks_aload_n rfl rfl C d_Store_value_1 ?_
  refine ks_get (k := 1) C 0 8 in_Store rfl (by decide) fk_Store_16 rfl rfl rfl d_Store_value_2 ?_
  refine ks_lload_n rfl rfl C d_Store_value_5 ?_
  refine ks_iload_n rfl rfl C d_Store_value_6 ?_
  refine ks_cxW (ci := 8) (q0 := 0) (kw_store z0 tk0 tv0 gk0 gv0 d0 x0 m0 c0 t0 k0 _ _ _ ++ kw_row K tv0 tv1 _ _) ([] : va_W) C (c_Store_appendWord_ok l D K z0 tk0 tv0 gk0 gv0 d0 x0 m0 c0 t0 k0 _ _ tv0 tv1 _ _ _ _ (by omega) (by omega) (by omega)) yw_Store_appendWord sel_Store_appendWord lk_Store_86 d_Store_value_7 rfl rfl rfl [0, 1, 2] [] [0, 1, 2] rfl rfl rfl rfl (by decide) rfl rfl rfl rfl rfl ⟨by decide, by decide⟩ ⟨by decide, by decide⟩ rfl (Nat.le_of_ble_eq_true rfl) ?_
  exact ks_iret C Z rfl rfl d_Store_value_10 rfl rfl ⟨rfl, rfl⟩
set_option maxRecDepth 100000 in
set_option maxHeartbeats 4000000 in
theorem c_Store_value_T0 (l : Launch) (hNT : l.stackTraces = false) (D : va_G) (K : Nat → ClassId) (z0 tk0 tv0 gk0 gv0 d0 x0 m0 c0 t0 k0 : Nat) (fnd on opn : Bool) (tv1 : Nat) (Vb : Nat → UInt8) (vl : Nat) (w : Int64) (n : Nat) (h1 : n < 4294967296) (h2 : 8 < n) : kt_M l D (ks_T K) (kt_R 7) y_Store_value b_Store_value 4 (some .int) [.ref z0, .long w, .int (nI n)] (kw_store z0 tk0 tv0 gk0 gv0 d0 x0 m0 c0 t0 k0 fnd on opn ++ kw_row K tv0 tv1 Vb vl) "java/lang/IllegalArgumentException" (kw_store z0 tk0 tv0 gk0 gv0 d0 x0 m0 c0 t0 k0 fnd on opn ++ kw_row K tv0 tv1 Vb vl) := by
  refine kt_M.of hNT 0 (by decide) (Nat.le_of_ble_eq_true rfl) ?_
  intro E C Kt Z
  refine ks_aload_n rfl rfl C d_Store_value_0 ?_
  refine ks_aload_n rfl rfl C d_Store_value_1 ?_
  refine ks_get (k := 1) C 0 8 in_Store rfl (by decide) fk_Store_16 rfl rfl rfl d_Store_value_2 ?_
  refine ks_lload_n rfl rfl C d_Store_value_5 ?_
  refine ks_iload_n rfl rfl C d_Store_value_6 ?_
  exact ks_callTW (ci := 8) (q0 := 0) ([] : va_W) C Kt Z (c_Store_appendWord_T0 l hNT D K z0 tk0 tv0 gk0 gv0 d0 x0 m0 c0 t0 k0 _ _ _ tv0 tv1 _ _ _ _ (by omega) (by omega)) yw_Store_appendWord sel_Store_appendWord lk_Store_86 d_Store_value_7 rfl rfl rfl [0, 1, 2] [] [0, 1, 2] rfl rfl rfl rfl (by decide) rfl rfl rfl rfl ⟨by decide, by decide⟩ ⟨by decide, by decide⟩ (Nat.le_of_ble_eq_true rfl) rfl rfl
set_option maxRecDepth 100000 in
set_option maxHeartbeats 4000000 in
theorem c_Store_value_T1 (l : Launch) (hNT : l.stackTraces = false) (D : va_G) (K : Nat → ClassId) (z0 tk0 tv0 gk0 gv0 d0 x0 m0 c0 t0 k0 : Nat) (fnd opn : Bool) (tv1 : Nat) (Vb : Nat → UInt8) (vl : Nat) (w : Int64) (n : Nat) (h2 : n ≤ 8) : kt_M l D (ks_T K) (kt_R 8) y_Store_value b_Store_value 4 (some .int) [.ref z0, .long w, .int (nI n)] (kw_store z0 tk0 tv0 gk0 gv0 d0 x0 m0 c0 t0 k0 fnd false opn ++ kw_row K tv0 tv1 Vb vl) "java/lang/IllegalStateException" (kw_store z0 tk0 tv0 gk0 gv0 d0 x0 m0 c0 t0 k0 fnd false opn ++ kw_row K tv0 tv1 Vb vl) := by
  refine kt_M.of hNT 0 (by decide) (Nat.le_of_ble_eq_true rfl) ?_
  intro E C Kt Z
  refine ks_aload_n rfl rfl C d_Store_value_0 ?_
  refine ks_aload_n rfl rfl C d_Store_value_1 ?_
  refine ks_get (k := 1) C 0 8 in_Store rfl (by decide) fk_Store_16 rfl rfl rfl d_Store_value_2 ?_
  refine ks_lload_n rfl rfl C d_Store_value_5 ?_
  refine ks_iload_n rfl rfl C d_Store_value_6 ?_
  exact ks_callTW (ci := 8) (q0 := 0) ([] : va_W) C Kt Z (c_Store_appendWord_T1 l hNT D K z0 tk0 tv0 gk0 gv0 d0 x0 m0 c0 t0 k0 _ _ tv0 tv1 _ _ _ _ (by omega)) yw_Store_appendWord sel_Store_appendWord lk_Store_86 d_Store_value_7 rfl rfl rfl [0, 1, 2] [] [0, 1, 2] rfl rfl rfl rfl (by decide) rfl rfl rfl rfl ⟨by decide, by decide⟩ ⟨by decide, by decide⟩ (Nat.le_of_ble_eq_true rfl) rfl rfl
set_option maxRecDepth 100000 in
set_option maxHeartbeats 4000000 in
theorem c_Store_value_T2 (l : Launch) (hNT : l.stackTraces = false) (D : va_G) (K : Nat → ClassId) (z0 tk0 tv0 gk0 gv0 d0 x0 m0 c0 t0 k0 : Nat) (fnd opn : Bool) (tv1 : Nat) (Vb : Nat → UInt8) (vl : Nat) (w : Int64) (n : Nat) (h1 : vl ≤ 8448) (h2 : n ≤ 8) (h3 : 8448 < vl + n) : kt_M l D (ks_T K) (kt_R 8) y_Store_value b_Store_value 4 (some .int) [.ref z0, .long w, .int (nI n)] (kw_store z0 tk0 tv0 gk0 gv0 d0 x0 m0 c0 t0 k0 fnd true opn ++ kw_row K tv0 tv1 Vb vl) "java/lang/IllegalStateException" (kw_store z0 tk0 tv0 gk0 gv0 d0 x0 m0 c0 t0 k0 fnd true opn ++ kw_row K tv0 tv1 Vb vl) := by
  refine kt_M.of hNT 0 (by decide) (Nat.le_of_ble_eq_true rfl) ?_
  intro E C Kt Z
  refine ks_aload_n rfl rfl C d_Store_value_0 ?_
  refine ks_aload_n rfl rfl C d_Store_value_1 ?_
  refine ks_get (k := 1) C 0 8 in_Store rfl (by decide) fk_Store_16 rfl rfl rfl d_Store_value_2 ?_
  refine ks_lload_n rfl rfl C d_Store_value_5 ?_
  refine ks_iload_n rfl rfl C d_Store_value_6 ?_
  exact ks_callTW (ci := 8) (q0 := 0) ([] : va_W) C Kt Z (c_Store_appendWord_T2 l hNT D K z0 tk0 tv0 gk0 gv0 d0 x0 m0 c0 t0 k0 _ _ tv0 tv1 _ _ _ _ (by omega) (by omega) (by omega)) yw_Store_appendWord sel_Store_appendWord lk_Store_86 d_Store_value_7 rfl rfl rfl [0, 1, 2] [] [0, 1, 2] rfl rfl rfl rfl (by decide) rfl rfl rfl rfl ⟨by decide, by decide⟩ ⟨by decide, by decide⟩ (Nat.le_of_ble_eq_true rfl) rfl rfl
set_option maxRecDepth 100000 in
set_option maxHeartbeats 4000000 in
theorem c_Store_fillk_ok (l : Launch) (D : va_G) (K : Nat → ClassId) (z0 tk0 tv0 gk0 gv0 d0 x0 m0 c0 t0 k0 : Nat) (fnd opn : Bool) (tk1 : Nat) (Kb : Nat → UInt8) (kl : Nat) (n : Nat) (b : Int32) (c : UInt8) (h1 : kl ≤ 8448) (h2 : n ≤ 8448) (h3 : kl + n ≤ 8448) (h4 : b.toInt8.toInt32 = sb_b c.toNat) : ks_M l D (ks_T K) (ks_R 2) y_Store_fill b_Store_fill 5 (some .int) [.ref z0, .int (ks_b true), .int (nI n), .int b] (kw_store z0 tk0 tv0 gk0 gv0 d0 x0 m0 c0 t0 k0 fnd true opn ++ kw_row K tk0 tk1 Kb kl) (ks_f (some (.int (nI (kl + n)))) (kw_store z0 tk0 tv0 gk0 gv0 d0 x0 m0 c0 t0 k0 fnd true opn ++ kw_row K tk0 tk1 (kv_same Kb kl c n) (kl + n))) := by
  refine ks_M.of 1 (by decide) (Nat.le_of_ble_eq_true rfl) ?_
  intro E C Z
  refine ks_iload_n rfl rfl C d_Store_fill_0 ?_
  refine ks_ifR_lt (tgt := 11) C (by omega) (by decide) d_Store_fill_1 (fun u1 => ?_) (fun u1 => ?_)
  · exact (by omega : False).elim
  · refine ks_iload_n rfl rfl C d_Store_fill_4 ?_
    refine ks_sipush (a := 8448) rfl C d_Store_fill_5 ?_
    refine ks_icmpR_le (tgt := 21) C (by omega) (by omega) (by decide) d_Store_fill_8 (fun u2 => ?_) (fun u2 => ?_)
    · refine ks_iload_n rfl rfl C d_Store_fill_21 ?_
      refine ks_ifB_eq (tgt := 32) C (by decide) d_Store_fill_22 (fun h => absurd h (by decide)) (fun _ => ?_)
      refine ks_aload_n rfl rfl C d_Store_fill_25 ?_
      refine ks_get (k := 0) C 0 8 in_Store rfl (by decide) fk_Store_12 rfl rfl rfl d_Store_fill_26 ?_
      refine ks_goto (tgt := 36) C (by decide) d_Store_fill_29 ?_
      refine ks_astore C (by decide) rfl d_Store_fill_36 ?_
      refine ks_aload_n rfl rfl C d_Store_fill_38 ?_
      refine ks_aload rfl C d_Store_fill_39 ?_
      refine ks_iload_n rfl rfl C d_Store_fill_41 ?_
      refine ks_cvW (ci := 8) (q0 := 0) (kw_store z0 tk0 tv0 gk0 gv0 d0 x0 m0 c0 t0 k0 _ _ _ ++ kw_row K tk0 tk1 _ _) ([] : va_W) C (c_Store_demandRoom_ok l D K z0 tk0 tv0 gk0 gv0 d0 x0 m0 c0 t0 k0 _ _ tk0 tk1 _ _ _ (by omega) (by omega)) yw_Store_demandRoom sel_Store_demandRoom lk_Store_97 d_Store_fill_42 rfl rfl rfl [0, 1, 2] [] [0, 1, 2] rfl rfl rfl rfl (by decide) rfl rfl rfl rfl rfl ⟨by decide, by decide⟩ ⟨by decide, by decide⟩ rfl (Nat.le_of_ble_eq_true rfl) ?_
      refine ks_aload rfl C d_Store_fill_45 ?_
      refine ks_iload_n rfl rfl C d_Store_fill_47 ?_
      refine ks_iload_n rfl rfl C d_Store_fill_48 ?_
      refine ks_cvW (ci := 0) (q0 := 0) (kw_store z0 tk0 tv0 gk0 gv0 d0 x0 m0 c0 t0 k0 _ _ _ ++ kw_row K tk0 tk1 _ _) (kw_store z0 tk0 tv0 gk0 gv0 d0 x0 m0 c0 t0 k0 _ _ _) C (c_Row_appendSame l D K tk0 tk1 _ _ _ _ _ (by omega) (by omega) h4) yw_Row_appendSame sel_Row_appendSame lk_Store_101 d_Store_fill_49 rfl rfl rfl [1, 2] [0] [0, 1, 2] rfl rfl rfl rfl (by decide) rfl rfl rfl rfl rfl ⟨by decide, by decide⟩ ⟨by decide, by decide⟩ rfl (Nat.le_of_ble_eq_true rfl) ?_
      rw [if_pos (show n ≤ 8448 - kl by omega), if_pos (show n ≤ 8448 - kl by omega)]
      refine ks_aload rfl C d_Store_fill_52 ?_
      refine ks_cxW (ci := 0) (q0 := 0) (kw_store z0 tk0 tv0 gk0 gv0 d0 x0 m0 c0 t0 k0 _ _ _ ++ kw_row K tk0 tk1 _ _) (kw_store z0 tk0 tv0 gk0 gv0 d0 x0 m0 c0 t0 k0 _ _ _) C (c_Row_length l D K tk0 tk1 _ _) yw_Row_length sel_Row_length lk_Store_105 d_Store_fill_54 rfl rfl rfl [1, 2] [0] [0, 1, 2] rfl rfl rfl rfl (by decide) rfl rfl rfl rfl rfl ⟨by decide, by decide⟩ ⟨by decide, by decide⟩ rfl (Nat.le_of_ble_eq_true rfl) ?_
      exact ks_iret C Z rfl rfl d_Store_fill_57 rfl rfl ⟨rfl, rfl⟩
    · exact (by omega : False).elim
set_option maxRecDepth 100000 in
set_option maxHeartbeats 4000000 in
theorem c_Store_fillk_T0 (l : Launch) (hNT : l.stackTraces = false) (D : va_G) (K : Nat → ClassId) (z0 tk0 tv0 gk0 gv0 d0 x0 m0 c0 t0 k0 : Nat) (fnd on opn : Bool) (tk1 : Nat) (Kb : Nat → UInt8) (kl : Nat) (n : Nat) (b : Int32) (h1 : n < 4294967296) (h2 : 8448 < n) : kt_M l D (ks_T K) (kt_R 6) y_Store_fill b_Store_fill 5 (some .int) [.ref z0, .int (ks_b true), .int (nI n), .int b] (kw_store z0 tk0 tv0 gk0 gv0 d0 x0 m0 c0 t0 k0 fnd on opn ++ kw_row K tk0 tk1 Kb kl) "java/lang/IllegalArgumentException" (kw_store z0 tk0 tv0 gk0 gv0 d0 x0 m0 c0 t0 k0 fnd on opn ++ kw_row K tk0 tk1 Kb kl) := by
  refine kt_M.of hNT 1 (by decide) (Nat.le_of_ble_eq_true rfl) ?_
  intro E C Kt Z
  refine ks_iload_n rfl rfl C d_Store_fill_0 ?_
  refine ks_ifR_lt (tgt := 11) C (by omega) (by decide) d_Store_fill_1 (fun u1 => ?_) (fun u1 => ?_)
  · exact ks_throw (names := kt_n2) C Kt Z (by decide +kernel) (by decide +kernel) (kt_site kt_wIAE kt_s92) d_Store_fill_11 d_Store_fill_14 d_Store_fill_15 d_Store_fill_17 d_Store_fill_20 (by decide) (by decide) (by decide) (by decide) rfl rfl rfl
  · refine ks_iload_n rfl rfl C d_Store_fill_4 ?_
    refine ks_sipush (a := 8448) rfl C d_Store_fill_5 ?_
    refine ks_icmpR_le (tgt := 21) C (by omega) (by omega) (by decide) d_Store_fill_8 (fun u2 => ?_) (fun u2 => ?_)
    · exact (by omega : False).elim
    · exact ks_throw (names := kt_n2) C Kt Z (by decide +kernel) (by decide +kernel) (kt_site kt_wIAE kt_s92) d_Store_fill_11 d_Store_fill_14 d_Store_fill_15 d_Store_fill_17 d_Store_fill_20 (by decide) (by decide) (by decide) (by decide) rfl rfl rfl
set_option maxRecDepth 100000 in
set_option maxHeartbeats 4000000 in
theorem c_Store_fillk_T1 (l : Launch) (hNT : l.stackTraces = false) (D : va_G) (K : Nat → ClassId) (z0 tk0 tv0 gk0 gv0 d0 x0 m0 c0 t0 k0 : Nat) (fnd opn : Bool) (tk1 : Nat) (Kb : Nat → UInt8) (kl : Nat) (n : Nat) (b : Int32) (h2 : n ≤ 8448) : kt_M l D (ks_T K) (kt_R 7) y_Store_fill b_Store_fill 5 (some .int) [.ref z0, .int (ks_b true), .int (nI n), .int b] (kw_store z0 tk0 tv0 gk0 gv0 d0 x0 m0 c0 t0 k0 fnd false opn ++ kw_row K tk0 tk1 Kb kl) "java/lang/IllegalStateException" (kw_store z0 tk0 tv0 gk0 gv0 d0 x0 m0 c0 t0 k0 fnd false opn ++ kw_row K tk0 tk1 Kb kl) := by
  refine kt_M.of hNT 1 (by decide) (Nat.le_of_ble_eq_true rfl) ?_
  intro E C Kt Z
  refine ks_iload_n rfl rfl C d_Store_fill_0 ?_
  refine ks_ifR_lt (tgt := 11) C (by omega) (by decide) d_Store_fill_1 (fun u1 => ?_) (fun u1 => ?_)
  · exact (by omega : False).elim
  · refine ks_iload_n rfl rfl C d_Store_fill_4 ?_
    refine ks_sipush (a := 8448) rfl C d_Store_fill_5 ?_
    refine ks_icmpR_le (tgt := 21) C (by omega) (by omega) (by decide) d_Store_fill_8 (fun u2 => ?_) (fun u2 => ?_)
    · refine ks_iload_n rfl rfl C d_Store_fill_21 ?_
      refine ks_ifB_eq (tgt := 32) C (by decide) d_Store_fill_22 (fun h => absurd h (by decide)) (fun _ => ?_)
      refine ks_aload_n rfl rfl C d_Store_fill_25 ?_
      refine ks_get (k := 0) C 0 8 in_Store rfl (by decide) fk_Store_12 rfl rfl rfl d_Store_fill_26 ?_
      refine ks_goto (tgt := 36) C (by decide) d_Store_fill_29 ?_
      refine ks_astore C (by decide) rfl d_Store_fill_36 ?_
      refine ks_aload_n rfl rfl C d_Store_fill_38 ?_
      refine ks_aload rfl C d_Store_fill_39 ?_
      refine ks_iload_n rfl rfl C d_Store_fill_41 ?_
      exact ks_callTW (ci := 8) (q0 := 0) ([] : va_W) C Kt Z (c_Store_demandRoom_T1 l hNT D K z0 tk0 tv0 gk0 gv0 d0 x0 m0 c0 t0 k0 _ _ tk0 tk1 _ _ _) yw_Store_demandRoom sel_Store_demandRoom lk_Store_97 d_Store_fill_42 rfl rfl rfl [0, 1, 2] [] [0, 1, 2] rfl rfl rfl rfl (by decide) rfl rfl rfl rfl ⟨by decide, by decide⟩ ⟨by decide, by decide⟩ (Nat.le_of_ble_eq_true rfl) rfl rfl
    · exact (by omega : False).elim
set_option maxRecDepth 100000 in
set_option maxHeartbeats 4000000 in
theorem c_Store_fillk_T2 (l : Launch) (hNT : l.stackTraces = false) (D : va_G) (K : Nat → ClassId) (z0 tk0 tv0 gk0 gv0 d0 x0 m0 c0 t0 k0 : Nat) (fnd opn : Bool) (tk1 : Nat) (Kb : Nat → UInt8) (kl : Nat) (n : Nat) (b : Int32) (h1 : kl ≤ 8448) (h2 : n ≤ 8448) (h3 : 8448 < kl + n) : kt_M l D (ks_T K) (kt_R 7) y_Store_fill b_Store_fill 5 (some .int) [.ref z0, .int (ks_b true), .int (nI n), .int b] (kw_store z0 tk0 tv0 gk0 gv0 d0 x0 m0 c0 t0 k0 fnd true opn ++ kw_row K tk0 tk1 Kb kl) "java/lang/IllegalStateException" (kw_store z0 tk0 tv0 gk0 gv0 d0 x0 m0 c0 t0 k0 fnd true opn ++ kw_row K tk0 tk1 Kb kl) := by
  refine kt_M.of hNT 1 (by decide) (Nat.le_of_ble_eq_true rfl) ?_
  intro E C Kt Z
  refine ks_iload_n rfl rfl C d_Store_fill_0 ?_
  refine ks_ifR_lt (tgt := 11) C (by omega) (by decide) d_Store_fill_1 (fun u1 => ?_) (fun u1 => ?_)
  · exact (by omega : False).elim
  · refine ks_iload_n rfl rfl C d_Store_fill_4 ?_
    refine ks_sipush (a := 8448) rfl C d_Store_fill_5 ?_
    refine ks_icmpR_le (tgt := 21) C (by omega) (by omega) (by decide) d_Store_fill_8 (fun u2 => ?_) (fun u2 => ?_)
    · refine ks_iload_n rfl rfl C d_Store_fill_21 ?_
      refine ks_ifB_eq (tgt := 32) C (by decide) d_Store_fill_22 (fun h => absurd h (by decide)) (fun _ => ?_)
      refine ks_aload_n rfl rfl C d_Store_fill_25 ?_
      refine ks_get (k := 0) C 0 8 in_Store rfl (by decide) fk_Store_12 rfl rfl rfl d_Store_fill_26 ?_
      refine ks_goto (tgt := 36) C (by decide) d_Store_fill_29 ?_
      refine ks_astore C (by decide) rfl d_Store_fill_36 ?_
      refine ks_aload_n rfl rfl C d_Store_fill_38 ?_
      refine ks_aload rfl C d_Store_fill_39 ?_
      refine ks_iload_n rfl rfl C d_Store_fill_41 ?_
      exact ks_callTW (ci := 8) (q0 := 0) ([] : va_W) C Kt Z (c_Store_demandRoom_T2 l hNT D K z0 tk0 tv0 gk0 gv0 d0 x0 m0 c0 t0 k0 _ _ tk0 tk1 _ _ _ (by omega) (by omega) (by omega)) yw_Store_demandRoom sel_Store_demandRoom lk_Store_97 d_Store_fill_42 rfl rfl rfl [0, 1, 2] [] [0, 1, 2] rfl rfl rfl rfl (by decide) rfl rfl rfl rfl ⟨by decide, by decide⟩ ⟨by decide, by decide⟩ (Nat.le_of_ble_eq_true rfl) rfl rfl
    · exact (by omega : False).elim
set_option maxRecDepth 100000 in
set_option maxHeartbeats 4000000 in
theorem c_Store_fillv_ok (l : Launch) (D : va_G) (K : Nat → ClassId) (z0 tk0 tv0 gk0 gv0 d0 x0 m0 c0 t0 k0 : Nat) (fnd opn : Bool) (tv1 : Nat) (Vb : Nat → UInt8) (vl : Nat) (n : Nat) (b : Int32) (c : UInt8) (h1 : vl ≤ 8448) (h2 : n ≤ 8448) (h3 : vl + n ≤ 8448) (h4 : b.toInt8.toInt32 = sb_b c.toNat) : ks_M l D (ks_T K) (ks_R 2) y_Store_fill b_Store_fill 5 (some .int) [.ref z0, .int (ks_b false), .int (nI n), .int b] (kw_store z0 tk0 tv0 gk0 gv0 d0 x0 m0 c0 t0 k0 fnd true opn ++ kw_row K tv0 tv1 Vb vl) (ks_f (some (.int (nI (vl + n)))) (kw_store z0 tk0 tv0 gk0 gv0 d0 x0 m0 c0 t0 k0 fnd true opn ++ kw_row K tv0 tv1 (kv_same Vb vl c n) (vl + n))) := by
  refine ks_M.of 1 (by decide) (Nat.le_of_ble_eq_true rfl) ?_
  intro E C Z
  refine ks_iload_n rfl rfl C d_Store_fill_0 ?_
  refine ks_ifR_lt (tgt := 11) C (by omega) (by decide) d_Store_fill_1 (fun u1 => ?_) (fun u1 => ?_)
  · exact (by omega : False).elim
  · refine ks_iload_n rfl rfl C d_Store_fill_4 ?_
    refine ks_sipush (a := 8448) rfl C d_Store_fill_5 ?_
    refine ks_icmpR_le (tgt := 21) C (by omega) (by omega) (by decide) d_Store_fill_8 (fun u2 => ?_) (fun u2 => ?_)
    · refine ks_iload_n rfl rfl C d_Store_fill_21 ?_
      refine ks_ifB_eq (tgt := 32) C (by decide) d_Store_fill_22 (fun _ => ?_) (fun h => absurd h (by decide))
      refine ks_aload_n rfl rfl C d_Store_fill_32 ?_
      refine ks_get (k := 1) C 0 8 in_Store rfl (by decide) fk_Store_16 rfl rfl rfl d_Store_fill_33 ?_
      refine ks_astore C (by decide) rfl d_Store_fill_36 ?_
      refine ks_aload_n rfl rfl C d_Store_fill_38 ?_
      refine ks_aload rfl C d_Store_fill_39 ?_
      refine ks_iload_n rfl rfl C d_Store_fill_41 ?_
      refine ks_cvW (ci := 8) (q0 := 0) (kw_store z0 tk0 tv0 gk0 gv0 d0 x0 m0 c0 t0 k0 _ _ _ ++ kw_row K tv0 tv1 _ _) ([] : va_W) C (c_Store_demandRoom_ok l D K z0 tk0 tv0 gk0 gv0 d0 x0 m0 c0 t0 k0 _ _ tv0 tv1 _ _ _ (by omega) (by omega)) yw_Store_demandRoom sel_Store_demandRoom lk_Store_97 d_Store_fill_42 rfl rfl rfl [0, 1, 2] [] [0, 1, 2] rfl rfl rfl rfl (by decide) rfl rfl rfl rfl rfl ⟨by decide, by decide⟩ ⟨by decide, by decide⟩ rfl (Nat.le_of_ble_eq_true rfl) ?_
      refine ks_aload rfl C d_Store_fill_45 ?_
      refine ks_iload_n rfl rfl C d_Store_fill_47 ?_
      refine ks_iload_n rfl rfl C d_Store_fill_48 ?_
      refine ks_cvW (ci := 0) (q0 := 0) (kw_store z0 tk0 tv0 gk0 gv0 d0 x0 m0 c0 t0 k0 _ _ _ ++ kw_row K tv0 tv1 _ _) (kw_store z0 tk0 tv0 gk0 gv0 d0 x0 m0 c0 t0 k0 _ _ _) C (c_Row_appendSame l D K tv0 tv1 _ _ _ _ _ (by omega) (by omega) h4) yw_Row_appendSame sel_Row_appendSame lk_Store_101 d_Store_fill_49 rfl rfl rfl [1, 2] [0] [0, 1, 2] rfl rfl rfl rfl (by decide) rfl rfl rfl rfl rfl ⟨by decide, by decide⟩ ⟨by decide, by decide⟩ rfl (Nat.le_of_ble_eq_true rfl) ?_
      rw [if_pos (show n ≤ 8448 - vl by omega), if_pos (show n ≤ 8448 - vl by omega)]
      refine ks_aload rfl C d_Store_fill_52 ?_
      refine ks_cxW (ci := 0) (q0 := 0) (kw_store z0 tk0 tv0 gk0 gv0 d0 x0 m0 c0 t0 k0 _ _ _ ++ kw_row K tv0 tv1 _ _) (kw_store z0 tk0 tv0 gk0 gv0 d0 x0 m0 c0 t0 k0 _ _ _) C (c_Row_length l D K tv0 tv1 _ _) yw_Row_length sel_Row_length lk_Store_105 d_Store_fill_54 rfl rfl rfl [1, 2] [0] [0, 1, 2] rfl rfl rfl rfl (by decide) rfl rfl rfl rfl rfl ⟨by decide, by decide⟩ ⟨by decide, by decide⟩ rfl (Nat.le_of_ble_eq_true rfl) ?_
      exact ks_iret C Z rfl rfl d_Store_fill_57 rfl rfl ⟨rfl, rfl⟩
    · exact (by omega : False).elim
set_option maxRecDepth 100000 in
set_option maxHeartbeats 4000000 in
theorem c_Store_fillv_T0 (l : Launch) (hNT : l.stackTraces = false) (D : va_G) (K : Nat → ClassId) (z0 tk0 tv0 gk0 gv0 d0 x0 m0 c0 t0 k0 : Nat) (fnd on opn : Bool) (tv1 : Nat) (Vb : Nat → UInt8) (vl : Nat) (n : Nat) (b : Int32) (h1 : n < 4294967296) (h2 : 8448 < n) : kt_M l D (ks_T K) (kt_R 6) y_Store_fill b_Store_fill 5 (some .int) [.ref z0, .int (ks_b false), .int (nI n), .int b] (kw_store z0 tk0 tv0 gk0 gv0 d0 x0 m0 c0 t0 k0 fnd on opn ++ kw_row K tv0 tv1 Vb vl) "java/lang/IllegalArgumentException" (kw_store z0 tk0 tv0 gk0 gv0 d0 x0 m0 c0 t0 k0 fnd on opn ++ kw_row K tv0 tv1 Vb vl) := by
  refine kt_M.of hNT 1 (by decide) (Nat.le_of_ble_eq_true rfl) ?_
  intro E C Kt Z
  refine ks_iload_n rfl rfl C d_Store_fill_0 ?_
  refine ks_ifR_lt (tgt := 11) C (by omega) (by decide) d_Store_fill_1 (fun u1 => ?_) (fun u1 => ?_)
  · exact ks_throw (names := kt_n2) C Kt Z (by decide +kernel) (by decide +kernel) (kt_site kt_wIAE kt_s92) d_Store_fill_11 d_Store_fill_14 d_Store_fill_15 d_Store_fill_17 d_Store_fill_20 (by decide) (by decide) (by decide) (by decide) rfl rfl rfl
  · refine ks_iload_n rfl rfl C d_Store_fill_4 ?_
    refine ks_sipush (a := 8448) rfl C d_Store_fill_5 ?_
    refine ks_icmpR_le (tgt := 21) C (by omega) (by omega) (by decide) d_Store_fill_8 (fun u2 => ?_) (fun u2 => ?_)
    · exact (by omega : False).elim
    · exact ks_throw (names := kt_n2) C Kt Z (by decide +kernel) (by decide +kernel) (kt_site kt_wIAE kt_s92) d_Store_fill_11 d_Store_fill_14 d_Store_fill_15 d_Store_fill_17 d_Store_fill_20 (by decide) (by decide) (by decide) (by decide) rfl rfl rfl
set_option maxRecDepth 100000 in
set_option maxHeartbeats 4000000 in
theorem c_Store_fillv_T1 (l : Launch) (hNT : l.stackTraces = false) (D : va_G) (K : Nat → ClassId) (z0 tk0 tv0 gk0 gv0 d0 x0 m0 c0 t0 k0 : Nat) (fnd opn : Bool) (tv1 : Nat) (Vb : Nat → UInt8) (vl : Nat) (n : Nat) (b : Int32) (h2 : n ≤ 8448) : kt_M l D (ks_T K) (kt_R 7) y_Store_fill b_Store_fill 5 (some .int) [.ref z0, .int (ks_b false), .int (nI n), .int b] (kw_store z0 tk0 tv0 gk0 gv0 d0 x0 m0 c0 t0 k0 fnd false opn ++ kw_row K tv0 tv1 Vb vl) "java/lang/IllegalStateException" (kw_store z0 tk0 tv0 gk0 gv0 d0 x0 m0 c0 t0 k0 fnd false opn ++ kw_row K tv0 tv1 Vb vl) := by
  refine kt_M.of hNT 1 (by decide) (Nat.le_of_ble_eq_true rfl) ?_
  intro E C Kt Z
  refine ks_iload_n rfl rfl C d_Store_fill_0 ?_
  refine ks_ifR_lt (tgt := 11) C (by omega) (by decide) d_Store_fill_1 (fun u1 => ?_) (fun u1 => ?_)
  · exact (by omega : False).elim
  · refine ks_iload_n rfl rfl C d_Store_fill_4 ?_
    refine ks_sipush (a := 8448) rfl C d_Store_fill_5 ?_
    refine ks_icmpR_le (tgt := 21) C (by omega) (by omega) (by decide) d_Store_fill_8 (fun u2 => ?_) (fun u2 => ?_)
    · refine ks_iload_n rfl rfl C d_Store_fill_21 ?_
      refine ks_ifB_eq (tgt := 32) C (by decide) d_Store_fill_22 (fun _ => ?_) (fun h => absurd h (by decide))
      refine ks_aload_n rfl rfl C d_Store_fill_32 ?_
      refine ks_get (k := 1) C 0 8 in_Store rfl (by decide) fk_Store_16 rfl rfl rfl d_Store_fill_33 ?_
      refine ks_astore C (by decide) rfl d_Store_fill_36 ?_
      refine ks_aload_n rfl rfl C d_Store_fill_38 ?_
      refine ks_aload rfl C d_Store_fill_39 ?_
      refine ks_iload_n rfl rfl C d_Store_fill_41 ?_
      exact ks_callTW (ci := 8) (q0 := 0) ([] : va_W) C Kt Z (c_Store_demandRoom_T1 l hNT D K z0 tk0 tv0 gk0 gv0 d0 x0 m0 c0 t0 k0 _ _ tv0 tv1 _ _ _) yw_Store_demandRoom sel_Store_demandRoom lk_Store_97 d_Store_fill_42 rfl rfl rfl [0, 1, 2] [] [0, 1, 2] rfl rfl rfl rfl (by decide) rfl rfl rfl rfl ⟨by decide, by decide⟩ ⟨by decide, by decide⟩ (Nat.le_of_ble_eq_true rfl) rfl rfl
    · exact (by omega : False).elim
set_option maxRecDepth 100000 in
set_option maxHeartbeats 4000000 in
theorem c_Store_fillv_T2 (l : Launch) (hNT : l.stackTraces = false) (D : va_G) (K : Nat → ClassId) (z0 tk0 tv0 gk0 gv0 d0 x0 m0 c0 t0 k0 : Nat) (fnd opn : Bool) (tv1 : Nat) (Vb : Nat → UInt8) (vl : Nat) (n : Nat) (b : Int32) (h1 : vl ≤ 8448) (h2 : n ≤ 8448) (h3 : 8448 < vl + n) : kt_M l D (ks_T K) (kt_R 7) y_Store_fill b_Store_fill 5 (some .int) [.ref z0, .int (ks_b false), .int (nI n), .int b] (kw_store z0 tk0 tv0 gk0 gv0 d0 x0 m0 c0 t0 k0 fnd true opn ++ kw_row K tv0 tv1 Vb vl) "java/lang/IllegalStateException" (kw_store z0 tk0 tv0 gk0 gv0 d0 x0 m0 c0 t0 k0 fnd true opn ++ kw_row K tv0 tv1 Vb vl) := by
  refine kt_M.of hNT 1 (by decide) (Nat.le_of_ble_eq_true rfl) ?_
  intro E C Kt Z
  refine ks_iload_n rfl rfl C d_Store_fill_0 ?_
  refine ks_ifR_lt (tgt := 11) C (by omega) (by decide) d_Store_fill_1 (fun u1 => ?_) (fun u1 => ?_)
  · exact (by omega : False).elim
  · refine ks_iload_n rfl rfl C d_Store_fill_4 ?_
    refine ks_sipush (a := 8448) rfl C d_Store_fill_5 ?_
    refine ks_icmpR_le (tgt := 21) C (by omega) (by omega) (by decide) d_Store_fill_8 (fun u2 => ?_) (fun u2 => ?_)
    · refine ks_iload_n rfl rfl C d_Store_fill_21 ?_
      refine ks_ifB_eq (tgt := 32) C (by decide) d_Store_fill_22 (fun _ => ?_) (fun h => absurd h (by decide))
      refine ks_aload_n rfl rfl C d_Store_fill_32 ?_
      refine ks_get (k := 1) C 0 8 in_Store rfl (by decide) fk_Store_16 rfl rfl rfl d_Store_fill_33 ?_
      refine ks_astore C (by decide) rfl d_Store_fill_36 ?_
      refine ks_aload_n rfl rfl C d_Store_fill_38 ?_
      refine ks_aload rfl C d_Store_fill_39 ?_
      refine ks_iload_n rfl rfl C d_Store_fill_41 ?_
      exact ks_callTW (ci := 8) (q0 := 0) ([] : va_W) C Kt Z (c_Store_demandRoom_T2 l hNT D K z0 tk0 tv0 gk0 gv0 d0 x0 m0 c0 t0 k0 _ _ tv0 tv1 _ _ _ (by omega) (by omega) (by omega)) yw_Store_demandRoom sel_Store_demandRoom lk_Store_97 d_Store_fill_42 rfl rfl rfl [0, 1, 2] [] [0, 1, 2] rfl rfl rfl rfl (by decide) rfl rfl rfl rfl ⟨by decide, by decide⟩ ⟨by decide, by decide⟩ (Nat.le_of_ble_eq_true rfl) rfl rfl
    · exact (by omega : False).elim
set_option maxRecDepth 100000 in
set_option maxHeartbeats 4000000 in
theorem c_Store_tree_T1 (l : Launch) (hNT : l.stackTraces = false) (D : va_G) (K : Nat → ClassId) (z0 tk0 tv0 gk0 gv0 d0 x0 m0 c0 t0 k0 : Nat) (fnd opn : Bool) : kt_M l D (ks_T K) (kt_R 7) y_Store_tree b_Store_tree 2 (some .int) [.ref z0] (kw_store z0 tk0 tv0 gk0 gv0 d0 x0 m0 c0 t0 k0 fnd false opn) "java/lang/IllegalStateException" (kw_store z0 tk0 tv0 gk0 gv0 d0 x0 m0 c0 t0 k0 fnd false opn) := by
  refine kt_M.of hNT 1 (by decide) (Nat.le_of_ble_eq_true rfl) ?_
  intro E C Kt Z
  refine ks_aload_n rfl rfl C d_Store_tree_0 ?_
  exact ks_callTW (ci := 8) (q0 := 0) ([] : va_W) C Kt Z (c_Store_demandOpen_T1 l hNT D K z0 tk0 tv0 gk0 gv0 d0 x0 m0 c0 t0 k0 _ _) yw_Store_demandOpen sel_Store_demandOpen lk_Store_109 d_Store_tree_1 rfl rfl rfl [0] [] [0] rfl rfl rfl rfl (by decide) rfl rfl rfl rfl ⟨by decide, by decide⟩ ⟨by decide, by decide⟩ (Nat.le_of_ble_eq_true rfl) rfl rfl
set_option maxRecDepth 100000 in
set_option maxHeartbeats 4000000 in
theorem c_Store_tree_T2 (l : Launch) (hNT : l.stackTraces = false) (D : va_G) (K : Nat → ClassId) (z0 tk0 tv0 gk0 gv0 d0 x0 m0 c0 t0 k0 : Nat) (fnd : Bool) : kt_M l D (ks_T K) (kt_R 7) y_Store_tree b_Store_tree 2 (some .int) [.ref z0] (kw_store z0 tk0 tv0 gk0 gv0 d0 x0 m0 c0 t0 k0 fnd true false) "java/lang/IllegalStateException" (kw_store z0 tk0 tv0 gk0 gv0 d0 x0 m0 c0 t0 k0 fnd true false) := by
  refine kt_M.of hNT 1 (by decide) (Nat.le_of_ble_eq_true rfl) ?_
  intro E C Kt Z
  refine ks_aload_n rfl rfl C d_Store_tree_0 ?_
  exact ks_callTW (ci := 8) (q0 := 0) ([] : va_W) C Kt Z (c_Store_demandOpen_T2 l hNT D K z0 tk0 tv0 gk0 gv0 d0 x0 m0 c0 t0 k0 _) yw_Store_demandOpen sel_Store_demandOpen lk_Store_109 d_Store_tree_1 rfl rfl rfl [0] [] [0] rfl rfl rfl rfl (by decide) rfl rfl rfl rfl ⟨by decide, by decide⟩ ⟨by decide, by decide⟩ (Nat.le_of_ble_eq_true rfl) rfl rfl
set_option maxRecDepth 100000 in
set_option maxHeartbeats 4000000 in
theorem c_Store_tree_ok (l : Launch) (D : va_G) (K : Nat → ClassId) (z0 tk0 tv0 gk0 gv0 d0 x0 m0 c0 t0 k0 : Nat) (fnd : Bool) (t1 t2 n0 n1 x1 x2 pg ca top : Nat) (pn ps P : Nat → Nat) (B : Nat → UInt8) (G : Nat → Bool) (h1 : kv_lu B < 64) : ks_M l D (ks_T K) (ks_R 5) y_Store_tree b_Store_tree 2 (some .int) [.ref z0] (kw_store z0 tk0 tv0 gk0 gv0 d0 x0 m0 c0 t0 k0 fnd true true ++ kw_trees K t0 t1 t2 x0 n0 c0 pn ps top ++ kw_nodes K n0 n1 x0 P ++ kw_chains c0 x0 pg ca ++ kw_pages K x0 x1 x2 B G) (ks_f (some (.int (nI (kv_lu B)))) (kw_store z0 tk0 tv0 gk0 gv0 d0 x0 m0 c0 t0 k0 fnd true true ++ kw_trees K t0 t1 t2 x0 n0 c0 pn ps top ++ kw_nodes K n0 n1 x0 P ++ kw_chains c0 x0 pg ca ++ kw_pages K x0 x1 x2 (kv_addTree (B, G) (kv_lu B)).1 (kv_addTree (B, G) (kv_lu B)).2)) := by
  refine ks_M.of 1 (by decide) (Nat.le_of_ble_eq_true rfl) ?_
  intro E C Z
  refine ks_aload_n rfl rfl C d_Store_tree_0 ?_
  refine ks_cvW (ci := 8) (q0 := 0) (kw_store z0 tk0 tv0 gk0 gv0 d0 x0 m0 c0 t0 k0 _ _ _ ++ kw_trees K t0 t1 t2 x0 n0 c0 _ _ _ ++ kw_nodes K n0 n1 x0 _ ++ kw_chains c0 x0 _ _ ++ kw_pages K x0 x1 x2 _ _) (kw_trees K t0 t1 t2 x0 n0 c0 _ _ _ ++ kw_nodes K n0 n1 x0 _ ++ kw_chains c0 x0 _ _ ++ kw_pages K x0 x1 x2 _ _) C (c_Store_demandOpen_ok l D K z0 tk0 tv0 gk0 gv0 d0 x0 m0 c0 t0 k0 _) yw_Store_demandOpen sel_Store_demandOpen lk_Store_109 d_Store_tree_1 rfl rfl rfl [0] [1, 2, 3, 4, 5, 6, 7, 8, 9] [9, 0, 1, 2, 3, 4, 5, 6, 7, 8] rfl rfl rfl rfl (by decide) rfl rfl rfl rfl rfl ⟨by decide, by decide⟩ ⟨by decide, by decide⟩ rfl (Nat.le_of_ble_eq_true rfl) ?_
  refine ks_aload_n rfl rfl C d_Store_tree_4 ?_
  refine ks_get (k := 8) C 0 8 in_Store rfl (by decide) fk_Store_63 rfl rfl rfl d_Store_tree_5 ?_
  refine ks_cxW (ci := 6) (q0 := 0) (kw_store z0 tk0 tv0 gk0 gv0 d0 x0 m0 c0 t0 k0 _ _ _ ++ kw_trees K t0 t1 t2 x0 n0 c0 _ _ _ ++ kw_nodes K n0 n1 x0 _ ++ kw_chains c0 x0 _ _ ++ kw_pages K x0 x1 x2 _ _) (kw_store z0 tk0 tv0 gk0 gv0 d0 x0 m0 c0 t0 k0 _ _ _) C (c_Trees_leastUnused l D K t0 t1 t2 n0 n1 c0 x0 x1 x2 _ _ _ _ _ _ _ _) yw_Trees_leastUnused sel_Trees_leastUnused lk_Store_112 d_Store_tree_8 rfl rfl rfl [1, 2, 3, 4, 5, 6, 7, 8, 9] [0] [0, 1, 2, 3, 4, 5, 6, 7, 8, 9] rfl rfl rfl rfl (by decide) rfl rfl rfl rfl rfl ⟨by decide, by decide⟩ ⟨by decide, by decide⟩ rfl (Nat.le_of_ble_eq_true rfl) ?_
  refine ks_top_lu (fun u1 => ?_)
  refine ks_istore_n C rfl (by decide) rfl d_Store_tree_11 ?_
  refine ks_iload_n rfl rfl C d_Store_tree_12 ?_
  refine ks_bipush (a := 64) rfl C d_Store_tree_13 ?_
  refine ks_icmp_ne (tgt := 28) C (by omega) (by omega) (by decide) d_Store_tree_15 (fun u2 => ?_) (fun u2 => ?_)
  · refine ks_aload_n rfl rfl C d_Store_tree_28 ?_
    refine ks_get (k := 8) C 0 8 in_Store rfl (by decide) fk_Store_63 rfl rfl rfl d_Store_tree_29 ?_
    refine ks_iload_n rfl rfl C d_Store_tree_32 ?_
    refine ks_cvW (ci := 6) (q0 := 0) (kw_store z0 tk0 tv0 gk0 gv0 d0 x0 m0 c0 t0 k0 _ _ _ ++ kw_trees K t0 t1 t2 x0 n0 c0 _ _ _ ++ kw_nodes K n0 n1 x0 _ ++ kw_chains c0 x0 _ _ ++ kw_pages K x0 x1 x2 _ _) (kw_store z0 tk0 tv0 gk0 gv0 d0 x0 m0 c0 t0 k0 _ _ _) C (c_Trees_addTree l D K t0 t1 t2 n0 n1 c0 x0 x1 x2 _ _ _ _ _ _ _ _ _ (by omega)) yw_Trees_addTree sel_Trees_addTree lk_Store_120 d_Store_tree_33 rfl rfl rfl [1, 2, 3, 4, 5, 6, 7, 8, 9] [0] [0, 1, 2, 3, 4, 5, 6, 7, 8, 9] rfl rfl rfl rfl (by decide) rfl rfl rfl rfl rfl ⟨by decide, by decide⟩ ⟨by decide, by decide⟩ rfl (Nat.le_of_ble_eq_true rfl) ?_
    refine ks_iload_n rfl rfl C d_Store_tree_36 ?_
    exact ks_iret C Z rfl rfl d_Store_tree_37 rfl rfl ⟨rfl, rfl⟩
  · exact (by omega : False).elim
set_option maxRecDepth 100000 in
set_option maxHeartbeats 4000000 in
theorem c_Store_tree_T3 (l : Launch) (hNT : l.stackTraces = false) (D : va_G) (K : Nat → ClassId) (z0 tk0 tv0 gk0 gv0 d0 x0 m0 c0 t0 k0 : Nat) (fnd : Bool) (t1 t2 n0 n1 x1 x2 pg ca top : Nat) (pn ps P : Nat → Nat) (B : Nat → UInt8) (G : Nat → Bool) (h1 : kv_lu B = 64) : kt_M l D (ks_T K) (kt_R 6) y_Store_tree b_Store_tree 2 (some .int) [.ref z0] (kw_store z0 tk0 tv0 gk0 gv0 d0 x0 m0 c0 t0 k0 fnd true true ++ kw_trees K t0 t1 t2 x0 n0 c0 pn ps top ++ kw_nodes K n0 n1 x0 P ++ kw_chains c0 x0 pg ca ++ kw_pages K x0 x1 x2 B G) "java/lang/IllegalStateException" (kw_store z0 tk0 tv0 gk0 gv0 d0 x0 m0 c0 t0 k0 fnd true true ++ kw_trees K t0 t1 t2 x0 n0 c0 pn ps top ++ kw_nodes K n0 n1 x0 P ++ kw_chains c0 x0 pg ca ++ kw_pages K x0 x1 x2 B G) := by
  refine kt_M.of hNT 1 (by decide) (Nat.le_of_ble_eq_true rfl) ?_
  intro E C Kt Z
  refine ks_aload_n rfl rfl C d_Store_tree_0 ?_
  refine ks_cvW (ci := 8) (q0 := 0) (kw_store z0 tk0 tv0 gk0 gv0 d0 x0 m0 c0 t0 k0 _ _ _ ++ kw_trees K t0 t1 t2 x0 n0 c0 _ _ _ ++ kw_nodes K n0 n1 x0 _ ++ kw_chains c0 x0 _ _ ++ kw_pages K x0 x1 x2 _ _) (kw_trees K t0 t1 t2 x0 n0 c0 _ _ _ ++ kw_nodes K n0 n1 x0 _ ++ kw_chains c0 x0 _ _ ++ kw_pages K x0 x1 x2 _ _) C (c_Store_demandOpen_ok l D K z0 tk0 tv0 gk0 gv0 d0 x0 m0 c0 t0 k0 _) yw_Store_demandOpen sel_Store_demandOpen lk_Store_109 d_Store_tree_1 rfl rfl rfl [0] [1, 2, 3, 4, 5, 6, 7, 8, 9] [9, 0, 1, 2, 3, 4, 5, 6, 7, 8] rfl rfl rfl rfl (by decide) rfl rfl rfl rfl rfl ⟨by decide, by decide⟩ ⟨by decide, by decide⟩ rfl (Nat.le_of_ble_eq_true rfl) ?_
  refine ks_aload_n rfl rfl C d_Store_tree_4 ?_
  refine ks_get (k := 8) C 0 8 in_Store rfl (by decide) fk_Store_63 rfl rfl rfl d_Store_tree_5 ?_
  refine ks_cxW (ci := 6) (q0 := 0) (kw_store z0 tk0 tv0 gk0 gv0 d0 x0 m0 c0 t0 k0 _ _ _ ++ kw_trees K t0 t1 t2 x0 n0 c0 _ _ _ ++ kw_nodes K n0 n1 x0 _ ++ kw_chains c0 x0 _ _ ++ kw_pages K x0 x1 x2 _ _) (kw_store z0 tk0 tv0 gk0 gv0 d0 x0 m0 c0 t0 k0 _ _ _) C (c_Trees_leastUnused l D K t0 t1 t2 n0 n1 c0 x0 x1 x2 _ _ _ _ _ _ _ _) yw_Trees_leastUnused sel_Trees_leastUnused lk_Store_112 d_Store_tree_8 rfl rfl rfl [1, 2, 3, 4, 5, 6, 7, 8, 9] [0] [0, 1, 2, 3, 4, 5, 6, 7, 8, 9] rfl rfl rfl rfl (by decide) rfl rfl rfl rfl rfl ⟨by decide, by decide⟩ ⟨by decide, by decide⟩ rfl (Nat.le_of_ble_eq_true rfl) ?_
  refine ks_top_lu (fun u1 => ?_)
  refine ks_istore_n C rfl (by decide) rfl d_Store_tree_11 ?_
  refine ks_iload_n rfl rfl C d_Store_tree_12 ?_
  refine ks_bipush (a := 64) rfl C d_Store_tree_13 ?_
  refine ks_icmp_ne (tgt := 28) C (by omega) (by omega) (by decide) d_Store_tree_15 (fun u2 => ?_) (fun u2 => ?_)
  · exact (by omega : False).elim
  · exact ks_throw (names := kt_n2) C Kt Z (by decide +kernel) (by decide +kernel) (kt_site kt_wISE kt_s117) d_Store_tree_18 d_Store_tree_21 d_Store_tree_22 d_Store_tree_24 d_Store_tree_27 (by decide) (by decide) (by decide) (by decide) rfl rfl rfl
set_option maxRecDepth 100000 in
set_option maxHeartbeats 4000000 in
theorem c_Store_drop_T1 (l : Launch) (hNT : l.stackTraces = false) (D : va_G) (K : Nat → ClassId) (z0 tk0 tv0 gk0 gv0 d0 x0 m0 c0 t0 k0 : Nat) (fnd opn : Bool) (t : Nat) : kt_M l D (ks_T K) (kt_R 7) y_Store_drop b_Store_drop 2 (some .int) [.ref z0, .int (nI t)] (kw_store z0 tk0 tv0 gk0 gv0 d0 x0 m0 c0 t0 k0 fnd false opn) "java/lang/IllegalStateException" (kw_store z0 tk0 tv0 gk0 gv0 d0 x0 m0 c0 t0 k0 fnd false opn) := by
  refine kt_M.of hNT 0 (by decide) (Nat.le_of_ble_eq_true rfl) ?_
  intro E C Kt Z
  refine ks_aload_n rfl rfl C d_Store_drop_0 ?_
  exact ks_callTW (ci := 8) (q0 := 0) ([] : va_W) C Kt Z (c_Store_demandOpen_T1 l hNT D K z0 tk0 tv0 gk0 gv0 d0 x0 m0 c0 t0 k0 _ _) yw_Store_demandOpen sel_Store_demandOpen lk_Store_109 d_Store_drop_1 rfl rfl rfl [0] [] [0] rfl rfl rfl rfl (by decide) rfl rfl rfl rfl ⟨by decide, by decide⟩ ⟨by decide, by decide⟩ (Nat.le_of_ble_eq_true rfl) rfl rfl
set_option maxRecDepth 100000 in
set_option maxHeartbeats 4000000 in
theorem c_Store_drop_T2 (l : Launch) (hNT : l.stackTraces = false) (D : va_G) (K : Nat → ClassId) (z0 tk0 tv0 gk0 gv0 d0 x0 m0 c0 t0 k0 : Nat) (fnd : Bool) (t : Nat) : kt_M l D (ks_T K) (kt_R 7) y_Store_drop b_Store_drop 2 (some .int) [.ref z0, .int (nI t)] (kw_store z0 tk0 tv0 gk0 gv0 d0 x0 m0 c0 t0 k0 fnd true false) "java/lang/IllegalStateException" (kw_store z0 tk0 tv0 gk0 gv0 d0 x0 m0 c0 t0 k0 fnd true false) := by
  refine kt_M.of hNT 0 (by decide) (Nat.le_of_ble_eq_true rfl) ?_
  intro E C Kt Z
  refine ks_aload_n rfl rfl C d_Store_drop_0 ?_
  exact ks_callTW (ci := 8) (q0 := 0) ([] : va_W) C Kt Z (c_Store_demandOpen_T2 l hNT D K z0 tk0 tv0 gk0 gv0 d0 x0 m0 c0 t0 k0 _) yw_Store_demandOpen sel_Store_demandOpen lk_Store_109 d_Store_drop_1 rfl rfl rfl [0] [] [0] rfl rfl rfl rfl (by decide) rfl rfl rfl rfl ⟨by decide, by decide⟩ ⟨by decide, by decide⟩ (Nat.le_of_ble_eq_true rfl) rfl rfl
set_option maxRecDepth 100000 in
set_option maxHeartbeats 4000000 in
theorem c_Store_drop_T3 (l : Launch) (hNT : l.stackTraces = false) (D : va_G) (K : Nat → ClassId) (z0 tk0 tv0 gk0 gv0 d0 x0 m0 c0 t0 k0 : Nat) (fnd : Bool) (t1 t2 n0 n1 x1 x2 pg ca top : Nat) (pn ps P : Nat → Nat) (B : Nat → UInt8) (G : Nat → Bool) (t : Nat) (h1 : kv_has B t = false) (h0 : t < 4294967296) : kt_M l D (ks_T K) (kt_R 7) y_Store_drop b_Store_drop 2 (some .int) [.ref z0, .int (nI t)] (kw_store z0 tk0 tv0 gk0 gv0 d0 x0 m0 c0 t0 k0 fnd true true ++ kw_trees K t0 t1 t2 x0 n0 c0 pn ps top ++ kw_nodes K n0 n1 x0 P ++ kw_chains c0 x0 pg ca ++ kw_pages K x0 x1 x2 B G) "java/util/NoSuchElementException" (kw_store z0 tk0 tv0 gk0 gv0 d0 x0 m0 c0 t0 k0 fnd true true ++ kw_trees K t0 t1 t2 x0 n0 c0 pn ps top ++ kw_nodes K n0 n1 x0 P ++ kw_chains c0 x0 pg ca ++ kw_pages K x0 x1 x2 B G) := by
  refine kt_M.of hNT 0 (by decide) (Nat.le_of_ble_eq_true rfl) ?_
  intro E C Kt Z
  refine ks_aload_n rfl rfl C d_Store_drop_0 ?_
  refine ks_cvW (ci := 8) (q0 := 0) (kw_store z0 tk0 tv0 gk0 gv0 d0 x0 m0 c0 t0 k0 _ _ _ ++ kw_trees K t0 t1 t2 x0 n0 c0 _ _ _ ++ kw_nodes K n0 n1 x0 _ ++ kw_chains c0 x0 _ _ ++ kw_pages K x0 x1 x2 _ _) (kw_trees K t0 t1 t2 x0 n0 c0 _ _ _ ++ kw_nodes K n0 n1 x0 _ ++ kw_chains c0 x0 _ _ ++ kw_pages K x0 x1 x2 _ _) C (c_Store_demandOpen_ok l D K z0 tk0 tv0 gk0 gv0 d0 x0 m0 c0 t0 k0 _) yw_Store_demandOpen sel_Store_demandOpen lk_Store_109 d_Store_drop_1 rfl rfl rfl [0] [1, 2, 3, 4, 5, 6, 7, 8, 9] [9, 0, 1, 2, 3, 4, 5, 6, 7, 8] rfl rfl rfl rfl (by decide) rfl rfl rfl rfl rfl ⟨by decide, by decide⟩ ⟨by decide, by decide⟩ rfl (Nat.le_of_ble_eq_true rfl) ?_
  refine ks_aload_n rfl rfl C d_Store_drop_4 ?_
  refine ks_iload_n rfl rfl C d_Store_drop_5 ?_
  exact ks_callTW (ci := 8) (q0 := 0) ([] : va_W) C Kt Z (c_Store_demandTree_T l hNT D K z0 tk0 tv0 gk0 gv0 d0 x0 m0 c0 t0 k0 _ _ _ t1 t2 n0 n1 x1 x2 _ _ _ _ _ _ _ _ _ h1 (by omega)) yw_Store_demandTree sel_Store_demandTree lk_Store_124 d_Store_drop_6 rfl rfl rfl [0, 1, 2, 3, 4, 5, 6, 7, 8, 9] [] [0, 1, 2, 3, 4, 5, 6, 7, 8, 9] rfl rfl rfl rfl (by decide) rfl rfl rfl rfl ⟨by decide, by decide⟩ ⟨by decide, by decide⟩ (Nat.le_of_ble_eq_true rfl) rfl rfl
set_option maxRecDepth 100000 in
set_option maxHeartbeats 4000000 in
theorem c_Store_drop_ok (l : Launch) (D : va_G) (K : Nat → ClassId) (z0 tk0 tv0 gk0 gv0 d0 x0 m0 c0 t0 k0 : Nat) (fnd : Bool) (t1 t2 n0 n1 x1 x2 pg ca top : Nat) (pn ps P : Nat → Nat) (B : Nat → UInt8) (G : Nat → Bool) (t : Nat) (h1 : kv_has B t = true) (h0 : t < 4294967296) (h2 : t < 64) : ks_M l D (ks_T K) (ks_R 12) y_Store_drop b_Store_drop 2 (some .int) [.ref z0, .int (nI t)] (kw_store z0 tk0 tv0 gk0 gv0 d0 x0 m0 c0 t0 k0 fnd true true ++ kw_trees K t0 t1 t2 x0 n0 c0 pn ps top ++ kw_nodes K n0 n1 x0 P ++ kw_chains c0 x0 pg ca ++ kw_pages K x0 x1 x2 B G) (ks_f (some (.int (nI (kv_ents B t)))) (kw_store z0 tk0 tv0 gk0 gv0 d0 x0 m0 c0 t0 k0 fnd true true ++ kw_trees K t0 t1 t2 x0 n0 c0 pn ps top ++ kw_nodes K n0 n1 x0 P ++ kw_chains c0 x0 pg ca ++ kw_pages K x0 x1 x2 (kv_drop (B, G) t).1 (kv_drop (B, G) t).2)) := by
  refine ks_M.of 0 (by decide) (Nat.le_of_ble_eq_true rfl) ?_
  intro E C Z
  refine ks_aload_n rfl rfl C d_Store_drop_0 ?_
  refine ks_cvW (ci := 8) (q0 := 0) (kw_store z0 tk0 tv0 gk0 gv0 d0 x0 m0 c0 t0 k0 _ _ _ ++ kw_trees K t0 t1 t2 x0 n0 c0 _ _ _ ++ kw_nodes K n0 n1 x0 _ ++ kw_chains c0 x0 _ _ ++ kw_pages K x0 x1 x2 _ _) (kw_trees K t0 t1 t2 x0 n0 c0 _ _ _ ++ kw_nodes K n0 n1 x0 _ ++ kw_chains c0 x0 _ _ ++ kw_pages K x0 x1 x2 _ _) C (c_Store_demandOpen_ok l D K z0 tk0 tv0 gk0 gv0 d0 x0 m0 c0 t0 k0 _) yw_Store_demandOpen sel_Store_demandOpen lk_Store_109 d_Store_drop_1 rfl rfl rfl [0] [1, 2, 3, 4, 5, 6, 7, 8, 9] [9, 0, 1, 2, 3, 4, 5, 6, 7, 8] rfl rfl rfl rfl (by decide) rfl rfl rfl rfl rfl ⟨by decide, by decide⟩ ⟨by decide, by decide⟩ rfl (Nat.le_of_ble_eq_true rfl) ?_
  refine ks_aload_n rfl rfl C d_Store_drop_4 ?_
  refine ks_iload_n rfl rfl C d_Store_drop_5 ?_
  refine ks_cvW (ci := 8) (q0 := 0) (kw_store z0 tk0 tv0 gk0 gv0 d0 x0 m0 c0 t0 k0 _ _ _ ++ kw_trees K t0 t1 t2 x0 n0 c0 _ _ _ ++ kw_nodes K n0 n1 x0 _ ++ kw_chains c0 x0 _ _ ++ kw_pages K x0 x1 x2 _ _) ([] : va_W) C (c_Store_demandTree_ok l D K z0 tk0 tv0 gk0 gv0 d0 x0 m0 c0 t0 k0 _ _ _ t1 t2 n0 n1 x1 x2 _ _ _ _ _ _ _ _ _ h1 (by omega)) yw_Store_demandTree sel_Store_demandTree lk_Store_124 d_Store_drop_6 rfl rfl rfl [0, 1, 2, 3, 4, 5, 6, 7, 8, 9] [] [0, 1, 2, 3, 4, 5, 6, 7, 8, 9] rfl rfl rfl rfl (by decide) rfl rfl rfl rfl rfl ⟨by decide, by decide⟩ ⟨by decide, by decide⟩ rfl (Nat.le_of_ble_eq_true rfl) ?_
  refine ks_aload_n rfl rfl C d_Store_drop_9 ?_
  refine ks_get (k := 8) C 0 8 in_Store rfl (by decide) fk_Store_63 rfl rfl rfl d_Store_drop_10 ?_
  refine ks_iload_n rfl rfl C d_Store_drop_13 ?_
  refine ks_cxW (ci := 6) (q0 := 0) (kw_store z0 tk0 tv0 gk0 gv0 d0 x0 m0 c0 t0 k0 _ _ _ ++ kw_trees K t0 t1 t2 x0 n0 c0 _ _ _ ++ kw_nodes K n0 n1 x0 _ ++ kw_chains c0 x0 _ _ ++ kw_pages K x0 x1 x2 _ _) (kw_store z0 tk0 tv0 gk0 gv0 d0 x0 m0 c0 t0 k0 _ _ _) C (c_Trees_dropTree l D K t0 t1 t2 n0 n1 c0 x0 x1 x2 _ _ _ _ _ _ _ _ _ (by omega)) yw_Trees_dropTree sel_Trees_dropTree lk_Store_127 d_Store_drop_14 rfl rfl rfl [1, 2, 3, 4, 5, 6, 7, 8, 9] [0] [0, 1, 2, 3, 4, 5, 6, 7, 8, 9] rfl rfl rfl rfl (by decide) rfl rfl rfl rfl rfl ⟨by decide, by decide⟩ ⟨by decide, by decide⟩ rfl (Nat.le_of_ble_eq_true rfl) ?_
  refine ks_top_ents (fun u1 => ?_)
  exact ks_iret C Z rfl rfl d_Store_drop_17 rfl rfl ⟨rfl, rfl⟩
