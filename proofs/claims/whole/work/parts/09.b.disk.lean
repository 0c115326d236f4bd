/-! contracts of the disk: saving and recovering -/
theorem ks_and_t {p : Prop} [Decidable p] {b : Bool} (hp : p) (h : (decide p && b) = true) : b = true := by rw [decide_eq_true hp] at h; exact h
theorem ks_and_f {p : Prop} [Decidable p] {b : Bool} (hp : p) (h : (decide p && b) = false) : b = false := by rw [decide_eq_true hp] at h; exact h
set_option maxRecDepth 100000 in
set_option maxHeartbeats 4000000 in
theorem c_Disk_saveOld (l : Launch) (D : va_G) (K : Nat → ClassId) (d0 d1 d2 d3 : Nat) (F J Rc : Nat → UInt8) (jl fw fk fb : Nat) (x0 x1 x2 : Nat) (B : Nat → UInt8) (G : Nat → Bool) (h1 : jl ≤ 92480) (hw : fw ≤ 4) (hk : fk ≤ 1000) (hb : fb ≤ 300) : ks_M l D (ks_T K) (ks_R 3) y_Disk_saveOld b_Disk_saveOld 5 (some .boolean) [.ref d0, .ref x0] (kw_disk K d0 d1 d2 d3 F J Rc jl fw fk fb ++ kw_pages K x0 x1 x2 B G) (ks_f (some (.int (ks_b ((kv_soL F G fw fk fb 2720 0 true 0 J jl Rc).1)))) (kw_disk K d0 d1 d2 d3 F (kv_soL F G fw fk fb 2720 0 true 0 J jl Rc).2.1 (kv_soL F G fw fk fb 2720 0 true 0 J jl Rc).2.2.2 (kv_soL F G fw fk fb 2720 0 true 0 J jl Rc).2.2.1 fw fk fb ++ kw_pages K x0 x1 x2 B G)) := by
  refine ks_M.of 3 (by decide) (Nat.le_of_ble_eq_true rfl) ?_
  intro E C Z
  have loop : ∀ (f : Nat) (pg : Nat) (hd : Bool) (wr : Nat) (J1 : Nat → UInt8) (jl1 : Nat) (Rc1 : Nat → UInt8), pg + f = 2720 → wr ≤ pg → jl1 ≤ 92480 → kv_soL F G fw fk fb f pg hd wr J1 jl1 Rc1 = (kv_soL F G fw fk fb 2720 0 true 0 J jl Rc) → ks_w E D 5 (kw_disk K d0 d1 d2 d3 F J1 Rc1 jl1 fw fk fb ++ kw_pages K x0 x1 x2 B G) [some (.ref d0), some (.ref x0), some (.int (ks_b hd)), some (.int (nI wr)), some (.int (nI pg))] 0 0 7 [] := by
    intro f
    induction f with
    | zero =>
      intro pg hd wr J1 jl1 Rc1 g1 g2 g3 g4
      refine ks_iload rfl C d_Disk_saveOld_7 ?_
      refine ks_sipush (a := 2720) rfl C d_Disk_saveOld_9 ?_
      refine ks_icmp_ge (tgt := 45) C (by omega) (by omega) (by decide) d_Disk_saveOld_12 (fun u1 => ?_) (fun u1 => ?_)
      · refine ks_iload_n rfl rfl C d_Disk_saveOld_45 ?_
        exact ks_iret C Z rfl (ks_nb1 _) d_Disk_saveOld_46 rfl rfl ⟨ks_eqB (by rw [← g4]; rfl), by rw [← g4]; rfl⟩
      · exact (by omega : False).elim
    | succ f ih =>
      intro pg hd wr J1 jl1 Rc1 g1 g2 g3 g4
      refine ks_iload rfl C d_Disk_saveOld_7 ?_
      refine ks_sipush (a := 2720) rfl C d_Disk_saveOld_9 ?_
      refine ks_icmp_ge (tgt := 45) C (by omega) (by omega) (by decide) d_Disk_saveOld_12 (fun u2 => ?_) (fun u2 => ?_)
      · refine ks_iload_n rfl rfl C d_Disk_saveOld_45 ?_
        exact ks_iret C Z rfl (ks_nb1 _) d_Disk_saveOld_46 rfl rfl (False.elim (by omega))
      · refine ks_iload_n rfl rfl C d_Disk_saveOld_15 ?_
        refine ks_ifB_eq (tgt := 45) C (by decide) d_Disk_saveOld_16 (fun u3 => ?_) (fun u3 => ?_)
        · refine ks_iload_n rfl rfl C d_Disk_saveOld_45 ?_
          exact ks_iret C Z rfl (ks_nb1 _) d_Disk_saveOld_46 rfl rfl ⟨ks_eqB (by rw [← g4, kv_soL, if_neg (by rw [u3]; decide)]), by rw [← g4, kv_soL, if_neg (by rw [u3]; decide)]⟩
        · refine ks_aload_n rfl rfl C d_Disk_saveOld_19 ?_
          refine ks_iload rfl C d_Disk_saveOld_20 ?_
          refine ks_cx (ci := 1) (q0 := 0) (kw_disk K d0 d1 d2 d3 _ _ _ _ _ _ _ ++ kw_pages K x0 x1 x2 _ _) C (c_Pages_isChanged l D K x0 x1 x2 _ _ _ (by omega)) yw_Pages_isChanged sel_Pages_isChanged lk_Disk_63 d_Disk_saveOld_22 rfl rfl rfl [4, 5, 6] [0, 1, 2, 3] [0, 1, 2, 3, 4, 5, 6] rfl rfl rfl rfl (by decide) rfl rfl rfl rfl rfl ⟨by decide, by decide⟩ ⟨by decide, by decide⟩ rfl (Nat.le_of_ble_eq_true rfl) ?_
          refine ks_ifB_eq (tgt := 39) C (by decide) d_Disk_saveOld_25 (fun u4 => ?_) (fun u4 => ?_)
          · refine ks_iinc C rfl (z := 1) rfl (by decide) rfl d_Disk_saveOld_39 ?_
            refine ks_goto (tgt := 7) C (by decide) d_Disk_saveOld_42 ?_
            exact ih _ _ _ _ _ _ (by omega) (by omega) (by omega) (by rw [← g4, kv_soL, if_pos u3, if_neg (by rw [ks_and_f (by omega) u4]; decide)])
          · refine ks_aload_n rfl rfl C d_Disk_saveOld_28 ?_
            refine ks_iload_n rfl rfl C d_Disk_saveOld_29 ?_
            refine ks_iload rfl C d_Disk_saveOld_30 ?_
            refine ks_cx (ci := 2) (q0 := 0) (kw_disk K d0 d1 d2 d3 _ _ _ _ _ _ _ ++ kw_pages K x0 x1 x2 _ _) C (c_Disk_writeJournal l D K d0 d1 d2 d3 _ _ _ _ _ _ _ _ _ (by omega) (by omega) (by omega) hw hk hb) yw_Disk_writeJournal sel_Disk_writeJournal lk_Disk_67 d_Disk_saveOld_32 rfl rfl rfl [0, 1, 2, 3] [4, 5, 6] [3, 4, 5, 6, 0, 1, 2] rfl rfl rfl rfl (by decide) rfl rfl rfl rfl rfl ⟨by decide, by decide⟩ ⟨by decide, by decide⟩ rfl (Nat.le_of_ble_eq_true rfl) ?_
            refine ks_istore_n C rfl (by decide) rfl d_Disk_saveOld_35 ?_
            refine ks_iinc C rfl (z := 1) rfl (by decide) rfl d_Disk_saveOld_36 ?_
            refine ks_iinc C rfl (z := 1) rfl (by decide) rfl d_Disk_saveOld_39 ?_
            refine ks_goto (tgt := 7) C (by decide) d_Disk_saveOld_42 ?_
            exact ih _ _ _ _ _ _ (by omega) (by omega) (kv_wj_le (by omega)) (by rw [← g4, kv_soL, if_pos u3, if_pos (ks_and_t (by omega) u4)])
  refine ks_iconstB true rfl C d_Disk_saveOld_0 ?_
  refine ks_istore_n C rfl (by decide) rfl d_Disk_saveOld_1 ?_
  refine ks_iconst (a := 0) rfl C d_Disk_saveOld_2 ?_
  refine ks_istore_n C rfl (by decide) rfl d_Disk_saveOld_3 ?_
  refine ks_iconst (a := 0) rfl C d_Disk_saveOld_4 ?_
  refine ks_istore C (by decide) rfl d_Disk_saveOld_5 ?_
  exact loop 2720 0 true 0 J jl Rc (by omega) (by omega) (by omega) rfl
set_option maxRecDepth 100000 in
set_option maxHeartbeats 4000000 in
theorem c_Disk_saveNew (l : Launch) (D : va_G) (K : Nat → ClassId) (d0 d1 d2 d3 : Nat) (F J Rc : Nat → UInt8) (jl fw fk fb : Nat) (x0 x1 x2 : Nat) (B : Nat → UInt8) (G : Nat → Bool) (hw : fw ≤ 4) (hk : fk ≤ 1000) (hb : fb ≤ 300) : ks_M l D (ks_T K) (ks_R 3) y_Disk_saveNew b_Disk_saveNew 5 (some .boolean) [.ref d0, .ref x0] (kw_disk K d0 d1 d2 d3 F J Rc jl fw fk fb ++ kw_pages K x0 x1 x2 B G) (ks_f (some (.int (ks_b ((kv_snL B G fw fk fb 2720 0 true 0 F).1)))) (kw_disk K d0 d1 d2 d3 (kv_snL B G fw fk fb 2720 0 true 0 F).2 J Rc jl fw fk fb ++ kw_pages K x0 x1 x2 B G)) := by
  refine ks_M.of 3 (by decide) (Nat.le_of_ble_eq_true rfl) ?_
  intro E C Z
  have loop : ∀ (f : Nat) (pg : Nat) (hd : Bool) (wr : Nat) (F1 : Nat → UInt8), pg + f = 2720 → wr ≤ pg → kv_snL B G fw fk fb f pg hd wr F1 = (kv_snL B G fw fk fb 2720 0 true 0 F) → ks_w E D 5 (kw_disk K d0 d1 d2 d3 F1 J Rc jl fw fk fb ++ kw_pages K x0 x1 x2 B G) [some (.ref d0), some (.ref x0), some (.int (ks_b hd)), some (.int (nI wr)), some (.int (nI pg))] 0 0 7 [] := by
    intro f
    induction f with
    | zero =>
      intro pg hd wr F1 g1 g2 g3
      refine ks_iload rfl C d_Disk_saveNew_7 ?_
      refine ks_sipush (a := 2720) rfl C d_Disk_saveNew_9 ?_
      refine ks_icmp_ge (tgt := 55) C (by omega) (by omega) (by decide) d_Disk_saveNew_12 (fun u1 => ?_) (fun u1 => ?_)
      · refine ks_iload_n rfl rfl C d_Disk_saveNew_55 ?_
        exact ks_iret C Z rfl (ks_nb1 _) d_Disk_saveNew_56 rfl rfl ⟨ks_eqB (by rw [← g3]; rfl), by rw [← g3]; rfl⟩
      · exact (by omega : False).elim
    | succ f ih =>
      intro pg hd wr F1 g1 g2 g3
      refine ks_iload rfl C d_Disk_saveNew_7 ?_
      refine ks_sipush (a := 2720) rfl C d_Disk_saveNew_9 ?_
      refine ks_icmp_ge (tgt := 55) C (by omega) (by omega) (by decide) d_Disk_saveNew_12 (fun u2 => ?_) (fun u2 => ?_)
      · refine ks_iload_n rfl rfl C d_Disk_saveNew_55 ?_
        exact ks_iret C Z rfl (ks_nb1 _) d_Disk_saveNew_56 rfl rfl (False.elim (by omega))
      · refine ks_iload_n rfl rfl C d_Disk_saveNew_15 ?_
        refine ks_ifB_eq (tgt := 55) C (by decide) d_Disk_saveNew_16 (fun u3 => ?_) (fun u3 => ?_)
        · refine ks_iload_n rfl rfl C d_Disk_saveNew_55 ?_
          exact ks_iret C Z rfl (ks_nb1 _) d_Disk_saveNew_56 rfl rfl ⟨ks_eqB (by rw [← g3, kv_snL, if_neg (by rw [u3]; decide)]), by rw [← g3, kv_snL, if_neg (by rw [u3]; decide)]⟩
        · refine ks_aload_n rfl rfl C d_Disk_saveNew_19 ?_
          refine ks_iload rfl C d_Disk_saveNew_20 ?_
          refine ks_cx (ci := 1) (q0 := 0) (kw_disk K d0 d1 d2 d3 _ _ _ _ _ _ _ ++ kw_pages K x0 x1 x2 _ _) C (c_Pages_isChanged l D K x0 x1 x2 _ _ _ (by omega)) yw_Pages_isChanged sel_Pages_isChanged lk_Disk_63 d_Disk_saveNew_22 rfl rfl rfl [4, 5, 6] [0, 1, 2, 3] [0, 1, 2, 3, 4, 5, 6] rfl rfl rfl rfl (by decide) rfl rfl rfl rfl rfl ⟨by decide, by decide⟩ ⟨by decide, by decide⟩ rfl (Nat.le_of_ble_eq_true rfl) ?_
          refine ks_ifB_eq (tgt := 49) C (by decide) d_Disk_saveNew_25 (fun u4 => ?_) (fun u4 => ?_)
          · refine ks_iinc C rfl (z := 1) rfl (by decide) rfl d_Disk_saveNew_49 ?_
            refine ks_goto (tgt := 7) C (by decide) d_Disk_saveNew_52 ?_
            exact ih _ _ _ _ (by omega) (by omega) (by rw [← g3, kv_snL, if_pos u3, if_neg (by rw [ks_and_f (by omega) u4]; decide)])
          · refine ks_aload_n rfl rfl C d_Disk_saveNew_28 ?_
            refine ks_iconst (a := 1) rfl C d_Disk_saveNew_29 ?_
            refine ks_iload_n rfl rfl C d_Disk_saveNew_30 ?_
            refine ks_iload rfl C d_Disk_saveNew_31 ?_
            refine ks_aload_n rfl rfl C d_Disk_saveNew_33 ?_
            refine ks_cx (ci := 1) (q0 := 0) (kw_disk K d0 d1 d2 d3 _ _ _ _ _ _ _ ++ kw_pages K x0 x1 x2 _ _) C (c_Pages_bytes l D K x0 x1 x2 _ _) yw_Pages_bytes sel_Pages_bytes lk_Disk_71 d_Disk_saveNew_34 rfl rfl rfl [4, 5, 6] [0, 1, 2, 3] [0, 1, 2, 3, 4, 5, 6] rfl rfl rfl rfl (by decide) rfl rfl rfl rfl rfl ⟨by decide, by decide⟩ ⟨by decide, by decide⟩ rfl (Nat.le_of_ble_eq_true rfl) ?_
            refine ks_iload rfl C d_Disk_saveNew_37 ?_
            refine ks_bipush (a := 32) rfl C d_Disk_saveNew_39 ?_
            refine ks_imul C d_Disk_saveNew_41 ?_
            refine ks_cx (ci := 2) (q0 := 0) (kw_disk K d0 d1 d2 d3 _ _ _ _ _ _ _ ++ kw_pages K x0 x1 x2 _ _) C (c_Disk_writeFile l D K d0 d1 d2 d3 _ _ _ _ _ _ _ x1 _ _ _ _ _ (by omega) (by omega) (by omega) (by omega) hw hk hb) yw_Disk_writeFile sel_Disk_writeFile lk_Disk_47 d_Disk_saveNew_42 rfl rfl rfl [0, 1, 2, 3, 5] [4, 6] [2, 3, 4, 5, 0, 6, 1] rfl rfl rfl rfl (by decide) rfl rfl rfl rfl rfl ⟨by decide, by decide⟩ ⟨by decide, by decide⟩ rfl (Nat.le_of_ble_eq_true rfl) ?_
            refine ks_istore_n C rfl (by decide) rfl d_Disk_saveNew_45 ?_
            refine ks_iinc C rfl (z := 1) rfl (by decide) rfl d_Disk_saveNew_46 ?_
            refine ks_iinc C rfl (z := 1) rfl (by decide) rfl d_Disk_saveNew_49 ?_
            refine ks_goto (tgt := 7) C (by decide) d_Disk_saveNew_52 ?_
            exact ih _ _ _ _ (by omega) (by omega) (by rw [← g3, kv_snL, if_pos u3, if_pos (ks_and_t (by omega) u4)])
  refine ks_iconstB true rfl C d_Disk_saveNew_0 ?_
  refine ks_istore_n C rfl (by decide) rfl d_Disk_saveNew_1 ?_
  refine ks_iconst (a := 0) rfl C d_Disk_saveNew_2 ?_
  refine ks_istore_n C rfl (by decide) rfl d_Disk_saveNew_3 ?_
  refine ks_iconst (a := 0) rfl C d_Disk_saveNew_4 ?_
  refine ks_istore C (by decide) rfl d_Disk_saveNew_5 ?_
  exact loop 2720 0 true 0 F (by omega) (by omega) rfl
set_option maxRecDepth 100000 in
set_option maxHeartbeats 4000000 in
theorem c_Disk_endSave (l : Launch) (D : va_G) (K : Nat → ClassId) (d0 d1 d2 d3 : Nat) (F J Rc : Nat → UInt8) (jl fw fk fb : Nat) (hw : fw ≤ 4) (hk : fk ≤ 1000) (hb : fb ≤ 300) : ks_M l D (ks_T K) (ks_R 0) y_Disk_endSave b_Disk_endSave 2 (some .boolean) [.ref d0] (kw_disk K d0 d1 d2 d3 F J Rc jl fw fk fb) (ks_f (some (.int (ks_b (decide (¬ (fw = 0 ∨ fw = 1 ∨ (fw = 2 ∧ fk = 0)) ∧ fw ≠ 2))))) (kw_disk K d0 d1 d2 d3 F J Rc (if (fw = 0 ∨ fw = 1 ∨ (fw = 2 ∧ fk = 0)) then jl else 0) fw fk fb)) := by
  refine ks_M.of 1 (by decide) (Nat.le_of_ble_eq_true rfl) ?_
  intro E C Z
  refine ks_aload_n rfl rfl C d_Disk_endSave_0 ?_
  refine ks_get (k := 4) C 0 2 in_Disk rfl (by decide) fk_Disk_27 rfl rfl rfl d_Disk_endSave_1 ?_
  refine ks_if_eq (tgt := 30) C (by omega) (by decide) d_Disk_endSave_4 (fun u1 => ?_) (fun u1 => ?_)
  · refine ks_iconstB true rfl C d_Disk_endSave_30 ?_
    refine ks_goto (tgt := 35) C (by decide) d_Disk_endSave_31 ?_
    refine ks_istore_n C rfl (by decide) rfl d_Disk_endSave_35 ?_
    refine ks_iload_n rfl rfl C d_Disk_endSave_36 ?_
    refine ks_ifB_eq (tgt := 42) C (by decide) d_Disk_endSave_37 (fun h => absurd h (by decide)) (fun _ => ?_)
    refine ks_iconstB false rfl C d_Disk_endSave_40 ?_
    exact ks_iret C Z rfl (ks_nb1 _) d_Disk_endSave_41 rfl rfl ⟨ks_eqF (by omega), by rw [if_pos (by omega)]⟩
  · refine ks_aload_n rfl rfl C d_Disk_endSave_7 ?_
    refine ks_get (k := 4) C 0 2 in_Disk rfl (by decide) fk_Disk_27 rfl rfl rfl d_Disk_endSave_8 ?_
    refine ks_iconst (a := 1) rfl C d_Disk_endSave_11 ?_
    refine ks_icmp_eq (tgt := 30) C (by omega) (by omega) (by decide) d_Disk_endSave_12 (fun u3 => ?_) (fun u3 => ?_)
    · refine ks_iconstB true rfl C d_Disk_endSave_30 ?_
      refine ks_goto (tgt := 35) C (by decide) d_Disk_endSave_31 ?_
      refine ks_istore_n C rfl (by decide) rfl d_Disk_endSave_35 ?_
      refine ks_iload_n rfl rfl C d_Disk_endSave_36 ?_
      refine ks_ifB_eq (tgt := 42) C (by decide) d_Disk_endSave_37 (fun h => absurd h (by decide)) (fun _ => ?_)
      refine ks_iconstB false rfl C d_Disk_endSave_40 ?_
      exact ks_iret C Z rfl (ks_nb1 _) d_Disk_endSave_41 rfl rfl ⟨ks_eqF (by omega), by rw [if_pos (by omega)]⟩
    · refine ks_aload_n rfl rfl C d_Disk_endSave_15 ?_
      refine ks_get (k := 4) C 0 2 in_Disk rfl (by decide) fk_Disk_27 rfl rfl rfl d_Disk_endSave_16 ?_
      refine ks_iconst (a := 2) rfl C d_Disk_endSave_19 ?_
      refine ks_icmp_ne (tgt := 34) C (by omega) (by omega) (by decide) d_Disk_endSave_20 (fun u5 => ?_) (fun u5 => ?_)
      · refine ks_iconstB false rfl C d_Disk_endSave_34 ?_
        refine ks_istore_n C rfl (by decide) rfl d_Disk_endSave_35 ?_
        refine ks_iload_n rfl rfl C d_Disk_endSave_36 ?_
        refine ks_ifB_eq (tgt := 42) C (by decide) d_Disk_endSave_37 (fun _ => ?_) (fun h => absurd h (by decide))
        refine ks_aload_n rfl rfl C d_Disk_endSave_42 ?_
        refine ks_iconst (a := 0) rfl C d_Disk_endSave_43 ?_
        refine ks_put (k := 3) (ws' := (kw_disk K d0 d1 d2 d3 _ _ _ _ _ _ _)) C 0 2 t_Disk ty_Disk nm_Disk in_Disk rfl (by decide) fk_Disk_23 rfl rfl rfl rfl rfl (Nat.le_of_ble_eq_true rfl) rfl d_Disk_endSave_44 ?_
        refine ks_aload_n rfl rfl C d_Disk_endSave_47 ?_
        refine ks_get (k := 4) C 0 2 in_Disk rfl (by decide) fk_Disk_27 rfl rfl rfl d_Disk_endSave_48 ?_
        refine ks_iconst (a := 2) rfl C d_Disk_endSave_51 ?_
        refine ks_icmp_eq (tgt := 59) C (by omega) (by omega) (by decide) d_Disk_endSave_52 (fun u7 => ?_) (fun u7 => ?_)
        · refine ks_iconstB false rfl C d_Disk_endSave_59 ?_
          exact ks_iret C Z rfl (ks_nb1 _) d_Disk_endSave_60 rfl rfl ⟨ks_eqF (by omega), by rw [if_neg (by omega)]⟩
        · refine ks_iconstB true rfl C d_Disk_endSave_55 ?_
          refine ks_goto (tgt := 60) C (by decide) d_Disk_endSave_56 ?_
          exact ks_iret C Z rfl (ks_nb1 _) d_Disk_endSave_60 rfl rfl ⟨ks_eqT (by omega), by rw [if_neg (by omega)]⟩
      · refine ks_aload_n rfl rfl C d_Disk_endSave_23 ?_
        refine ks_get (k := 5) C 0 2 in_Disk rfl (by decide) fk_Disk_30 rfl rfl rfl d_Disk_endSave_24 ?_
        refine ks_if_ne (tgt := 34) C (by omega) (by decide) d_Disk_endSave_27 (fun u8 => ?_) (fun u8 => ?_)
        · refine ks_iconstB false rfl C d_Disk_endSave_34 ?_
          refine ks_istore_n C rfl (by decide) rfl d_Disk_endSave_35 ?_
          refine ks_iload_n rfl rfl C d_Disk_endSave_36 ?_
          refine ks_ifB_eq (tgt := 42) C (by decide) d_Disk_endSave_37 (fun _ => ?_) (fun h => absurd h (by decide))
          refine ks_aload_n rfl rfl C d_Disk_endSave_42 ?_
          refine ks_iconst (a := 0) rfl C d_Disk_endSave_43 ?_
          refine ks_put (k := 3) (ws' := (kw_disk K d0 d1 d2 d3 _ _ _ _ _ _ _)) C 0 2 t_Disk ty_Disk nm_Disk in_Disk rfl (by decide) fk_Disk_23 rfl rfl rfl rfl rfl (Nat.le_of_ble_eq_true rfl) rfl d_Disk_endSave_44 ?_
          refine ks_aload_n rfl rfl C d_Disk_endSave_47 ?_
          refine ks_get (k := 4) C 0 2 in_Disk rfl (by decide) fk_Disk_27 rfl rfl rfl d_Disk_endSave_48 ?_
          refine ks_iconst (a := 2) rfl C d_Disk_endSave_51 ?_
          refine ks_icmp_eq (tgt := 59) C (by omega) (by omega) (by decide) d_Disk_endSave_52 (fun u10 => ?_) (fun u10 => ?_)
          · refine ks_iconstB false rfl C d_Disk_endSave_59 ?_
            exact ks_iret C Z rfl (ks_nb1 _) d_Disk_endSave_60 rfl rfl ⟨ks_eqF (by omega), by rw [if_neg (by omega)]⟩
          · refine ks_iconstB true rfl C d_Disk_endSave_55 ?_
            refine ks_goto (tgt := 60) C (by decide) d_Disk_endSave_56 ?_
            exact ks_iret C Z rfl (ks_nb1 _) d_Disk_endSave_60 rfl rfl ⟨ks_eqT (by omega), by rw [if_neg (by omega)]⟩
        · refine ks_iconstB true rfl C d_Disk_endSave_30 ?_
          refine ks_goto (tgt := 35) C (by decide) d_Disk_endSave_31 ?_
          refine ks_istore_n C rfl (by decide) rfl d_Disk_endSave_35 ?_
          refine ks_iload_n rfl rfl C d_Disk_endSave_36 ?_
          refine ks_ifB_eq (tgt := 42) C (by decide) d_Disk_endSave_37 (fun h => absurd h (by decide)) (fun _ => ?_)
          refine ks_iconstB false rfl C d_Disk_endSave_40 ?_
          exact ks_iret C Z rfl (ks_nb1 _) d_Disk_endSave_41 rfl rfl ⟨ks_eqF (by omega), by rw [if_pos (by omega)]⟩
def kv_save (F J Rc : Nat → UInt8) (jl fw fk fb : Nat) (B : Nat → UInt8) (G : Nat → Bool) : Bool × (Nat → UInt8) × Nat :=
  if (kv_soL F G fw fk fb 2720 0 true 0 J jl Rc).1 = true then (if (kv_snL B G fw fk fb 2720 0 true 0 F).1 = true then (decide (¬ (fw = 0 ∨ fw = 1 ∨ (fw = 2 ∧ fk = 0)) ∧ fw ≠ 2), (kv_snL B G fw fk fb 2720 0 true 0 F).2, (if (fw = 0 ∨ fw = 1 ∨ (fw = 2 ∧ fk = 0)) then (kv_soL F G fw fk fb 2720 0 true 0 J jl Rc).2.2.1 else 0)) else (false, (kv_snL B G fw fk fb 2720 0 true 0 F).2, (kv_soL F G fw fk fb 2720 0 true 0 J jl Rc).2.2.1)) else (false, F, (kv_soL F G fw fk fb 2720 0 true 0 J jl Rc).2.2.1)
set_option maxRecDepth 100000 in
set_option maxHeartbeats 4000000 in
theorem c_Disk_save (l : Launch) (D : va_G) (K : Nat → ClassId) (d0 d1 d2 d3 : Nat) (F J Rc : Nat → UInt8) (jl fw fk fb : Nat) (x0 x1 x2 : Nat) (B : Nat → UInt8) (G : Nat → Bool) (h1 : jl ≤ 92480) (hw : fw ≤ 4) (hk : fk ≤ 1000) (hb : fb ≤ 300) : ks_M l D (ks_T K) (ks_R 4) y_Disk_save b_Disk_save 2 (some .boolean) [.ref d0, .ref x0] (kw_disk K d0 d1 d2 d3 F J Rc jl fw fk fb ++ kw_pages K x0 x1 x2 B G) (ks_f (some (.int (ks_b ((kv_save F J Rc jl fw fk fb B G).1)))) (kw_disk K d0 d1 d2 d3 (kv_save F J Rc jl fw fk fb B G).2.1 (kv_soL F G fw fk fb 2720 0 true 0 J jl Rc).2.1 (kv_soL F G fw fk fb 2720 0 true 0 J jl Rc).2.2.2 (kv_save F J Rc jl fw fk fb B G).2.2 fw fk fb ++ kw_pages K x0 x1 x2 B G)) := by
  refine ks_M.of 0 (by decide) (Nat.le_of_ble_eq_true rfl) ?_
  intro E C Z
  refine ks_aload_n rfl rfl C d_Disk_save_0 ?_
  refine ks_aload_n rfl rfl C d_Disk_save_1 ?_
  refine ks_cx (ci := 2) (q0 := 0) (kw_disk K d0 d1 d2 d3 _ _ _ _ _ _ _ ++ kw_pages K x0 x1 x2 _ _) C (c_Disk_saveOld l D K d0 d1 d2 d3 _ _ _ _ _ _ _ x0 x1 x2 _ _ (by omega) hw hk hb) yw_Disk_saveOld sel_Disk_saveOld lk_Disk_36 d_Disk_save_2 rfl rfl rfl [0, 1, 2, 3, 4, 5, 6] [] [0, 1, 2, 3, 4, 5, 6] rfl rfl rfl rfl (by decide) rfl rfl rfl rfl rfl ⟨by decide, by decide⟩ ⟨by decide, by decide⟩ rfl (Nat.le_of_ble_eq_true rfl) ?_
  refine ks_ifB_eq (tgt := 27) C (by decide) d_Disk_save_5 (fun u1 => ?_) (fun u1 => ?_)
  · refine ks_iconstB false rfl C d_Disk_save_27 ?_
    exact ks_iret C Z rfl (ks_nb1 _) d_Disk_save_28 rfl rfl ⟨ks_eqB (by unfold kv_save; rw [if_neg (by rw [u1]; decide)]), by unfold kv_save; rw [if_neg (by rw [u1]; decide)]⟩
  · refine ks_aload_n rfl rfl C d_Disk_save_8 ?_
    refine ks_aload_n rfl rfl C d_Disk_save_9 ?_
    refine ks_cx (ci := 2) (q0 := 0) (kw_disk K d0 d1 d2 d3 _ _ _ _ _ _ _ ++ kw_pages K x0 x1 x2 _ _) C (c_Disk_saveNew l D K d0 d1 d2 d3 _ _ _ _ _ _ _ x0 x1 x2 _ _ hw hk hb) yw_Disk_saveNew sel_Disk_saveNew lk_Disk_40 d_Disk_save_10 rfl rfl rfl [0, 1, 2, 3, 4, 5, 6] [] [0, 1, 2, 3, 4, 5, 6] rfl rfl rfl rfl (by decide) rfl rfl rfl rfl rfl ⟨by decide, by decide⟩ ⟨by decide, by decide⟩ rfl (Nat.le_of_ble_eq_true rfl) ?_
    refine ks_ifB_eq (tgt := 27) C (by decide) d_Disk_save_13 (fun u2 => ?_) (fun u2 => ?_)
    · refine ks_iconstB false rfl C d_Disk_save_27 ?_
      exact ks_iret C Z rfl (ks_nb1 _) d_Disk_save_28 rfl rfl ⟨ks_eqB (by unfold kv_save; rw [if_pos u1, if_neg (by rw [u2]; decide)]), by unfold kv_save; rw [if_pos u1, if_neg (by rw [u2]; decide)]⟩
    · refine ks_aload_n rfl rfl C d_Disk_save_16 ?_
      refine ks_cx (ci := 2) (q0 := 0) (kw_disk K d0 d1 d2 d3 _ _ _ _ _ _ _ ++ kw_pages K x0 x1 x2 _ _) C (c_Disk_endSave l D K d0 d1 d2 d3 _ _ _ _ _ _ _ hw hk hb) yw_Disk_endSave sel_Disk_endSave lk_Disk_43 d_Disk_save_17 rfl rfl rfl [0, 1, 2, 3] [4, 5, 6] [3, 4, 5, 6, 0, 1, 2] rfl rfl rfl rfl (by decide) rfl rfl rfl rfl rfl ⟨by decide, by decide⟩ ⟨by decide, by decide⟩ rfl (Nat.le_of_ble_eq_true rfl) ?_
      refine ks_ifD_eq (tgt := 27) C (by decide) d_Disk_save_20 (fun u3 => ?_) (fun u3 => ?_)
      · refine ks_iconstB false rfl C d_Disk_save_27 ?_
        exact ks_iret C Z rfl (ks_nb1 _) d_Disk_save_28 rfl rfl ⟨ks_eqB (by unfold kv_save; rw [if_pos u1, if_pos u2]; exact (decide_eq_false u3).symm), by unfold kv_save; rw [if_pos u1, if_pos u2]⟩
      · refine ks_iconstB true rfl C d_Disk_save_23 ?_
        refine ks_goto (tgt := 28) C (by decide) d_Disk_save_24 ?_
        exact ks_iret C Z rfl (ks_nb1 _) d_Disk_save_28 rfl rfl ⟨ks_eqB (by unfold kv_save; rw [if_pos u1, if_pos u2]; exact (decide_eq_true u3).symm), by unfold kv_save; rw [if_pos u1, if_pos u2]⟩
set_option maxRecDepth 100000 in
set_option maxHeartbeats 4000000 in
theorem c_Disk_load (l : Launch) (D : va_G) (K : Nat → ClassId) (d0 d1 d2 d3 : Nat) (F J Rc : Nat → UInt8) (jl fw fk fb : Nat) (x0 x1 x2 : Nat) (B : Nat → UInt8) (G : Nat → Bool) : ks_M l D (ks_T K) (ks_R 3) y_Disk_load b_Disk_load 2 none [.ref d0, .ref x0] (kw_disk K d0 d1 d2 d3 F J Rc jl fw fk fb ++ kw_pages K x0 x1 x2 B G) (ks_f none (kw_disk K d0 d1 d2 d3 F J Rc jl fw fk fb ++ kw_pages K x0 x1 x2 (kv_load B F) (kv_clr G 2720))) := by
  refine ks_M.of 0 (by decide) (Nat.le_of_ble_eq_true rfl) ?_
  intro E C Z
  refine ks_aload_n rfl rfl C d_Disk_load_0 ?_
  refine ks_aload_n rfl rfl C d_Disk_load_1 ?_
  refine ks_get (k := 0) C 0 2 in_Disk rfl (by decide) fk_Disk_10 rfl rfl rfl d_Disk_load_2 ?_
  refine ks_cv (ci := 1) (q0 := 0) (kw_disk K d0 d1 d2 d3 _ _ _ _ _ _ _ ++ kw_pages K x0 x1 x2 _ _) C (c_Pages_load l D K x0 x1 x2 _ _ d1 _) yw_Pages_load sel_Pages_load lk_Disk_51 d_Disk_load_5 rfl rfl rfl [4, 5, 6, 1] [0, 2, 3] [0, 6, 1, 2, 3, 4, 5] rfl rfl rfl rfl (by decide) rfl rfl rfl rfl rfl ⟨by decide, by decide⟩ ⟨by decide, by decide⟩ rfl (Nat.le_of_ble_eq_true rfl) ?_
  refine ks_aload_n rfl rfl C d_Disk_load_8 ?_
  refine ks_cv (ci := 1) (q0 := 0) (kw_disk K d0 d1 d2 d3 _ _ _ _ _ _ _ ++ kw_pages K x0 x1 x2 _ _) C (c_Pages_forgetChanges l D K x0 x1 x2 _ _) yw_Pages_forgetChanges sel_Pages_forgetChanges lk_Disk_57 d_Disk_load_9 rfl rfl rfl [4, 5, 6] [0, 1, 2, 3] [0, 1, 2, 3, 4, 5, 6] rfl rfl rfl rfl (by decide) rfl rfl rfl rfl rfl ⟨by decide, by decide⟩ ⟨by decide, by decide⟩ rfl (Nat.le_of_ble_eq_true rfl) ?_
  exact ks_vret C Z rfl d_Disk_load_12 rfl rfl ⟨rfl, rfl⟩
set_option maxRecDepth 100000 in
set_option maxHeartbeats 4000000 in
theorem c_Disk_undo (l : Launch) (D : va_G) (K : Nat → ClassId) (d0 d1 d2 d3 : Nat) (F J Rc : Nat → UInt8) (jl fw fk fb : Nat) (x0 x1 x2 : Nat) (B : Nat → UInt8) (G : Nat → Bool) : ks_M l D (ks_T K) (ks_R 2) y_Disk_undo b_Disk_undo 2 none [.ref d0, .ref x0] (kw_disk K d0 d1 d2 d3 F J Rc jl fw fk fb ++ kw_pages K x0 x1 x2 B G) (ks_f none (kw_disk K d0 d1 d2 d3 F J Rc jl fw fk fb ++ kw_pages K x0 x1 x2 (kv_undo B G F 2720) (kv_clr G 2720))) := by
  refine ks_M.of 0 (by decide) (Nat.le_of_ble_eq_true rfl) ?_
  intro E C Z
  refine ks_aload_n rfl rfl C d_Disk_undo_0 ?_
  refine ks_aload_n rfl rfl C d_Disk_undo_1 ?_
  refine ks_get (k := 0) C 0 2 in_Disk rfl (by decide) fk_Disk_10 rfl rfl rfl d_Disk_undo_2 ?_
  refine ks_cv (ci := 1) (q0 := 0) (kw_disk K d0 d1 d2 d3 _ _ _ _ _ _ _ ++ kw_pages K x0 x1 x2 _ _) C (c_Pages_undoChanges l D K x0 x1 x2 _ _ d1 _) yw_Pages_undoChanges sel_Pages_undoChanges lk_Disk_60 d_Disk_undo_5 rfl rfl rfl [4, 5, 6, 1] [0, 2, 3] [0, 6, 1, 2, 3, 4, 5] rfl rfl rfl rfl (by decide) rfl rfl rfl rfl rfl ⟨by decide, by decide⟩ ⟨by decide, by decide⟩ rfl (Nat.le_of_ble_eq_true rfl) ?_
  exact ks_vret C Z rfl d_Disk_undo_8 rfl rfl ⟨rfl, rfl⟩
set_option maxRecDepth 100000 in
set_option maxHeartbeats 4000000 in
theorem c_Disk_recover (l : Launch) (D : va_G) (K : Nat → ClassId) (d0 d1 d2 d3 : Nat) (F J Rc : Nat → UInt8) (jl fw fk fb : Nat) (h1 : jl ≤ 92480) (hw : fw ≤ 4) (hk : fk ≤ 1000) (hb : fb ≤ 300) : ks_M l D (ks_T K) (ks_R 3) y_Disk_recover b_Disk_recover 6 (some .boolean) [.ref d0] (kw_disk K d0 d1 d2 d3 F J Rc jl fw fk fb) (ks_f (some (.int (ks_b ((kv_rcL J fw fk fb (jl / 34) 0 true F).1 && decide (fw ≠ 3))))) (kw_disk K d0 d1 d2 d3 (kv_rcL J fw fk fb (jl / 34) 0 true F).2 J Rc (if ((kv_rcL J fw fk fb (jl / 34) 0 true F).1 && decide (fw ≠ 3)) = true then 0 else jl) 4 fk fb)) := by
  refine ks_M.of 5 (by decide) (Nat.le_of_ble_eq_true rfl) ?_
  intro E C Z
  have loop : ∀ (f : Nat) (i : Nat) (hd : Bool) (F1 : Nat → UInt8), i + f = jl / 34 → jl / 34 ≤ 2720 → jl ≤ 92480 → kv_rcL J fw fk fb f i hd F1 = (kv_rcL J fw fk fb (jl / 34) 0 true F) → ks_w E D 6 (kw_disk K d0 d1 d2 d3 F1 J Rc jl fw fk fb) [some (.ref d0), some (.int (ks_b hd)), some (.int (nI (jl / 34))), some (.int (nI i)), none, none] 0 0 12 [] := by
    intro f
    induction f with
    | zero =>
      intro i hd F1 g1 g2 g3 g4
      refine ks_iload_n rfl rfl C d_Disk_recover_12 ?_
      refine ks_iload_n rfl rfl C d_Disk_recover_13 ?_
      refine ks_icmp_ge (tgt := 80) C (by omega) (by omega) (by decide) d_Disk_recover_14 (fun u1 => ?_) (fun u1 => ?_)
      · refine ks_iload_n rfl rfl C d_Disk_recover_80 ?_
        refine ks_ifB_eq (tgt := 96) C (by decide) d_Disk_recover_81 (fun u2 => ?_) (fun u2 => ?_)
        · refine ks_iconstB false rfl C d_Disk_recover_96 ?_
          refine ks_istore_n C rfl (by decide) rfl d_Disk_recover_97 ?_
          refine ks_iload_n rfl rfl C d_Disk_recover_98 ?_
          refine ks_ifB_eq (tgt := 107) C (by decide) d_Disk_recover_99 (fun _ => ?_) (fun h => absurd h (by decide))
          refine ks_aload_n rfl rfl C d_Disk_recover_107 ?_
          refine ks_iconst (a := 4) rfl C d_Disk_recover_108 ?_
          refine ks_put (k := 4) (ws' := (kw_disk K d0 d1 d2 d3 _ _ _ _ _ _ _)) C 0 2 t_Disk ty_Disk nm_Disk in_Disk rfl (by decide) fk_Disk_27 rfl rfl rfl rfl rfl (Nat.le_of_ble_eq_true rfl) rfl d_Disk_recover_109 ?_
          refine ks_iload_n rfl rfl C d_Disk_recover_112 ?_
          exact ks_iret C Z rfl (ks_nb1 _) d_Disk_recover_113 rfl rfl ⟨ks_eqB (by rw [← g4]; simp [kv_rcL, *]), by rw [← g4]; simp [kv_rcL, *]⟩
        · refine ks_aload_n rfl rfl C d_Disk_recover_84 ?_
          refine ks_get (k := 4) C 0 2 in_Disk rfl (by decide) fk_Disk_27 rfl rfl rfl d_Disk_recover_85 ?_
          refine ks_iconst (a := 3) rfl C d_Disk_recover_88 ?_
          refine ks_icmp_eq (tgt := 96) C (by omega) (by omega) (by decide) d_Disk_recover_89 (fun u4 => ?_) (fun u4 => ?_)
          · refine ks_iconstB false rfl C d_Disk_recover_96 ?_
            refine ks_istore_n C rfl (by decide) rfl d_Disk_recover_97 ?_
            refine ks_iload_n rfl rfl C d_Disk_recover_98 ?_
            refine ks_ifB_eq (tgt := 107) C (by decide) d_Disk_recover_99 (fun _ => ?_) (fun h => absurd h (by decide))
            refine ks_aload_n rfl rfl C d_Disk_recover_107 ?_
            refine ks_iconst (a := 4) rfl C d_Disk_recover_108 ?_
            refine ks_put (k := 4) (ws' := (kw_disk K d0 d1 d2 d3 _ _ _ _ _ _ _)) C 0 2 t_Disk ty_Disk nm_Disk in_Disk rfl (by decide) fk_Disk_27 rfl rfl rfl rfl rfl (Nat.le_of_ble_eq_true rfl) rfl d_Disk_recover_109 ?_
            refine ks_iload_n rfl rfl C d_Disk_recover_112 ?_
            exact ks_iret C Z rfl (ks_nb1 _) d_Disk_recover_113 rfl rfl ⟨ks_eqB (by rw [← g4]; simp [kv_rcL, *]), by rw [← g4]; simp [kv_rcL, *]⟩
          · refine ks_iconstB true rfl C d_Disk_recover_92 ?_
            refine ks_goto (tgt := 97) C (by decide) d_Disk_recover_93 ?_
            refine ks_istore_n C rfl (by decide) rfl d_Disk_recover_97 ?_
            refine ks_iload_n rfl rfl C d_Disk_recover_98 ?_
            refine ks_ifB_eq (tgt := 107) C (by decide) d_Disk_recover_99 (fun h => absurd h (by decide)) (fun _ => ?_)
            refine ks_aload_n rfl rfl C d_Disk_recover_102 ?_
            refine ks_iconst (a := 0) rfl C d_Disk_recover_103 ?_
            refine ks_put (k := 3) (ws' := (kw_disk K d0 d1 d2 d3 _ _ _ _ _ _ _)) C 0 2 t_Disk ty_Disk nm_Disk in_Disk rfl (by decide) fk_Disk_23 rfl rfl rfl rfl rfl (Nat.le_of_ble_eq_true rfl) rfl d_Disk_recover_104 ?_
            refine ks_aload_n rfl rfl C d_Disk_recover_107 ?_
            refine ks_iconst (a := 4) rfl C d_Disk_recover_108 ?_
            refine ks_put (k := 4) (ws' := (kw_disk K d0 d1 d2 d3 _ _ _ _ _ _ _)) C 0 2 t_Disk ty_Disk nm_Disk in_Disk rfl (by decide) fk_Disk_27 rfl rfl rfl rfl rfl (Nat.le_of_ble_eq_true rfl) rfl d_Disk_recover_109 ?_
            refine ks_iload_n rfl rfl C d_Disk_recover_112 ?_
            exact ks_iret C Z rfl (ks_nb1 _) d_Disk_recover_113 rfl rfl ⟨ks_eqB (by rw [← g4]; simp [kv_rcL, *]), by rw [← g4]; simp [kv_rcL, *]⟩
      · exact (by omega : False).elim
    | succ f ih =>
      intro i hd F1 g1 g2 g3 g4
      refine ks_iload_n rfl rfl C d_Disk_recover_12 ?_
      refine ks_iload_n rfl rfl C d_Disk_recover_13 ?_
      refine ks_icmp_ge (tgt := 80) C (by omega) (by omega) (by decide) d_Disk_recover_14 (fun u7 => ?_) (fun u7 => ?_)
      · refine ks_iload_n rfl rfl C d_Disk_recover_80 ?_
        refine ks_ifB_eq (tgt := 96) C (by decide) d_Disk_recover_81 (fun u8 => ?_) (fun u8 => ?_)
        · refine ks_iconstB false rfl C d_Disk_recover_96 ?_
          refine ks_istore_n C rfl (by decide) rfl d_Disk_recover_97 ?_
          refine ks_iload_n rfl rfl C d_Disk_recover_98 ?_
          refine ks_ifB_eq (tgt := 107) C (by decide) d_Disk_recover_99 (fun _ => ?_) (fun h => absurd h (by decide))
          refine ks_aload_n rfl rfl C d_Disk_recover_107 ?_
          refine ks_iconst (a := 4) rfl C d_Disk_recover_108 ?_
          refine ks_put (k := 4) (ws' := (kw_disk K d0 d1 d2 d3 _ _ _ _ _ _ _)) C 0 2 t_Disk ty_Disk nm_Disk in_Disk rfl (by decide) fk_Disk_27 rfl rfl rfl rfl rfl (Nat.le_of_ble_eq_true rfl) rfl d_Disk_recover_109 ?_
          refine ks_iload_n rfl rfl C d_Disk_recover_112 ?_
          exact ks_iret C Z rfl (ks_nb1 _) d_Disk_recover_113 rfl rfl (False.elim (by omega))
        · refine ks_aload_n rfl rfl C d_Disk_recover_84 ?_
          refine ks_get (k := 4) C 0 2 in_Disk rfl (by decide) fk_Disk_27 rfl rfl rfl d_Disk_recover_85 ?_
          refine ks_iconst (a := 3) rfl C d_Disk_recover_88 ?_
          refine ks_icmp_eq (tgt := 96) C (by omega) (by omega) (by decide) d_Disk_recover_89 (fun u10 => ?_) (fun u10 => ?_)
          · refine ks_iconstB false rfl C d_Disk_recover_96 ?_
            refine ks_istore_n C rfl (by decide) rfl d_Disk_recover_97 ?_
            refine ks_iload_n rfl rfl C d_Disk_recover_98 ?_
            refine ks_ifB_eq (tgt := 107) C (by decide) d_Disk_recover_99 (fun _ => ?_) (fun h => absurd h (by decide))
            refine ks_aload_n rfl rfl C d_Disk_recover_107 ?_
            refine ks_iconst (a := 4) rfl C d_Disk_recover_108 ?_
            refine ks_put (k := 4) (ws' := (kw_disk K d0 d1 d2 d3 _ _ _ _ _ _ _)) C 0 2 t_Disk ty_Disk nm_Disk in_Disk rfl (by decide) fk_Disk_27 rfl rfl rfl rfl rfl (Nat.le_of_ble_eq_true rfl) rfl d_Disk_recover_109 ?_
            refine ks_iload_n rfl rfl C d_Disk_recover_112 ?_
            exact ks_iret C Z rfl (ks_nb1 _) d_Disk_recover_113 rfl rfl (False.elim (by omega))
          · refine ks_iconstB true rfl C d_Disk_recover_92 ?_
            refine ks_goto (tgt := 97) C (by decide) d_Disk_recover_93 ?_
            refine ks_istore_n C rfl (by decide) rfl d_Disk_recover_97 ?_
            refine ks_iload_n rfl rfl C d_Disk_recover_98 ?_
            refine ks_ifB_eq (tgt := 107) C (by decide) d_Disk_recover_99 (fun h => absurd h (by decide)) (fun _ => ?_)
            refine ks_aload_n rfl rfl C d_Disk_recover_102 ?_
            refine ks_iconst (a := 0) rfl C d_Disk_recover_103 ?_
            refine ks_put (k := 3) (ws' := (kw_disk K d0 d1 d2 d3 _ _ _ _ _ _ _)) C 0 2 t_Disk ty_Disk nm_Disk in_Disk rfl (by decide) fk_Disk_23 rfl rfl rfl rfl rfl (Nat.le_of_ble_eq_true rfl) rfl d_Disk_recover_104 ?_
            refine ks_aload_n rfl rfl C d_Disk_recover_107 ?_
            refine ks_iconst (a := 4) rfl C d_Disk_recover_108 ?_
            refine ks_put (k := 4) (ws' := (kw_disk K d0 d1 d2 d3 _ _ _ _ _ _ _)) C 0 2 t_Disk ty_Disk nm_Disk in_Disk rfl (by decide) fk_Disk_27 rfl rfl rfl rfl rfl (Nat.le_of_ble_eq_true rfl) rfl d_Disk_recover_109 ?_
            refine ks_iload_n rfl rfl C d_Disk_recover_112 ?_
            exact ks_iret C Z rfl (ks_nb1 _) d_Disk_recover_113 rfl rfl (False.elim (by omega))
      · refine ks_iload_n rfl rfl C d_Disk_recover_17 ?_
        refine ks_ifB_eq (tgt := 80) C (by decide) d_Disk_recover_18 (fun u13 => ?_) (fun u13 => ?_)
        · refine ks_iload_n rfl rfl C d_Disk_recover_80 ?_
          refine ks_ifB_eq (tgt := 96) C (by decide) d_Disk_recover_81 (fun u14 => ?_) (fun u14 => ?_)
          · refine ks_iconstB false rfl C d_Disk_recover_96 ?_
            refine ks_istore_n C rfl (by decide) rfl d_Disk_recover_97 ?_
            refine ks_iload_n rfl rfl C d_Disk_recover_98 ?_
            refine ks_ifB_eq (tgt := 107) C (by decide) d_Disk_recover_99 (fun _ => ?_) (fun h => absurd h (by decide))
            refine ks_aload_n rfl rfl C d_Disk_recover_107 ?_
            refine ks_iconst (a := 4) rfl C d_Disk_recover_108 ?_
            refine ks_put (k := 4) (ws' := (kw_disk K d0 d1 d2 d3 _ _ _ _ _ _ _)) C 0 2 t_Disk ty_Disk nm_Disk in_Disk rfl (by decide) fk_Disk_27 rfl rfl rfl rfl rfl (Nat.le_of_ble_eq_true rfl) rfl d_Disk_recover_109 ?_
            refine ks_iload_n rfl rfl C d_Disk_recover_112 ?_
            exact ks_iret C Z rfl (ks_nb1 _) d_Disk_recover_113 rfl rfl ⟨ks_eqB (by rw [← g4, kv_rcL, if_neg (by rw [u13]; decide)]; simp [kv_rcL, *]), by rw [← g4, kv_rcL, if_neg (by rw [u13]; decide)]; simp [kv_rcL, *]⟩
          · refine ks_aload_n rfl rfl C d_Disk_recover_84 ?_
            refine ks_get (k := 4) C 0 2 in_Disk rfl (by decide) fk_Disk_27 rfl rfl rfl d_Disk_recover_85 ?_
            refine ks_iconst (a := 3) rfl C d_Disk_recover_88 ?_
            refine ks_icmp_eq (tgt := 96) C (by omega) (by omega) (by decide) d_Disk_recover_89 (fun u16 => ?_) (fun u16 => ?_)
            · refine ks_iconstB false rfl C d_Disk_recover_96 ?_
              refine ks_istore_n C rfl (by decide) rfl d_Disk_recover_97 ?_
              refine ks_iload_n rfl rfl C d_Disk_recover_98 ?_
              refine ks_ifB_eq (tgt := 107) C (by decide) d_Disk_recover_99 (fun _ => ?_) (fun h => absurd h (by decide))
              refine ks_aload_n rfl rfl C d_Disk_recover_107 ?_
              refine ks_iconst (a := 4) rfl C d_Disk_recover_108 ?_
              refine ks_put (k := 4) (ws' := (kw_disk K d0 d1 d2 d3 _ _ _ _ _ _ _)) C 0 2 t_Disk ty_Disk nm_Disk in_Disk rfl (by decide) fk_Disk_27 rfl rfl rfl rfl rfl (Nat.le_of_ble_eq_true rfl) rfl d_Disk_recover_109 ?_
              refine ks_iload_n rfl rfl C d_Disk_recover_112 ?_
              exact ks_iret C Z rfl (ks_nb1 _) d_Disk_recover_113 rfl rfl (absurd u14 (by rw [u13]; decide))
            · refine ks_iconstB true rfl C d_Disk_recover_92 ?_
              refine ks_goto (tgt := 97) C (by decide) d_Disk_recover_93 ?_
              refine ks_istore_n C rfl (by decide) rfl d_Disk_recover_97 ?_
              refine ks_iload_n rfl rfl C d_Disk_recover_98 ?_
              refine ks_ifB_eq (tgt := 107) C (by decide) d_Disk_recover_99 (fun h => absurd h (by decide)) (fun _ => ?_)
              refine ks_aload_n rfl rfl C d_Disk_recover_102 ?_
              refine ks_iconst (a := 0) rfl C d_Disk_recover_103 ?_
              refine ks_put (k := 3) (ws' := (kw_disk K d0 d1 d2 d3 _ _ _ _ _ _ _)) C 0 2 t_Disk ty_Disk nm_Disk in_Disk rfl (by decide) fk_Disk_23 rfl rfl rfl rfl rfl (Nat.le_of_ble_eq_true rfl) rfl d_Disk_recover_104 ?_
              refine ks_aload_n rfl rfl C d_Disk_recover_107 ?_
              refine ks_iconst (a := 4) rfl C d_Disk_recover_108 ?_
              refine ks_put (k := 4) (ws' := (kw_disk K d0 d1 d2 d3 _ _ _ _ _ _ _)) C 0 2 t_Disk ty_Disk nm_Disk in_Disk rfl (by decide) fk_Disk_27 rfl rfl rfl rfl rfl (Nat.le_of_ble_eq_true rfl) rfl d_Disk_recover_109 ?_
              refine ks_iload_n rfl rfl C d_Disk_recover_112 ?_
              exact ks_iret C Z rfl (ks_nb1 _) d_Disk_recover_113 rfl rfl (absurd u14 (by rw [u13]; decide))
        · refine ks_iload_n rfl rfl C d_Disk_recover_21 ?_
          refine ks_bipush (a := 34) rfl C d_Disk_recover_22 ?_
          refine ks_imul C d_Disk_recover_24 ?_
          refine ks_istore C (by decide) rfl d_Disk_recover_25 ?_
          refine ks_aload_n rfl rfl C d_Disk_recover_27 ?_
          refine ks_get (k := 1) C 0 2 in_Disk rfl (by decide) fk_Disk_17 rfl rfl rfl d_Disk_recover_28 ?_
          refine ks_iload rfl C d_Disk_recover_31 ?_
          refine ks_bald C 2 0 rfl rfl (by omega) (by omega) d_Disk_recover_33 d_Disk_recover_34 d_Disk_recover_37 ?_
          refine ks_top_byte (fun u19 => ?_)
          refine ks_bipush (a := 8) rfl C d_Disk_recover_38 ?_
          refine ks_ishl8 (by omega) C d_Disk_recover_40 ?_
          refine ks_aload_n rfl rfl C d_Disk_recover_41 ?_
          refine ks_get (k := 1) C 0 2 in_Disk rfl (by decide) fk_Disk_17 rfl rfl rfl d_Disk_recover_42 ?_
          refine ks_iload rfl C d_Disk_recover_45 ?_
          refine ks_iconst (a := 1) rfl C d_Disk_recover_47 ?_
          refine ks_iadd C d_Disk_recover_48 ?_
          refine ks_bald C 2 0 rfl rfl (by omega) (by omega) d_Disk_recover_49 d_Disk_recover_50 d_Disk_recover_53 ?_
          refine ks_top_byte (fun u20 => ?_)
          refine ks_ior8 (by omega) C d_Disk_recover_54 ?_
          refine ks_istore C (by decide) rfl d_Disk_recover_55 ?_
          refine ks_aload_n rfl rfl C d_Disk_recover_57 ?_
          refine ks_iconst (a := 3) rfl C d_Disk_recover_58 ?_
          refine ks_iload_n rfl rfl C d_Disk_recover_59 ?_
          refine ks_iload rfl C d_Disk_recover_60 ?_
          refine ks_aload_n rfl rfl C d_Disk_recover_62 ?_
          refine ks_get (k := 1) C 0 2 in_Disk rfl (by decide) fk_Disk_17 rfl rfl rfl d_Disk_recover_63 ?_
          refine ks_iload rfl C d_Disk_recover_66 ?_
          refine ks_iconst (a := 2) rfl C d_Disk_recover_68 ?_
          refine ks_iadd C d_Disk_recover_69 ?_
          refine ks_cx (ci := 2) (q0 := 0) (kw_disk K d0 d1 d2 d3 _ _ _ _ _ _ _) C (c_Disk_writeFileJ l D K d0 d1 d2 d3 _ _ _ _ _ _ _ _ _ _ _ (by omega) (by omega) (by omega) (by omega) hw hk hb) yw_Disk_writeFile sel_Disk_writeFile lk_Disk_47 d_Disk_recover_70 rfl rfl rfl [0, 1, 2, 3] [] [0, 1, 2, 3] rfl rfl rfl rfl (by decide) rfl rfl rfl rfl rfl ⟨by decide, by decide⟩ ⟨by decide, by decide⟩ rfl (Nat.le_of_ble_eq_true rfl) ?_
          refine ks_istore_n C rfl (by decide) rfl d_Disk_recover_73 ?_
          refine ks_iinc C rfl (z := 1) rfl (by decide) rfl d_Disk_recover_74 ?_
          refine ks_goto (tgt := 12) C (by decide) d_Disk_recover_77 ?_
          refine ks_forget 4 ?_
          refine ks_forget 5 ?_
          exact ih _ _ _ (by omega) g2 g3 (by rw [← g4, kv_rcL, if_pos u13]; rfl)
  refine ks_iconstB true rfl C d_Disk_recover_0 ?_
  refine ks_istore_n C rfl (by decide) rfl d_Disk_recover_1 ?_
  refine ks_aload_n rfl rfl C d_Disk_recover_2 ?_
  refine ks_get (k := 3) C 0 2 in_Disk rfl (by decide) fk_Disk_23 rfl rfl rfl d_Disk_recover_3 ?_
  refine ks_bipush (a := 34) rfl C d_Disk_recover_6 ?_
  refine ks_idiv (by omega) (by decide) (by decide) C d_Disk_recover_8 ?_
  refine ks_istore_n C rfl (by decide) rfl d_Disk_recover_9 ?_
  refine ks_iconst (a := 0) rfl C d_Disk_recover_10 ?_
  refine ks_istore_n C rfl (by decide) rfl d_Disk_recover_11 ?_
  exact loop (jl / 34) 0 true F (by omega) (by omega) (by omega) rfl
