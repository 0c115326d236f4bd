/-! contracts of the reference: the calls on trees, by cases -/
set_option maxRecDepth 100000 in
set_option maxHeartbeats 4000000 in
theorem c_Model_tree (l : Launch) (D : va_G) (K : Nat → ClassId) (a0 a1 a2 a3 a4 a5 a6 a7 a8 a9 a10 a11 a12 a13 : Nat) (TO PL KS VS MV : Nat → Nat) (Y : Nat → UInt8) (LI MY : Nat → Nat) (TR : Nat → Int64) (KY VY FK FV : Nat → UInt8) (rn us kn vn fkn fvn mk : Nat) (off opn fnd : Bool) (wh af th : Nat) : ks_M l D (ks_T K) (ks_R 1) y_Model_tree b_Model_tree 2 (some .int) [.ref a0] (kw_model K a0 a1 a2 a3 a4 a5 a6 a7 a8 a9 a10 a11 a12 a13 TO PL KS VS MV Y LI MY TR KY VY FK FV rn us kn vn fkn fvn mk off opn fnd wh af th) (fun vR wR => ((off = true ∨ opn = false ∨ km_first (TR 0) = 64) ∧ vR = some (.int (nI 0)) ∧ wR = (kw_model K a0 a1 a2 a3 a4 a5 a6 a7 a8 a9 a10 a11 a12 a13 TO PL KS VS MV Y LI MY TR KY VY FK FV rn us kn vn fkn fvn mk off opn fnd wh af 1)) ∨ (((off = false ∧ opn = true) ∧ km_first (TR 0) < 64) ∧ vR = some (.int (nI (km_first (TR 0)))) ∧ wR = (kw_model K a0 a1 a2 a3 a4 a5 a6 a7 a8 a9 a10 a11 a12 a13 TO PL KS VS MV Y LI MY (va_up TR 0 (km_on (TR 0) (km_first (TR 0)))) KY VY FK FV rn us kn vn fkn fvn mk off opn fnd wh af 0))) := by
  refine ks_M.of 1 (by decide) (Nat.le_of_ble_eq_true rfl) ?_
  intro E C Z
  have tail : ∀ (f : Nat) , km_first (TR 0) ≤ 64 → ks_w E D 2 (kw_model K a0 a1 a2 a3 a4 a5 a6 a7 a8 a9 a10 a11 a12 a13 TO PL KS VS MV Y LI MY TR KY VY FK FV rn us kn vn fkn fvn mk off opn fnd wh af th) [some (.ref a0), some (.int (nI (km_first (TR 0))))] 0 0 22 [] := by
    intro f
    intro g1
    refine ks_aload_n rfl rfl C d_Model_tree_22 ?_
    refine ks_aload_n rfl rfl C d_Model_tree_23 ?_
    refine ks_get (k := 20) C 0 9 in_Model rfl (by decide) fk_Model_65 rfl rfl rfl d_Model_tree_24 ?_
    refine ks_ifB_ne (tgt := 43) C (by decide) d_Model_tree_27 (fun u1 => ?_) (fun u1 => ?_)
    · refine ks_iconst (a := 1) rfl C d_Model_tree_43 ?_
      refine ks_goto (tgt := 48) C (by decide) d_Model_tree_44 ?_
      refine ks_put (k := 25) (ws' := (kw_model K a0 a1 a2 a3 a4 a5 a6 a7 a8 a9 a10 a11 a12 a13 _ _ _ _ _ _ _ _ _ _ _ _ _ _ _ _ _ _ _ _ _ _ _ _ _ _)) C 0 9 t_Model ty_Model nm_Model in_Model rfl (by decide) fk_Model_56 rfl rfl rfl rfl rfl (Nat.le_of_ble_eq_true rfl) rfl d_Model_tree_48 ?_
      refine ks_aload_n rfl rfl C d_Model_tree_51 ?_
      refine ks_get (k := 25) C 0 9 in_Model rfl (by decide) fk_Model_56 rfl rfl rfl d_Model_tree_52 ?_
      refine ks_if_le (tgt := 60) C (by omega) (by decide) d_Model_tree_55 (fun h => absurd h (by decide)) (fun _ => ?_)
      refine ks_iconst (a := 0) rfl C d_Model_tree_58 ?_
      exact ks_iret C Z rfl rfl d_Model_tree_59 rfl rfl (Or.inl ⟨Or.inl u1, rfl, rfl⟩)
    · refine ks_aload_n rfl rfl C d_Model_tree_30 ?_
      refine ks_get (k := 21) C 0 9 in_Model rfl (by decide) fk_Model_101 rfl rfl rfl d_Model_tree_31 ?_
      refine ks_ifB_eq (tgt := 43) C (by decide) d_Model_tree_34 (fun u3 => ?_) (fun u3 => ?_)
      · refine ks_iconst (a := 1) rfl C d_Model_tree_43 ?_
        refine ks_goto (tgt := 48) C (by decide) d_Model_tree_44 ?_
        refine ks_put (k := 25) (ws' := (kw_model K a0 a1 a2 a3 a4 a5 a6 a7 a8 a9 a10 a11 a12 a13 _ _ _ _ _ _ _ _ _ _ _ _ _ _ _ _ _ _ _ _ _ _ _ _ _ _)) C 0 9 t_Model ty_Model nm_Model in_Model rfl (by decide) fk_Model_56 rfl rfl rfl rfl rfl (Nat.le_of_ble_eq_true rfl) rfl d_Model_tree_48 ?_
        refine ks_aload_n rfl rfl C d_Model_tree_51 ?_
        refine ks_get (k := 25) C 0 9 in_Model rfl (by decide) fk_Model_56 rfl rfl rfl d_Model_tree_52 ?_
        refine ks_if_le (tgt := 60) C (by omega) (by decide) d_Model_tree_55 (fun h => absurd h (by decide)) (fun _ => ?_)
        refine ks_iconst (a := 0) rfl C d_Model_tree_58 ?_
        exact ks_iret C Z rfl rfl d_Model_tree_59 rfl rfl (Or.inl ⟨Or.inr (Or.inl u3), rfl, rfl⟩)
      · refine ks_iload_n rfl rfl C d_Model_tree_37 ?_
        refine ks_bipush (a := 64) rfl C d_Model_tree_38 ?_
        refine ks_icmp_ne (tgt := 47) C (by omega) (by omega) (by decide) d_Model_tree_40 (fun u5 => ?_) (fun u5 => ?_)
        · refine ks_iconst (a := 0) rfl C d_Model_tree_47 ?_
          refine ks_put (k := 25) (ws' := (kw_model K a0 a1 a2 a3 a4 a5 a6 a7 a8 a9 a10 a11 a12 a13 _ _ _ _ _ _ _ _ _ _ _ _ _ _ _ _ _ _ _ _ _ _ _ _ _ _)) C 0 9 t_Model ty_Model nm_Model in_Model rfl (by decide) fk_Model_56 rfl rfl rfl rfl rfl (Nat.le_of_ble_eq_true rfl) rfl d_Model_tree_48 ?_
          refine ks_aload_n rfl rfl C d_Model_tree_51 ?_
          refine ks_get (k := 25) C 0 9 in_Model rfl (by decide) fk_Model_56 rfl rfl rfl d_Model_tree_52 ?_
          refine ks_if_le (tgt := 60) C (by omega) (by decide) d_Model_tree_55 (fun _ => ?_) (fun h => absurd h (by decide))
          refine ks_aload_n rfl rfl C d_Model_tree_60 ?_
          refine ks_get (k := 10) C 0 9 in_Model rfl (by decide) fk_Model_36 rfl rfl rfl d_Model_tree_61 ?_
          refine ks_iconst (a := 0) rfl C d_Model_tree_64 ?_
          refine ks_aload_n rfl rfl C d_Model_tree_65 ?_
          refine ks_get (k := 10) C 0 9 in_Model rfl (by decide) fk_Model_36 rfl rfl rfl d_Model_tree_66 ?_
          refine ks_iconst (a := 0) rfl C d_Model_tree_69 ?_
          refine ks_lald C 9 3 rfl rfl (by omega) (by omega) d_Model_tree_70 ?_
          refine ks_lconst rfl C d_Model_tree_71 ?_
          refine ks_iload_n rfl rfl C d_Model_tree_72 ?_
          refine ks_lshl C d_Model_tree_73 ?_
          refine ks_lor C d_Model_tree_74 ?_
          refine ks_last (ws' := (kw_model K a0 a1 a2 a3 a4 a5 a6 a7 a8 a9 a10 a11 a12 a13 _ _ _ _ _ _ _ _ _ _ _ _ _ _ _ _ _ _ _ _ _ _ _ _ _ _)) C 9 3 rfl rfl (by omega) (by omega) rfl d_Model_tree_75 ?_
          refine ks_iload_n rfl rfl C d_Model_tree_76 ?_
          exact ks_iret C Z rfl rfl d_Model_tree_77 rfl rfl (Or.inr (⟨⟨⟨u1, u3⟩, by omega⟩, rfl, rfl⟩))
        · refine ks_iconst (a := 1) rfl C d_Model_tree_43 ?_
          refine ks_goto (tgt := 48) C (by decide) d_Model_tree_44 ?_
          refine ks_put (k := 25) (ws' := (kw_model K a0 a1 a2 a3 a4 a5 a6 a7 a8 a9 a10 a11 a12 a13 _ _ _ _ _ _ _ _ _ _ _ _ _ _ _ _ _ _ _ _ _ _ _ _ _ _)) C 0 9 t_Model ty_Model nm_Model in_Model rfl (by decide) fk_Model_56 rfl rfl rfl rfl rfl (Nat.le_of_ble_eq_true rfl) rfl d_Model_tree_48 ?_
          refine ks_aload_n rfl rfl C d_Model_tree_51 ?_
          refine ks_get (k := 25) C 0 9 in_Model rfl (by decide) fk_Model_56 rfl rfl rfl d_Model_tree_52 ?_
          refine ks_if_le (tgt := 60) C (by omega) (by decide) d_Model_tree_55 (fun h => absurd h (by decide)) (fun _ => ?_)
          refine ks_iconst (a := 0) rfl C d_Model_tree_58 ?_
          exact ks_iret C Z rfl rfl d_Model_tree_59 rfl rfl (Or.inl ⟨Or.inr (Or.inr (by omega)), rfl, rfl⟩)
  have loop : ∀ (f : Nat) (t : Nat), t + f = 64 → km_firstL (TR 0) f t = km_first (TR 0) → km_first (TR 0) ≤ 64 → ks_w E D 2 (kw_model K a0 a1 a2 a3 a4 a5 a6 a7 a8 a9 a10 a11 a12 a13 TO PL KS VS MV Y LI MY TR KY VY FK FV rn us kn vn fkn fvn mk off opn fnd wh af th) [some (.ref a0), some (.int (nI t))] 0 0 2 [] := by
    intro f
    induction f with
    | zero =>
      intro t g1 g2 g3
      refine ks_iload_n rfl rfl C d_Model_tree_2 ?_
      refine ks_bipush (a := 64) rfl C d_Model_tree_3 ?_
      refine ks_icmp_ge (tgt := 22) C (by omega) (by omega) (by decide) d_Model_tree_5 (fun u8 => ?_) (fun u8 => ?_)
      · rw [show t = km_first (TR 0) from g2]
        exact tail 0 g3
      · exact (by omega : False).elim
    | succ f ih =>
      intro t g1 g2 g3
      refine ks_iload_n rfl rfl C d_Model_tree_2 ?_
      refine ks_bipush (a := 64) rfl C d_Model_tree_3 ?_
      refine ks_icmp_ge (tgt := 22) C (by omega) (by omega) (by decide) d_Model_tree_5 (fun u9 => ?_) (fun u9 => ?_)
      · exact (by omega : False).elim
      · refine ks_aload_n rfl rfl C d_Model_tree_8 ?_
        refine ks_iload_n rfl rfl C d_Model_tree_9 ?_
        refine ks_cx (ci := 9) (q0 := 0) (kw_model K a0 a1 a2 a3 a4 a5 a6 a7 a8 a9 a10 a11 a12 a13 _ _ _ _ _ _ _ _ _ _ _ _ _ _ _ _ _ _ _ _ _ _ _ _ _ _) C (c_Model_isTree l D K a0 a1 a2 a3 a4 a5 a6 a7 a8 a9 a10 a11 a12 a13 _ _ _ _ _ _ _ _ _ _ _ _ _ _ _ _ _ _ _ _ _ _ _ _ _ _ _ (by omega)) yw_Model_isTree sel_Model_isTree lk_Model_97 d_Model_tree_10 rfl rfl rfl [0, 1, 2, 3, 4, 5, 6, 7, 8, 9, 10, 11, 12, 13] [] [0, 1, 2, 3, 4, 5, 6, 7, 8, 9, 10, 11, 12, 13] rfl rfl rfl rfl (by decide) rfl rfl rfl rfl rfl ⟨by decide, by decide⟩ ⟨by decide, by decide⟩ rfl (Nat.le_of_ble_eq_true rfl) ?_
        refine ks_ifB_eq (tgt := 22) C (by decide) d_Model_tree_13 (fun u10 => ?_) (fun u10 => ?_)
        · rw [show t = km_first (TR 0) by rw [← g2, km_firstL, if_neg (by rw [u10]; decide)]]
          exact tail 0 g3
        · refine ks_iinc C rfl (z := 1) rfl (by decide) rfl d_Model_tree_16 ?_
          refine ks_goto (tgt := 2) C (by decide) d_Model_tree_19 ?_
          exact ih _ (by omega) (by rw [← g2, km_firstL, if_pos u10]) g3
  refine ks_iconst (a := 0) rfl C d_Model_tree_0 ?_
  refine ks_istore_n C rfl (by decide) rfl d_Model_tree_1 ?_
  exact loop 64 0 (by omega) rfl (km_firstL_le (TR 0) 64 0)
set_option maxRecDepth 100000 in
set_option maxHeartbeats 4000000 in
theorem c_Model_drop (l : Launch) (D : va_G) (K : Nat → ClassId) (a0 a1 a2 a3 a4 a5 a6 a7 a8 a9 a10 a11 a12 a13 : Nat) (TO PL KS VS MV : Nat → Nat) (Y : Nat → UInt8) (LI MY : Nat → Nat) (TR : Nat → Int64) (KY VY FK FV : Nat → UInt8) (rn us kn vn fkn fvn mk : Nat) (off opn fnd : Bool) (wh af th : Nat) (t : Nat) (h1 : t < 4294967296) (hg : km_g TO PL KS VS LI (MY 0)) : ks_M l D (ks_T K) (ks_R 2) y_Model_drop b_Model_drop 5 (some .int) [.ref a0, .int (nI t)] (kw_model K a0 a1 a2 a3 a4 a5 a6 a7 a8 a9 a10 a11 a12 a13 TO PL KS VS MV Y LI MY TR KY VY FK FV rn us kn vn fkn fvn mk off opn fnd wh af th) (fun vR wR => ((off = true ∨ opn = false) ∧ vR = some (.int (nI 0)) ∧ wR = (kw_model K a0 a1 a2 a3 a4 a5 a6 a7 a8 a9 a10 a11 a12 a13 TO PL KS VS MV Y LI MY TR KY VY FK FV rn us kn vn fkn fvn mk off opn fnd wh af 1)) ∨ (((off = false ∧ opn = true) ∧ km_tree (TR 0) t = false) ∧ vR = some (.int (nI 0)) ∧ wR = (kw_model K a0 a1 a2 a3 a4 a5 a6 a7 a8 a9 a10 a11 a12 a13 TO PL KS VS MV Y LI MY TR KY VY FK FV rn us kn vn fkn fvn mk off opn fnd wh af 2)) ∨ (((off = false ∧ opn = true) ∧ km_tree (TR 0) t = true) ∧ vR = some (.int (nI (km_ents LI TO t (MY 0)))) ∧ wR = (kw_model K a0 a1 a2 a3 a4 a5 a6 a7 a8 a9 a10 a11 a12 a13 TO PL KS VS MV Y (km_dropL TO t (MY 0) 0 LI 0).1 (va_up MY 0 (km_dropL TO t (MY 0) 0 LI 0).2) (va_up TR 0 (km_off (TR 0) t)) KY VY FK FV rn us kn vn fkn fvn mk off opn fnd wh af 0))) := by
  refine ks_M.of 3 (by decide) (Nat.le_of_ble_eq_true rfl) ?_
  intro E C Z
  have hm := hg.1
  have loop : ∀ (f : Nat) (LI1 : Nat → Nat) (to k : Nat), k + f = MY 0 → to ≤ k → t < 64 → (∀ j, k ≤ j → LI1 j = LI j) → km_dropL TO t f k LI1 to = (km_dropL TO t (MY 0) 0 LI 0) → ((off = false ∧ opn = true) ∧ km_tree (TR 0) t = true) → ks_w E D 5 (kw_model K a0 a1 a2 a3 a4 a5 a6 a7 a8 a9 a10 a11 a12 a13 TO PL KS VS MV Y LI1 MY TR KY VY FK FV rn us kn vn fkn fvn mk off opn fnd wh af 0) [some (.ref a0), some (.int (nI t)), some (.int (nI (km_ents LI TO t (MY 0)))), some (.int (nI to)), some (.int (nI k))] 0 0 40 [] := by
    intro f
    induction f with
    | zero =>
      intro LI1 to k g1 g2 g3 g4 g5 g6
      refine ks_iload rfl C d_Model_drop_40 ?_
      refine ks_aload_n rfl rfl C d_Model_drop_42 ?_
      refine ks_get (k := 9) C 0 9 in_Model rfl (by decide) fk_Model_33 rfl rfl rfl d_Model_drop_43 ?_
      refine ks_iconst (a := 0) rfl C d_Model_drop_46 ?_
      refine ks_iald C 8 2 rfl rfl (by omega) (by omega) d_Model_drop_47 ?_
      refine ks_icmp_ge (tgt := 92) C (by omega) (by omega) (by decide) d_Model_drop_48 (fun u1 => ?_) (fun u1 => ?_)
      · refine ks_aload_n rfl rfl C d_Model_drop_92 ?_
        refine ks_get (k := 9) C 0 9 in_Model rfl (by decide) fk_Model_33 rfl rfl rfl d_Model_drop_93 ?_
        refine ks_iconst (a := 0) rfl C d_Model_drop_96 ?_
        refine ks_iload_n rfl rfl C d_Model_drop_97 ?_
        refine ks_iast (ws' := (kw_model K a0 a1 a2 a3 a4 a5 a6 a7 a8 a9 a10 a11 a12 a13 _ _ _ _ _ _ _ _ _ _ _ _ _ _ _ _ _ _ _ _ _ _ _ _ _ _)) C 8 2 rfl rfl (by omega) (by omega) rfl d_Model_drop_98 ?_
        refine ks_aload_n rfl rfl C d_Model_drop_99 ?_
        refine ks_get (k := 10) C 0 9 in_Model rfl (by decide) fk_Model_36 rfl rfl rfl d_Model_drop_100 ?_
        refine ks_iconst (a := 0) rfl C d_Model_drop_103 ?_
        refine ks_aload_n rfl rfl C d_Model_drop_104 ?_
        refine ks_get (k := 10) C 0 9 in_Model rfl (by decide) fk_Model_36 rfl rfl rfl d_Model_drop_105 ?_
        refine ks_iconst (a := 0) rfl C d_Model_drop_108 ?_
        refine ks_lald C 9 3 rfl rfl (by omega) (by omega) d_Model_drop_109 ?_
        refine ks_lconst rfl C d_Model_drop_110 ?_
        refine ks_iload_n rfl rfl C d_Model_drop_111 ?_
        refine ks_lshl C d_Model_drop_112 ?_
        refine ks_ldc2 ck_Model_111 C d_Model_drop_113 ?_
        refine ks_lxor C d_Model_drop_116 ?_
        refine ks_land C d_Model_drop_117 ?_
        refine ks_last (ws' := (kw_model K a0 a1 a2 a3 a4 a5 a6 a7 a8 a9 a10 a11 a12 a13 _ _ _ _ _ _ _ _ _ _ _ _ _ _ _ _ _ _ _ _ _ _ _ _ _ _)) C 9 3 rfl rfl (by omega) (by omega) rfl d_Model_drop_118 ?_
        refine ks_iload_n rfl rfl C d_Model_drop_119 ?_
        exact ks_iret C Z rfl rfl d_Model_drop_120 rfl rfl (Or.inr (Or.inr (⟨g6, rfl, by rw [← g5]; rfl⟩)))
      · exact (by omega : False).elim
    | succ f ih =>
      intro LI1 to k g1 g2 g3 g4 g5 g6
      refine ks_iload rfl C d_Model_drop_40 ?_
      refine ks_aload_n rfl rfl C d_Model_drop_42 ?_
      refine ks_get (k := 9) C 0 9 in_Model rfl (by decide) fk_Model_33 rfl rfl rfl d_Model_drop_43 ?_
      refine ks_iconst (a := 0) rfl C d_Model_drop_46 ?_
      refine ks_iald C 8 2 rfl rfl (by omega) (by omega) d_Model_drop_47 ?_
      refine ks_icmp_ge (tgt := 92) C (by omega) (by omega) (by decide) d_Model_drop_48 (fun u2 => ?_) (fun u2 => ?_)
      · exact (by omega : False).elim
      · obtain ⟨q1, q2, q3, q4, q5⟩ := hg.2 k (by omega)
        rw [← g4 k (Nat.le_refl _)] at q1 q2
        refine ks_aload_n rfl rfl C d_Model_drop_51 ?_
        refine ks_get (k := 0) C 0 9 in_Model rfl (by decide) fk_Model_7 rfl rfl rfl d_Model_drop_52 ?_
        refine ks_aload_n rfl rfl C d_Model_drop_55 ?_
        refine ks_get (k := 8) C 0 9 in_Model rfl (by decide) fk_Model_30 rfl rfl rfl d_Model_drop_56 ?_
        refine ks_iload rfl C d_Model_drop_59 ?_
        refine ks_iald C 7 2 rfl rfl (by omega) (by omega) d_Model_drop_61 ?_
        refine ks_iald C 1 2 rfl rfl (by omega) (by omega) d_Model_drop_62 ?_
        refine ks_iload_n rfl rfl C d_Model_drop_63 ?_
        refine ks_icmpR_ne (tgt := 70) C (by omega) (by omega) (by decide) d_Model_drop_64 (fun u3 => ?_) (fun u3 => ?_)
        · refine ks_aload_n rfl rfl C d_Model_drop_70 ?_
          refine ks_get (k := 8) C 0 9 in_Model rfl (by decide) fk_Model_30 rfl rfl rfl d_Model_drop_71 ?_
          refine ks_iload_n rfl rfl C d_Model_drop_74 ?_
          refine ks_aload_n rfl rfl C d_Model_drop_75 ?_
          refine ks_get (k := 8) C 0 9 in_Model rfl (by decide) fk_Model_30 rfl rfl rfl d_Model_drop_76 ?_
          refine ks_iload rfl C d_Model_drop_79 ?_
          refine ks_iald C 7 2 rfl rfl (by omega) (by omega) d_Model_drop_81 ?_
          refine ks_iast (ws' := (kw_model K a0 a1 a2 a3 a4 a5 a6 a7 a8 a9 a10 a11 a12 a13 _ _ _ _ _ _ _ _ _ _ _ _ _ _ _ _ _ _ _ _ _ _ _ _ _ _)) C 7 2 rfl rfl (by omega) (by omega) rfl d_Model_drop_82 ?_
          refine ks_iinc C rfl (z := 1) rfl (by decide) rfl d_Model_drop_83 ?_
          refine ks_iinc C rfl (z := 1) rfl (by decide) rfl d_Model_drop_86 ?_
          refine ks_goto (tgt := 40) C (by decide) d_Model_drop_89 ?_
          exact ih _ _ _ (by omega) (by omega) g3 (fun j z => by unfold va_up; rw [if_neg (by omega)]; exact g4 j (by omega)) (by rw [← g5, km_dropL, if_neg (by omega)]) g6
        · refine ks_goto (tgt := 86) C (by decide) d_Model_drop_67 ?_
          refine ks_iinc C rfl (z := 1) rfl (by decide) rfl d_Model_drop_86 ?_
          refine ks_goto (tgt := 40) C (by decide) d_Model_drop_89 ?_
          exact ih _ _ _ (by omega) (by omega) g3 (fun j z => g4 j (by omega)) (by rw [← g5, km_dropL, if_pos (by omega)]) g6
  refine ks_aload_n rfl rfl C d_Model_drop_0 ?_
  refine ks_aload_n rfl rfl C d_Model_drop_1 ?_
  refine ks_get (k := 20) C 0 9 in_Model rfl (by decide) fk_Model_65 rfl rfl rfl d_Model_drop_2 ?_
  refine ks_ifB_ne (tgt := 15) C (by decide) d_Model_drop_5 (fun u4 => ?_) (fun u4 => ?_)
  · refine ks_iconstB true rfl C d_Model_drop_15 ?_
    refine ks_goto (tgt := 20) C (by decide) d_Model_drop_16 ?_
    refine ks_iload_n rfl rfl C d_Model_drop_20 ?_
    refine ks_cx (ci := 9) (q0 := 0) (kw_model K a0 a1 a2 a3 a4 a5 a6 a7 a8 a9 a10 a11 a12 a13 _ _ _ _ _ _ _ _ _ _ _ _ _ _ _ _ _ _ _ _ _ _ _ _ _ _) C (c_Model_fails_1 l D K a0 a1 a2 a3 a4 a5 a6 a7 a8 a9 a10 a11 a12 a13 _ _ _ _ _ _ _ _ _ _ _ _ _ _ _ _ _ _ _ _ _ _ _ _ _ _ _) yw_Model_fails sel_Model_fails lk_Model_104 d_Model_drop_21 rfl rfl rfl [0, 1, 2, 3, 4, 5, 6, 7, 8, 9, 10, 11, 12, 13] [] [0, 1, 2, 3, 4, 5, 6, 7, 8, 9, 10, 11, 12, 13] rfl rfl rfl rfl (by decide) rfl rfl rfl rfl rfl ⟨by decide, by decide⟩ ⟨by decide, by decide⟩ rfl (Nat.le_of_ble_eq_true rfl) ?_
    refine ks_ifB_eq (tgt := 29) C (by decide) d_Model_drop_24 (fun h => absurd h (by decide)) (fun _ => ?_)
    refine ks_iconst (a := 0) rfl C d_Model_drop_27 ?_
    exact ks_iret C Z rfl rfl d_Model_drop_28 rfl rfl (Or.inl ⟨(Or.inl u4), rfl, rfl⟩)
  · refine ks_aload_n rfl rfl C d_Model_drop_8 ?_
    refine ks_get (k := 21) C 0 9 in_Model rfl (by decide) fk_Model_101 rfl rfl rfl d_Model_drop_9 ?_
    refine ks_ifB_ne (tgt := 19) C (by decide) d_Model_drop_12 (fun u6 => ?_) (fun u6 => ?_)
    · refine ks_iconstB false rfl C d_Model_drop_19 ?_
      refine ks_iload_n rfl rfl C d_Model_drop_20 ?_
      refine ks_cx (ci := 9) (q0 := 0) (kw_model K a0 a1 a2 a3 a4 a5 a6 a7 a8 a9 a10 a11 a12 a13 _ _ _ _ _ _ _ _ _ _ _ _ _ _ _ _ _ _ _ _ _ _ _ _ _ _) C (c_Model_fails_0 l D K a0 a1 a2 a3 a4 a5 a6 a7 a8 a9 a10 a11 a12 a13 _ _ _ _ _ _ _ _ _ _ _ _ _ _ _ _ _ _ _ _ _ _ _ _ _ _ _ (by omega)) yw_Model_fails sel_Model_fails lk_Model_104 d_Model_drop_21 rfl rfl rfl [0, 1, 2, 3, 4, 5, 6, 7, 8, 9, 10, 11, 12, 13] [] [0, 1, 2, 3, 4, 5, 6, 7, 8, 9, 10, 11, 12, 13] rfl rfl rfl rfl (by decide) rfl rfl rfl rfl rfl ⟨by decide, by decide⟩ ⟨by decide, by decide⟩ rfl (Nat.le_of_ble_eq_true rfl) ?_
      refine ks_ifB_eq (tgt := 29) C (by decide) d_Model_drop_24 (fun u7 => ?_) (fun u7 => ?_)
      · have qt : km_tree (TR 0) t = true := by simpa using u7
        rw [if_pos qt]
        have q64 := km_tree_t qt
        refine ks_aload_n rfl rfl C d_Model_drop_29 ?_
        refine ks_iload_n rfl rfl C d_Model_drop_30 ?_
        refine ks_cx (ci := 9) (q0 := 0) (kw_model K a0 a1 a2 a3 a4 a5 a6 a7 a8 a9 a10 a11 a12 a13 _ _ _ _ _ _ _ _ _ _ _ _ _ _ _ _ _ _ _ _ _ _ _ _ _ _) C (c_Model_entries l D K a0 a1 a2 a3 a4 a5 a6 a7 a8 a9 a10 a11 a12 a13 _ _ _ _ _ _ _ _ _ _ _ _ _ _ _ _ _ _ _ _ _ _ _ _ _ _ _ hg (by omega)) yw_Model_entries sel_Model_entries lk_Model_108 d_Model_drop_31 rfl rfl rfl [0, 1, 2, 3, 4, 5, 6, 7, 8, 9, 10, 11, 12, 13] [] [0, 1, 2, 3, 4, 5, 6, 7, 8, 9, 10, 11, 12, 13] rfl rfl rfl rfl (by decide) rfl rfl rfl rfl rfl ⟨by decide, by decide⟩ ⟨by decide, by decide⟩ rfl (Nat.le_of_ble_eq_true rfl) ?_
        refine ks_istore_n C rfl (by decide) rfl d_Model_drop_34 ?_
        refine ks_iconst (a := 0) rfl C d_Model_drop_35 ?_
        refine ks_istore_n C rfl (by decide) rfl d_Model_drop_36 ?_
        refine ks_iconst (a := 0) rfl C d_Model_drop_37 ?_
        refine ks_istore C (by decide) rfl d_Model_drop_38 ?_
        exact loop (MY 0) _ 0 0 (by omega) (by omega) q64 (fun j _ => rfl) rfl ⟨⟨u4, u6⟩, qt⟩
      · refine ks_iconst (a := 0) rfl C d_Model_drop_27 ?_
        exact ks_iret C Z rfl rfl d_Model_drop_28 rfl rfl (Or.inr (Or.inl ⟨⟨⟨u4, u6⟩, (by simpa using u7)⟩, rfl, by rw [if_neg (by simpa using u7)]⟩))
    · refine ks_iconstB true rfl C d_Model_drop_15 ?_
      refine ks_goto (tgt := 20) C (by decide) d_Model_drop_16 ?_
      refine ks_iload_n rfl rfl C d_Model_drop_20 ?_
      refine ks_cx (ci := 9) (q0 := 0) (kw_model K a0 a1 a2 a3 a4 a5 a6 a7 a8 a9 a10 a11 a12 a13 _ _ _ _ _ _ _ _ _ _ _ _ _ _ _ _ _ _ _ _ _ _ _ _ _ _) C (c_Model_fails_1 l D K a0 a1 a2 a3 a4 a5 a6 a7 a8 a9 a10 a11 a12 a13 _ _ _ _ _ _ _ _ _ _ _ _ _ _ _ _ _ _ _ _ _ _ _ _ _ _ _) yw_Model_fails sel_Model_fails lk_Model_104 d_Model_drop_21 rfl rfl rfl [0, 1, 2, 3, 4, 5, 6, 7, 8, 9, 10, 11, 12, 13] [] [0, 1, 2, 3, 4, 5, 6, 7, 8, 9, 10, 11, 12, 13] rfl rfl rfl rfl (by decide) rfl rfl rfl rfl rfl ⟨by decide, by decide⟩ ⟨by decide, by decide⟩ rfl (Nat.le_of_ble_eq_true rfl) ?_
      refine ks_ifB_eq (tgt := 29) C (by decide) d_Model_drop_24 (fun h => absurd h (by decide)) (fun _ => ?_)
      refine ks_iconst (a := 0) rfl C d_Model_drop_27 ?_
      exact ks_iret C Z rfl rfl d_Model_drop_28 rfl rfl (Or.inl ⟨(Or.inr u6), rfl, rfl⟩)
set_option maxRecDepth 100000 in
set_option maxHeartbeats 4000000 in
theorem c_Model_remove (l : Launch) (D : va_G) (K : Nat → ClassId) (a0 a1 a2 a3 a4 a5 a6 a7 a8 a9 a10 a11 a12 a13 : Nat) (TO PL KS VS MV : Nat → Nat) (Y : Nat → UInt8) (LI MY : Nat → Nat) (TR : Nat → Int64) (KY VY FK FV : Nat → UInt8) (rn us kn vn fkn fvn mk : Nat) (off opn fnd : Bool) (wh af th : Nat) (t : Nat) (h1 : t < 4294967296) (h2 : kn ≤ 8448) (hg : km_g TO PL KS VS LI (MY 0)) : ks_M l D (ks_T K) (ks_R 2) y_Model_remove b_Model_remove 4 (some .boolean) [.ref a0, .int (nI t)] (kw_model K a0 a1 a2 a3 a4 a5 a6 a7 a8 a9 a10 a11 a12 a13 TO PL KS VS MV Y LI MY TR KY VY FK FV rn us kn vn fkn fvn mk off opn fnd wh af th) (fun vR wR => ((off = true ∨ opn = false) ∧ vR = some (.int (ks_b false)) ∧ wR = (kw_model K a0 a1 a2 a3 a4 a5 a6 a7 a8 a9 a10 a11 a12 a13 TO PL KS VS MV Y LI MY TR KY VY FK FV rn us kn vn fkn fvn mk off opn fnd wh af 1)) ∨ (((off = false ∧ opn = true) ∧ km_tree (TR 0) t = false) ∧ vR = some (.int (ks_b false)) ∧ wR = (kw_model K a0 a1 a2 a3 a4 a5 a6 a7 a8 a9 a10 a11 a12 a13 TO PL KS VS MV Y LI MY TR KY VY FK FV rn us kn vn fkn fvn mk off opn fnd wh af 2)) ∨ ((((off = false ∧ opn = true) ∧ km_tree (TR 0) t = true) ∧ km_is TO PL KS Y KY LI kn (MY 0) (km_find TO PL KS Y KY LI kn t (MY 0)) t = false) ∧ vR = some (.int (ks_b false)) ∧ wR = (kw_model K a0 a1 a2 a3 a4 a5 a6 a7 a8 a9 a10 a11 a12 a13 TO PL KS VS MV Y LI MY TR KY VY FK FV rn us kn vn fkn fvn mk off opn fnd wh af 0)) ∨ ((((off = false ∧ opn = true) ∧ km_tree (TR 0) t = true) ∧ km_is TO PL KS Y KY LI kn (MY 0) (km_find TO PL KS Y KY LI kn t (MY 0)) t = true) ∧ vR = some (.int (ks_b true)) ∧ wR = (kw_model K a0 a1 a2 a3 a4 a5 a6 a7 a8 a9 a10 a11 a12 a13 TO PL KS VS MV Y (km_out LI (km_find TO PL KS Y KY LI kn t (MY 0)) (MY 0 - 1)) (va_up MY 0 (MY 0 - 1)) TR KY VY FK FV rn us kn vn fkn fvn mk off opn fnd wh af 0))) := by
  refine ks_M.of 2 (by decide) (Nat.le_of_ble_eq_true rfl) ?_
  intro E C Z
  have hm := hg.1
  refine ks_aload_n rfl rfl C d_Model_remove_0 ?_
  refine ks_aload_n rfl rfl C d_Model_remove_1 ?_
  refine ks_get (k := 20) C 0 9 in_Model rfl (by decide) fk_Model_65 rfl rfl rfl d_Model_remove_2 ?_
  refine ks_ifB_ne (tgt := 15) C (by decide) d_Model_remove_5 (fun u1 => ?_) (fun u1 => ?_)
  · refine ks_iconstB true rfl C d_Model_remove_15 ?_
    refine ks_goto (tgt := 20) C (by decide) d_Model_remove_16 ?_
    refine ks_iload_n rfl rfl C d_Model_remove_20 ?_
    refine ks_cx (ci := 9) (q0 := 0) (kw_model K a0 a1 a2 a3 a4 a5 a6 a7 a8 a9 a10 a11 a12 a13 _ _ _ _ _ _ _ _ _ _ _ _ _ _ _ _ _ _ _ _ _ _ _ _ _ _) C (c_Model_fails_1 l D K a0 a1 a2 a3 a4 a5 a6 a7 a8 a9 a10 a11 a12 a13 _ _ _ _ _ _ _ _ _ _ _ _ _ _ _ _ _ _ _ _ _ _ _ _ _ _ _) yw_Model_fails sel_Model_fails lk_Model_104 d_Model_remove_21 rfl rfl rfl [0, 1, 2, 3, 4, 5, 6, 7, 8, 9, 10, 11, 12, 13] [] [0, 1, 2, 3, 4, 5, 6, 7, 8, 9, 10, 11, 12, 13] rfl rfl rfl rfl (by decide) rfl rfl rfl rfl rfl ⟨by decide, by decide⟩ ⟨by decide, by decide⟩ rfl (Nat.le_of_ble_eq_true rfl) ?_
    refine ks_ifB_eq (tgt := 29) C (by decide) d_Model_remove_24 (fun h => absurd h (by decide)) (fun _ => ?_)
    refine ks_iconstB false rfl C d_Model_remove_27 ?_
    exact ks_iret C Z rfl (ks_nb1 _) d_Model_remove_28 rfl rfl (Or.inl ⟨(Or.inl u1), rfl, rfl⟩)
  · refine ks_aload_n rfl rfl C d_Model_remove_8 ?_
    refine ks_get (k := 21) C 0 9 in_Model rfl (by decide) fk_Model_101 rfl rfl rfl d_Model_remove_9 ?_
    refine ks_ifB_ne (tgt := 19) C (by decide) d_Model_remove_12 (fun u3 => ?_) (fun u3 => ?_)
    · refine ks_iconstB false rfl C d_Model_remove_19 ?_
      refine ks_iload_n rfl rfl C d_Model_remove_20 ?_
      refine ks_cx (ci := 9) (q0 := 0) (kw_model K a0 a1 a2 a3 a4 a5 a6 a7 a8 a9 a10 a11 a12 a13 _ _ _ _ _ _ _ _ _ _ _ _ _ _ _ _ _ _ _ _ _ _ _ _ _ _) C (c_Model_fails_0 l D K a0 a1 a2 a3 a4 a5 a6 a7 a8 a9 a10 a11 a12 a13 _ _ _ _ _ _ _ _ _ _ _ _ _ _ _ _ _ _ _ _ _ _ _ _ _ _ _ (by omega)) yw_Model_fails sel_Model_fails lk_Model_104 d_Model_remove_21 rfl rfl rfl [0, 1, 2, 3, 4, 5, 6, 7, 8, 9, 10, 11, 12, 13] [] [0, 1, 2, 3, 4, 5, 6, 7, 8, 9, 10, 11, 12, 13] rfl rfl rfl rfl (by decide) rfl rfl rfl rfl rfl ⟨by decide, by decide⟩ ⟨by decide, by decide⟩ rfl (Nat.le_of_ble_eq_true rfl) ?_
      refine ks_ifB_eq (tgt := 29) C (by decide) d_Model_remove_24 (fun u4 => ?_) (fun u4 => ?_)
      · have qt : km_tree (TR 0) t = true := by simpa using u4
        rw [if_pos qt]
        have q64 := km_tree_t qt
        refine ks_aload_n rfl rfl C d_Model_remove_29 ?_
        refine ks_iload_n rfl rfl C d_Model_remove_30 ?_
        refine ks_cx (ci := 9) (q0 := 0) (kw_model K a0 a1 a2 a3 a4 a5 a6 a7 a8 a9 a10 a11 a12 a13 _ _ _ _ _ _ _ _ _ _ _ _ _ _ _ _ _ _ _ _ _ _ _ _ _ _) C (c_Model_find l D K a0 a1 a2 a3 a4 a5 a6 a7 a8 a9 a10 a11 a12 a13 _ _ _ _ _ _ _ _ _ _ _ _ _ _ _ _ _ _ _ _ _ _ _ _ _ _ _ hg (by omega) (by omega)) yw_Model_find sel_Model_find lk_Model_113 d_Model_remove_31 rfl rfl rfl [0, 1, 2, 3, 4, 5, 6, 7, 8, 9, 10, 11, 12, 13] [] [0, 1, 2, 3, 4, 5, 6, 7, 8, 9, 10, 11, 12, 13] rfl rfl rfl rfl (by decide) rfl rfl rfl rfl rfl ⟨by decide, by decide⟩ ⟨by decide, by decide⟩ rfl (Nat.le_of_ble_eq_true rfl) ?_
        refine ks_top_kfind (fun u5 => ?_)
        refine ks_istore_n C rfl (by decide) rfl d_Model_remove_34 ?_
        refine ks_aload_n rfl rfl C d_Model_remove_35 ?_
        refine ks_iload_n rfl rfl C d_Model_remove_36 ?_
        refine ks_iload_n rfl rfl C d_Model_remove_37 ?_
        refine ks_cx (ci := 9) (q0 := 0) (kw_model K a0 a1 a2 a3 a4 a5 a6 a7 a8 a9 a10 a11 a12 a13 _ _ _ _ _ _ _ _ _ _ _ _ _ _ _ _ _ _ _ _ _ _ _ _ _ _) C (c_Model_isThere l D K a0 a1 a2 a3 a4 a5 a6 a7 a8 a9 a10 a11 a12 a13 _ _ _ _ _ _ _ _ _ _ _ _ _ _ _ _ _ _ _ _ _ _ _ _ _ _ _ _ hg (by omega) (by omega) (by omega)) yw_Model_isThere sel_Model_isThere lk_Model_116 d_Model_remove_38 rfl rfl rfl [0, 1, 2, 3, 4, 5, 6, 7, 8, 9, 10, 11, 12, 13] [] [0, 1, 2, 3, 4, 5, 6, 7, 8, 9, 10, 11, 12, 13] rfl rfl rfl rfl (by decide) rfl rfl rfl rfl rfl ⟨by decide, by decide⟩ ⟨by decide, by decide⟩ rfl (Nat.le_of_ble_eq_true rfl) ?_
        refine ks_istore_n C rfl (by decide) rfl d_Model_remove_41 ?_
        refine ks_iload_n rfl rfl C d_Model_remove_42 ?_
        refine ks_ifB_eq (tgt := 51) C (by decide) d_Model_remove_43 (fun u6 => ?_) (fun u6 => ?_)
        · try rw [u6]
          refine ks_iload_n rfl rfl C d_Model_remove_51 ?_
          exact ks_iret C Z rfl (ks_nb1 _) d_Model_remove_52 rfl rfl (Or.inr (Or.inr (Or.inl ⟨⟨⟨⟨u1, u3⟩, qt⟩, u6⟩, rfl, rfl⟩)))
        · obtain ⟨w1, w2, w3⟩ := km_is_t u6
          rw [u6]
          refine ks_aload_n rfl rfl C d_Model_remove_46 ?_
          refine ks_iload_n rfl rfl C d_Model_remove_47 ?_
          refine ks_cv (ci := 9) (q0 := 0) (kw_model K a0 a1 a2 a3 a4 a5 a6 a7 a8 a9 a10 a11 a12 a13 _ _ _ _ _ _ _ _ _ _ _ _ _ _ _ _ _ _ _ _ _ _ _ _ _ _) C (c_Model_out l D K a0 a1 a2 a3 a4 a5 a6 a7 a8 a9 a10 a11 a12 a13 _ _ _ _ _ _ _ _ _ _ _ _ _ _ _ _ _ _ _ _ _ _ _ _ _ _ _ (by omega) (by omega)) yw_Model_out sel_Model_out lk_Model_125 d_Model_remove_48 rfl rfl rfl [0, 1, 2, 3, 4, 5, 6, 7, 8, 9, 10, 11, 12, 13] [] [0, 1, 2, 3, 4, 5, 6, 7, 8, 9, 10, 11, 12, 13] rfl rfl rfl rfl (by decide) rfl rfl rfl rfl rfl ⟨by decide, by decide⟩ ⟨by decide, by decide⟩ rfl (Nat.le_of_ble_eq_true rfl) ?_
          try rw [u6]
          refine ks_iload_n rfl rfl C d_Model_remove_51 ?_
          exact ks_iret C Z rfl (ks_nb1 _) d_Model_remove_52 rfl rfl (Or.inr (Or.inr (Or.inr (⟨⟨⟨⟨u1, u3⟩, qt⟩, u6⟩, rfl, rfl⟩))))
      · refine ks_iconstB false rfl C d_Model_remove_27 ?_
        exact ks_iret C Z rfl (ks_nb1 _) d_Model_remove_28 rfl rfl (Or.inr (Or.inl ⟨⟨⟨u1, u3⟩, (by simpa using u4)⟩, rfl, by rw [if_neg (by simpa using u4)]⟩))
    · refine ks_iconstB true rfl C d_Model_remove_15 ?_
      refine ks_goto (tgt := 20) C (by decide) d_Model_remove_16 ?_
      refine ks_iload_n rfl rfl C d_Model_remove_20 ?_
      refine ks_cx (ci := 9) (q0 := 0) (kw_model K a0 a1 a2 a3 a4 a5 a6 a7 a8 a9 a10 a11 a12 a13 _ _ _ _ _ _ _ _ _ _ _ _ _ _ _ _ _ _ _ _ _ _ _ _ _ _) C (c_Model_fails_1 l D K a0 a1 a2 a3 a4 a5 a6 a7 a8 a9 a10 a11 a12 a13 _ _ _ _ _ _ _ _ _ _ _ _ _ _ _ _ _ _ _ _ _ _ _ _ _ _ _) yw_Model_fails sel_Model_fails lk_Model_104 d_Model_remove_21 rfl rfl rfl [0, 1, 2, 3, 4, 5, 6, 7, 8, 9, 10, 11, 12, 13] [] [0, 1, 2, 3, 4, 5, 6, 7, 8, 9, 10, 11, 12, 13] rfl rfl rfl rfl (by decide) rfl rfl rfl rfl rfl ⟨by decide, by decide⟩ ⟨by decide, by decide⟩ rfl (Nat.le_of_ble_eq_true rfl) ?_
      refine ks_ifB_eq (tgt := 29) C (by decide) d_Model_remove_24 (fun h => absurd h (by decide)) (fun _ => ?_)
      refine ks_iconstB false rfl C d_Model_remove_27 ?_
      exact ks_iret C Z rfl (ks_nb1 _) d_Model_remove_28 rfl rfl (Or.inl ⟨(Or.inr u3), rfl, rfl⟩)
def km_at (TO PL KS : Nat → Nat) (Y KY : Nat → UInt8) (LI : Nat → Nat) (kn m t : Nat) (after : Bool) : Nat := if after = true ∧ km_is TO PL KS Y KY LI kn m (km_find TO PL KS Y KY LI kn t m) t = true then km_find TO PL KS Y KY LI kn t m + 1 else km_find TO PL KS Y KY LI kn t m
set_option maxRecDepth 100000 in
set_option maxHeartbeats 4000000 in
theorem c_Model_fails_g (l : Launch) (D : va_G) (K : Nat → ClassId) (a0 a1 a2 a3 a4 a5 a6 a7 a8 a9 a10 a11 a12 a13 : Nat) (TO PL KS VS MV : Nat → Nat) (Y : Nat → UInt8) (LI MY : Nat → Nat) (TR : Nat → Int64) (KY VY FK FV : Nat → UInt8) (rn us kn vn fkn fvn mk : Nat) (off opn fnd : Bool) (wh af th : Nat) (s : Bool) (t : Nat) (h1 : t < 4294967296) : ks_M l D (ks_T K) (ks_R 1) y_Model_fails b_Model_fails 3 (some .boolean) [.ref a0, .int (ks_b s), .int (nI t)] (kw_model K a0 a1 a2 a3 a4 a5 a6 a7 a8 a9 a10 a11 a12 a13 TO PL KS VS MV Y LI MY TR KY VY FK FV rn us kn vn fkn fvn mk off opn fnd wh af th) (ks_f (some (.int (ks_b (decide (km_fail s (km_tree (TR 0) t) ≠ 0))))) (kw_model K a0 a1 a2 a3 a4 a5 a6 a7 a8 a9 a10 a11 a12 a13 TO PL KS VS MV Y LI MY TR KY VY FK FV rn us kn vn fkn fvn mk off opn fnd wh af (km_fail s (km_tree (TR 0) t)))) := by
  refine ks_M.of 0 (by decide) (Nat.le_of_ble_eq_true rfl) ?_
  intro E C Z
  refine ks_aload_n rfl rfl C d_Model_fails_0 ?_
  refine ks_iload_n rfl rfl C d_Model_fails_1 ?_
  refine ks_ifB_eq (tgt := 9) C (by decide) d_Model_fails_2 (fun u1 => ?_) (fun u1 => ?_)
  · refine ks_aload_n rfl rfl C d_Model_fails_9 ?_
    refine ks_iload_n rfl rfl C d_Model_fails_10 ?_
    refine ks_cx (ci := 9) (q0 := 0) (kw_model K a0 a1 a2 a3 a4 a5 a6 a7 a8 a9 a10 a11 a12 a13 _ _ _ _ _ _ _ _ _ _ _ _ _ _ _ _ _ _ _ _ _ _ _ _ _ _) C (c_Model_isTree l D K a0 a1 a2 a3 a4 a5 a6 a7 a8 a9 a10 a11 a12 a13 _ _ _ _ _ _ _ _ _ _ _ _ _ _ _ _ _ _ _ _ _ _ _ _ _ _ _ (by omega)) yw_Model_isTree sel_Model_isTree lk_Model_97 d_Model_fails_11 rfl rfl rfl [0, 1, 2, 3, 4, 5, 6, 7, 8, 9, 10, 11, 12, 13] [] [0, 1, 2, 3, 4, 5, 6, 7, 8, 9, 10, 11, 12, 13] rfl rfl rfl rfl (by decide) rfl rfl rfl rfl rfl ⟨by decide, by decide⟩ ⟨by decide, by decide⟩ rfl (Nat.le_of_ble_eq_true rfl) ?_
    refine ks_ifB_eq (tgt := 21) C (by decide) d_Model_fails_14 (fun u2 => ?_) (fun u2 => ?_)
    · refine ks_iconst (a := 2) rfl C d_Model_fails_21 ?_
      refine ks_put (k := 25) (ws' := (kw_model K a0 a1 a2 a3 a4 a5 a6 a7 a8 a9 a10 a11 a12 a13 _ _ _ _ _ _ _ _ _ _ _ _ _ _ _ _ _ _ _ _ _ _ _ _ _ _)) C 0 9 t_Model ty_Model nm_Model in_Model rfl (by decide) fk_Model_56 rfl rfl rfl rfl rfl (Nat.le_of_ble_eq_true rfl) rfl d_Model_fails_22 ?_
      refine ks_aload_n rfl rfl C d_Model_fails_25 ?_
      refine ks_get (k := 25) C 0 9 in_Model rfl (by decide) fk_Model_56 rfl rfl rfl d_Model_fails_26 ?_
      refine ks_if_le (tgt := 36) C (by omega) (by decide) d_Model_fails_29 (fun h => absurd h (by decide)) (fun _ => ?_)
      refine ks_iconstB true rfl C d_Model_fails_32 ?_
      refine ks_goto (tgt := 37) C (by decide) d_Model_fails_33 ?_
      exact ks_iret C Z rfl (ks_nb1 _) d_Model_fails_37 rfl rfl (by rw [show km_fail s (km_tree (TR 0) t) = 2 by rw [km_fail, if_neg (by rw [u1]; decide), if_neg (by rw [u2]; decide)]]; exact ⟨rfl, rfl⟩)
    · refine ks_iconst (a := 0) rfl C d_Model_fails_17 ?_
      refine ks_goto (tgt := 22) C (by decide) d_Model_fails_18 ?_
      refine ks_put (k := 25) (ws' := (kw_model K a0 a1 a2 a3 a4 a5 a6 a7 a8 a9 a10 a11 a12 a13 _ _ _ _ _ _ _ _ _ _ _ _ _ _ _ _ _ _ _ _ _ _ _ _ _ _)) C 0 9 t_Model ty_Model nm_Model in_Model rfl (by decide) fk_Model_56 rfl rfl rfl rfl rfl (Nat.le_of_ble_eq_true rfl) rfl d_Model_fails_22 ?_
      refine ks_aload_n rfl rfl C d_Model_fails_25 ?_
      refine ks_get (k := 25) C 0 9 in_Model rfl (by decide) fk_Model_56 rfl rfl rfl d_Model_fails_26 ?_
      refine ks_if_le (tgt := 36) C (by omega) (by decide) d_Model_fails_29 (fun _ => ?_) (fun h => absurd h (by decide))
      refine ks_iconstB false rfl C d_Model_fails_36 ?_
      exact ks_iret C Z rfl (ks_nb1 _) d_Model_fails_37 rfl rfl (by rw [show km_fail s (km_tree (TR 0) t) = 0 by rw [km_fail, if_neg (by rw [u1]; decide), if_pos u2]]; exact ⟨rfl, rfl⟩)
  · refine ks_iconst (a := 1) rfl C d_Model_fails_5 ?_
    refine ks_goto (tgt := 22) C (by decide) d_Model_fails_6 ?_
    refine ks_put (k := 25) (ws' := (kw_model K a0 a1 a2 a3 a4 a5 a6 a7 a8 a9 a10 a11 a12 a13 _ _ _ _ _ _ _ _ _ _ _ _ _ _ _ _ _ _ _ _ _ _ _ _ _ _)) C 0 9 t_Model ty_Model nm_Model in_Model rfl (by decide) fk_Model_56 rfl rfl rfl rfl rfl (Nat.le_of_ble_eq_true rfl) rfl d_Model_fails_22 ?_
    refine ks_aload_n rfl rfl C d_Model_fails_25 ?_
    refine ks_get (k := 25) C 0 9 in_Model rfl (by decide) fk_Model_56 rfl rfl rfl d_Model_fails_26 ?_
    refine ks_if_le (tgt := 36) C (by omega) (by decide) d_Model_fails_29 (fun h => absurd h (by decide)) (fun _ => ?_)
    refine ks_iconstB true rfl C d_Model_fails_32 ?_
    refine ks_goto (tgt := 37) C (by decide) d_Model_fails_33 ?_
    exact ks_iret C Z rfl (ks_nb1 _) d_Model_fails_37 rfl rfl (by rw [show km_fail s (km_tree (TR 0) t) = 1 by rw [km_fail, if_pos u1]]; exact ⟨rfl, rfl⟩)
theorem km_fail_case {s b : Bool} (h : km_fail s b ≠ 0) : (s = true ∧ km_fail s b = 1) ∨ ((s = false ∧ b = false) ∧ km_fail s b = 2) := by
  revert h
  cases s <;> cases b <;> decide
set_option maxRecDepth 100000 in
set_option maxHeartbeats 4000000 in
theorem c_Model_seek (l : Launch) (D : va_G) (K : Nat → ClassId) (a0 a1 a2 a3 a4 a5 a6 a7 a8 a9 a10 a11 a12 a13 : Nat) (TO PL KS VS MV : Nat → Nat) (Y : Nat → UInt8) (LI MY : Nat → Nat) (TR : Nat → Int64) (KY VY FK FV : Nat → UInt8) (rn us kn vn fkn fvn mk : Nat) (off opn fnd : Bool) (wh af th : Nat) (t : Nat) (after : Bool) (h1 : t < 4294967296) (h2 : kn ≤ 8448) (hg : km_g TO PL KS VS LI (MY 0)) : ks_M l D (ks_T K) (ks_R 2) y_Model_seek b_Model_seek 6 (some .boolean) [.ref a0, .int (nI t), .int (ks_b after)] (kw_model K a0 a1 a2 a3 a4 a5 a6 a7 a8 a9 a10 a11 a12 a13 TO PL KS VS MV Y LI MY TR KY VY FK FV rn us kn vn fkn fvn mk off opn fnd wh af th) (fun vR wR => ((off = true) ∧ vR = some (.int (ks_b false)) ∧ wR = (kw_model K a0 a1 a2 a3 a4 a5 a6 a7 a8 a9 a10 a11 a12 a13 TO PL KS VS MV Y LI MY TR KY VY FK FV rn us kn vn fkn fvn mk off opn fnd wh af 1)) ∨ ((off = false ∧ km_tree (TR 0) t = false) ∧ vR = some (.int (ks_b false)) ∧ wR = (kw_model K a0 a1 a2 a3 a4 a5 a6 a7 a8 a9 a10 a11 a12 a13 TO PL KS VS MV Y LI MY TR KY VY FK FV rn us kn vn fkn fvn mk off opn fnd wh af 2)) ∨ (((off = false ∧ km_tree (TR 0) t = true) ∧ ¬ ((km_at TO PL KS Y KY LI kn (MY 0) t after) < MY 0 ∧ TO (LI (km_at TO PL KS Y KY LI kn (MY 0) t after)) = t)) ∧ vR = some (.int (ks_b false)) ∧ wR = (kw_model K a0 a1 a2 a3 a4 a5 a6 a7 a8 a9 a10 a11 a12 a13 TO PL KS VS MV Y LI MY TR KY VY FK FV rn us kn vn fkn fvn mk off opn false wh af 0)) ∨ (((off = false ∧ km_tree (TR 0) t = true) ∧ ((km_at TO PL KS Y KY LI kn (MY 0) t after) < MY 0 ∧ TO (LI (km_at TO PL KS Y KY LI kn (MY 0) t after)) = t)) ∧ vR = some (.int (ks_b true)) ∧ wR = (kw_model K a0 a1 a2 a3 a4 a5 a6 a7 a8 a9 a10 a11 a12 a13 TO PL KS VS MV Y LI MY TR KY VY (va_cpy Y FK (PL (LI (km_at TO PL KS Y KY LI kn (MY 0) t after))) 0 (KS (LI (km_at TO PL KS Y KY LI kn (MY 0) t after)))) (va_cpy Y FV (PL (LI (km_at TO PL KS Y KY LI kn (MY 0) t after)) + KS (LI (km_at TO PL KS Y KY LI kn (MY 0) t after))) 0 (VS (LI (km_at TO PL KS Y KY LI kn (MY 0) t after)))) rn us kn vn (KS (LI (km_at TO PL KS Y KY LI kn (MY 0) t after))) (VS (LI (km_at TO PL KS Y KY LI kn (MY 0) t after))) mk off opn true wh af 0))) := by
  refine ks_M.of 3 (by decide) (Nat.le_of_ble_eq_true rfl) ?_
  intro E C Z
  have hm := hg.1
  have l2 : ∀ (f : Nat) (e i : Nat), i + f = VS e → e < 20600 → PL e + (KS e + VS e) ≤ 400000 → VS e ≤ 8448 → ((off = false ∧ km_tree (TR 0) t = true) ∧ ((km_at TO PL KS Y KY LI kn (MY 0) t after) < MY 0 ∧ TO (LI (km_at TO PL KS Y KY LI kn (MY 0) t after)) = t)) → e = (LI (km_at TO PL KS Y KY LI kn (MY 0) t after)) → ks_w E D 6 (kw_model K a0 a1 a2 a3 a4 a5 a6 a7 a8 a9 a10 a11 a12 a13 TO PL KS VS MV Y LI MY TR KY VY (va_cpy Y FK (PL e) 0 (KS e)) (va_cpy Y FV (PL e + KS e) 0 i) rn us kn vn (KS e) (VS e) mk off opn true wh af 0) [some (.ref a0), some (.int (nI t)), some (.int (ks_b after)), none, some (.int (nI e)), some (.int (nI i))] 0 0 152 [] := by
    intro f
    induction f with
    | zero =>
      intro e i g1 g2 g3 g4 g5 g6
      refine ks_iload rfl C d_Model_seek_152 ?_
      refine ks_aload_n rfl rfl C d_Model_seek_154 ?_
      refine ks_get (k := 18) C 0 9 in_Model rfl (by decide) fk_Model_138 rfl rfl rfl d_Model_seek_155 ?_
      refine ks_icmp_ge (tgt := 194) C (by omega) (by omega) (by decide) d_Model_seek_158 (fun u1 => ?_) (fun u1 => ?_)
      · refine ks_iconstB true rfl C d_Model_seek_194 ?_
        exact ks_iret C Z rfl (ks_nb1 _) d_Model_seek_195 rfl rfl (Or.inr (Or.inr (Or.inr (⟨g5, rfl, by rw [show i = VS e by omega, g6]⟩))))
      · exact (by omega : False).elim
    | succ f ih =>
      intro e i g1 g2 g3 g4 g5 g6
      refine ks_iload rfl C d_Model_seek_152 ?_
      refine ks_aload_n rfl rfl C d_Model_seek_154 ?_
      refine ks_get (k := 18) C 0 9 in_Model rfl (by decide) fk_Model_138 rfl rfl rfl d_Model_seek_155 ?_
      refine ks_icmp_ge (tgt := 194) C (by omega) (by omega) (by decide) d_Model_seek_158 (fun u2 => ?_) (fun u2 => ?_)
      · exact (by omega : False).elim
      · refine ks_aload_n rfl rfl C d_Model_seek_161 ?_
        refine ks_get (k := 14) C 0 9 in_Model rfl (by decide) fk_Model_49 rfl rfl rfl d_Model_seek_162 ?_
        refine ks_iload rfl C d_Model_seek_165 ?_
        refine ks_aload_n rfl rfl C d_Model_seek_167 ?_
        refine ks_get (k := 5) C 0 9 in_Model rfl (by decide) fk_Model_26 rfl rfl rfl d_Model_seek_168 ?_
        refine ks_aload_n rfl rfl C d_Model_seek_171 ?_
        refine ks_get (k := 1) C 0 9 in_Model rfl (by decide) fk_Model_13 rfl rfl rfl d_Model_seek_172 ?_
        refine ks_iload rfl C d_Model_seek_175 ?_
        refine ks_iald C 2 2 rfl rfl (by omega) (by omega) d_Model_seek_177 ?_
        refine ks_aload_n rfl rfl C d_Model_seek_178 ?_
        refine ks_get (k := 17) C 0 9 in_Model rfl (by decide) fk_Model_135 rfl rfl rfl d_Model_seek_179 ?_
        refine ks_iadd C d_Model_seek_182 ?_
        refine ks_iload rfl C d_Model_seek_183 ?_
        refine ks_iadd C d_Model_seek_185 ?_
        refine ks_bald0 C 6 0 rfl rfl (by omega) (by omega) d_Model_seek_186 ?_
        refine ks_bast (ws' := (kw_model K a0 a1 a2 a3 a4 a5 a6 a7 a8 a9 a10 a11 a12 a13 _ _ _ _ _ _ _ _ _ _ _ _ _ _ _ _ _ _ _ _ _ _ _ _ _ _)) C 13 0 rfl rfl (by omega) (by omega) (ks_nbb _ _) rfl d_Model_seek_187 ?_
        refine ks_iinc C rfl (z := 1) rfl (by decide) rfl d_Model_seek_188 ?_
        refine ks_goto (tgt := 152) C (by decide) d_Model_seek_191 ?_
        rw [km_cpy_u0]
        exact ih _ _ (by omega) g2 g3 g4 g5 g6
  have l1 : ∀ (f : Nat) (e i : Nat), i + f = KS e → e < 20600 → PL e + (KS e + VS e) ≤ 400000 → KS e ≤ 8448 → VS e ≤ 8448 → ((off = false ∧ km_tree (TR 0) t = true) ∧ ((km_at TO PL KS Y KY LI kn (MY 0) t after) < MY 0 ∧ TO (LI (km_at TO PL KS Y KY LI kn (MY 0) t after)) = t)) → e = (LI (km_at TO PL KS Y KY LI kn (MY 0) t after)) → ks_w E D 6 (kw_model K a0 a1 a2 a3 a4 a5 a6 a7 a8 a9 a10 a11 a12 a13 TO PL KS VS MV Y LI MY TR KY VY (va_cpy Y FK (PL e) 0 i) FV rn us kn vn (KS e) (VS e) mk off opn true wh af 0) [some (.ref a0), some (.int (nI t)), some (.int (ks_b after)), none, some (.int (nI e)), some (.int (nI i))] 0 0 112 [] := by
    intro f
    induction f with
    | zero =>
      intro e i g1 g2 g3 g4 g5 g6 g7
      refine ks_iload rfl C d_Model_seek_112 ?_
      refine ks_aload_n rfl rfl C d_Model_seek_114 ?_
      refine ks_get (k := 17) C 0 9 in_Model rfl (by decide) fk_Model_135 rfl rfl rfl d_Model_seek_115 ?_
      refine ks_icmp_ge (tgt := 149) C (by omega) (by omega) (by decide) d_Model_seek_118 (fun u3 => ?_) (fun u3 => ?_)
      · refine ks_iconst (a := 0) rfl C d_Model_seek_149 ?_
        refine ks_istore C (by decide) rfl d_Model_seek_150 ?_
        rw [show i = KS e by omega]
        have e0 := l2 (VS e) e 0 (by omega) g2 g3 g5 g6 g7
        rw [km_cpy_0] at e0
        exact e0
      · exact (by omega : False).elim
    | succ f ih =>
      intro e i g1 g2 g3 g4 g5 g6 g7
      refine ks_iload rfl C d_Model_seek_112 ?_
      refine ks_aload_n rfl rfl C d_Model_seek_114 ?_
      refine ks_get (k := 17) C 0 9 in_Model rfl (by decide) fk_Model_135 rfl rfl rfl d_Model_seek_115 ?_
      refine ks_icmp_ge (tgt := 149) C (by omega) (by omega) (by decide) d_Model_seek_118 (fun u4 => ?_) (fun u4 => ?_)
      · exact (by omega : False).elim
      · refine ks_aload_n rfl rfl C d_Model_seek_121 ?_
        refine ks_get (k := 13) C 0 9 in_Model rfl (by decide) fk_Model_46 rfl rfl rfl d_Model_seek_122 ?_
        refine ks_iload rfl C d_Model_seek_125 ?_
        refine ks_aload_n rfl rfl C d_Model_seek_127 ?_
        refine ks_get (k := 5) C 0 9 in_Model rfl (by decide) fk_Model_26 rfl rfl rfl d_Model_seek_128 ?_
        refine ks_aload_n rfl rfl C d_Model_seek_131 ?_
        refine ks_get (k := 1) C 0 9 in_Model rfl (by decide) fk_Model_13 rfl rfl rfl d_Model_seek_132 ?_
        refine ks_iload rfl C d_Model_seek_135 ?_
        refine ks_iald C 2 2 rfl rfl (by omega) (by omega) d_Model_seek_137 ?_
        refine ks_iload rfl C d_Model_seek_138 ?_
        refine ks_iadd C d_Model_seek_140 ?_
        refine ks_bald0 C 6 0 rfl rfl (by omega) (by omega) d_Model_seek_141 ?_
        refine ks_bast (ws' := (kw_model K a0 a1 a2 a3 a4 a5 a6 a7 a8 a9 a10 a11 a12 a13 _ _ _ _ _ _ _ _ _ _ _ _ _ _ _ _ _ _ _ _ _ _ _ _ _ _)) C 12 0 rfl rfl (by omega) (by omega) (ks_nbb _ _) rfl d_Model_seek_142 ?_
        refine ks_iinc C rfl (z := 1) rfl (by decide) rfl d_Model_seek_143 ?_
        refine ks_goto (tgt := 112) C (by decide) d_Model_seek_146 ?_
        rw [km_cpy_u0]
        exact ih _ _ (by omega) g2 g3 g4 g5 g6 g7
  have tail : ∀ (f : Nat) , t < 64 → (off = false ∧ km_tree (TR 0) t = true) → (km_at TO PL KS Y KY LI kn (MY 0) t after) ≤ 2901 → ks_w E D 6 (kw_model K a0 a1 a2 a3 a4 a5 a6 a7 a8 a9 a10 a11 a12 a13 TO PL KS VS MV Y LI MY TR KY VY FK FV rn us kn vn fkn fvn mk off opn fnd wh af 0) [some (.ref a0), some (.int (nI t)), some (.int (ks_b after)), some (.int (nI ((km_at TO PL KS Y KY LI kn (MY 0) t after)))), none, none] 0 0 36 [] := by
    intro f
    intro g1 g2 g3
    refine ks_aload_n rfl rfl C d_Model_seek_36 ?_
    refine ks_iload_n rfl rfl C d_Model_seek_37 ?_
    refine ks_aload_n rfl rfl C d_Model_seek_38 ?_
    refine ks_get (k := 9) C 0 9 in_Model rfl (by decide) fk_Model_33 rfl rfl rfl d_Model_seek_39 ?_
    refine ks_iconst (a := 0) rfl C d_Model_seek_42 ?_
    refine ks_iald C 8 2 rfl rfl (by omega) (by omega) d_Model_seek_43 ?_
    refine ks_icmp_ge (tgt := 66) C (by omega) (by omega) (by decide) d_Model_seek_44 (fun u5 => ?_) (fun u5 => ?_)
    · refine ks_iconstB false rfl C d_Model_seek_66 ?_
      refine ks_put (k := 22) (ws' := (kw_model K a0 a1 a2 a3 a4 a5 a6 a7 a8 a9 a10 a11 a12 a13 _ _ _ _ _ _ _ _ _ _ _ _ _ _ _ _ _ _ _ _ _ _ _ _ _ _)) C 0 9 t_Model ty_Model nm_Model in_Model rfl (by decide) fk_Model_132 rfl rfl (ks_nb1 _) (ks_fb1 _) rfl (Nat.le_of_ble_eq_true rfl) rfl d_Model_seek_67 ?_
      refine ks_aload_n rfl rfl C d_Model_seek_70 ?_
      refine ks_get (k := 22) C 0 9 in_Model rfl (by decide) fk_Model_132 rfl rfl rfl d_Model_seek_71 ?_
      refine ks_ifB_ne (tgt := 79) C (by decide) d_Model_seek_74 (fun h => absurd h (by decide)) (fun _ => ?_)
      refine ks_iconstB false rfl C d_Model_seek_77 ?_
      exact ks_iret C Z rfl (ks_nb1 _) d_Model_seek_78 rfl rfl (Or.inr (Or.inr (Or.inl ⟨⟨g2, by omega⟩, rfl, rfl⟩)))
    · obtain ⟨q1, q2, q3, q4, q5⟩ := hg.2 (km_at TO PL KS Y KY LI kn (MY 0) t after) (by omega)
      refine ks_aload_n rfl rfl C d_Model_seek_47 ?_
      refine ks_get (k := 0) C 0 9 in_Model rfl (by decide) fk_Model_7 rfl rfl rfl d_Model_seek_48 ?_
      refine ks_aload_n rfl rfl C d_Model_seek_51 ?_
      refine ks_get (k := 8) C 0 9 in_Model rfl (by decide) fk_Model_30 rfl rfl rfl d_Model_seek_52 ?_
      refine ks_iload_n rfl rfl C d_Model_seek_55 ?_
      refine ks_iald C 7 2 rfl rfl (by omega) (by omega) d_Model_seek_56 ?_
      refine ks_iald C 1 2 rfl rfl (by omega) (by omega) d_Model_seek_57 ?_
      refine ks_iload_n rfl rfl C d_Model_seek_58 ?_
      refine ks_icmpR_ne (tgt := 66) C (by omega) (by omega) (by decide) d_Model_seek_59 (fun u7 => ?_) (fun u7 => ?_)
      · refine ks_iconstB false rfl C d_Model_seek_66 ?_
        refine ks_put (k := 22) (ws' := (kw_model K a0 a1 a2 a3 a4 a5 a6 a7 a8 a9 a10 a11 a12 a13 _ _ _ _ _ _ _ _ _ _ _ _ _ _ _ _ _ _ _ _ _ _ _ _ _ _)) C 0 9 t_Model ty_Model nm_Model in_Model rfl (by decide) fk_Model_132 rfl rfl (ks_nb1 _) (ks_fb1 _) rfl (Nat.le_of_ble_eq_true rfl) rfl d_Model_seek_67 ?_
        refine ks_aload_n rfl rfl C d_Model_seek_70 ?_
        refine ks_get (k := 22) C 0 9 in_Model rfl (by decide) fk_Model_132 rfl rfl rfl d_Model_seek_71 ?_
        refine ks_ifB_ne (tgt := 79) C (by decide) d_Model_seek_74 (fun h => absurd h (by decide)) (fun _ => ?_)
        refine ks_iconstB false rfl C d_Model_seek_77 ?_
        exact ks_iret C Z rfl (ks_nb1 _) d_Model_seek_78 rfl rfl (Or.inr (Or.inr (Or.inl ⟨⟨g2, by omega⟩, rfl, rfl⟩)))
      · refine ks_iconstB true rfl C d_Model_seek_62 ?_
        refine ks_goto (tgt := 67) C (by decide) d_Model_seek_63 ?_
        refine ks_put (k := 22) (ws' := (kw_model K a0 a1 a2 a3 a4 a5 a6 a7 a8 a9 a10 a11 a12 a13 _ _ _ _ _ _ _ _ _ _ _ _ _ _ _ _ _ _ _ _ _ _ _ _ _ _)) C 0 9 t_Model ty_Model nm_Model in_Model rfl (by decide) fk_Model_132 rfl rfl (ks_nb1 _) (ks_fb1 _) rfl (Nat.le_of_ble_eq_true rfl) rfl d_Model_seek_67 ?_
        refine ks_aload_n rfl rfl C d_Model_seek_70 ?_
        refine ks_get (k := 22) C 0 9 in_Model rfl (by decide) fk_Model_132 rfl rfl rfl d_Model_seek_71 ?_
        refine ks_ifB_ne (tgt := 79) C (by decide) d_Model_seek_74 (fun _ => ?_) (fun h => absurd h (by decide))
        refine ks_aload_n rfl rfl C d_Model_seek_79 ?_
        refine ks_get (k := 8) C 0 9 in_Model rfl (by decide) fk_Model_30 rfl rfl rfl d_Model_seek_80 ?_
        refine ks_iload_n rfl rfl C d_Model_seek_83 ?_
        refine ks_iald C 7 2 rfl rfl (by omega) (by omega) d_Model_seek_84 ?_
        refine ks_istore C (by decide) rfl d_Model_seek_85 ?_
        refine ks_aload_n rfl rfl C d_Model_seek_87 ?_
        refine ks_aload_n rfl rfl C d_Model_seek_88 ?_
        refine ks_get (k := 2) C 0 9 in_Model rfl (by decide) fk_Model_16 rfl rfl rfl d_Model_seek_89 ?_
        refine ks_iload rfl C d_Model_seek_92 ?_
        refine ks_iald C 3 2 rfl rfl (by omega) (by omega) d_Model_seek_94 ?_
        refine ks_put (k := 17) (ws' := (kw_model K a0 a1 a2 a3 a4 a5 a6 a7 a8 a9 a10 a11 a12 a13 _ _ _ _ _ _ _ _ _ _ _ _ _ _ _ _ _ _ _ _ _ _ _ _ _ _)) C 0 9 t_Model ty_Model nm_Model in_Model rfl (by decide) fk_Model_135 rfl rfl rfl rfl rfl (Nat.le_of_ble_eq_true rfl) rfl d_Model_seek_95 ?_
        refine ks_aload_n rfl rfl C d_Model_seek_98 ?_
        refine ks_aload_n rfl rfl C d_Model_seek_99 ?_
        refine ks_get (k := 3) C 0 9 in_Model rfl (by decide) fk_Model_19 rfl rfl rfl d_Model_seek_100 ?_
        refine ks_iload rfl C d_Model_seek_103 ?_
        refine ks_iald C 4 2 rfl rfl (by omega) (by omega) d_Model_seek_105 ?_
        refine ks_put (k := 18) (ws' := (kw_model K a0 a1 a2 a3 a4 a5 a6 a7 a8 a9 a10 a11 a12 a13 _ _ _ _ _ _ _ _ _ _ _ _ _ _ _ _ _ _ _ _ _ _ _ _ _ _)) C 0 9 t_Model ty_Model nm_Model in_Model rfl (by decide) fk_Model_138 rfl rfl rfl rfl rfl (Nat.le_of_ble_eq_true rfl) rfl d_Model_seek_106 ?_
        refine ks_iconst (a := 0) rfl C d_Model_seek_109 ?_
        refine ks_istore C (by decide) rfl d_Model_seek_110 ?_
        refine ks_forget 3 ?_
        have e0 := l1 (KS (LI (km_at TO PL KS Y KY LI kn (MY 0) t after))) (LI (km_at TO PL KS Y KY LI kn (MY 0) t after)) 0 (by omega) q1 q3 q4 q5 ⟨g2, by omega⟩ rfl
        rw [km_cpy_0] at e0
        refine ks_forget 3 ?_
        exact e0
  refine ks_aload_n rfl rfl C d_Model_seek_0 ?_
  refine ks_aload_n rfl rfl C d_Model_seek_1 ?_
  refine ks_get (k := 20) C 0 9 in_Model rfl (by decide) fk_Model_65 rfl rfl rfl d_Model_seek_2 ?_
  refine ks_iload_n rfl rfl C d_Model_seek_5 ?_
  refine ks_cx (ci := 9) (q0 := 0) (kw_model K a0 a1 a2 a3 a4 a5 a6 a7 a8 a9 a10 a11 a12 a13 _ _ _ _ _ _ _ _ _ _ _ _ _ _ _ _ _ _ _ _ _ _ _ _ _ _) C (c_Model_fails_g l D K a0 a1 a2 a3 a4 a5 a6 a7 a8 a9 a10 a11 a12 a13 _ _ _ _ _ _ _ _ _ _ _ _ _ _ _ _ _ _ _ _ _ _ _ _ _ _ _ _ (by omega)) yw_Model_fails sel_Model_fails lk_Model_104 d_Model_seek_6 rfl rfl rfl [0, 1, 2, 3, 4, 5, 6, 7, 8, 9, 10, 11, 12, 13] [] [0, 1, 2, 3, 4, 5, 6, 7, 8, 9, 10, 11, 12, 13] rfl rfl rfl rfl (by decide) rfl rfl rfl rfl rfl ⟨by decide, by decide⟩ ⟨by decide, by decide⟩ rfl (Nat.le_of_ble_eq_true rfl) ?_
  refine ks_ifD_eq (tgt := 14) C (by decide) d_Model_seek_9 (fun u10 => ?_) (fun u10 => ?_)
  · have q0 : km_fail off (km_tree (TR 0) t) = 0 := Decidable.not_not.mp u10
    rw [q0]
    obtain ⟨qo, qt⟩ := km_fail_0.mp q0
    have q64 := km_tree_t qt
    refine ks_aload_n rfl rfl C d_Model_seek_14 ?_
    refine ks_iload_n rfl rfl C d_Model_seek_15 ?_
    refine ks_cx (ci := 9) (q0 := 0) (kw_model K a0 a1 a2 a3 a4 a5 a6 a7 a8 a9 a10 a11 a12 a13 _ _ _ _ _ _ _ _ _ _ _ _ _ _ _ _ _ _ _ _ _ _ _ _ _ _) C (c_Model_find l D K a0 a1 a2 a3 a4 a5 a6 a7 a8 a9 a10 a11 a12 a13 _ _ _ _ _ _ _ _ _ _ _ _ _ _ _ _ _ _ _ _ _ _ _ _ _ _ _ hg (by omega) (by omega)) yw_Model_find sel_Model_find lk_Model_113 d_Model_seek_16 rfl rfl rfl [0, 1, 2, 3, 4, 5, 6, 7, 8, 9, 10, 11, 12, 13] [] [0, 1, 2, 3, 4, 5, 6, 7, 8, 9, 10, 11, 12, 13] rfl rfl rfl rfl (by decide) rfl rfl rfl rfl rfl ⟨by decide, by decide⟩ ⟨by decide, by decide⟩ rfl (Nat.le_of_ble_eq_true rfl) ?_
    refine ks_top_kfind (fun u11 => ?_)
    refine ks_istore_n C rfl (by decide) rfl d_Model_seek_19 ?_
    refine ks_iload_n rfl rfl C d_Model_seek_20 ?_
    refine ks_ifB_eq (tgt := 36) C (by decide) d_Model_seek_21 (fun u12 => ?_) (fun u12 => ?_)
    · rw [show nI ((km_find TO PL KS Y KY LI kn t (MY 0))) = nI (km_at TO PL KS Y KY LI kn (MY 0) t after) by rw [km_at, if_neg (fun z => by rw [u12] at z; cases z.1)]]
      exact tail 0 q64 ⟨qo, qt⟩ (by unfold km_at; split <;> omega)
    · refine ks_aload_n rfl rfl C d_Model_seek_24 ?_
      refine ks_iload_n rfl rfl C d_Model_seek_25 ?_
      refine ks_iload_n rfl rfl C d_Model_seek_26 ?_
      refine ks_cx (ci := 9) (q0 := 0) (kw_model K a0 a1 a2 a3 a4 a5 a6 a7 a8 a9 a10 a11 a12 a13 _ _ _ _ _ _ _ _ _ _ _ _ _ _ _ _ _ _ _ _ _ _ _ _ _ _) C (c_Model_isThere l D K a0 a1 a2 a3 a4 a5 a6 a7 a8 a9 a10 a11 a12 a13 _ _ _ _ _ _ _ _ _ _ _ _ _ _ _ _ _ _ _ _ _ _ _ _ _ _ _ _ hg (by omega) (by omega) (by omega)) yw_Model_isThere sel_Model_isThere lk_Model_116 d_Model_seek_27 rfl rfl rfl [0, 1, 2, 3, 4, 5, 6, 7, 8, 9, 10, 11, 12, 13] [] [0, 1, 2, 3, 4, 5, 6, 7, 8, 9, 10, 11, 12, 13] rfl rfl rfl rfl (by decide) rfl rfl rfl rfl rfl ⟨by decide, by decide⟩ ⟨by decide, by decide⟩ rfl (Nat.le_of_ble_eq_true rfl) ?_
      refine ks_ifB_eq (tgt := 36) C (by decide) d_Model_seek_30 (fun u13 => ?_) (fun u13 => ?_)
      · rw [show nI ((km_find TO PL KS Y KY LI kn t (MY 0))) = nI (km_at TO PL KS Y KY LI kn (MY 0) t after) by rw [km_at, if_neg (fun z => by rw [u13] at z; cases z.2)]]
        exact tail 0 q64 ⟨qo, qt⟩ (by unfold km_at; split <;> omega)
      · refine ks_iinc C rfl (z := 1) rfl (by decide) rfl d_Model_seek_33 ?_
        rw [show nI ((km_find TO PL KS Y KY LI kn t (MY 0)) + 1) = nI (km_at TO PL KS Y KY LI kn (MY 0) t after) by rw [km_at, if_pos ⟨u12, u13⟩]]
        exact tail 0 q64 ⟨qo, qt⟩ (by unfold km_at; split <;> omega)
  · refine ks_iconstB false rfl C d_Model_seek_12 ?_
    exact ks_iret C Z rfl (ks_nb1 _) d_Model_seek_13 rfl rfl ((km_fail_case u10).elim (fun z => Or.inl ⟨z.1, rfl, by rw [z.2]⟩) (fun z => Or.inr (Or.inl ⟨z.1, rfl, by rw [z.2]⟩)))
set_option maxRecDepth 100000 in
set_option maxHeartbeats 4000000 in
theorem c_Model_put (l : Launch) (D : va_G) (K : Nat → ClassId) (a0 a1 a2 a3 a4 a5 a6 a7 a8 a9 a10 a11 a12 a13 : Nat) (TO PL KS VS MV : Nat → Nat) (Y : Nat → UInt8) (LI MY : Nat → Nat) (TR : Nat → Int64) (KY VY FK FV : Nat → UInt8) (rn us kn vn fkn fvn mk : Nat) (off opn fnd : Bool) (wh af th : Nat) (t : Nat) (h0 : t < 4294967296) (hg : km_g TO PL KS VS LI (MY 0)) (h1 : rn ≤ 20600) (h2 : mk ≤ 5) (h3 : ∀ s, s < 2 + mk → MY s ≤ 2900 ∧ ∀ k, k < MY s → LI (2900 * s + k) < 20600) (h4 : ∀ j, j < rn → PL j + (KS j + VS j) ≤ 400000) (h5 : ∀ j j2, j < j2 → j2 < rn → PL j + (KS j + VS j) ≤ PL j2) (h6 : km_cap (km_pk0 mk MY kn vn ((TO, PL), (KS, VS), (MV, Y), LI, (rn, us))) kn vn) (h6b : km_is TO PL KS Y KY LI kn (MY 0) (km_find TO PL KS Y KY LI kn t (MY 0)) t = true → km_cap (km_pk0 mk (va_up MY 0 (MY 0 - 1)) kn vn ((TO, PL), (KS, VS), (MV, Y), (km_out LI (km_find TO PL KS Y KY LI kn t (MY 0)) (MY 0 - 1)), (rn, us))) kn vn) (h7 : kn ≤ 8448) (h8 : vn ≤ 8448) (h9 : us ≤ 400000) (hz : km_size LI KS VS (MY 0) ≤ 36864) : ks_M l D (ks_T K) (ks_R 2) y_Model_put b_Model_put 7 (some .boolean) [.ref a0, .int (nI t)] (kw_model K a0 a1 a2 a3 a4 a5 a6 a7 a8 a9 a10 a11 a12 a13 TO PL KS VS MV Y LI MY TR KY VY FK FV rn us kn vn fkn fvn mk off opn fnd wh af th) (fun vR wR => ((off = true ∨ opn = false) ∧ vR = some (.int (ks_b false)) ∧ wR = (kw_model K a0 a1 a2 a3 a4 a5 a6 a7 a8 a9 a10 a11 a12 a13 TO PL KS VS MV Y LI MY TR KY VY FK FV rn us kn vn fkn fvn mk off opn fnd wh af 1)) ∨ (((off = false ∧ opn = true) ∧ km_tree (TR 0) t = false) ∧ vR = some (.int (ks_b false)) ∧ wR = (kw_model K a0 a1 a2 a3 a4 a5 a6 a7 a8 a9 a10 a11 a12 a13 TO PL KS VS MV Y LI MY TR KY VY FK FV rn us kn vn fkn fvn mk off opn fnd wh af 2)) ∨ ((((off = false ∧ opn = true) ∧ km_tree (TR 0) t = true) ∧ kn = 0) ∧ vR = some (.int (ks_b false)) ∧ wR = (kw_model K a0 a1 a2 a3 a4 a5 a6 a7 a8 a9 a10 a11 a12 a13 TO PL KS VS MV Y LI MY TR KY VY FK FV rn us kn vn fkn fvn mk off opn fnd wh af 3)) ∨ (((((off = false ∧ opn = true) ∧ km_tree (TR 0) t = true) ∧ kn ≠ 0) ∧ ((km_is TO PL KS Y KY LI kn (MY 0) (km_find TO PL KS Y KY LI kn t (MY 0)) t = false ∧ 36864 < km_size LI KS VS (MY 0) + 16 + kn + vn) ∨ (km_is TO PL KS Y KY LI kn (MY 0) (km_find TO PL KS Y KY LI kn t (MY 0)) t = true ∧ 36864 < km_size LI KS VS (MY 0) - (16 + KS (LI (km_find TO PL KS Y KY LI kn t (MY 0))) + VS (LI (km_find TO PL KS Y KY LI kn t (MY 0)))) + 16 + kn + vn))) ∧ vR = some (.int (ks_b false)) ∧ wR = (kw_model K a0 a1 a2 a3 a4 a5 a6 a7 a8 a9 a10 a11 a12 a13 TO PL KS VS MV Y LI MY TR KY VY FK FV rn us kn vn fkn fvn mk off opn fnd wh af 1)) ∨ ((((((off = false ∧ opn = true) ∧ km_tree (TR 0) t = true) ∧ kn ≠ 0) ∧ km_is TO PL KS Y KY LI kn (MY 0) (km_find TO PL KS Y KY LI kn t (MY 0)) t = false) ∧ km_size LI KS VS (MY 0) + 16 + kn + vn ≤ 36864) ∧ vR = some (.int (ks_b false)) ∧ wR = (kw_model K a0 a1 a2 a3 a4 a5 a6 a7 a8 a9 a10 a11 a12 a13 (km_ent t KY VY kn vn mk MY ((TO, PL), (KS, VS), (MV, Y), LI, (rn, us))).1.1 (km_ent t KY VY kn vn mk MY ((TO, PL), (KS, VS), (MV, Y), LI, (rn, us))).1.2 (km_ent t KY VY kn vn mk MY ((TO, PL), (KS, VS), (MV, Y), LI, (rn, us))).2.1.1 (km_ent t KY VY kn vn mk MY ((TO, PL), (KS, VS), (MV, Y), LI, (rn, us))).2.1.2 (km_ent t KY VY kn vn mk MY ((TO, PL), (KS, VS), (MV, Y), LI, (rn, us))).2.2.1.1 (km_ent t KY VY kn vn mk MY ((TO, PL), (KS, VS), (MV, Y), LI, (rn, us))).2.2.1.2 (va_up (km_shift (km_ent t KY VY kn vn mk MY ((TO, PL), (KS, VS), (MV, Y), LI, (rn, us))).2.2.2.1 (km_find TO PL KS Y KY LI kn t (MY 0)) (MY 0)) (km_find TO PL KS Y KY LI kn t (MY 0)) (km_pk0 mk MY kn vn ((TO, PL), (KS, VS), (MV, Y), LI, (rn, us))).2.2.2.2.1) (va_up MY 0 (MY 0 + 1)) TR KY VY FK FV (km_ent t KY VY kn vn mk MY ((TO, PL), (KS, VS), (MV, Y), LI, (rn, us))).2.2.2.2.1 (km_ent t KY VY kn vn mk MY ((TO, PL), (KS, VS), (MV, Y), LI, (rn, us))).2.2.2.2.2 kn vn fkn fvn mk off opn fnd wh af 0)) ∨ ((((((off = false ∧ opn = true) ∧ km_tree (TR 0) t = true) ∧ kn ≠ 0) ∧ km_is TO PL KS Y KY LI kn (MY 0) (km_find TO PL KS Y KY LI kn t (MY 0)) t = true) ∧ km_size LI KS VS (MY 0) - (16 + KS (LI (km_find TO PL KS Y KY LI kn t (MY 0))) + VS (LI (km_find TO PL KS Y KY LI kn t (MY 0)))) + 16 + kn + vn ≤ 36864) ∧ vR = some (.int (ks_b true)) ∧ wR = (kw_model K a0 a1 a2 a3 a4 a5 a6 a7 a8 a9 a10 a11 a12 a13 (km_ent t KY VY kn vn mk (va_up MY 0 (MY 0 - 1)) ((TO, PL), (KS, VS), (MV, Y), (km_out LI (km_find TO PL KS Y KY LI kn t (MY 0)) (MY 0 - 1)), (rn, us))).1.1 (km_ent t KY VY kn vn mk (va_up MY 0 (MY 0 - 1)) ((TO, PL), (KS, VS), (MV, Y), (km_out LI (km_find TO PL KS Y KY LI kn t (MY 0)) (MY 0 - 1)), (rn, us))).1.2 (km_ent t KY VY kn vn mk (va_up MY 0 (MY 0 - 1)) ((TO, PL), (KS, VS), (MV, Y), (km_out LI (km_find TO PL KS Y KY LI kn t (MY 0)) (MY 0 - 1)), (rn, us))).2.1.1 (km_ent t KY VY kn vn mk (va_up MY 0 (MY 0 - 1)) ((TO, PL), (KS, VS), (MV, Y), (km_out LI (km_find TO PL KS Y KY LI kn t (MY 0)) (MY 0 - 1)), (rn, us))).2.1.2 (km_ent t KY VY kn vn mk (va_up MY 0 (MY 0 - 1)) ((TO, PL), (KS, VS), (MV, Y), (km_out LI (km_find TO PL KS Y KY LI kn t (MY 0)) (MY 0 - 1)), (rn, us))).2.2.1.1 (km_ent t KY VY kn vn mk (va_up MY 0 (MY 0 - 1)) ((TO, PL), (KS, VS), (MV, Y), (km_out LI (km_find TO PL KS Y KY LI kn t (MY 0)) (MY 0 - 1)), (rn, us))).2.2.1.2 (va_up (km_shift (km_ent t KY VY kn vn mk (va_up MY 0 (MY 0 - 1)) ((TO, PL), (KS, VS), (MV, Y), (km_out LI (km_find TO PL KS Y KY LI kn t (MY 0)) (MY 0 - 1)), (rn, us))).2.2.2.1 (km_find TO PL KS Y KY LI kn t (MY 0)) ((va_up MY 0 (MY 0 - 1)) 0)) (km_find TO PL KS Y KY LI kn t (MY 0)) (km_pk0 mk (va_up MY 0 (MY 0 - 1)) kn vn ((TO, PL), (KS, VS), (MV, Y), (km_out LI (km_find TO PL KS Y KY LI kn t (MY 0)) (MY 0 - 1)), (rn, us))).2.2.2.2.1) (va_up (va_up MY 0 (MY 0 - 1)) 0 ((va_up MY 0 (MY 0 - 1)) 0 + 1)) TR KY VY FK FV (km_ent t KY VY kn vn mk (va_up MY 0 (MY 0 - 1)) ((TO, PL), (KS, VS), (MV, Y), (km_out LI (km_find TO PL KS Y KY LI kn t (MY 0)) (MY 0 - 1)), (rn, us))).2.2.2.2.1 (km_ent t KY VY kn vn mk (va_up MY 0 (MY 0 - 1)) ((TO, PL), (KS, VS), (MV, Y), (km_out LI (km_find TO PL KS Y KY LI kn t (MY 0)) (MY 0 - 1)), (rn, us))).2.2.2.2.2 kn vn fkn fvn mk off opn fnd wh af 0))) := by
  refine ks_M.of 5 (by decide) (Nat.le_of_ble_eq_true rfl) ?_
  intro E C Z
  have hm := hg.1
  have hz0 : (va_up MY 0 (MY 0 - 1)) 0 = MY 0 - 1 := rfl
  have lp : ∀ (f : Nat) (TO1 PL1 KS1 VS1 MV1 : Nat → Nat) (Y1 : Nat → UInt8) (rn1 us1 : Nat) (LI1 MY1 : Nat → Nat) (b : Bool) (p e k : Nat), k = p + f → k ≤ MY1 0 → MY1 0 ≤ 2900 → ((fun (vR : Option Value) (wR : va_W) => ((off = true ∨ opn = false) ∧ vR = some (.int (ks_b false)) ∧ wR = (kw_model K a0 a1 a2 a3 a4 a5 a6 a7 a8 a9 a10 a11 a12 a13 TO PL KS VS MV Y LI MY TR KY VY FK FV rn us kn vn fkn fvn mk off opn fnd wh af 1)) ∨ (((off = false ∧ opn = true) ∧ km_tree (TR 0) t = false) ∧ vR = some (.int (ks_b false)) ∧ wR = (kw_model K a0 a1 a2 a3 a4 a5 a6 a7 a8 a9 a10 a11 a12 a13 TO PL KS VS MV Y LI MY TR KY VY FK FV rn us kn vn fkn fvn mk off opn fnd wh af 2)) ∨ ((((off = false ∧ opn = true) ∧ km_tree (TR 0) t = true) ∧ kn = 0) ∧ vR = some (.int (ks_b false)) ∧ wR = (kw_model K a0 a1 a2 a3 a4 a5 a6 a7 a8 a9 a10 a11 a12 a13 TO PL KS VS MV Y LI MY TR KY VY FK FV rn us kn vn fkn fvn mk off opn fnd wh af 3)) ∨ (((((off = false ∧ opn = true) ∧ km_tree (TR 0) t = true) ∧ kn ≠ 0) ∧ ((km_is TO PL KS Y KY LI kn (MY 0) (km_find TO PL KS Y KY LI kn t (MY 0)) t = false ∧ 36864 < km_size LI KS VS (MY 0) + 16 + kn + vn) ∨ (km_is TO PL KS Y KY LI kn (MY 0) (km_find TO PL KS Y KY LI kn t (MY 0)) t = true ∧ 36864 < km_size LI KS VS (MY 0) - (16 + KS (LI (km_find TO PL KS Y KY LI kn t (MY 0))) + VS (LI (km_find TO PL KS Y KY LI kn t (MY 0)))) + 16 + kn + vn))) ∧ vR = some (.int (ks_b false)) ∧ wR = (kw_model K a0 a1 a2 a3 a4 a5 a6 a7 a8 a9 a10 a11 a12 a13 TO PL KS VS MV Y LI MY TR KY VY FK FV rn us kn vn fkn fvn mk off opn fnd wh af 1)) ∨ ((((((off = false ∧ opn = true) ∧ km_tree (TR 0) t = true) ∧ kn ≠ 0) ∧ km_is TO PL KS Y KY LI kn (MY 0) (km_find TO PL KS Y KY LI kn t (MY 0)) t = false) ∧ km_size LI KS VS (MY 0) + 16 + kn + vn ≤ 36864) ∧ vR = some (.int (ks_b false)) ∧ wR = (kw_model K a0 a1 a2 a3 a4 a5 a6 a7 a8 a9 a10 a11 a12 a13 (km_ent t KY VY kn vn mk MY ((TO, PL), (KS, VS), (MV, Y), LI, (rn, us))).1.1 (km_ent t KY VY kn vn mk MY ((TO, PL), (KS, VS), (MV, Y), LI, (rn, us))).1.2 (km_ent t KY VY kn vn mk MY ((TO, PL), (KS, VS), (MV, Y), LI, (rn, us))).2.1.1 (km_ent t KY VY kn vn mk MY ((TO, PL), (KS, VS), (MV, Y), LI, (rn, us))).2.1.2 (km_ent t KY VY kn vn mk MY ((TO, PL), (KS, VS), (MV, Y), LI, (rn, us))).2.2.1.1 (km_ent t KY VY kn vn mk MY ((TO, PL), (KS, VS), (MV, Y), LI, (rn, us))).2.2.1.2 (va_up (km_shift (km_ent t KY VY kn vn mk MY ((TO, PL), (KS, VS), (MV, Y), LI, (rn, us))).2.2.2.1 (km_find TO PL KS Y KY LI kn t (MY 0)) (MY 0)) (km_find TO PL KS Y KY LI kn t (MY 0)) (km_pk0 mk MY kn vn ((TO, PL), (KS, VS), (MV, Y), LI, (rn, us))).2.2.2.2.1) (va_up MY 0 (MY 0 + 1)) TR KY VY FK FV (km_ent t KY VY kn vn mk MY ((TO, PL), (KS, VS), (MV, Y), LI, (rn, us))).2.2.2.2.1 (km_ent t KY VY kn vn mk MY ((TO, PL), (KS, VS), (MV, Y), LI, (rn, us))).2.2.2.2.2 kn vn fkn fvn mk off opn fnd wh af 0)) ∨ ((((((off = false ∧ opn = true) ∧ km_tree (TR 0) t = true) ∧ kn ≠ 0) ∧ km_is TO PL KS Y KY LI kn (MY 0) (km_find TO PL KS Y KY LI kn t (MY 0)) t = true) ∧ km_size LI KS VS (MY 0) - (16 + KS (LI (km_find TO PL KS Y KY LI kn t (MY 0))) + VS (LI (km_find TO PL KS Y KY LI kn t (MY 0)))) + 16 + kn + vn ≤ 36864) ∧ vR = some (.int (ks_b true)) ∧ wR = (kw_model K a0 a1 a2 a3 a4 a5 a6 a7 a8 a9 a10 a11 a12 a13 (km_ent t KY VY kn vn mk (va_up MY 0 (MY 0 - 1)) ((TO, PL), (KS, VS), (MV, Y), (km_out LI (km_find TO PL KS Y KY LI kn t (MY 0)) (MY 0 - 1)), (rn, us))).1.1 (km_ent t KY VY kn vn mk (va_up MY 0 (MY 0 - 1)) ((TO, PL), (KS, VS), (MV, Y), (km_out LI (km_find TO PL KS Y KY LI kn t (MY 0)) (MY 0 - 1)), (rn, us))).1.2 (km_ent t KY VY kn vn mk (va_up MY 0 (MY 0 - 1)) ((TO, PL), (KS, VS), (MV, Y), (km_out LI (km_find TO PL KS Y KY LI kn t (MY 0)) (MY 0 - 1)), (rn, us))).2.1.1 (km_ent t KY VY kn vn mk (va_up MY 0 (MY 0 - 1)) ((TO, PL), (KS, VS), (MV, Y), (km_out LI (km_find TO PL KS Y KY LI kn t (MY 0)) (MY 0 - 1)), (rn, us))).2.1.2 (km_ent t KY VY kn vn mk (va_up MY 0 (MY 0 - 1)) ((TO, PL), (KS, VS), (MV, Y), (km_out LI (km_find TO PL KS Y KY LI kn t (MY 0)) (MY 0 - 1)), (rn, us))).2.2.1.1 (km_ent t KY VY kn vn mk (va_up MY 0 (MY 0 - 1)) ((TO, PL), (KS, VS), (MV, Y), (km_out LI (km_find TO PL KS Y KY LI kn t (MY 0)) (MY 0 - 1)), (rn, us))).2.2.1.2 (va_up (km_shift (km_ent t KY VY kn vn mk (va_up MY 0 (MY 0 - 1)) ((TO, PL), (KS, VS), (MV, Y), (km_out LI (km_find TO PL KS Y KY LI kn t (MY 0)) (MY 0 - 1)), (rn, us))).2.2.2.1 (km_find TO PL KS Y KY LI kn t (MY 0)) ((va_up MY 0 (MY 0 - 1)) 0)) (km_find TO PL KS Y KY LI kn t (MY 0)) (km_pk0 mk (va_up MY 0 (MY 0 - 1)) kn vn ((TO, PL), (KS, VS), (MV, Y), (km_out LI (km_find TO PL KS Y KY LI kn t (MY 0)) (MY 0 - 1)), (rn, us))).2.2.2.2.1) (va_up (va_up MY 0 (MY 0 - 1)) 0 ((va_up MY 0 (MY 0 - 1)) 0 + 1)) TR KY VY FK FV (km_ent t KY VY kn vn mk (va_up MY 0 (MY 0 - 1)) ((TO, PL), (KS, VS), (MV, Y), (km_out LI (km_find TO PL KS Y KY LI kn t (MY 0)) (MY 0 - 1)), (rn, us))).2.2.2.2.1 (km_ent t KY VY kn vn mk (va_up MY 0 (MY 0 - 1)) ((TO, PL), (KS, VS), (MV, Y), (km_out LI (km_find TO PL KS Y KY LI kn t (MY 0)) (MY 0 - 1)), (rn, us))).2.2.2.2.2 kn vn fkn fvn mk off opn fnd wh af 0))) (some (.int (ks_b b))) (kw_model K a0 a1 a2 a3 a4 a5 a6 a7 a8 a9 a10 a11 a12 a13 TO1 PL1 KS1 VS1 MV1 Y1 (va_up (km_shift LI1 p (MY1 0)) p e) (va_up MY1 0 (MY1 0 + 1)) TR KY VY FK FV rn1 us1 kn vn fkn fvn mk off opn fnd wh af 0)) → ks_w E D 7 (kw_model K a0 a1 a2 a3 a4 a5 a6 a7 a8 a9 a10 a11 a12 a13 TO1 PL1 KS1 VS1 MV1 Y1 (km_shift LI1 k (MY1 0)) MY1 TR KY VY FK FV rn1 us1 kn vn fkn fvn mk off opn fnd wh af 0) [some (.ref a0), some (.int (nI t)), some (.int (nI p)), some (.int (ks_b b)), none, some (.int (nI e)), some (.int (nI k))] 0 0 148 [] := by
    intro f
    induction f with
    | zero =>
      intro TO1 PL1 KS1 VS1 MV1 Y1 rn1 us1 LI1 MY1 b p e k g1 g2 g3 g4
      obtain rfl : k = p := by omega
      refine ks_iload rfl C d_Model_put_148 ?_
      refine ks_iload_n rfl rfl C d_Model_put_150 ?_
      refine ks_icmp_le (tgt := 176) C (by omega) (by omega) (by decide) d_Model_put_151 (fun u1 => ?_) (fun u1 => ?_)
      · refine ks_aload_n rfl rfl C d_Model_put_176 ?_
        refine ks_get (k := 8) C 0 9 in_Model rfl (by decide) fk_Model_30 rfl rfl rfl d_Model_put_177 ?_
        refine ks_iload_n rfl rfl C d_Model_put_180 ?_
        refine ks_iload rfl C d_Model_put_181 ?_
        refine ks_iast (ws' := (kw_model K a0 a1 a2 a3 a4 a5 a6 a7 a8 a9 a10 a11 a12 a13 _ _ _ _ _ _ _ _ _ _ _ _ _ _ _ _ _ _ _ _ _ _ _ _ _ _)) C 7 2 rfl rfl (by omega) (by omega) rfl d_Model_put_183 ?_
        refine ks_aload_n rfl rfl C d_Model_put_184 ?_
        refine ks_get (k := 9) C 0 9 in_Model rfl (by decide) fk_Model_33 rfl rfl rfl d_Model_put_185 ?_
        refine ks_iconst (a := 0) rfl C d_Model_put_188 ?_
        refine ks_dup2 rfl rfl C d_Model_put_189 ?_
        refine ks_iald C 8 2 rfl rfl (by omega) (by omega) d_Model_put_190 ?_
        refine ks_iconst (a := 1) rfl C d_Model_put_191 ?_
        refine ks_iadd C d_Model_put_192 ?_
        refine ks_iast (ws' := (kw_model K a0 a1 a2 a3 a4 a5 a6 a7 a8 a9 a10 a11 a12 a13 _ _ _ _ _ _ _ _ _ _ _ _ _ _ _ _ _ _ _ _ _ _ _ _ _ _)) C 8 2 rfl rfl (by omega) (by omega) rfl d_Model_put_193 ?_
        refine ks_iload_n rfl rfl C d_Model_put_194 ?_
        exact ks_iret C Z rfl (ks_nb1 _) d_Model_put_195 rfl rfl g4
      · exact (by omega : False).elim
    | succ f ih =>
      intro TO1 PL1 KS1 VS1 MV1 Y1 rn1 us1 LI1 MY1 b p e k g1 g2 g3 g4
      subst g1
      refine ks_iload rfl C d_Model_put_148 ?_
      refine ks_iload_n rfl rfl C d_Model_put_150 ?_
      refine ks_icmp_le (tgt := 176) C (by omega) (by omega) (by decide) d_Model_put_151 (fun u2 => ?_) (fun u2 => ?_)
      · exact (by omega : False).elim
      · refine ks_aload_n rfl rfl C d_Model_put_154 ?_
        refine ks_get (k := 8) C 0 9 in_Model rfl (by decide) fk_Model_30 rfl rfl rfl d_Model_put_155 ?_
        refine ks_iload rfl C d_Model_put_158 ?_
        refine ks_aload_n rfl rfl C d_Model_put_160 ?_
        refine ks_get (k := 8) C 0 9 in_Model rfl (by decide) fk_Model_30 rfl rfl rfl d_Model_put_161 ?_
        refine ks_iload rfl C d_Model_put_164 ?_
        refine ks_iconst (a := 1) rfl C d_Model_put_166 ?_
        refine ks_isub (by omega) C d_Model_put_167 ?_
        refine ks_iald C 7 2 rfl rfl (by omega) (by omega) d_Model_put_168 ?_
        refine ks_iast (ws' := (kw_model K a0 a1 a2 a3 a4 a5 a6 a7 a8 a9 a10 a11 a12 a13 _ _ _ _ _ _ _ _ _ _ _ _ _ _ _ _ _ _ _ _ _ _ _ _ _ _)) C 7 2 rfl rfl (by omega) (by omega) rfl d_Model_put_169 ?_
        refine ks_iinc C rfl (z := 4294967295) rfl (by decide) rfl d_Model_put_170 ?_
        refine ks_goto (tgt := 148) C (by decide) d_Model_put_173 ?_
        rw [show nI (p + (f + 1) + 4294967295) = nI (p + f) from (ks_m1 (n := p + (f + 1)) (by omega)).symm, km_shift_s LI1 (k := p + (f + 1)) (kk := p + f) rfl (by omega)]
        exact ih _ _ _ _ _ _ _ _ _ _ _ _ _ _ rfl (by omega) g3 g4
  refine ks_aload_n rfl rfl C d_Model_put_0 ?_
  refine ks_aload_n rfl rfl C d_Model_put_1 ?_
  refine ks_get (k := 20) C 0 9 in_Model rfl (by decide) fk_Model_65 rfl rfl rfl d_Model_put_2 ?_
  refine ks_ifB_ne (tgt := 15) C (by decide) d_Model_put_5 (fun u3 => ?_) (fun u3 => ?_)
  · refine ks_iconstB true rfl C d_Model_put_15 ?_
    refine ks_goto (tgt := 20) C (by decide) d_Model_put_16 ?_
    refine ks_iload_n rfl rfl C d_Model_put_20 ?_
    refine ks_cx (ci := 9) (q0 := 0) (kw_model K a0 a1 a2 a3 a4 a5 a6 a7 a8 a9 a10 a11 a12 a13 _ _ _ _ _ _ _ _ _ _ _ _ _ _ _ _ _ _ _ _ _ _ _ _ _ _) C (c_Model_fails_1 l D K a0 a1 a2 a3 a4 a5 a6 a7 a8 a9 a10 a11 a12 a13 _ _ _ _ _ _ _ _ _ _ _ _ _ _ _ _ _ _ _ _ _ _ _ _ _ _ _) yw_Model_fails sel_Model_fails lk_Model_104 d_Model_put_21 rfl rfl rfl [0, 1, 2, 3, 4, 5, 6, 7, 8, 9, 10, 11, 12, 13] [] [0, 1, 2, 3, 4, 5, 6, 7, 8, 9, 10, 11, 12, 13] rfl rfl rfl rfl (by decide) rfl rfl rfl rfl rfl ⟨by decide, by decide⟩ ⟨by decide, by decide⟩ rfl (Nat.le_of_ble_eq_true rfl) ?_
    refine ks_ifB_eq (tgt := 29) C (by decide) d_Model_put_24 (fun h => absurd h (by decide)) (fun _ => ?_)
    refine ks_iconstB false rfl C d_Model_put_27 ?_
    exact ks_iret C Z rfl (ks_nb1 _) d_Model_put_28 rfl rfl (Or.inl ⟨(Or.inl u3), rfl, rfl⟩)
  · refine ks_aload_n rfl rfl C d_Model_put_8 ?_
    refine ks_get (k := 21) C 0 9 in_Model rfl (by decide) fk_Model_101 rfl rfl rfl d_Model_put_9 ?_
    refine ks_ifB_ne (tgt := 19) C (by decide) d_Model_put_12 (fun u5 => ?_) (fun u5 => ?_)
    · refine ks_iconstB false rfl C d_Model_put_19 ?_
      refine ks_iload_n rfl rfl C d_Model_put_20 ?_
      refine ks_cx (ci := 9) (q0 := 0) (kw_model K a0 a1 a2 a3 a4 a5 a6 a7 a8 a9 a10 a11 a12 a13 _ _ _ _ _ _ _ _ _ _ _ _ _ _ _ _ _ _ _ _ _ _ _ _ _ _) C (c_Model_fails_0 l D K a0 a1 a2 a3 a4 a5 a6 a7 a8 a9 a10 a11 a12 a13 _ _ _ _ _ _ _ _ _ _ _ _ _ _ _ _ _ _ _ _ _ _ _ _ _ _ _ (by omega)) yw_Model_fails sel_Model_fails lk_Model_104 d_Model_put_21 rfl rfl rfl [0, 1, 2, 3, 4, 5, 6, 7, 8, 9, 10, 11, 12, 13] [] [0, 1, 2, 3, 4, 5, 6, 7, 8, 9, 10, 11, 12, 13] rfl rfl rfl rfl (by decide) rfl rfl rfl rfl rfl ⟨by decide, by decide⟩ ⟨by decide, by decide⟩ rfl (Nat.le_of_ble_eq_true rfl) ?_
      refine ks_ifB_eq (tgt := 29) C (by decide) d_Model_put_24 (fun u6 => ?_) (fun u6 => ?_)
      · have qt : km_tree (TR 0) t = true := by simpa using u6
        rw [if_pos qt]
        have q64 := km_tree_t qt
        refine ks_aload_n rfl rfl C d_Model_put_29 ?_
        refine ks_get (k := 15) C 0 9 in_Model rfl (by decide) fk_Model_59 rfl rfl rfl d_Model_put_30 ?_
        refine ks_if_ne (tgt := 43) C (by omega) (by decide) d_Model_put_33 (fun u7 => ?_) (fun u7 => ?_)
        · skip
          refine ks_aload_n rfl rfl C d_Model_put_43 ?_
          refine ks_iload_n rfl rfl C d_Model_put_44 ?_
          refine ks_cx (ci := 9) (q0 := 0) (kw_model K a0 a1 a2 a3 a4 a5 a6 a7 a8 a9 a10 a11 a12 a13 _ _ _ _ _ _ _ _ _ _ _ _ _ _ _ _ _ _ _ _ _ _ _ _ _ _) C (c_Model_find l D K a0 a1 a2 a3 a4 a5 a6 a7 a8 a9 a10 a11 a12 a13 _ _ _ _ _ _ _ _ _ _ _ _ _ _ _ _ _ _ _ _ _ _ _ _ _ _ _ hg (by omega) (by omega)) yw_Model_find sel_Model_find lk_Model_113 d_Model_put_45 rfl rfl rfl [0, 1, 2, 3, 4, 5, 6, 7, 8, 9, 10, 11, 12, 13] [] [0, 1, 2, 3, 4, 5, 6, 7, 8, 9, 10, 11, 12, 13] rfl rfl rfl rfl (by decide) rfl rfl rfl rfl rfl ⟨by decide, by decide⟩ ⟨by decide, by decide⟩ rfl (Nat.le_of_ble_eq_true rfl) ?_
          refine ks_top_kfind (fun u8 => ?_)
          refine ks_istore_n C rfl (by decide) rfl d_Model_put_48 ?_
          refine ks_aload_n rfl rfl C d_Model_put_49 ?_
          refine ks_iload_n rfl rfl C d_Model_put_50 ?_
          refine ks_iload_n rfl rfl C d_Model_put_51 ?_
          refine ks_cx (ci := 9) (q0 := 0) (kw_model K a0 a1 a2 a3 a4 a5 a6 a7 a8 a9 a10 a11 a12 a13 _ _ _ _ _ _ _ _ _ _ _ _ _ _ _ _ _ _ _ _ _ _ _ _ _ _) C (c_Model_isThere l D K a0 a1 a2 a3 a4 a5 a6 a7 a8 a9 a10 a11 a12 a13 _ _ _ _ _ _ _ _ _ _ _ _ _ _ _ _ _ _ _ _ _ _ _ _ _ _ _ _ hg (by omega) (by omega) (by omega)) yw_Model_isThere sel_Model_isThere lk_Model_116 d_Model_put_52 rfl rfl rfl [0, 1, 2, 3, 4, 5, 6, 7, 8, 9, 10, 11, 12, 13] [] [0, 1, 2, 3, 4, 5, 6, 7, 8, 9, 10, 11, 12, 13] rfl rfl rfl rfl (by decide) rfl rfl rfl rfl rfl ⟨by decide, by decide⟩ ⟨by decide, by decide⟩ rfl (Nat.le_of_ble_eq_true rfl) ?_
          refine ks_istore_n C rfl (by decide) rfl d_Model_put_55 ?_
          refine ks_iload_n rfl rfl C d_Model_put_56 ?_
          refine ks_ifB_eq (tgt := 89) C (by decide) d_Model_put_57 (fun u9 => ?_) (fun u9 => ?_)
          · have qi := u9
            rw [u9]
            refine ks_iconst (a := 0) rfl C d_Model_put_89 ?_
            refine ks_istore C (by decide) rfl d_Model_put_90 ?_
            refine ks_aload_n rfl rfl C d_Model_put_92 ?_
            refine ks_cx (ci := 9) (q0 := 0) (kw_model K a0 a1 a2 a3 a4 a5 a6 a7 a8 a9 a10 a11 a12 a13 _ _ _ _ _ _ _ _ _ _ _ _ _ _ _ _ _ _ _ _ _ _ _ _ _ _) C (c_Model_size l D K a0 a1 a2 a3 a4 a5 a6 a7 a8 a9 a10 a11 a12 a13 _ _ _ _ _ _ _ _ _ _ _ _ _ _ _ _ _ _ _ _ _ _ _ _ _ _ hg) yw_Model_size sel_Model_size lk_Model_120 d_Model_put_93 rfl rfl rfl [0, 1, 2, 3, 4, 5, 6, 7, 8, 9, 10, 11, 12, 13] [] [0, 1, 2, 3, 4, 5, 6, 7, 8, 9, 10, 11, 12, 13] rfl rfl rfl rfl (by decide) rfl rfl rfl rfl rfl ⟨by decide, by decide⟩ ⟨by decide, by decide⟩ rfl (Nat.le_of_ble_eq_true rfl) ?_
            refine ks_iload rfl C d_Model_put_96 ?_
            refine ks_isub (by omega) C d_Model_put_98 ?_
            refine ks_bipush (a := 16) rfl C d_Model_put_99 ?_
            refine ks_iadd C d_Model_put_101 ?_
            refine ks_aload_n rfl rfl C d_Model_put_102 ?_
            refine ks_get (k := 15) C 0 9 in_Model rfl (by decide) fk_Model_59 rfl rfl rfl d_Model_put_103 ?_
            refine ks_iadd C d_Model_put_106 ?_
            refine ks_aload_n rfl rfl C d_Model_put_107 ?_
            refine ks_get (k := 16) C 0 9 in_Model rfl (by decide) fk_Model_62 rfl rfl rfl d_Model_put_108 ?_
            refine ks_iadd C d_Model_put_111 ?_
            refine ks_ldc ck_Model_124 C d_Model_put_112 ?_
            refine ks_icmp_le (tgt := 124) C (by omega) (by omega) (by decide) d_Model_put_114 (fun u10 => ?_) (fun u10 => ?_)
            · refine ks_iload_n rfl rfl C d_Model_put_124 ?_
              refine ks_ifB_eq (tgt := 133) C (by decide) d_Model_put_125 (fun _ => ?_) (fun h => absurd h (by decide))
              refine ks_aload_n rfl rfl C d_Model_put_133 ?_
              refine ks_iload_n rfl rfl C d_Model_put_134 ?_
              refine ks_cx (ci := 9) (q0 := 0) (kw_model K a0 a1 a2 a3 a4 a5 a6 a7 a8 a9 a10 a11 a12 a13 _ _ _ _ _ _ _ _ _ _ _ _ _ _ _ _ _ _ _ _ _ _ _ _ _ _) C (c_Model_entry l D K a0 a1 a2 a3 a4 a5 a6 a7 a8 a9 a10 a11 a12 a13 _ _ _ _ _ _ _ _ _ _ _ _ _ _ _ _ _ _ _ _ _ _ _ _ _ _ _ (by omega) (by omega) (by first | exact h3 | exact h3b) h4 h5 (by first | exact h6 | exact h6c) (by omega) (by omega) (by omega)) yw_Model_entry sel_Model_entry lk_Model_129 d_Model_put_135 rfl rfl rfl [0, 1, 2, 3, 4, 5, 6, 7, 8, 9, 10, 11, 12, 13] [] [0, 1, 2, 3, 4, 5, 6, 7, 8, 9, 10, 11, 12, 13] rfl rfl rfl rfl (by decide) rfl rfl rfl rfl rfl ⟨by decide, by decide⟩ ⟨by decide, by decide⟩ rfl (Nat.le_of_ble_eq_true rfl) ?_
              refine ks_istore C (by decide) rfl d_Model_put_138 ?_
              refine ks_aload_n rfl rfl C d_Model_put_140 ?_
              refine ks_get (k := 9) C 0 9 in_Model rfl (by decide) fk_Model_33 rfl rfl rfl d_Model_put_141 ?_
              refine ks_iconst (a := 0) rfl C d_Model_put_144 ?_
              refine ks_iald C 8 2 rfl rfl (by omega) (by omega) d_Model_put_145 ?_
              refine ks_istore C (by decide) rfl d_Model_put_146 ?_
              refine ks_forget 4 ?_
              have e0 := lp (MY 0 - (km_find TO PL KS Y KY LI kn t (MY 0))) _ _ _ _ _ _ _ _ (km_ent t KY VY kn vn mk MY ((TO, PL), (KS, VS), (MV, Y), LI, (rn, us))).2.2.2.1 MY false (km_find TO PL KS Y KY LI kn t (MY 0)) _ (MY 0) (by omega) (by omega) (by omega) (Or.inr (Or.inr (Or.inr (Or.inr (Or.inl ⟨⟨⟨⟨⟨⟨u3, u5⟩, qt⟩, by omega⟩, qi⟩, by omega⟩, rfl, rfl⟩)))))
              rw [km_shift_0] at e0
              refine ks_forget 4 ?_
              exact e0
            · refine ks_aload_n rfl rfl C d_Model_put_117 ?_
              refine ks_iconst (a := 1) rfl C d_Model_put_118 ?_
              refine ks_put (k := 25) (ws' := (kw_model K a0 a1 a2 a3 a4 a5 a6 a7 a8 a9 a10 a11 a12 a13 _ _ _ _ _ _ _ _ _ _ _ _ _ _ _ _ _ _ _ _ _ _ _ _ _ _)) C 0 9 t_Model ty_Model nm_Model in_Model rfl (by decide) fk_Model_56 rfl rfl rfl rfl rfl (Nat.le_of_ble_eq_true rfl) rfl d_Model_put_119 ?_
              refine ks_iconstB false rfl C d_Model_put_122 ?_
              exact ks_iret C Z rfl (ks_nb1 _) d_Model_put_123 rfl rfl (Or.inr (Or.inr (Or.inr (Or.inl ⟨⟨⟨⟨⟨u3, u5⟩, qt⟩, by omega⟩, Or.inl ⟨qi, by omega⟩⟩, rfl, rfl⟩))))
          · have qi := u9
            obtain ⟨w1, w2, w3⟩ := km_is_t u9
            rw [u9]
            obtain ⟨q1, q2, q3, q4, q5⟩ := hg.2 _ w1
            have w9 := km_size_ge LI KS VS w1
            refine ks_bipush (a := 16) rfl C d_Model_put_60 ?_
            refine ks_aload_n rfl rfl C d_Model_put_62 ?_
            refine ks_get (k := 2) C 0 9 in_Model rfl (by decide) fk_Model_16 rfl rfl rfl d_Model_put_63 ?_
            refine ks_aload_n rfl rfl C d_Model_put_66 ?_
            refine ks_get (k := 8) C 0 9 in_Model rfl (by decide) fk_Model_30 rfl rfl rfl d_Model_put_67 ?_
            refine ks_iload_n rfl rfl C d_Model_put_70 ?_
            refine ks_iald C 7 2 rfl rfl (by omega) (by omega) d_Model_put_71 ?_
            refine ks_iald C 3 2 rfl rfl (by omega) (by omega) d_Model_put_72 ?_
            refine ks_iadd C d_Model_put_73 ?_
            refine ks_aload_n rfl rfl C d_Model_put_74 ?_
            refine ks_get (k := 3) C 0 9 in_Model rfl (by decide) fk_Model_19 rfl rfl rfl d_Model_put_75 ?_
            refine ks_aload_n rfl rfl C d_Model_put_78 ?_
            refine ks_get (k := 8) C 0 9 in_Model rfl (by decide) fk_Model_30 rfl rfl rfl d_Model_put_79 ?_
            refine ks_iload_n rfl rfl C d_Model_put_82 ?_
            refine ks_iald C 7 2 rfl rfl (by omega) (by omega) d_Model_put_83 ?_
            refine ks_iald C 4 2 rfl rfl (by omega) (by omega) d_Model_put_84 ?_
            refine ks_iadd C d_Model_put_85 ?_
            refine ks_goto (tgt := 90) C (by decide) d_Model_put_86 ?_
            refine ks_istore C (by decide) rfl d_Model_put_90 ?_
            refine ks_aload_n rfl rfl C d_Model_put_92 ?_
            refine ks_cx (ci := 9) (q0 := 0) (kw_model K a0 a1 a2 a3 a4 a5 a6 a7 a8 a9 a10 a11 a12 a13 _ _ _ _ _ _ _ _ _ _ _ _ _ _ _ _ _ _ _ _ _ _ _ _ _ _) C (c_Model_size l D K a0 a1 a2 a3 a4 a5 a6 a7 a8 a9 a10 a11 a12 a13 _ _ _ _ _ _ _ _ _ _ _ _ _ _ _ _ _ _ _ _ _ _ _ _ _ _ hg) yw_Model_size sel_Model_size lk_Model_120 d_Model_put_93 rfl rfl rfl [0, 1, 2, 3, 4, 5, 6, 7, 8, 9, 10, 11, 12, 13] [] [0, 1, 2, 3, 4, 5, 6, 7, 8, 9, 10, 11, 12, 13] rfl rfl rfl rfl (by decide) rfl rfl rfl rfl rfl ⟨by decide, by decide⟩ ⟨by decide, by decide⟩ rfl (Nat.le_of_ble_eq_true rfl) ?_
            refine ks_iload rfl C d_Model_put_96 ?_
            refine ks_isub (by omega) C d_Model_put_98 ?_
            refine ks_bipush (a := 16) rfl C d_Model_put_99 ?_
            refine ks_iadd C d_Model_put_101 ?_
            refine ks_aload_n rfl rfl C d_Model_put_102 ?_
            refine ks_get (k := 15) C 0 9 in_Model rfl (by decide) fk_Model_59 rfl rfl rfl d_Model_put_103 ?_
            refine ks_iadd C d_Model_put_106 ?_
            refine ks_aload_n rfl rfl C d_Model_put_107 ?_
            refine ks_get (k := 16) C 0 9 in_Model rfl (by decide) fk_Model_62 rfl rfl rfl d_Model_put_108 ?_
            refine ks_iadd C d_Model_put_111 ?_
            refine ks_ldc ck_Model_124 C d_Model_put_112 ?_
            refine ks_icmp_le (tgt := 124) C (by omega) (by omega) (by decide) d_Model_put_114 (fun u12 => ?_) (fun u12 => ?_)
            · refine ks_iload_n rfl rfl C d_Model_put_124 ?_
              refine ks_ifB_eq (tgt := 133) C (by decide) d_Model_put_125 (fun h => absurd h (by decide)) (fun _ => ?_)
              have h3b := km_h3_out h3 w1
              have h6c := h6b qi
              refine ks_aload_n rfl rfl C d_Model_put_128 ?_
              refine ks_iload_n rfl rfl C d_Model_put_129 ?_
              refine ks_cv (ci := 9) (q0 := 0) (kw_model K a0 a1 a2 a3 a4 a5 a6 a7 a8 a9 a10 a11 a12 a13 _ _ _ _ _ _ _ _ _ _ _ _ _ _ _ _ _ _ _ _ _ _ _ _ _ _) C (c_Model_out l D K a0 a1 a2 a3 a4 a5 a6 a7 a8 a9 a10 a11 a12 a13 _ _ _ _ _ _ _ _ _ _ _ _ _ _ _ _ _ _ _ _ _ _ _ _ _ _ _ (by omega) (by omega)) yw_Model_out sel_Model_out lk_Model_125 d_Model_put_130 rfl rfl rfl [0, 1, 2, 3, 4, 5, 6, 7, 8, 9, 10, 11, 12, 13] [] [0, 1, 2, 3, 4, 5, 6, 7, 8, 9, 10, 11, 12, 13] rfl rfl rfl rfl (by decide) rfl rfl rfl rfl rfl ⟨by decide, by decide⟩ ⟨by decide, by decide⟩ rfl (Nat.le_of_ble_eq_true rfl) ?_
              refine ks_aload_n rfl rfl C d_Model_put_133 ?_
              refine ks_iload_n rfl rfl C d_Model_put_134 ?_
              refine ks_cx (ci := 9) (q0 := 0) (kw_model K a0 a1 a2 a3 a4 a5 a6 a7 a8 a9 a10 a11 a12 a13 _ _ _ _ _ _ _ _ _ _ _ _ _ _ _ _ _ _ _ _ _ _ _ _ _ _) C (c_Model_entry l D K a0 a1 a2 a3 a4 a5 a6 a7 a8 a9 a10 a11 a12 a13 _ _ _ _ _ _ _ _ _ _ _ _ _ _ _ _ _ _ _ _ _ _ _ _ _ _ _ (by omega) (by omega) (by first | exact h3 | exact h3b) h4 h5 (by first | exact h6 | exact h6c) (by omega) (by omega) (by omega)) yw_Model_entry sel_Model_entry lk_Model_129 d_Model_put_135 rfl rfl rfl [0, 1, 2, 3, 4, 5, 6, 7, 8, 9, 10, 11, 12, 13] [] [0, 1, 2, 3, 4, 5, 6, 7, 8, 9, 10, 11, 12, 13] rfl rfl rfl rfl (by decide) rfl rfl rfl rfl rfl ⟨by decide, by decide⟩ ⟨by decide, by decide⟩ rfl (Nat.le_of_ble_eq_true rfl) ?_
              refine ks_istore C (by decide) rfl d_Model_put_138 ?_
              refine ks_aload_n rfl rfl C d_Model_put_140 ?_
              refine ks_get (k := 9) C 0 9 in_Model rfl (by decide) fk_Model_33 rfl rfl rfl d_Model_put_141 ?_
              refine ks_iconst (a := 0) rfl C d_Model_put_144 ?_
              refine ks_iald C 8 2 rfl rfl (by omega) (by omega) d_Model_put_145 ?_
              refine ks_istore C (by decide) rfl d_Model_put_146 ?_
              refine ks_forget 4 ?_
              have e0 := lp ((va_up MY 0 (MY 0 - 1)) 0 - (km_find TO PL KS Y KY LI kn t (MY 0))) _ _ _ _ _ _ _ _ (km_ent t KY VY kn vn mk (va_up MY 0 (MY 0 - 1)) ((TO, PL), (KS, VS), (MV, Y), (km_out LI (km_find TO PL KS Y KY LI kn t (MY 0)) (MY 0 - 1)), (rn, us))).2.2.2.1 (va_up MY 0 (MY 0 - 1)) true (km_find TO PL KS Y KY LI kn t (MY 0)) _ ((va_up MY 0 (MY 0 - 1)) 0) (by omega) (by omega) (by omega) (Or.inr (Or.inr (Or.inr (Or.inr (Or.inr (⟨⟨⟨⟨⟨⟨u3, u5⟩, qt⟩, by omega⟩, qi⟩, by omega⟩, rfl, rfl⟩))))))
              rw [km_shift_0] at e0
              refine ks_forget 4 ?_
              exact e0
            · refine ks_aload_n rfl rfl C d_Model_put_117 ?_
              refine ks_iconst (a := 1) rfl C d_Model_put_118 ?_
              refine ks_put (k := 25) (ws' := (kw_model K a0 a1 a2 a3 a4 a5 a6 a7 a8 a9 a10 a11 a12 a13 _ _ _ _ _ _ _ _ _ _ _ _ _ _ _ _ _ _ _ _ _ _ _ _ _ _)) C 0 9 t_Model ty_Model nm_Model in_Model rfl (by decide) fk_Model_56 rfl rfl rfl rfl rfl (Nat.le_of_ble_eq_true rfl) rfl d_Model_put_119 ?_
              refine ks_iconstB false rfl C d_Model_put_122 ?_
              exact ks_iret C Z rfl (ks_nb1 _) d_Model_put_123 rfl rfl (Or.inr (Or.inr (Or.inr (Or.inl ⟨⟨⟨⟨⟨u3, u5⟩, qt⟩, by omega⟩, Or.inr ⟨qi, by omega⟩⟩, rfl, rfl⟩))))
        · refine ks_aload_n rfl rfl C d_Model_put_36 ?_
          refine ks_iconst (a := 3) rfl C d_Model_put_37 ?_
          refine ks_put (k := 25) (ws' := (kw_model K a0 a1 a2 a3 a4 a5 a6 a7 a8 a9 a10 a11 a12 a13 _ _ _ _ _ _ _ _ _ _ _ _ _ _ _ _ _ _ _ _ _ _ _ _ _ _)) C 0 9 t_Model ty_Model nm_Model in_Model rfl (by decide) fk_Model_56 rfl rfl rfl rfl rfl (Nat.le_of_ble_eq_true rfl) rfl d_Model_put_38 ?_
          refine ks_iconstB false rfl C d_Model_put_41 ?_
          exact ks_iret C Z rfl (ks_nb1 _) d_Model_put_42 rfl rfl (Or.inr (Or.inr (Or.inl ⟨⟨⟨⟨u3, u5⟩, qt⟩, by omega⟩, rfl, rfl⟩)))
      · refine ks_iconstB false rfl C d_Model_put_27 ?_
        exact ks_iret C Z rfl (ks_nb1 _) d_Model_put_28 rfl rfl (Or.inr (Or.inl ⟨⟨⟨u3, u5⟩, (by simpa using u6)⟩, rfl, by rw [if_neg (by simpa using u6)]⟩))
    · refine ks_iconstB true rfl C d_Model_put_15 ?_
      refine ks_goto (tgt := 20) C (by decide) d_Model_put_16 ?_
      refine ks_iload_n rfl rfl C d_Model_put_20 ?_
      refine ks_cx (ci := 9) (q0 := 0) (kw_model K a0 a1 a2 a3 a4 a5 a6 a7 a8 a9 a10 a11 a12 a13 _ _ _ _ _ _ _ _ _ _ _ _ _ _ _ _ _ _ _ _ _ _ _ _ _ _) C (c_Model_fails_1 l D K a0 a1 a2 a3 a4 a5 a6 a7 a8 a9 a10 a11 a12 a13 _ _ _ _ _ _ _ _ _ _ _ _ _ _ _ _ _ _ _ _ _ _ _ _ _ _ _) yw_Model_fails sel_Model_fails lk_Model_104 d_Model_put_21 rfl rfl rfl [0, 1, 2, 3, 4, 5, 6, 7, 8, 9, 10, 11, 12, 13] [] [0, 1, 2, 3, 4, 5, 6, 7, 8, 9, 10, 11, 12, 13] rfl rfl rfl rfl (by decide) rfl rfl rfl rfl rfl ⟨by decide, by decide⟩ ⟨by decide, by decide⟩ rfl (Nat.le_of_ble_eq_true rfl) ?_
      refine ks_ifB_eq (tgt := 29) C (by decide) d_Model_put_24 (fun h => absurd h (by decide)) (fun _ => ?_)
      refine ks_iconstB false rfl C d_Model_put_27 ?_
      exact ks_iret C Z rfl (ks_nb1 _) d_Model_put_28 rfl rfl (Or.inl ⟨(Or.inr u5), rfl, rfl⟩)
