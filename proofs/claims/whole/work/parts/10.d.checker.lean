/-! the checker: all of it -/
theorem kx_exa_en (B : Nat → UInt8) (t leaf i : Nat) (X : kx_X) : (kx_exa B t leaf i X).2.1.1 = X.2.1.1 + 1 := rfl
theorem kx_wkL_en {F : Nat → kx_X → kx_X} {m : Nat} (hF : ∀ i X, (F i X).2.1.1 ≤ X.2.1.1 + m) : ∀ (k i : Nat) (X : kx_X), (kx_wkL F k i X).2.1.1 ≤ X.2.1.1 + k * m
  | 0, _, _ => by rw [kx_wkL]; omega
  | k + 1, i, X => by
    rw [kx_wkL]
    have h1 := kx_wkL_en hF k (i + 1) (F i X)
    have h2 := hF i X
    rw [Nat.add_mul]
    omega
theorem kx_walk_en (B : Nat → UInt8) (t : Nat) : ∀ (l p : Nat) (X : kx_X), (kx_walk B t l p X).2.1.1 ≤ X.2.1.1 + 14 ^ (l + 1)
  | 0, p, X => by
    rw [kx_walk]
    split
    · have h1 := kx_wkL_en (F := kx_exa B t p) (m := 1) (fun i Y => Nat.le_of_eq (kx_exa_en B t p i Y)) (kv_count B p) 0 (kx_hd B t 0 p X.1, X.2)
      have h2 : kv_count B p ≤ 14 := Nat.min_le_right _ _
      have h3 : ((kx_hd B t 0 p X.1, X.2) : kx_X).2.1.1 = X.2.1.1 := rfl
      rw [h3] at h1
      omega
    · show X.2.1.1 ≤ _; omega
  | l + 1, p, X => by
    rw [kx_walk]
    split
    · have h1 := kx_wkL_en (F := fun i Y => kx_walk B t l (kv_slot B p i) Y) (m := 14 ^ (l + 1)) (fun i Y => kx_walk_en B t l _ Y) (kv_count B p) 0 (kx_hd B t (l + 1) p X.1, X.2)
      have h2 : kv_count B p ≤ 14 := Nat.min_le_right _ _
      have h3 : ((kx_hd B t (l + 1) p X.1, X.2) : kx_X).2.1.1 = X.2.1.1 := rfl
      rw [h3] at h1
      have h4 : kv_count B p * 14 ^ (l + 1) ≤ 14 * 14 ^ (l + 1) := Nat.mul_le_mul_right _ h2
      have h5 : 14 ^ (l + 1 + 1) = 14 * 14 ^ (l + 1) := by rw [Nat.pow_succ, Nat.mul_comm]
      omega
    · exact Nat.le_add_right _ _
theorem kx_walk_en4 (B : Nat → UInt8) (t l p : Nat) (X : kx_X) (h : l ≤ 4) (h0 : X.2.1.1 = 0) : (kx_walk B t l p X).2.1.1 ≤ 537824 := by
  have h1 := kx_walk_en B t l p X
  have h2 : 14 ^ (l + 1) ≤ 14 ^ 5 := Nat.pow_le_pow_right (by omega) (by omega)
  have h3 : (14 : Nat) ^ 5 = 537824 := rfl
  omega
def kx_t0 (X : kx_X) : kx_X := (X.1, (0, X.2.1.2), (X.2.2.1.1, 0), X.2.2.2)
def kx_te (B : Nat → UInt8) (t : Nat) (X : kx_X) : kx_X := ((X.1.1, kx_exp (decide (X.2.1.1 = kv_ents B t)) X.1.2), X.2)
def kx_fauL (B : Nat → UInt8) : Nat → Nat → Nat → kx_X → Nat × kx_X
  | 0, _, n, X => (n, X)
  | f + 1, t, n, X => if kv_has B t = true then kx_fauL B f (t + 1) (n + 1) (kx_te B t (kx_walk B t (kv_level B (kv_root B t)) (kv_root B t) (kx_t0 X))) else kx_fauL B f (t + 1) n (kx_te B t (kx_t0 X))
def kx_f0 (B : Nat → UInt8) (Cl : Nat → Bool) : (Nat → Bool) × Nat := kx_cf B (kv_clr Cl 2720, kx_exp (decide (kv_num B 0 = kv_used B)) 0)
def kx_fau (B : Nat → UInt8) (X : kx_X) : Nat × kx_X := kx_fauL B 64 0 0 (kx_f0 B X.1.1, (X.2.1.1, 0), X.2.2)
/-- how much is wrong -/
def kx_w (B : Nat → UInt8) (Y : Nat × kx_X) : Nat := kx_allL Y.2.1.1 (kv_used B) 9 (kx_exp (decide (Y.2.2.1.2 = kv_num B 8 ∧ Y.2.2.1.2 ≤ 36864)) (kx_exp (decide (Y.1 = kv_num B 6)) Y.2.1.2))
theorem kx_t0_ok {X : kx_X} (h : kx_ok X) : kx_ok (kx_t0 X) := ⟨h.1, h.2.1, Nat.zero_le _⟩
set_option maxRecDepth 100000 in
set_option maxHeartbeats 4000000 in
theorem c_Checker_faults (l : Launch) (D : va_G) (K : Nat → ClassId) (k0 k1 l0 l1 t0 t1 t2 n0 n1 c0 x0 x1 x2 : Nat) (P : Nat → Nat) (B : Nat → UInt8) (G : Nat → Bool) (Cl : Nat → Bool) (w en sz : Nat) (Lr : Nat → UInt8) (ll : Nat) (pn ps : Nat → Nat) (top pg ca : Nat) (hp : ∀ j, pn j < 65536) (hs : ∀ j, ps j < 65536) (hl : ll ≤ 8448) (hS : (kx_fau B ((Cl, w), (en, sz), (Lr, ll), (pn, ps, top), (pg, ca))).2.2.1.2 < 2147483648) : ks_M l D (ks_T K) (ks_R 14) y_Checker_faults b_Checker_faults 4 (some .int) [.ref k0] (kw_chk K k0 k1 l0 x0 n0 c0 t0 Cl w en sz ++ kw_row K l0 l1 Lr ll ++ kw_trees K t0 t1 t2 x0 n0 c0 pn ps top ++ kw_nodes K n0 n1 x0 P ++ kw_chains c0 x0 pg ca ++ kw_pages K x0 x1 x2 B G) (ks_f (some (.int (nI (kx_w B (kx_fau B ((Cl, w), (en, sz), (Lr, ll), (pn, ps, top), (pg, ca))))))) (kw_chk K k0 k1 l0 x0 n0 c0 t0 (kx_fau B ((Cl, w), (en, sz), (Lr, ll), (pn, ps, top), (pg, ca))).2.1.1 (kx_w B (kx_fau B ((Cl, w), (en, sz), (Lr, ll), (pn, ps, top), (pg, ca)))) (kx_fau B ((Cl, w), (en, sz), (Lr, ll), (pn, ps, top), (pg, ca))).2.2.1.1 (kx_fau B ((Cl, w), (en, sz), (Lr, ll), (pn, ps, top), (pg, ca))).2.2.1.2 ++ kw_row K l0 l1 (kx_fau B ((Cl, w), (en, sz), (Lr, ll), (pn, ps, top), (pg, ca))).2.2.2.1.1 (kx_fau B ((Cl, w), (en, sz), (Lr, ll), (pn, ps, top), (pg, ca))).2.2.2.1.2 ++ kw_trees K t0 t1 t2 x0 n0 c0 (kx_fau B ((Cl, w), (en, sz), (Lr, ll), (pn, ps, top), (pg, ca))).2.2.2.2.1.1 (kx_fau B ((Cl, w), (en, sz), (Lr, ll), (pn, ps, top), (pg, ca))).2.2.2.2.1.2.1 (kx_fau B ((Cl, w), (en, sz), (Lr, ll), (pn, ps, top), (pg, ca))).2.2.2.2.1.2.2 ++ kw_nodes K n0 n1 x0 P ++ kw_chains c0 x0 (kx_fau B ((Cl, w), (en, sz), (Lr, ll), (pn, ps, top), (pg, ca))).2.2.2.2.2.1 (kx_fau B ((Cl, w), (en, sz), (Lr, ll), (pn, ps, top), (pg, ca))).2.2.2.2.2.2 ++ kw_pages K x0 x1 x2 B G)) := by
  refine ks_M.of 3 (by decide) (Nat.le_of_ble_eq_true rfl) ?_
  intro E C Z
  have loop : ∀ (f : Nat) (Cl1 : Nat → Bool) (w1 en1 sz1 : Nat) (Lr1 : Nat → UInt8) (ll1 : Nat) (pn1 ps1 : Nat → Nat) (top1 pg1 ca1 : Nat) (n t : Nat), t + f = 64 → n ≤ t → kx_ok ((Cl1, w1), (en1, sz1), (Lr1, ll1), (pn1, ps1, top1), (pg1, ca1)) → kx_fauL B f t n ((Cl1, w1), (en1, sz1), (Lr1, ll1), (pn1, ps1, top1), (pg1, ca1)) = (kx_fau B ((Cl, w), (en, sz), (Lr, ll), (pn, ps, top), (pg, ca))) → ks_w E D 4 (kw_chk K k0 k1 l0 x0 n0 c0 t0 Cl1 w1 en1 sz1 ++ kw_row K l0 l1 Lr1 ll1 ++ kw_trees K t0 t1 t2 x0 n0 c0 pn1 ps1 top1 ++ kw_nodes K n0 n1 x0 P ++ kw_chains c0 x0 pg1 ca1 ++ kw_pages K x0 x1 x2 B G) [some (.ref k0), some (.int (nI n)), some (.int (nI t)), none] 0 0 49 [] := by
    intro f
    induction f with
    | zero =>
      intro Cl1 w1 en1 sz1 Lr1 ll1 pn1 ps1 top1 pg1 ca1 n t g1 g2 g3 g4
      have q5 : sz1 < 2147483648 := by have := hS; rw [← g4] at this; exact this
      refine ks_iload_n rfl rfl C d_Checker_faults_49 ?_
      refine ks_bipush (a := 64) rfl C d_Checker_faults_50 ?_
      refine ks_icmp_ge (tgt := 134) C (by omega) (by omega) (by decide) d_Checker_faults_52 (fun u1 => ?_) (fun u1 => ?_)
      · refine ks_aload_n rfl rfl C d_Checker_faults_134 ?_
        refine ks_iload_n rfl rfl C d_Checker_faults_135 ?_
        refine ks_aload_n rfl rfl C d_Checker_faults_136 ?_
        refine ks_get (k := 0) C 0 7 in_Checker rfl (by decide) fk_Checker_32 rfl rfl rfl d_Checker_faults_137 ?_
        refine ks_bipush (a := 6) rfl C d_Checker_faults_140 ?_
        refine ks_cx (ci := 1) (q0 := 0) (kw_chk K k0 k1 l0 x0 n0 c0 t0 _ _ _ _ ++ kw_row K l0 l1 _ _ ++ kw_trees K t0 t1 t2 x0 n0 c0 _ _ _ ++ kw_nodes K n0 n1 x0 _ ++ kw_chains c0 x0 _ _ ++ kw_pages K x0 x1 x2 _ _) C (c_Pages_number l D K x0 x1 x2 _ _ _ (by omega)) yw_Pages_number sel_Pages_number lk_Checker_51 d_Checker_faults_142 rfl rfl rfl [10, 11, 12] [0, 1, 2, 3, 4, 5, 6, 7, 8, 9] [0, 1, 2, 3, 4, 5, 6, 7, 8, 9, 10, 11, 12] rfl rfl rfl rfl (by decide) rfl rfl rfl rfl rfl ⟨by decide, by decide⟩ ⟨by decide, by decide⟩ rfl (Nat.le_of_ble_eq_true rfl) ?_
        refine ks_top_num (fun u2 => ?_)
        refine ks_bool (decide (n = kv_num B 6)) 153 (st := [.ref k0]) ?_ (fun J3 => ?_)
        · refine ks_cv (ci := 7) (q0 := 0) (kw_chk K k0 k1 l0 x0 n0 c0 t0 _ _ _ _ ++ kw_row K l0 l1 _ _ ++ kw_trees K t0 t1 t2 x0 n0 c0 _ _ _ ++ kw_nodes K n0 n1 x0 _ ++ kw_chains c0 x0 _ _ ++ kw_pages K x0 x1 x2 _ _) C (c_Checker_expect l D K k0 k1 l0 x0 n0 c0 t0 _ _ _ _ _) yw_Checker_expect sel_Checker_expect lk_Checker_61 d_Checker_faults_153 rfl rfl rfl [0, 1] [2, 3, 4, 5, 6, 7, 8, 9, 10, 11, 12] [11, 12, 0, 1, 2, 3, 4, 5, 6, 7, 8, 9, 10] rfl rfl rfl rfl (by decide) rfl rfl rfl rfl rfl ⟨by decide, by decide⟩ ⟨by decide, by decide⟩ rfl (Nat.le_of_ble_eq_true rfl) ?_
          refine ks_aload_n rfl rfl C d_Checker_faults_156 ?_
          refine ks_aload_n rfl rfl C d_Checker_faults_157 ?_
          refine ks_get (k := 8) C 0 7 in_Checker rfl (by decide) fk_Checker_29 rfl rfl rfl d_Checker_faults_158 ?_
          refine ks_aload_n rfl rfl C d_Checker_faults_161 ?_
          refine ks_get (k := 0) C 0 7 in_Checker rfl (by decide) fk_Checker_32 rfl rfl rfl d_Checker_faults_162 ?_
          refine ks_bipush (a := 8) rfl C d_Checker_faults_165 ?_
          refine ks_cx (ci := 1) (q0 := 0) (kw_chk K k0 k1 l0 x0 n0 c0 t0 _ _ _ _ ++ kw_row K l0 l1 _ _ ++ kw_trees K t0 t1 t2 x0 n0 c0 _ _ _ ++ kw_nodes K n0 n1 x0 _ ++ kw_chains c0 x0 _ _ ++ kw_pages K x0 x1 x2 _ _) C (c_Pages_number l D K x0 x1 x2 _ _ _ (by omega)) yw_Pages_number sel_Pages_number lk_Checker_51 d_Checker_faults_167 rfl rfl rfl [10, 11, 12] [0, 1, 2, 3, 4, 5, 6, 7, 8, 9] [0, 1, 2, 3, 4, 5, 6, 7, 8, 9, 10, 11, 12] rfl rfl rfl rfl (by decide) rfl rfl rfl rfl rfl ⟨by decide, by decide⟩ ⟨by decide, by decide⟩ rfl (Nat.le_of_ble_eq_true rfl) ?_
          refine ks_top_num (fun u4 => ?_)
          refine ks_bool (decide (sz1 = kv_num B 8 ∧ sz1 ≤ 36864)) 187 (st := [.ref k0]) ?_ (fun J5 => ?_)
          · refine ks_cv (ci := 7) (q0 := 0) (kw_chk K k0 k1 l0 x0 n0 c0 t0 _ _ _ _ ++ kw_row K l0 l1 _ _ ++ kw_trees K t0 t1 t2 x0 n0 c0 _ _ _ ++ kw_nodes K n0 n1 x0 _ ++ kw_chains c0 x0 _ _ ++ kw_pages K x0 x1 x2 _ _) C (c_Checker_expect l D K k0 k1 l0 x0 n0 c0 t0 _ _ _ _ _) yw_Checker_expect sel_Checker_expect lk_Checker_61 d_Checker_faults_187 rfl rfl rfl [0, 1] [2, 3, 4, 5, 6, 7, 8, 9, 10, 11, 12] [11, 12, 0, 1, 2, 3, 4, 5, 6, 7, 8, 9, 10] rfl rfl rfl rfl (by decide) rfl rfl rfl rfl rfl ⟨by decide, by decide⟩ ⟨by decide, by decide⟩ rfl (Nat.le_of_ble_eq_true rfl) ?_
            refine ks_aload_n rfl rfl C d_Checker_faults_190 ?_
            refine ks_cv (ci := 7) (q0 := 0) (kw_chk K k0 k1 l0 x0 n0 c0 t0 _ _ _ _ ++ kw_row K l0 l1 _ _ ++ kw_trees K t0 t1 t2 x0 n0 c0 _ _ _ ++ kw_nodes K n0 n1 x0 _ ++ kw_chains c0 x0 _ _ ++ kw_pages K x0 x1 x2 _ _) C (c_Checker_expectAllClaimed l D K k0 k1 l0 x0 x1 x2 n0 c0 t0 _ _ _ _ _ _) yw_Checker_expectAllClaimed sel_Checker_expectAllClaimed lk_Checker_92 d_Checker_faults_191 rfl rfl rfl [0, 1, 10, 11, 12] [2, 3, 4, 5, 6, 7, 8, 9] [8, 9, 0, 1, 2, 3, 4, 5, 6, 7, 10, 11, 12] rfl rfl rfl rfl (by decide) rfl rfl rfl rfl rfl ⟨by decide, by decide⟩ ⟨by decide, by decide⟩ rfl (Nat.le_of_ble_eq_true rfl) ?_
            refine ks_aload_n rfl rfl C d_Checker_faults_194 ?_
            refine ks_get (k := 6) C 0 7 in_Checker rfl (by decide) fk_Checker_22 rfl rfl rfl d_Checker_faults_195 ?_
            exact ks_iret C Z rfl rfl d_Checker_faults_198 rfl rfl ⟨ks_eqN (by rw [← g4]; rfl), by rw [← g4]; rfl⟩
          · refine ks_icmp_ne (tgt := 186) C (by omega) (by omega) (by decide) d_Checker_faults_170 (fun u6 => ?_) (fun u6 => ?_)
            · refine ks_iconstB false rfl C d_Checker_faults_186 ?_
              exact J5 _ (decide_eq_false (by omega)).symm
            · refine ks_aload_n rfl rfl C d_Checker_faults_173 ?_
              refine ks_get (k := 8) C 0 7 in_Checker rfl (by decide) fk_Checker_29 rfl rfl rfl d_Checker_faults_174 ?_
              refine ks_ldc ck_Checker_91 C d_Checker_faults_177 ?_
              refine ks_icmp_gt (tgt := 186) C (by omega) (by omega) (by decide) d_Checker_faults_179 (fun u7 => ?_) (fun u7 => ?_)
              · refine ks_iconstB false rfl C d_Checker_faults_186 ?_
                exact J5 _ (decide_eq_false (by omega)).symm
              · refine ks_iconstB true rfl C d_Checker_faults_182 ?_
                refine ks_goto (tgt := 187) C (by decide) d_Checker_faults_183 ?_
                exact J5 _ (decide_eq_true (by omega)).symm
        · refine ks_icmp_ne (tgt := 152) C (by omega) (by omega) (by decide) d_Checker_faults_145 (fun u8 => ?_) (fun u8 => ?_)
          · refine ks_iconstB false rfl C d_Checker_faults_152 ?_
            exact J3 _ (decide_eq_false (by omega)).symm
          · refine ks_iconstB true rfl C d_Checker_faults_148 ?_
            refine ks_goto (tgt := 153) C (by decide) d_Checker_faults_149 ?_
            exact J3 _ (decide_eq_true (by omega)).symm
      · exact (by omega : False).elim
    | succ f ih =>
      intro Cl1 w1 en1 sz1 Lr1 ll1 pn1 ps1 top1 pg1 ca1 n t g1 g2 g3 g4
      have q5 : kv_level B (kv_root B t) ≤ 4 := Nat.min_le_right _ _
      have hp1 : ∀ j, pn1 j < 65536 := g3.1
      have hs1 : ∀ j, ps1 j < 65536 := g3.2.1
      refine ks_iload_n rfl rfl C d_Checker_faults_49 ?_
      refine ks_bipush (a := 64) rfl C d_Checker_faults_50 ?_
      refine ks_icmp_ge (tgt := 134) C (by omega) (by omega) (by decide) d_Checker_faults_52 (fun u9 => ?_) (fun u9 => ?_)
      · exact (by omega : False).elim
      · refine ks_aload_n rfl rfl C d_Checker_faults_55 ?_
        refine ks_iconst (a := 0) rfl C d_Checker_faults_56 ?_
        refine ks_put (k := 7) (ws' := (kw_chk K k0 k1 l0 x0 n0 c0 t0 _ _ _ _ ++ kw_row K l0 l1 _ _ ++ kw_trees K t0 t1 t2 x0 n0 c0 _ _ _ ++ kw_nodes K n0 n1 x0 _ ++ kw_chains c0 x0 _ _ ++ kw_pages K x0 x1 x2 _ _)) C 0 7 t_Checker ty_Checker nm_Checker in_Checker rfl (by decide) fk_Checker_26 rfl rfl rfl rfl rfl (Nat.le_of_ble_eq_true rfl) rfl d_Checker_faults_57 ?_
        refine ks_aload_n rfl rfl C d_Checker_faults_60 ?_
        refine ks_get (k := 5) C 0 7 in_Checker rfl (by decide) fk_Checker_18 rfl rfl rfl d_Checker_faults_61 ?_
        refine ks_cv (ci := 0) (q0 := 0) (kw_chk K k0 k1 l0 x0 n0 c0 t0 _ _ _ _ ++ kw_row K l0 l1 _ _ ++ kw_trees K t0 t1 t2 x0 n0 c0 _ _ _ ++ kw_nodes K n0 n1 x0 _ ++ kw_chains c0 x0 _ _ ++ kw_pages K x0 x1 x2 _ _) C (c_Row_clear l D K l0 l1 _ _) yw_Row_clear sel_Row_clear lk_Checker_68 d_Checker_faults_64 rfl rfl rfl [2, 3] [0, 1, 4, 5, 6, 7, 8, 9, 10, 11, 12] [0, 1, 11, 12, 2, 3, 4, 5, 6, 7, 8, 9, 10] rfl rfl rfl rfl (by decide) rfl rfl rfl rfl rfl ⟨by dsimp only [ks_R]; omega, by dsimp only [ks_R]; omega⟩ ⟨by dsimp only [ks_R]; omega, by dsimp only [ks_R]; omega⟩ rfl (Nat.le_of_ble_eq_true rfl) ?_
        refine ks_aload_n rfl rfl C d_Checker_faults_67 ?_
        refine ks_get (k := 3) C 0 7 in_Checker rfl (by decide) fk_Checker_44 rfl rfl rfl d_Checker_faults_68 ?_
        refine ks_iload_n rfl rfl C d_Checker_faults_71 ?_
        refine ks_cx (ci := 6) (q0 := 0) (kw_chk K k0 k1 l0 x0 n0 c0 t0 _ _ _ _ ++ kw_row K l0 l1 _ _ ++ kw_trees K t0 t1 t2 x0 n0 c0 _ _ _ ++ kw_nodes K n0 n1 x0 _ ++ kw_chains c0 x0 _ _ ++ kw_pages K x0 x1 x2 _ _) C (c_Trees_has l D K t0 t1 t2 n0 n1 c0 x0 x1 x2 _ _ _ _ _ _ _ _ _ (by omega)) yw_Trees_has sel_Trees_has lk_Checker_71 d_Checker_faults_72 rfl rfl rfl [4, 5, 6, 7, 8, 9, 10, 11, 12] [0, 1, 2, 3] [0, 1, 2, 3, 4, 5, 6, 7, 8, 9, 10, 11, 12] rfl rfl rfl rfl (by decide) rfl rfl rfl rfl rfl ⟨by dsimp only [ks_R]; omega, by dsimp only [ks_R]; omega⟩ ⟨by dsimp only [ks_R]; omega, by dsimp only [ks_R]; omega⟩ rfl (Nat.le_of_ble_eq_true rfl) ?_
        refine ks_ifB_eq (tgt := 104) C (by decide) d_Checker_faults_75 (fun u10 => ?_) (fun u10 => ?_)
        · refine ks_aload_n rfl rfl C d_Checker_faults_104 ?_
          refine ks_aload_n rfl rfl C d_Checker_faults_105 ?_
          refine ks_get (k := 7) C 0 7 in_Checker rfl (by decide) fk_Checker_26 rfl rfl rfl d_Checker_faults_106 ?_
          refine ks_aload_n rfl rfl C d_Checker_faults_109 ?_
          refine ks_get (k := 3) C 0 7 in_Checker rfl (by decide) fk_Checker_44 rfl rfl rfl d_Checker_faults_110 ?_
          refine ks_iload_n rfl rfl C d_Checker_faults_113 ?_
          refine ks_cx (ci := 6) (q0 := 0) (kw_chk K k0 k1 l0 x0 n0 c0 t0 _ _ _ _ ++ kw_row K l0 l1 _ _ ++ kw_trees K t0 t1 t2 x0 n0 c0 _ _ _ ++ kw_nodes K n0 n1 x0 _ ++ kw_chains c0 x0 _ _ ++ kw_pages K x0 x1 x2 _ _) C (c_Trees_entries l D K t0 t1 t2 n0 n1 c0 x0 x1 x2 _ _ _ _ _ _ _ _ _ (by omega)) yw_Trees_entries sel_Trees_entries lk_Checker_89 d_Checker_faults_114 rfl rfl rfl [4, 5, 6, 7, 8, 9, 10, 11, 12] [0, 1, 2, 3] [0, 1, 2, 3, 4, 5, 6, 7, 8, 9, 10, 11, 12] rfl rfl rfl rfl (by decide) rfl rfl rfl rfl rfl ⟨by dsimp only [ks_R]; omega, by dsimp only [ks_R]; omega⟩ ⟨by dsimp only [ks_R]; omega, by dsimp only [ks_R]; omega⟩ rfl (Nat.le_of_ble_eq_true rfl) ?_
          refine ks_top_ents (fun u11 => ?_)
          refine ks_bool (decide (0 = kv_ents B t)) 125 (st := [.ref k0]) ?_ (fun J12 => ?_)
          · refine ks_cv (ci := 7) (q0 := 0) (kw_chk K k0 k1 l0 x0 n0 c0 t0 _ _ _ _ ++ kw_row K l0 l1 _ _ ++ kw_trees K t0 t1 t2 x0 n0 c0 _ _ _ ++ kw_nodes K n0 n1 x0 _ ++ kw_chains c0 x0 _ _ ++ kw_pages K x0 x1 x2 _ _) C (c_Checker_expect l D K k0 k1 l0 x0 n0 c0 t0 _ _ _ _ _) yw_Checker_expect sel_Checker_expect lk_Checker_61 d_Checker_faults_125 rfl rfl rfl [0, 1] [2, 3, 4, 5, 6, 7, 8, 9, 10, 11, 12] [11, 12, 0, 1, 2, 3, 4, 5, 6, 7, 8, 9, 10] rfl rfl rfl rfl (by decide) rfl rfl rfl rfl rfl ⟨by dsimp only [ks_R]; omega, by dsimp only [ks_R]; omega⟩ ⟨by dsimp only [ks_R]; omega, by dsimp only [ks_R]; omega⟩ rfl (Nat.le_of_ble_eq_true rfl) ?_
            refine ks_iinc C rfl (z := 1) rfl (by decide) rfl d_Checker_faults_128 ?_
            refine ks_goto (tgt := 49) C (by decide) d_Checker_faults_131 ?_
            exact ih _ _ _ _ _ _ _ _ _ _ _ _ _ (by omega) (by omega) (kx_t0_ok g3) (by rw [← g4, kx_fauL, if_neg (by rw [u10]; decide)]; rfl)
          · refine ks_icmp_ne (tgt := 124) C (by omega) (by omega) (by decide) d_Checker_faults_117 (fun u13 => ?_) (fun u13 => ?_)
            · refine ks_iconstB false rfl C d_Checker_faults_124 ?_
              exact J12 _ (decide_eq_false (by omega)).symm
            · refine ks_iconstB true rfl C d_Checker_faults_120 ?_
              refine ks_goto (tgt := 125) C (by decide) d_Checker_faults_121 ?_
              exact J12 _ (decide_eq_true (by omega)).symm
        · refine ks_aload_n rfl rfl C d_Checker_faults_78 ?_
          refine ks_get (k := 3) C 0 7 in_Checker rfl (by decide) fk_Checker_44 rfl rfl rfl d_Checker_faults_79 ?_
          refine ks_iload_n rfl rfl C d_Checker_faults_82 ?_
          refine ks_cx (ci := 6) (q0 := 0) (kw_chk K k0 k1 l0 x0 n0 c0 t0 _ _ _ _ ++ kw_row K l0 l1 _ _ ++ kw_trees K t0 t1 t2 x0 n0 c0 _ _ _ ++ kw_nodes K n0 n1 x0 _ ++ kw_chains c0 x0 _ _ ++ kw_pages K x0 x1 x2 _ _) C (c_Trees_root l D K t0 t1 t2 n0 n1 c0 x0 x1 x2 _ _ _ _ _ _ _ _ _ (by omega)) yw_Trees_root sel_Trees_root lk_Checker_77 d_Checker_faults_83 rfl rfl rfl [4, 5, 6, 7, 8, 9, 10, 11, 12] [0, 1, 2, 3] [0, 1, 2, 3, 4, 5, 6, 7, 8, 9, 10, 11, 12] rfl rfl rfl rfl (by decide) rfl rfl rfl rfl rfl ⟨by dsimp only [ks_R]; omega, by dsimp only [ks_R]; omega⟩ ⟨by dsimp only [ks_R]; omega, by dsimp only [ks_R]; omega⟩ rfl (Nat.le_of_ble_eq_true rfl) ?_
          refine ks_top_root (fun u14 => ?_)
          refine ks_istore_n C rfl (by decide) rfl d_Checker_faults_86 ?_
          refine ks_aload_n rfl rfl C d_Checker_faults_87 ?_
          refine ks_iload_n rfl rfl C d_Checker_faults_88 ?_
          refine ks_iload_n rfl rfl C d_Checker_faults_89 ?_
          refine ks_aload_n rfl rfl C d_Checker_faults_90 ?_
          refine ks_get (k := 1) C 0 7 in_Checker rfl (by decide) fk_Checker_36 rfl rfl rfl d_Checker_faults_91 ?_
          refine ks_iload_n rfl rfl C d_Checker_faults_94 ?_
          refine ks_cx (ci := 5) (q0 := 0) (kw_chk K k0 k1 l0 x0 n0 c0 t0 _ _ _ _ ++ kw_row K l0 l1 _ _ ++ kw_trees K t0 t1 t2 x0 n0 c0 _ _ _ ++ kw_nodes K n0 n1 x0 _ ++ kw_chains c0 x0 _ _ ++ kw_pages K x0 x1 x2 _ _) C (c_Nodes_level l D K n0 n1 x0 x1 x2 _ _ _ _ (by omega)) yw_Nodes_level sel_Nodes_level lk_Checker_80 d_Checker_faults_95 rfl rfl rfl [7, 8, 10, 11, 12] [0, 1, 2, 3, 4, 5, 6, 9] [0, 1, 2, 3, 4, 5, 6, 8, 9, 7, 10, 11, 12] rfl rfl rfl rfl (by decide) rfl rfl rfl rfl rfl ⟨by dsimp only [ks_R]; omega, by dsimp only [ks_R]; omega⟩ ⟨by dsimp only [ks_R]; omega, by dsimp only [ks_R]; omega⟩ rfl (Nat.le_of_ble_eq_true rfl) ?_
          refine ks_top_level (fun u15 => ?_)
          refine ks_cv (ci := 7) (q0 := 0) (kw_chk K k0 k1 l0 x0 n0 c0 t0 _ _ _ _ ++ kw_row K l0 l1 _ _ ++ kw_trees K t0 t1 t2 x0 n0 c0 _ _ _ ++ kw_nodes K n0 n1 x0 _ ++ kw_chains c0 x0 _ _ ++ kw_pages K x0 x1 x2 _ _) C (c_Checker_walk0 l D K _ k0 k1 l0 l1 t0 t1 t2 n0 n1 c0 x0 x1 x2 _ _ _ _ _ _ _ _ _ _ _ _ _ _ _ _ (by omega) (by omega) hp1 hs1 (by omega) (by omega)) yw_Checker_walk sel_Checker_walk lk_Checker_85 d_Checker_faults_98 rfl rfl rfl [0, 1, 2, 3, 4, 5, 6, 7, 8, 9, 10, 11, 12] [] [0, 1, 2, 3, 4, 5, 6, 7, 8, 9, 10, 11, 12] rfl rfl rfl rfl (by decide) rfl rfl rfl rfl rfl ⟨by dsimp only [ks_R]; omega, by dsimp only [ks_R]; omega⟩ ⟨by dsimp only [ks_R]; omega, by dsimp only [ks_R]; omega⟩ rfl (Nat.le_of_ble_eq_true rfl) ?_
          have q6 := kx_walk_en4 B t (kv_level B (kv_root B t)) (kv_root B t) ((Cl1, w1), (0, sz1), (Lr1, 0), (pn1, ps1, top1), (pg1, ca1)) (Nat.min_le_right _ _) rfl
          refine ks_iinc C rfl (z := 1) rfl (by decide) rfl d_Checker_faults_101 ?_
          refine ks_aload_n rfl rfl C d_Checker_faults_104 ?_
          refine ks_aload_n rfl rfl C d_Checker_faults_105 ?_
          refine ks_get (k := 7) C 0 7 in_Checker rfl (by decide) fk_Checker_26 rfl rfl rfl d_Checker_faults_106 ?_
          refine ks_aload_n rfl rfl C d_Checker_faults_109 ?_
          refine ks_get (k := 3) C 0 7 in_Checker rfl (by decide) fk_Checker_44 rfl rfl rfl d_Checker_faults_110 ?_
          refine ks_iload_n rfl rfl C d_Checker_faults_113 ?_
          refine ks_cx (ci := 6) (q0 := 0) (kw_chk K k0 k1 l0 x0 n0 c0 t0 _ _ _ _ ++ kw_row K l0 l1 _ _ ++ kw_trees K t0 t1 t2 x0 n0 c0 _ _ _ ++ kw_nodes K n0 n1 x0 _ ++ kw_chains c0 x0 _ _ ++ kw_pages K x0 x1 x2 _ _) C (c_Trees_entries l D K t0 t1 t2 n0 n1 c0 x0 x1 x2 _ _ _ _ _ _ _ _ _ (by omega)) yw_Trees_entries sel_Trees_entries lk_Checker_89 d_Checker_faults_114 rfl rfl rfl [4, 5, 6, 7, 8, 9, 10, 11, 12] [0, 1, 2, 3] [0, 1, 2, 3, 4, 5, 6, 7, 8, 9, 10, 11, 12] rfl rfl rfl rfl (by decide) rfl rfl rfl rfl rfl ⟨by dsimp only [ks_R]; omega, by dsimp only [ks_R]; omega⟩ ⟨by dsimp only [ks_R]; omega, by dsimp only [ks_R]; omega⟩ rfl (Nat.le_of_ble_eq_true rfl) ?_
          refine ks_top_ents (fun u16 => ?_)
          refine ks_bool (decide ((kx_walk B t (kv_level B (kv_root B t)) (kv_root B t) ((Cl1, w1), (0, sz1), (Lr1, 0), (pn1, ps1, top1), (pg1, ca1))).2.1.1 = kv_ents B t)) 125 (st := [.ref k0]) ?_ (fun J17 => ?_)
          · refine ks_cv (ci := 7) (q0 := 0) (kw_chk K k0 k1 l0 x0 n0 c0 t0 _ _ _ _ ++ kw_row K l0 l1 _ _ ++ kw_trees K t0 t1 t2 x0 n0 c0 _ _ _ ++ kw_nodes K n0 n1 x0 _ ++ kw_chains c0 x0 _ _ ++ kw_pages K x0 x1 x2 _ _) C (c_Checker_expect l D K k0 k1 l0 x0 n0 c0 t0 _ _ _ _ _) yw_Checker_expect sel_Checker_expect lk_Checker_61 d_Checker_faults_125 rfl rfl rfl [0, 1] [2, 3, 4, 5, 6, 7, 8, 9, 10, 11, 12] [11, 12, 0, 1, 2, 3, 4, 5, 6, 7, 8, 9, 10] rfl rfl rfl rfl (by decide) rfl rfl rfl rfl rfl ⟨by dsimp only [ks_R]; omega, by dsimp only [ks_R]; omega⟩ ⟨by dsimp only [ks_R]; omega, by dsimp only [ks_R]; omega⟩ rfl (Nat.le_of_ble_eq_true rfl) ?_
            refine ks_iinc C rfl (z := 1) rfl (by decide) rfl d_Checker_faults_128 ?_
            refine ks_goto (tgt := 49) C (by decide) d_Checker_faults_131 ?_
            refine ks_forget 3 ?_
            exact ih _ _ _ _ _ _ _ _ _ _ _ _ _ (by omega) (by omega) (kx_walk_ok _ _ _ (kx_t0_ok g3)) (by rw [← g4, kx_fauL, if_pos u10]; rfl)
          · refine ks_icmp_ne (tgt := 124) C (by omega) (by omega) (by decide) d_Checker_faults_117 (fun u18 => ?_) (fun u18 => ?_)
            · refine ks_iconstB false rfl C d_Checker_faults_124 ?_
              exact J17 _ (decide_eq_false (by omega)).symm
            · refine ks_iconstB true rfl C d_Checker_faults_120 ?_
              refine ks_goto (tgt := 125) C (by decide) d_Checker_faults_121 ?_
              exact J17 _ (decide_eq_true (by omega)).symm
  refine ks_aload_n rfl rfl C d_Checker_faults_0 ?_
  refine ks_iconst (a := 0) rfl C d_Checker_faults_1 ?_
  refine ks_put (k := 6) (ws' := (kw_chk K k0 k1 l0 x0 n0 c0 t0 _ _ _ _ ++ kw_row K l0 l1 _ _ ++ kw_trees K t0 t1 t2 x0 n0 c0 _ _ _ ++ kw_nodes K n0 n1 x0 _ ++ kw_chains c0 x0 _ _ ++ kw_pages K x0 x1 x2 _ _)) C 0 7 t_Checker ty_Checker nm_Checker in_Checker rfl (by decide) fk_Checker_22 rfl rfl rfl rfl rfl (Nat.le_of_ble_eq_true rfl) rfl d_Checker_faults_2 ?_
  refine ks_aload_n rfl rfl C d_Checker_faults_5 ?_
  refine ks_iconst (a := 0) rfl C d_Checker_faults_6 ?_
  refine ks_put (k := 8) (ws' := (kw_chk K k0 k1 l0 x0 n0 c0 t0 _ _ _ _ ++ kw_row K l0 l1 _ _ ++ kw_trees K t0 t1 t2 x0 n0 c0 _ _ _ ++ kw_nodes K n0 n1 x0 _ ++ kw_chains c0 x0 _ _ ++ kw_pages K x0 x1 x2 _ _)) C 0 7 t_Checker ty_Checker nm_Checker in_Checker rfl (by decide) fk_Checker_29 rfl rfl rfl rfl rfl (Nat.le_of_ble_eq_true rfl) rfl d_Checker_faults_7 ?_
  refine ks_iconst (a := 0) rfl C d_Checker_faults_10 ?_
  refine ks_istore_n C rfl (by decide) rfl d_Checker_faults_11 ?_
  refine ks_aload_n rfl rfl C d_Checker_faults_12 ?_
  refine ks_cv (ci := 7) (q0 := 0) (kw_chk K k0 k1 l0 x0 n0 c0 t0 _ _ _ _ ++ kw_row K l0 l1 _ _ ++ kw_trees K t0 t1 t2 x0 n0 c0 _ _ _ ++ kw_nodes K n0 n1 x0 _ ++ kw_chains c0 x0 _ _ ++ kw_pages K x0 x1 x2 _ _) C (c_Checker_forgetClaims l D K k0 k1 l0 x0 n0 c0 t0 _ _ _ _) yw_Checker_forgetClaims sel_Checker_forgetClaims lk_Checker_48 d_Checker_faults_13 rfl rfl rfl [0, 1] [2, 3, 4, 5, 6, 7, 8, 9, 10, 11, 12] [11, 12, 0, 1, 2, 3, 4, 5, 6, 7, 8, 9, 10] rfl rfl rfl rfl (by decide) rfl rfl rfl rfl rfl ⟨by decide, by decide⟩ ⟨by decide, by decide⟩ rfl (Nat.le_of_ble_eq_true rfl) ?_
  refine ks_aload_n rfl rfl C d_Checker_faults_16 ?_
  refine ks_aload_n rfl rfl C d_Checker_faults_17 ?_
  refine ks_get (k := 0) C 0 7 in_Checker rfl (by decide) fk_Checker_32 rfl rfl rfl d_Checker_faults_18 ?_
  refine ks_iconst (a := 0) rfl C d_Checker_faults_21 ?_
  refine ks_cx (ci := 1) (q0 := 0) (kw_chk K k0 k1 l0 x0 n0 c0 t0 _ _ _ _ ++ kw_row K l0 l1 _ _ ++ kw_trees K t0 t1 t2 x0 n0 c0 _ _ _ ++ kw_nodes K n0 n1 x0 _ ++ kw_chains c0 x0 _ _ ++ kw_pages K x0 x1 x2 _ _) C (c_Pages_number l D K x0 x1 x2 _ _ _ (by omega)) yw_Pages_number sel_Pages_number lk_Checker_51 d_Checker_faults_22 rfl rfl rfl [10, 11, 12] [0, 1, 2, 3, 4, 5, 6, 7, 8, 9] [0, 1, 2, 3, 4, 5, 6, 7, 8, 9, 10, 11, 12] rfl rfl rfl rfl (by decide) rfl rfl rfl rfl rfl ⟨by decide, by decide⟩ ⟨by decide, by decide⟩ rfl (Nat.le_of_ble_eq_true rfl) ?_
  refine ks_top_num (fun u19 => ?_)
  refine ks_aload_n rfl rfl C d_Checker_faults_25 ?_
  refine ks_get (k := 0) C 0 7 in_Checker rfl (by decide) fk_Checker_32 rfl rfl rfl d_Checker_faults_26 ?_
  refine ks_cx (ci := 1) (q0 := 0) (kw_chk K k0 k1 l0 x0 n0 c0 t0 _ _ _ _ ++ kw_row K l0 l1 _ _ ++ kw_trees K t0 t1 t2 x0 n0 c0 _ _ _ ++ kw_nodes K n0 n1 x0 _ ++ kw_chains c0 x0 _ _ ++ kw_pages K x0 x1 x2 _ _) C (c_Pages_used l D K x0 x1 x2 _ _) yw_Pages_used sel_Pages_used lk_Checker_57 d_Checker_faults_29 rfl rfl rfl [10, 11, 12] [0, 1, 2, 3, 4, 5, 6, 7, 8, 9] [0, 1, 2, 3, 4, 5, 6, 7, 8, 9, 10, 11, 12] rfl rfl rfl rfl (by decide) rfl rfl rfl rfl rfl ⟨by decide, by decide⟩ ⟨by decide, by decide⟩ rfl (Nat.le_of_ble_eq_true rfl) ?_
  refine ks_top_used (fun u20 => ?_)
  refine ks_bool (decide (kv_num B 0 = kv_used B)) 40 (st := [.ref k0]) ?_ (fun J21 => ?_)
  · refine ks_cv (ci := 7) (q0 := 0) (kw_chk K k0 k1 l0 x0 n0 c0 t0 _ _ _ _ ++ kw_row K l0 l1 _ _ ++ kw_trees K t0 t1 t2 x0 n0 c0 _ _ _ ++ kw_nodes K n0 n1 x0 _ ++ kw_chains c0 x0 _ _ ++ kw_pages K x0 x1 x2 _ _) C (c_Checker_expect l D K k0 k1 l0 x0 n0 c0 t0 _ _ _ _ _) yw_Checker_expect sel_Checker_expect lk_Checker_61 d_Checker_faults_40 rfl rfl rfl [0, 1] [2, 3, 4, 5, 6, 7, 8, 9, 10, 11, 12] [11, 12, 0, 1, 2, 3, 4, 5, 6, 7, 8, 9, 10] rfl rfl rfl rfl (by decide) rfl rfl rfl rfl rfl ⟨by decide, by decide⟩ ⟨by decide, by decide⟩ rfl (Nat.le_of_ble_eq_true rfl) ?_
    refine ks_aload_n rfl rfl C d_Checker_faults_43 ?_
    refine ks_cv (ci := 7) (q0 := 0) (kw_chk K k0 k1 l0 x0 n0 c0 t0 _ _ _ _ ++ kw_row K l0 l1 _ _ ++ kw_trees K t0 t1 t2 x0 n0 c0 _ _ _ ++ kw_nodes K n0 n1 x0 _ ++ kw_chains c0 x0 _ _ ++ kw_pages K x0 x1 x2 _ _) C (c_Checker_claimFree l D K k0 k1 l0 x0 x1 x2 n0 c0 t0 _ _ _ _ _ _) yw_Checker_claimFree sel_Checker_claimFree lk_Checker_65 d_Checker_faults_44 rfl rfl rfl [0, 1, 10, 11, 12] [2, 3, 4, 5, 6, 7, 8, 9] [8, 9, 0, 1, 2, 3, 4, 5, 6, 7, 10, 11, 12] rfl rfl rfl rfl (by decide) rfl rfl rfl rfl rfl ⟨by decide, by decide⟩ ⟨by decide, by decide⟩ rfl (Nat.le_of_ble_eq_true rfl) ?_
    refine ks_iconst (a := 0) rfl C d_Checker_faults_47 ?_
    refine ks_istore_n C rfl (by decide) rfl d_Checker_faults_48 ?_
    exact loop 64 _ _ _ _ _ _ _ _ _ _ _ 0 0 (by omega) (by omega) ⟨hp, hs, hl⟩ rfl
  · refine ks_icmp_ne (tgt := 39) C (by omega) (by omega) (by decide) d_Checker_faults_32 (fun u22 => ?_) (fun u22 => ?_)
    · refine ks_iconstB false rfl C d_Checker_faults_39 ?_
      exact J21 _ (decide_eq_false (by omega)).symm
    · refine ks_iconstB true rfl C d_Checker_faults_35 ?_
      refine ks_goto (tgt := 40) C (by decide) d_Checker_faults_36 ?_
      exact J21 _ (decide_eq_true (by omega)).symm
