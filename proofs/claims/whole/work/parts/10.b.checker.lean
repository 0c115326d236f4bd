/-! the checker: walking the trees -/
abbrev kx_X : Type := ((Nat → Bool) × Nat) × (Nat × Nat) × ((Nat → UInt8) × Nat) × ((Nat → Nat) × (Nat → Nat) × Nat) × (Nat × Nat)
def kx_s1 (B : Nat → UInt8) (c w : Nat) : Nat := kx_exp (decide (1 ≤ kv_num B (c * 32 + 2) ∧ kv_num B (c * 32 + 2) ≤ 8448 ∧ kv_num B (c * 32 + 4) ≤ 8448)) w
def kx_s2 (B : Nat → UInt8) (c : Nat) (S : (Nat → Bool) × Nat) : Nat × ((Nat → Bool) × Nat) := kx_cc B c (S.1, kx_s1 B c S.2)
def kx_s3 (B : Nat → UInt8) (c : Nat) (S : (Nat → Bool) × Nat) : Nat := kx_exp (decide ((kx_s2 B c S).1 = kv_pagesFor B c)) (kx_s2 B c S).2.2
def kx_rd (B : Nat → UInt8) (c : Nat) (Lr : Nat → UInt8) : ((Nat → UInt8) × Nat) × Nat × Nat := kv_rdL B (kv_num B (c * 32 + 2)) 2720 Lr 0 c 6
def kx_exaF (B : Nat → UInt8) (t leaf i c : Nat) (rd : ((Nat → UInt8) × Nat) × Nat × Nat) (dd : (Nat → Nat) × (Nat → Nat)) (X : kx_X) : kx_X :=
  (((kx_s2 B c X.1).2.1, kx_exp (decide (dd.1 0 = leaf ∧ dd.2 0 = i)) (kx_exp (decide (kv_cmp B X.2.2.1.1 X.2.2.1.2 c < 0)) (kx_s3 B c X.1))), (X.2.1.1 + 1, X.2.1.2 + kv_size B c), (rd.1.1, rd.1.2), (dd.1, dd.2, kv_level B (kv_root B t)), (rd.2.1, rd.2.2))
def kx_exa (B : Nat → UInt8) (t leaf i : Nat) (X : kx_X) : kx_X := kx_exaF B t leaf i (kv_slot B leaf i) (kx_rd B (kv_slot B leaf i) X.2.2.1.1) (kv_desc B (kx_rd B (kv_slot B leaf i) X.2.2.1.1).1.1 (kx_rd B (kv_slot B leaf i) X.2.2.1.1).1.2 t X.2.2.2.1.1 X.2.2.2.1.2.1) X
def kx_hd (B : Nat → UInt8) (t lv p : Nat) (S : (Nat → Bool) × Nat) : (Nat → Bool) × Nat := ((kx_claim B p S).1, kx_exp (decide ((p = kv_root B t ∧ (lv = 0 ∨ 1 < kv_count B p)) ∨ (p ≠ kv_root B t ∧ ¬ kv_count B p < 7))) (kx_exp (decide (kv_num B (p * 32 + 0) = lv)) (kx_exp (decide (kv_num B (p * 32 + 2) = kv_count B p)) (kx_claim B p S).2)))
def kx_wkL (F : Nat → kx_X → kx_X) : Nat → Nat → kx_X → kx_X
  | 0, _, X => X
  | k + 1, i, X => kx_wkL F k (i + 1) (F i X)
def kx_walk (B : Nat → UInt8) (t : Nat) : Nat → Nat → kx_X → kx_X
  | 0, p, X => if kx_right B X.1.1 p = true then kx_wkL (kx_exa B t p) (kv_count B p) 0 (kx_hd B t 0 p X.1, X.2) else (kx_claim B p X.1, X.2)
  | l + 1, p, X => if kx_right B X.1.1 p = true then kx_wkL (fun i Y => kx_walk B t l (kv_slot B p i) Y) (kv_count B p) 0 (kx_hd B t (l + 1) p X.1, X.2) else (kx_claim B p X.1, X.2)
def kx_ok (X : kx_X) : Prop := (∀ j, X.2.2.2.1.1 j < 65536) ∧ (∀ j, X.2.2.2.1.2.1 j < 65536) ∧ X.2.2.1.2 ≤ 8448
theorem kx_exa_ok {B : Nat → UInt8} {t leaf i : Nat} {X : kx_X} (h : kx_ok X) : kx_ok (kx_exa B t leaf i X) :=
  ⟨fun j => (kv_desc_all B _ _ t _ _ h.1 h.2.1 j).1, fun j => (kv_desc_all B _ _ t _ _ h.1 h.2.1 j).2, (kv_rdL_in B _ 2720 _ 0 _ 6 (kv_num_lt _ _) (by omega) (by omega)).2.2⟩
theorem kx_wkL_ok {F : Nat → kx_X → kx_X} (hF : ∀ i X, kx_ok X → kx_ok (F i X)) : ∀ (k i : Nat) (X : kx_X), kx_ok X → kx_ok (kx_wkL F k i X)
  | 0, _, _, h => h
  | k + 1, i, X, h => kx_wkL_ok hF k (i + 1) _ (hF i X h)
theorem kx_walk_ok {B : Nat → UInt8} {t : Nat} : ∀ (l p : Nat) (X : kx_X), kx_ok X → kx_ok (kx_walk B t l p X)
  | 0, p, X, h => by
    rw [kx_walk]
    split
    · exact kx_wkL_ok (fun i Y hY => kx_exa_ok hY) _ _ _ h
    · exact h
  | l + 1, p, X, h => by
    rw [kx_walk]
    split
    · exact kx_wkL_ok (fun i Y hY => kx_walk_ok l _ _ hY) _ _ _ h
    · exact h
set_option maxRecDepth 100000 in
set_option maxHeartbeats 4000000 in
theorem c_Checker_examine (l : Launch) (D : va_G) (K : Nat → ClassId) (k0 k1 l0 l1 t0 t1 t2 n0 n1 c0 x0 x1 x2 : Nat) (P : Nat → Nat) (B : Nat → UInt8) (G : Nat → Bool) (Cl : Nat → Bool) (w en sz : Nat) (Lr : Nat → UInt8) (ll : Nat) (pn ps : Nat → Nat) (top pg ca : Nat) (t p i : Nat) (h1 : t < 65536) (h2 : p < 65536) (h3 : i < 65536) (hp : ∀ j, pn j < 65536) (hs : ∀ j, ps j < 65536) (hl : ll ≤ 8448) : ks_M l D (ks_T K) (ks_R 4) y_Checker_examine b_Checker_examine 6 none [.ref k0, .int (nI t), .int (nI p), .int (nI i)] (kw_chk K k0 k1 l0 x0 n0 c0 t0 Cl w en sz ++ kw_row K l0 l1 Lr ll ++ kw_trees K t0 t1 t2 x0 n0 c0 pn ps top ++ kw_nodes K n0 n1 x0 P ++ kw_chains c0 x0 pg ca ++ kw_pages K x0 x1 x2 B G) (ks_f none (kw_chk K k0 k1 l0 x0 n0 c0 t0 (kx_exa B t p i ((Cl, w), (en, sz), (Lr, ll), (pn, ps, top), (pg, ca))).1.1 (kx_exa B t p i ((Cl, w), (en, sz), (Lr, ll), (pn, ps, top), (pg, ca))).1.2 (kx_exa B t p i ((Cl, w), (en, sz), (Lr, ll), (pn, ps, top), (pg, ca))).2.1.1 (kx_exa B t p i ((Cl, w), (en, sz), (Lr, ll), (pn, ps, top), (pg, ca))).2.1.2 ++ kw_row K l0 l1 (kx_exa B t p i ((Cl, w), (en, sz), (Lr, ll), (pn, ps, top), (pg, ca))).2.2.1.1 (kx_exa B t p i ((Cl, w), (en, sz), (Lr, ll), (pn, ps, top), (pg, ca))).2.2.1.2 ++ kw_trees K t0 t1 t2 x0 n0 c0 (kx_exa B t p i ((Cl, w), (en, sz), (Lr, ll), (pn, ps, top), (pg, ca))).2.2.2.1.1 (kx_exa B t p i ((Cl, w), (en, sz), (Lr, ll), (pn, ps, top), (pg, ca))).2.2.2.1.2.1 (kx_exa B t p i ((Cl, w), (en, sz), (Lr, ll), (pn, ps, top), (pg, ca))).2.2.2.1.2.2 ++ kw_nodes K n0 n1 x0 P ++ kw_chains c0 x0 (kx_exa B t p i ((Cl, w), (en, sz), (Lr, ll), (pn, ps, top), (pg, ca))).2.2.2.2.1 (kx_exa B t p i ((Cl, w), (en, sz), (Lr, ll), (pn, ps, top), (pg, ca))).2.2.2.2.2 ++ kw_pages K x0 x1 x2 B G)) := by
  refine ks_M.of 2 (by decide) (Nat.le_of_ble_eq_true rfl) ?_
  intro E C Z
  refine ks_aload_n rfl rfl C d_Checker_examine_0 ?_
  refine ks_get (k := 1) C 0 7 in_Checker rfl (by decide) fk_Checker_36 rfl rfl rfl d_Checker_examine_1 ?_
  refine ks_iload_n rfl rfl C d_Checker_examine_4 ?_
  refine ks_iload_n rfl rfl C d_Checker_examine_5 ?_
  refine ks_cx (ci := 5) (q0 := 0) (kw_chk K k0 k1 l0 x0 n0 c0 t0 _ _ _ _ ++ kw_row K l0 l1 _ _ ++ kw_trees K t0 t1 t2 x0 n0 c0 _ _ _ ++ kw_nodes K n0 n1 x0 _ ++ kw_chains c0 x0 _ _ ++ kw_pages K x0 x1 x2 _ _) C (c_Nodes_slot l D K n0 n1 x0 x1 x2 _ _ _ _ _ (by omega) (by omega)) yw_Nodes_slot sel_Nodes_slot lk_Checker_107 d_Checker_examine_6 rfl rfl rfl [7, 8, 10, 11, 12] [0, 1, 2, 3, 4, 5, 6, 9] [0, 1, 2, 3, 4, 5, 6, 8, 9, 7, 10, 11, 12] rfl rfl rfl rfl (by decide) rfl rfl rfl rfl rfl ⟨by decide, by decide⟩ ⟨by decide, by decide⟩ rfl (Nat.le_of_ble_eq_true rfl) ?_
  refine ks_top_slot (fun u1 => ?_)
  refine ks_istore C (by decide) rfl d_Checker_examine_9 ?_
  refine ks_aload_n rfl rfl C d_Checker_examine_11 ?_
  refine ks_get (k := 2) C 0 7 in_Checker rfl (by decide) fk_Checker_40 rfl rfl rfl d_Checker_examine_12 ?_
  refine ks_iload rfl C d_Checker_examine_15 ?_
  refine ks_cx (ci := 4) (q0 := 0) (kw_chk K k0 k1 l0 x0 n0 c0 t0 _ _ _ _ ++ kw_row K l0 l1 _ _ ++ kw_trees K t0 t1 t2 x0 n0 c0 _ _ _ ++ kw_nodes K n0 n1 x0 _ ++ kw_chains c0 x0 _ _ ++ kw_pages K x0 x1 x2 _ _) C (c_Chains_keyLength l D K c0 x0 x1 x2 _ _ _ _ _ (by omega)) yw_Chains_keyLength sel_Chains_keyLength lk_Checker_114 d_Checker_examine_17 rfl rfl rfl [9, 10, 11, 12] [0, 1, 2, 3, 4, 5, 6, 7, 8] [0, 1, 2, 3, 4, 5, 6, 7, 8, 9, 10, 11, 12] rfl rfl rfl rfl (by decide) rfl rfl rfl rfl rfl ⟨by decide, by decide⟩ ⟨by decide, by decide⟩ rfl (Nat.le_of_ble_eq_true rfl) ?_
  refine ks_top_num (fun u2 => ?_)
  refine ks_istore C (by decide) rfl d_Checker_examine_20 ?_
  refine ks_aload_n rfl rfl C d_Checker_examine_22 ?_
  refine ks_iload rfl C d_Checker_examine_23 ?_
  refine ks_iconst (a := 1) rfl C d_Checker_examine_25 ?_
  refine ks_bool (decide (1 ≤ kv_num B ((kv_slot B p i) * 32 + 2) ∧ kv_num B ((kv_slot B p i) * 32 + 2) ≤ 8448 ∧ kv_num B ((kv_slot B p i) * 32 + 4) ≤ 8448)) 57 (st := [.ref k0]) ?_ (fun J3 => ?_)
  · refine ks_cv (ci := 7) (q0 := 0) (kw_chk K k0 k1 l0 x0 n0 c0 t0 _ _ _ _ ++ kw_row K l0 l1 _ _ ++ kw_trees K t0 t1 t2 x0 n0 c0 _ _ _ ++ kw_nodes K n0 n1 x0 _ ++ kw_chains c0 x0 _ _ ++ kw_pages K x0 x1 x2 _ _) C (c_Checker_expect l D K k0 k1 l0 x0 n0 c0 t0 _ _ _ _ _) yw_Checker_expect sel_Checker_expect lk_Checker_61 d_Checker_examine_57 rfl rfl rfl [0, 1] [2, 3, 4, 5, 6, 7, 8, 9, 10, 11, 12] [11, 12, 0, 1, 2, 3, 4, 5, 6, 7, 8, 9, 10] rfl rfl rfl rfl (by decide) rfl rfl rfl rfl rfl ⟨by decide, by decide⟩ ⟨by decide, by decide⟩ rfl (Nat.le_of_ble_eq_true rfl) ?_
    refine ks_aload_n rfl rfl C d_Checker_examine_60 ?_
    refine ks_aload_n rfl rfl C d_Checker_examine_61 ?_
    refine ks_iload rfl C d_Checker_examine_62 ?_
    refine ks_cx (ci := 7) (q0 := 0) (kw_chk K k0 k1 l0 x0 n0 c0 t0 _ _ _ _ ++ kw_row K l0 l1 _ _ ++ kw_trees K t0 t1 t2 x0 n0 c0 _ _ _ ++ kw_nodes K n0 n1 x0 _ ++ kw_chains c0 x0 _ _ ++ kw_pages K x0 x1 x2 _ _) C (c_Checker_claimChain l D K k0 k1 l0 x0 x1 x2 n0 c0 t0 _ _ _ _ _ _ _ (by omega)) yw_Checker_claimChain sel_Checker_claimChain lk_Checker_95 d_Checker_examine_64 rfl rfl rfl [0, 1, 10, 11, 12] [2, 3, 4, 5, 6, 7, 8, 9] [8, 9, 0, 1, 2, 3, 4, 5, 6, 7, 10, 11, 12] rfl rfl rfl rfl (by decide) rfl rfl rfl rfl rfl ⟨by decide, by decide⟩ ⟨by decide, by decide⟩ rfl (Nat.le_of_ble_eq_true rfl) ?_
    refine ks_top_cc (fun u4 => ?_)
    refine ks_aload_n rfl rfl C d_Checker_examine_67 ?_
    refine ks_get (k := 2) C 0 7 in_Checker rfl (by decide) fk_Checker_40 rfl rfl rfl d_Checker_examine_68 ?_
    refine ks_iload rfl C d_Checker_examine_71 ?_
    refine ks_cx (ci := 4) (q0 := 0) (kw_chk K k0 k1 l0 x0 n0 c0 t0 _ _ _ _ ++ kw_row K l0 l1 _ _ ++ kw_trees K t0 t1 t2 x0 n0 c0 _ _ _ ++ kw_nodes K n0 n1 x0 _ ++ kw_chains c0 x0 _ _ ++ kw_pages K x0 x1 x2 _ _) C (c_Chains_pagesFor l D K c0 x0 x1 x2 _ _ _ _ _ (by omega)) yw_Chains_pagesFor sel_Chains_pagesFor lk_Checker_122 d_Checker_examine_73 rfl rfl rfl [9, 10, 11, 12] [0, 1, 2, 3, 4, 5, 6, 7, 8] [0, 1, 2, 3, 4, 5, 6, 7, 8, 9, 10, 11, 12] rfl rfl rfl rfl (by decide) rfl rfl rfl rfl rfl ⟨by decide, by decide⟩ ⟨by decide, by decide⟩ rfl (Nat.le_of_ble_eq_true rfl) ?_
    refine ks_top_pagesFor (fun u5 => ?_)
    have q7 := kv_pagesFor_lt B (kv_slot B p i)
    refine ks_bool (decide ((kx_cc B (kv_slot B p i) (Cl, kx_exp (decide (1 ≤ kv_num B ((kv_slot B p i) * 32 + 2) ∧ kv_num B ((kv_slot B p i) * 32 + 2) ≤ 8448 ∧ kv_num B ((kv_slot B p i) * 32 + 4) ≤ 8448)) w)).1 = kv_pagesFor B (kv_slot B p i))) 84 (st := [.ref k0]) ?_ (fun J6 => ?_)
    · refine ks_cv (ci := 7) (q0 := 0) (kw_chk K k0 k1 l0 x0 n0 c0 t0 _ _ _ _ ++ kw_row K l0 l1 _ _ ++ kw_trees K t0 t1 t2 x0 n0 c0 _ _ _ ++ kw_nodes K n0 n1 x0 _ ++ kw_chains c0 x0 _ _ ++ kw_pages K x0 x1 x2 _ _) C (c_Checker_expect l D K k0 k1 l0 x0 n0 c0 t0 _ _ _ _ _) yw_Checker_expect sel_Checker_expect lk_Checker_61 d_Checker_examine_84 rfl rfl rfl [0, 1] [2, 3, 4, 5, 6, 7, 8, 9, 10, 11, 12] [11, 12, 0, 1, 2, 3, 4, 5, 6, 7, 8, 9, 10] rfl rfl rfl rfl (by decide) rfl rfl rfl rfl rfl ⟨by decide, by decide⟩ ⟨by decide, by decide⟩ rfl (Nat.le_of_ble_eq_true rfl) ?_
      refine ks_aload_n rfl rfl C d_Checker_examine_87 ?_
      refine ks_aload_n rfl rfl C d_Checker_examine_88 ?_
      refine ks_get (k := 2) C 0 7 in_Checker rfl (by decide) fk_Checker_40 rfl rfl rfl d_Checker_examine_89 ?_
      refine ks_aload_n rfl rfl C d_Checker_examine_92 ?_
      refine ks_get (k := 5) C 0 7 in_Checker rfl (by decide) fk_Checker_18 rfl rfl rfl d_Checker_examine_93 ?_
      refine ks_iload rfl C d_Checker_examine_96 ?_
      refine ks_cx (ci := 4) (q0 := 0) (kw_chk K k0 k1 l0 x0 n0 c0 t0 _ _ _ _ ++ kw_row K l0 l1 _ _ ++ kw_trees K t0 t1 t2 x0 n0 c0 _ _ _ ++ kw_nodes K n0 n1 x0 _ ++ kw_chains c0 x0 _ _ ++ kw_pages K x0 x1 x2 _ _) C (c_Chains_compare l D K c0 x0 x1 x2 l0 l1 _ _ _ _ _ _ _ (by omega) (by omega)) yw_Chains_compare sel_Chains_compare lk_Checker_125 d_Checker_examine_98 rfl rfl rfl [9, 10, 11, 12, 2, 3] [0, 1, 4, 5, 6, 7, 8] [0, 1, 11, 12, 2, 3, 4, 5, 6, 7, 8, 9, 10] rfl rfl rfl rfl (by decide) rfl rfl rfl rfl rfl ⟨by decide, by decide⟩ ⟨by decide, by decide⟩ rfl (Nat.le_of_ble_eq_true rfl) ?_
      refine ks_top_cmp (by omega) (fun u7 => ?_)
      refine ks_bool (decide (kv_cmp B Lr ll (kv_slot B p i) < 0)) 109 (st := [.ref k0]) ?_ (fun J8 => ?_)
      · refine ks_cv (ci := 7) (q0 := 0) (kw_chk K k0 k1 l0 x0 n0 c0 t0 _ _ _ _ ++ kw_row K l0 l1 _ _ ++ kw_trees K t0 t1 t2 x0 n0 c0 _ _ _ ++ kw_nodes K n0 n1 x0 _ ++ kw_chains c0 x0 _ _ ++ kw_pages K x0 x1 x2 _ _) C (c_Checker_expect l D K k0 k1 l0 x0 n0 c0 t0 _ _ _ _ _) yw_Checker_expect sel_Checker_expect lk_Checker_61 d_Checker_examine_109 rfl rfl rfl [0, 1] [2, 3, 4, 5, 6, 7, 8, 9, 10, 11, 12] [11, 12, 0, 1, 2, 3, 4, 5, 6, 7, 8, 9, 10] rfl rfl rfl rfl (by decide) rfl rfl rfl rfl rfl ⟨by decide, by decide⟩ ⟨by decide, by decide⟩ rfl (Nat.le_of_ble_eq_true rfl) ?_
        refine ks_aload_n rfl rfl C d_Checker_examine_112 ?_
        refine ks_get (k := 2) C 0 7 in_Checker rfl (by decide) fk_Checker_40 rfl rfl rfl d_Checker_examine_113 ?_
        refine ks_iload rfl C d_Checker_examine_116 ?_
        refine ks_aload_n rfl rfl C d_Checker_examine_118 ?_
        refine ks_get (k := 5) C 0 7 in_Checker rfl (by decide) fk_Checker_18 rfl rfl rfl d_Checker_examine_119 ?_
        refine ks_cv (ci := 4) (q0 := 0) (kw_chk K k0 k1 l0 x0 n0 c0 t0 _ _ _ _ ++ kw_row K l0 l1 _ _ ++ kw_trees K t0 t1 t2 x0 n0 c0 _ _ _ ++ kw_nodes K n0 n1 x0 _ ++ kw_chains c0 x0 _ _ ++ kw_pages K x0 x1 x2 _ _) C (c_Chains_copyKeyTo l D K c0 x0 x1 x2 l0 l1 _ _ _ _ _ _ _ (by omega)) yw_Chains_copyKeyTo sel_Chains_copyKeyTo lk_Checker_129 d_Checker_examine_122 rfl rfl rfl [9, 10, 11, 12, 2, 3] [0, 1, 4, 5, 6, 7, 8] [0, 1, 11, 12, 2, 3, 4, 5, 6, 7, 8, 9, 10] rfl rfl rfl rfl (by decide) rfl rfl rfl rfl rfl ⟨by decide, by decide⟩ ⟨by decide, by decide⟩ rfl (Nat.le_of_ble_eq_true rfl) ?_
        refine ks_aload_n rfl rfl C d_Checker_examine_125 ?_
        refine ks_get (k := 3) C 0 7 in_Checker rfl (by decide) fk_Checker_44 rfl rfl rfl d_Checker_examine_126 ?_
        refine ks_iload_n rfl rfl C d_Checker_examine_129 ?_
        refine ks_aload_n rfl rfl C d_Checker_examine_130 ?_
        refine ks_get (k := 5) C 0 7 in_Checker rfl (by decide) fk_Checker_18 rfl rfl rfl d_Checker_examine_131 ?_
        refine ks_cv (ci := 6) (q0 := 0) (kw_chk K k0 k1 l0 x0 n0 c0 t0 _ _ _ _ ++ kw_row K l0 l1 _ _ ++ kw_trees K t0 t1 t2 x0 n0 c0 _ _ _ ++ kw_nodes K n0 n1 x0 _ ++ kw_chains c0 x0 _ _ ++ kw_pages K x0 x1 x2 _ _) C (c_Trees_descend l D K t0 t1 t2 n0 n1 c0 x0 x1 x2 l0 l1 _ _ _ _ _ _ _ _ _ _ _ (by omega) (kv_rdL_in _ _ _ _ _ _ _ (by omega) (by omega) (by omega)).2.2) yw_Trees_descend sel_Trees_descend lk_Checker_133 d_Checker_examine_134 rfl rfl rfl [4, 5, 6, 7, 8, 9, 10, 11, 12, 2, 3] [0, 1] [0, 1, 11, 12, 2, 3, 4, 5, 6, 7, 8, 9, 10] rfl rfl rfl rfl (by decide) rfl rfl rfl rfl rfl ⟨by decide, by decide⟩ ⟨by decide, by decide⟩ rfl (Nat.le_of_ble_eq_true rfl) ?_
        refine ks_aload_n rfl rfl C d_Checker_examine_137 ?_
        refine ks_aload_n rfl rfl C d_Checker_examine_138 ?_
        refine ks_get (k := 3) C 0 7 in_Checker rfl (by decide) fk_Checker_44 rfl rfl rfl d_Checker_examine_139 ?_
        refine ks_iload_n rfl rfl C d_Checker_examine_142 ?_
        refine ks_iload_n rfl rfl C d_Checker_examine_143 ?_
        refine ks_cx (ci := 6) (q0 := 0) (kw_chk K k0 k1 l0 x0 n0 c0 t0 _ _ _ _ ++ kw_row K l0 l1 _ _ ++ kw_trees K t0 t1 t2 x0 n0 c0 _ _ _ ++ kw_nodes K n0 n1 x0 _ ++ kw_chains c0 x0 _ _ ++ kw_pages K x0 x1 x2 _ _) C (c_Trees_leadsTo l D K t0 t1 t2 n0 n1 c0 x0 x1 x2 _ _ _ _ _ _ _ _ _ _ (by omega) (by omega) (fun j => (kv_desc_all _ _ _ _ _ _ hp hs j).1) (fun j => (kv_desc_all _ _ _ _ _ _ hp hs j).2)) yw_Trees_leadsTo sel_Trees_leadsTo lk_Checker_136 d_Checker_examine_144 rfl rfl rfl [4, 5, 6, 7, 8, 9, 10, 11, 12] [0, 1, 2, 3] [0, 1, 2, 3, 4, 5, 6, 7, 8, 9, 10, 11, 12] rfl rfl rfl rfl (by decide) rfl rfl rfl rfl rfl ⟨by decide, by decide⟩ ⟨by decide, by decide⟩ rfl (Nat.le_of_ble_eq_true rfl) ?_
        refine ks_cv (ci := 7) (q0 := 0) (kw_chk K k0 k1 l0 x0 n0 c0 t0 _ _ _ _ ++ kw_row K l0 l1 _ _ ++ kw_trees K t0 t1 t2 x0 n0 c0 _ _ _ ++ kw_nodes K n0 n1 x0 _ ++ kw_chains c0 x0 _ _ ++ kw_pages K x0 x1 x2 _ _) C (c_Checker_expect l D K k0 k1 l0 x0 n0 c0 t0 _ _ _ _ _) yw_Checker_expect sel_Checker_expect lk_Checker_61 d_Checker_examine_147 rfl rfl rfl [0, 1] [2, 3, 4, 5, 6, 7, 8, 9, 10, 11, 12] [11, 12, 0, 1, 2, 3, 4, 5, 6, 7, 8, 9, 10] rfl rfl rfl rfl (by decide) rfl rfl rfl rfl rfl ⟨by decide, by decide⟩ ⟨by decide, by decide⟩ rfl (Nat.le_of_ble_eq_true rfl) ?_
        refine ks_aload_n rfl rfl C d_Checker_examine_150 ?_
        refine ks_dup rfl C d_Checker_examine_151 ?_
        refine ks_get (k := 7) C 0 7 in_Checker rfl (by decide) fk_Checker_26 rfl rfl rfl d_Checker_examine_152 ?_
        refine ks_iconst (a := 1) rfl C d_Checker_examine_155 ?_
        refine ks_iadd C d_Checker_examine_156 ?_
        refine ks_put (k := 7) (ws' := (kw_chk K k0 k1 l0 x0 n0 c0 t0 _ _ _ _ ++ kw_row K l0 l1 _ _ ++ kw_trees K t0 t1 t2 x0 n0 c0 _ _ _ ++ kw_nodes K n0 n1 x0 _ ++ kw_chains c0 x0 _ _ ++ kw_pages K x0 x1 x2 _ _)) C 0 7 t_Checker ty_Checker nm_Checker in_Checker rfl (by decide) fk_Checker_26 rfl rfl rfl rfl rfl (Nat.le_of_ble_eq_true rfl) rfl d_Checker_examine_157 ?_
        refine ks_aload_n rfl rfl C d_Checker_examine_160 ?_
        refine ks_dup rfl C d_Checker_examine_161 ?_
        refine ks_get (k := 8) C 0 7 in_Checker rfl (by decide) fk_Checker_29 rfl rfl rfl d_Checker_examine_162 ?_
        refine ks_aload_n rfl rfl C d_Checker_examine_165 ?_
        refine ks_get (k := 2) C 0 7 in_Checker rfl (by decide) fk_Checker_40 rfl rfl rfl d_Checker_examine_166 ?_
        refine ks_iload rfl C d_Checker_examine_169 ?_
        refine ks_cx (ci := 4) (q0 := 0) (kw_chk K k0 k1 l0 x0 n0 c0 t0 _ _ _ _ ++ kw_row K l0 l1 _ _ ++ kw_trees K t0 t1 t2 x0 n0 c0 _ _ _ ++ kw_nodes K n0 n1 x0 _ ++ kw_chains c0 x0 _ _ ++ kw_pages K x0 x1 x2 _ _) C (c_Chains_size l D K c0 x0 x1 x2 _ _ _ _ _ (by omega)) yw_Chains_size sel_Chains_size lk_Checker_140 d_Checker_examine_171 rfl rfl rfl [9, 10, 11, 12] [0, 1, 2, 3, 4, 5, 6, 7, 8] [0, 1, 2, 3, 4, 5, 6, 7, 8, 9, 10, 11, 12] rfl rfl rfl rfl (by decide) rfl rfl rfl rfl rfl ⟨by decide, by decide⟩ ⟨by decide, by decide⟩ rfl (Nat.le_of_ble_eq_true rfl) ?_
        refine ks_top_size (fun u9 => ?_)
        refine ks_iadd C d_Checker_examine_174 ?_
        refine ks_put (k := 8) (ws' := (kw_chk K k0 k1 l0 x0 n0 c0 t0 _ _ _ _ ++ kw_row K l0 l1 _ _ ++ kw_trees K t0 t1 t2 x0 n0 c0 _ _ _ ++ kw_nodes K n0 n1 x0 _ ++ kw_chains c0 x0 _ _ ++ kw_pages K x0 x1 x2 _ _)) C 0 7 t_Checker ty_Checker nm_Checker in_Checker rfl (by decide) fk_Checker_29 rfl rfl rfl rfl rfl (Nat.le_of_ble_eq_true rfl) rfl d_Checker_examine_175 ?_
        exact ks_vret C Z rfl d_Checker_examine_178 rfl rfl ⟨rfl, rfl⟩
      · refine ks_ifZ_ge (tgt := 108) C (by omega) (by omega) (by decide) d_Checker_examine_101 (fun u10 => ?_) (fun u10 => ?_)
        · refine ks_iconstB false rfl C d_Checker_examine_108 ?_
          exact J8 _ (decide_eq_false (by omega)).symm
        · refine ks_iconstB true rfl C d_Checker_examine_104 ?_
          refine ks_goto (tgt := 109) C (by decide) d_Checker_examine_105 ?_
          exact J8 _ (decide_eq_true (by omega)).symm
    · have q7 := kv_pagesFor_lt B (kv_slot B p i)
      refine ks_icmp_ne (tgt := 83) C (by omega) (by omega) (by decide) d_Checker_examine_76 (fun u11 => ?_) (fun u11 => ?_)
      · refine ks_iconstB false rfl C d_Checker_examine_83 ?_
        exact J6 _ (decide_eq_false (by omega)).symm
      · refine ks_iconstB true rfl C d_Checker_examine_79 ?_
        refine ks_goto (tgt := 84) C (by decide) d_Checker_examine_80 ?_
        exact J6 _ (decide_eq_true (by omega)).symm
  · refine ks_icmp_lt (tgt := 56) C (by omega) (by omega) (by decide) d_Checker_examine_26 (fun u12 => ?_) (fun u12 => ?_)
    · refine ks_iconstB false rfl C d_Checker_examine_56 ?_
      exact J3 _ (decide_eq_false (by omega)).symm
    · refine ks_iload rfl C d_Checker_examine_29 ?_
      refine ks_sipush (a := 8448) rfl C d_Checker_examine_31 ?_
      refine ks_icmp_gt (tgt := 56) C (by omega) (by omega) (by decide) d_Checker_examine_34 (fun u13 => ?_) (fun u13 => ?_)
      · refine ks_iconstB false rfl C d_Checker_examine_56 ?_
        exact J3 _ (decide_eq_false (by omega)).symm
      · refine ks_aload_n rfl rfl C d_Checker_examine_37 ?_
        refine ks_get (k := 2) C 0 7 in_Checker rfl (by decide) fk_Checker_40 rfl rfl rfl d_Checker_examine_38 ?_
        refine ks_iload rfl C d_Checker_examine_41 ?_
        refine ks_cx (ci := 4) (q0 := 0) (kw_chk K k0 k1 l0 x0 n0 c0 t0 _ _ _ _ ++ kw_row K l0 l1 _ _ ++ kw_trees K t0 t1 t2 x0 n0 c0 _ _ _ ++ kw_nodes K n0 n1 x0 _ ++ kw_chains c0 x0 _ _ ++ kw_pages K x0 x1 x2 _ _) C (c_Chains_valueLength l D K c0 x0 x1 x2 _ _ _ _ _ (by omega)) yw_Chains_valueLength sel_Chains_valueLength lk_Checker_119 d_Checker_examine_43 rfl rfl rfl [9, 10, 11, 12] [0, 1, 2, 3, 4, 5, 6, 7, 8] [0, 1, 2, 3, 4, 5, 6, 7, 8, 9, 10, 11, 12] rfl rfl rfl rfl (by decide) rfl rfl rfl rfl rfl ⟨by decide, by decide⟩ ⟨by decide, by decide⟩ rfl (Nat.le_of_ble_eq_true rfl) ?_
        refine ks_top_num (fun u14 => ?_)
        refine ks_sipush (a := 8448) rfl C d_Checker_examine_46 ?_
        refine ks_icmp_gt (tgt := 56) C (by omega) (by omega) (by decide) d_Checker_examine_49 (fun u15 => ?_) (fun u15 => ?_)
        · refine ks_iconstB false rfl C d_Checker_examine_56 ?_
          exact J3 _ (decide_eq_false (by omega)).symm
        · refine ks_iconstB true rfl C d_Checker_examine_52 ?_
          refine ks_goto (tgt := 57) C (by decide) d_Checker_examine_53 ?_
          exact J3 _ (decide_eq_true (by omega)).symm
