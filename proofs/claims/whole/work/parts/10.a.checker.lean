/-! the checker: world, mirror, contracts -/
abbrev kw_chk (K : Nat → ClassId) (k0 k1 l0 x0 n0 c0 t0 : Nat) (Cl : Nat → Bool) (w en sz : Nat) : va_W := [(k0, .inr (7, [.ref x0, .ref n0, .ref c0, .ref t0, .ref k1, .ref l0, .int (nI w), .int (nI en), .int (nI sz)])), (k1, .inl (K 1, 2720, .inl (ks_bo Cl)))]
section KSJ
variable {E : ks_E} {D : va_G} {nL : Nat} {ws : va_W} {lo : List (Option Value)} {cs ss pc : Nat} {st st0 : List Value}
theorem ks_bool (b : Bool) (q : Nat) (k : ks_w E D nL ws lo cs ss q (.int (ks_b b) :: st)) (m : (∀ b', b' = b → ks_w E D nL ws lo cs ss q (.int (ks_b b') :: st)) → ks_w E D nL ws lo cs ss pc st0) : ks_w E D nL ws lo cs ss pc st0 := m (fun b' h => h ▸ k)
end KSJ
def kx_exp (b : Bool) (w : Nat) : Nat := if b = true then w else w + 1
def kx_right (B : Nat → UInt8) (Cl : Nat → Bool) (p : Nat) : Bool := decide (9 ≤ p ∧ p < 9 + kv_used B ∧ Cl p = false)
def kx_claim (B : Nat → UInt8) (p : Nat) (S : (Nat → Bool) × Nat) : (Nat → Bool) × Nat := (if kx_right B S.1 p = true then va_up S.1 p true else S.1, kx_exp (kx_right B S.1 p) S.2)
def kx_ccL (B : Nat → UInt8) : Nat → Nat → Nat → (Nat → Bool) × Nat → Nat × ((Nat → Bool) × Nat)
  | 0, _, n, S => (n, S)
  | f + 1, p, n, S => if p = 0 then (n, S) else if kx_right B S.1 p = true then kx_ccL B f (kv_num B (p * 32)) (n + 1) (kx_claim B p S) else (n, kx_claim B p S)
def kx_cc (B : Nat → UInt8) (p : Nat) (S : (Nat → Bool) × Nat) : Nat × ((Nat → Bool) × Nat) := kx_ccL B 2720 p 0 S
theorem kx_ccL_le (B : Nat → UInt8) : ∀ (f p n : Nat) (S : (Nat → Bool) × Nat), (kx_ccL B f p n S).1 ≤ n + f
  | 0, _, n, S => Nat.le_refl _
  | f + 1, p, n, S => by
    rw [kx_ccL]
    split
    · show n ≤ _; omega
    · split
      · exact Nat.le_trans (kx_ccL_le B f _ _ _) (by omega)
      · show n ≤ _; omega
def kx_cf (B : Nat → UInt8) (S : (Nat → Bool) × Nat) : (Nat → Bool) × Nat := ((kx_cc B (kv_num B 2) S).2.1, kx_exp (decide ((kx_cc B (kv_num B 2) S).1 = kv_num B 4)) (kx_cc B (kv_num B 2) S).2.2)
def kx_allL (Cl : Nat → Bool) : Nat → Nat → Nat → Nat
  | 0, _, w => w
  | f + 1, p, w => kx_allL Cl f (p + 1) (kx_exp (Cl p) w)
section KSJ2
variable {E : ks_E} {D : va_G} {nL : Nat} {ws : va_W} {lo : List (Option Value)} {cs ss pc : Nat} {st : List Value}
theorem ks_top_cc {B : Nat → UInt8} {p : Nat} {S : (Nat → Bool) × Nat} (k : (kx_cc B p S).1 ≤ 2720 → ks_w E D nL ws lo cs ss pc (.int (nI (kx_cc B p S).1) :: st)) : ks_w E D nL ws lo cs ss pc (.int (nI (kx_cc B p S).1) :: st) := k (by have := kx_ccL_le B 2720 p 0 S; unfold kx_cc; omega)
end KSJ2
set_option maxRecDepth 100000 in
set_option maxHeartbeats 4000000 in
theorem c_Checker_expect (l : Launch) (D : va_G) (K : Nat → ClassId) (k0 k1 l0 x0 n0 c0 t0 : Nat) (Cl : Nat → Bool) (w en sz : Nat) (b : Bool) : ks_M l D (ks_T K) (ks_R 0) y_Checker_expect b_Checker_expect 2 none [.ref k0, .int (ks_b b)] (kw_chk K k0 k1 l0 x0 n0 c0 t0 Cl w en sz) (ks_f none (kw_chk K k0 k1 l0 x0 n0 c0 t0 Cl (kx_exp b w) en sz)) := by
  refine ks_M.of 0 (by decide) (Nat.le_of_ble_eq_true rfl) ?_
  intro E C Z
  refine ks_iload_n rfl rfl C d_Checker_expect_0 ?_
  refine ks_ifB_ne (tgt := 14) C (by decide) d_Checker_expect_1 (fun u1 => ?_) (fun u1 => ?_)
  · exact ks_vret C Z rfl d_Checker_expect_14 rfl rfl ⟨rfl, by unfold kx_exp; rw [if_pos u1]⟩
  · refine ks_aload_n rfl rfl C d_Checker_expect_4 ?_
    refine ks_dup rfl C d_Checker_expect_5 ?_
    refine ks_get (k := 6) C 0 7 in_Checker rfl (by decide) fk_Checker_22 rfl rfl rfl d_Checker_expect_6 ?_
    refine ks_iconst (a := 1) rfl C d_Checker_expect_9 ?_
    refine ks_iadd C d_Checker_expect_10 ?_
    refine ks_put (k := 6) (ws' := (kw_chk K k0 k1 l0 x0 n0 c0 t0 _ _ _ _)) C 0 7 t_Checker ty_Checker nm_Checker in_Checker rfl (by decide) fk_Checker_22 rfl rfl rfl rfl rfl (Nat.le_of_ble_eq_true rfl) rfl d_Checker_expect_11 ?_
    exact ks_vret C Z rfl d_Checker_expect_14 rfl rfl ⟨rfl, by unfold kx_exp; rw [if_neg (by rw [u1]; decide)]⟩
set_option maxRecDepth 100000 in
set_option maxHeartbeats 4000000 in
theorem c_Checker_forgetClaims (l : Launch) (D : va_G) (K : Nat → ClassId) (k0 k1 l0 x0 n0 c0 t0 : Nat) (Cl : Nat → Bool) (w en sz : Nat) : ks_M l D (ks_T K) (ks_R 0) y_Checker_forgetClaims b_Checker_forgetClaims 2 none [.ref k0] (kw_chk K k0 k1 l0 x0 n0 c0 t0 Cl w en sz) (ks_f none (kw_chk K k0 k1 l0 x0 n0 c0 t0 (kv_clr Cl 2720) w en sz)) := by
  refine ks_M.of 1 (by decide) (Nat.le_of_ble_eq_true rfl) ?_
  intro E C Z
  have loop : ∀ (f : Nat) (i : Nat), i + f = 2720 → ks_w E D 2 (kw_chk K k0 k1 l0 x0 n0 c0 t0 (kv_clr Cl i) w en sz) [some (.ref k0), some (.int (nI i))] 0 0 2 [] := by
    intro f
    induction f with
    | zero =>
      intro i g1
      refine ks_iload_n rfl rfl C d_Checker_forgetClaims_2 ?_
      refine ks_sipush (a := 2720) rfl C d_Checker_forgetClaims_3 ?_
      refine ks_icmp_ge (tgt := 22) C (by omega) (by omega) (by decide) d_Checker_forgetClaims_6 (fun u1 => ?_) (fun u1 => ?_)
      · exact ks_vret C Z rfl d_Checker_forgetClaims_22 rfl rfl ⟨rfl, by rw [show i = 2720 by omega]⟩
      · exact (by omega : False).elim
    | succ f ih =>
      intro i g1
      refine ks_iload_n rfl rfl C d_Checker_forgetClaims_2 ?_
      refine ks_sipush (a := 2720) rfl C d_Checker_forgetClaims_3 ?_
      refine ks_icmp_ge (tgt := 22) C (by omega) (by omega) (by decide) d_Checker_forgetClaims_6 (fun u2 => ?_) (fun u2 => ?_)
      · exact (by omega : False).elim
      · refine ks_aload_n rfl rfl C d_Checker_forgetClaims_9 ?_
        refine ks_get (k := 4) C 0 7 in_Checker rfl (by decide) fk_Checker_9 rfl rfl rfl d_Checker_forgetClaims_10 ?_
        refine ks_iload_n rfl rfl C d_Checker_forgetClaims_13 ?_
        refine ks_iconstB false rfl C d_Checker_forgetClaims_14 ?_
        refine ks_zast (ws' := (kw_chk K k0 k1 l0 x0 n0 c0 t0 _ _ _ _)) C 1 1 rfl rfl (by omega) (by omega) (ks_nz _) rfl d_Checker_forgetClaims_15 ?_
        refine ks_iinc C rfl (z := 1) rfl (by decide) rfl d_Checker_forgetClaims_16 ?_
        refine ks_goto (tgt := 2) C (by decide) d_Checker_forgetClaims_19 ?_
        rw [kv_clr_s]
        exact ih (i + 1) (by omega)
  refine ks_iconst (a := 0) rfl C d_Checker_forgetClaims_0 ?_
  refine ks_istore_n C rfl (by decide) rfl d_Checker_forgetClaims_1 ?_
  have e := loop 2720 0 (by omega)
  rw [kv_clr_0] at e
  exact e
set_option maxRecDepth 100000 in
set_option maxHeartbeats 4000000 in
theorem c_Checker_claim (l : Launch) (D : va_G) (K : Nat → ClassId) (k0 k1 l0 x0 x1 x2 n0 c0 t0 : Nat) (Cl : Nat → Bool) (w en sz : Nat) (B : Nat → UInt8) (G : Nat → Bool) (p : Nat) (h1 : p < 65536) : ks_M l D (ks_T K) (ks_R 2) y_Checker_claim b_Checker_claim 3 (some .boolean) [.ref k0, .int (nI p)] (kw_chk K k0 k1 l0 x0 n0 c0 t0 Cl w en sz ++ kw_pages K x0 x1 x2 B G) (ks_f (some (.int (ks_b (kx_right B Cl p)))) (kw_chk K k0 k1 l0 x0 n0 c0 t0 (kx_claim B p (Cl, w)).1 (kx_claim B p (Cl, w)).2 en sz ++ kw_pages K x0 x1 x2 B G)) := by
  refine ks_M.of 1 (by decide) (Nat.le_of_ble_eq_true rfl) ?_
  intro E C Z
  refine ks_iload_n rfl rfl C d_Checker_claim_0 ?_
  refine ks_bipush (a := 9) rfl C d_Checker_claim_1 ?_
  refine ks_bool (kx_right B Cl p) 34 (st := []) ?_ (fun J1 => ?_)
  · refine ks_istore_n C rfl (by decide) rfl d_Checker_claim_34 ?_
    refine ks_aload_n rfl rfl C d_Checker_claim_35 ?_
    refine ks_iload_n rfl rfl C d_Checker_claim_36 ?_
    refine ks_cv (ci := 7) (q0 := 0) (kw_chk K k0 k1 l0 x0 n0 c0 t0 _ _ _ _ ++ kw_pages K x0 x1 x2 _ _) C (c_Checker_expect l D K k0 k1 l0 x0 n0 c0 t0 _ _ _ _ _) yw_Checker_expect sel_Checker_expect lk_Checker_61 d_Checker_claim_37 rfl rfl rfl [0, 1] [2, 3, 4] [3, 4, 0, 1, 2] rfl rfl rfl rfl (by decide) rfl rfl rfl rfl rfl ⟨by decide, by decide⟩ ⟨by decide, by decide⟩ rfl (Nat.le_of_ble_eq_true rfl) ?_
    refine ks_iload_n rfl rfl C d_Checker_claim_40 ?_
    refine ks_ifB_eq (tgt := 51) C (by decide) d_Checker_claim_41 (fun u2 => ?_) (fun u2 => ?_)
    · refine ks_iload_n rfl rfl C d_Checker_claim_51 ?_
      exact ks_iret C Z rfl (ks_nb1 _) d_Checker_claim_52 rfl rfl ⟨rfl, by unfold kx_claim; dsimp only; rw [if_neg (by rw [u2]; decide)]⟩
    · have q9 : 9 ≤ p ∧ p < 9 + kv_used B ∧ Cl p = false := of_decide_eq_true u2
      have q8 := kv_used_le B
      refine ks_aload_n rfl rfl C d_Checker_claim_44 ?_
      refine ks_get (k := 4) C 0 7 in_Checker rfl (by decide) fk_Checker_9 rfl rfl rfl d_Checker_claim_45 ?_
      refine ks_iload_n rfl rfl C d_Checker_claim_48 ?_
      refine ks_iconstB true rfl C d_Checker_claim_49 ?_
      refine ks_zast (ws' := (kw_chk K k0 k1 l0 x0 n0 c0 t0 _ _ _ _ ++ kw_pages K x0 x1 x2 _ _)) C 1 1 rfl rfl (by omega) (by omega) (ks_nz _) rfl d_Checker_claim_50 ?_
      refine ks_iload_n rfl rfl C d_Checker_claim_51 ?_
      exact ks_iret C Z rfl (ks_nb1 _) d_Checker_claim_52 rfl rfl ⟨rfl, by unfold kx_claim; dsimp only; rw [if_pos u2]⟩
  · refine ks_icmp_lt (tgt := 33) C (by omega) (by omega) (by decide) d_Checker_claim_3 (fun u3 => ?_) (fun u3 => ?_)
    · refine ks_iconstB false rfl C d_Checker_claim_33 ?_
      exact J1 _ (by unfold kx_right; simp [*]; try (intros; omega))
    · refine ks_iload_n rfl rfl C d_Checker_claim_6 ?_
      refine ks_bipush (a := 9) rfl C d_Checker_claim_7 ?_
      refine ks_aload_n rfl rfl C d_Checker_claim_9 ?_
      refine ks_get (k := 0) C 0 7 in_Checker rfl (by decide) fk_Checker_32 rfl rfl rfl d_Checker_claim_10 ?_
      refine ks_cx (ci := 1) (q0 := 0) (kw_chk K k0 k1 l0 x0 n0 c0 t0 _ _ _ _ ++ kw_pages K x0 x1 x2 _ _) C (c_Pages_used l D K x0 x1 x2 _ _) yw_Pages_used sel_Pages_used lk_Checker_57 d_Checker_claim_13 rfl rfl rfl [2, 3, 4] [0, 1] [0, 1, 2, 3, 4] rfl rfl rfl rfl (by decide) rfl rfl rfl rfl rfl ⟨by decide, by decide⟩ ⟨by decide, by decide⟩ rfl (Nat.le_of_ble_eq_true rfl) ?_
      refine ks_top_used (fun u4 => ?_)
      refine ks_iadd C d_Checker_claim_16 ?_
      refine ks_icmp_ge (tgt := 33) C (by omega) (by omega) (by decide) d_Checker_claim_17 (fun u5 => ?_) (fun u5 => ?_)
      · refine ks_iconstB false rfl C d_Checker_claim_33 ?_
        exact J1 _ (by unfold kx_right; simp [*]; try (intros; omega))
      · refine ks_aload_n rfl rfl C d_Checker_claim_20 ?_
        refine ks_get (k := 4) C 0 7 in_Checker rfl (by decide) fk_Checker_9 rfl rfl rfl d_Checker_claim_21 ?_
        refine ks_iload_n rfl rfl C d_Checker_claim_24 ?_
        refine ks_zald C 1 1 rfl rfl (by omega) (by omega) d_Checker_claim_25 ?_
        refine ks_ifB_ne (tgt := 33) C (by decide) d_Checker_claim_26 (fun u6 => ?_) (fun u6 => ?_)
        · refine ks_iconstB false rfl C d_Checker_claim_33 ?_
          exact J1 _ (by unfold kx_right; simp [*]; try (intros; omega))
        · refine ks_iconstB true rfl C d_Checker_claim_29 ?_
          refine ks_goto (tgt := 34) C (by decide) d_Checker_claim_30 ?_
          exact J1 _ (by unfold kx_right; simp [*]; try (intros; omega))
set_option maxRecDepth 100000 in
set_option maxHeartbeats 4000000 in
theorem c_Checker_claimChain (l : Launch) (D : va_G) (K : Nat → ClassId) (k0 k1 l0 x0 x1 x2 n0 c0 t0 : Nat) (Cl : Nat → Bool) (w en sz : Nat) (B : Nat → UInt8) (G : Nat → Bool) (p : Nat) (h1 : p < 65536) : ks_M l D (ks_T K) (ks_R 3) y_Checker_claimChain b_Checker_claimChain 5 (some .int) [.ref k0, .int (nI p)] (kw_chk K k0 k1 l0 x0 n0 c0 t0 Cl w en sz ++ kw_pages K x0 x1 x2 B G) (ks_f (some (.int (nI ((kx_cc B p (Cl, w)).1)))) (kw_chk K k0 k1 l0 x0 n0 c0 t0 (kx_cc B p (Cl, w)).2.1 (kx_cc B p (Cl, w)).2.2 en sz ++ kw_pages K x0 x1 x2 B G)) := by
  refine ks_M.of 3 (by decide) (Nat.le_of_ble_eq_true rfl) ?_
  intro E C Z
  have loop : ∀ (f : Nat) (Cl1 : Nat → Bool) (w1 q n i : Nat), i + f = 2720 → q < 65536 → kx_ccL B f q n (Cl1, w1) = (kx_cc B p (Cl, w)) → ks_w E D 5 (kw_chk K k0 k1 l0 x0 n0 c0 t0 Cl1 w1 en sz ++ kw_pages K x0 x1 x2 B G) [some (.ref k0), some (.int (nI p)), some (.int (nI q)), some (.int (nI n)), some (.int (nI i))] 0 0 7 [] := by
    intro f
    induction f with
    | zero =>
      intro Cl1 w1 q n i g1 g2 g3
      refine ks_iload rfl C d_Checker_claimChain_7 ?_
      refine ks_sipush (a := 2720) rfl C d_Checker_claimChain_9 ?_
      refine ks_icmp_ge (tgt := 50) C (by omega) (by omega) (by decide) d_Checker_claimChain_12 (fun u1 => ?_) (fun u1 => ?_)
      · refine ks_iload_n rfl rfl C d_Checker_claimChain_50 ?_
        exact ks_iret C Z rfl rfl d_Checker_claimChain_51 rfl rfl ⟨ks_eqN (by rw [← g3]; rfl), by rw [← g3]; rfl⟩
      · exact (by omega : False).elim
    | succ f ih =>
      intro Cl1 w1 q n i g1 g2 g3
      refine ks_iload rfl C d_Checker_claimChain_7 ?_
      refine ks_sipush (a := 2720) rfl C d_Checker_claimChain_9 ?_
      refine ks_icmp_ge (tgt := 50) C (by omega) (by omega) (by decide) d_Checker_claimChain_12 (fun u2 => ?_) (fun u2 => ?_)
      · refine ks_iload_n rfl rfl C d_Checker_claimChain_50 ?_
        exact ks_iret C Z rfl rfl d_Checker_claimChain_51 rfl rfl (False.elim (by omega))
      · refine ks_iload_n rfl rfl C d_Checker_claimChain_15 ?_
        refine ks_if_eq (tgt := 50) C (by omega) (by decide) d_Checker_claimChain_16 (fun u3 => ?_) (fun u3 => ?_)
        · refine ks_iload_n rfl rfl C d_Checker_claimChain_50 ?_
          exact ks_iret C Z rfl rfl d_Checker_claimChain_51 rfl rfl ⟨ks_eqN (by rw [← g3, kx_ccL, if_pos (by omega)]), by rw [← g3, kx_ccL, if_pos (by omega)]⟩
        · refine ks_aload_n rfl rfl C d_Checker_claimChain_19 ?_
          refine ks_iload_n rfl rfl C d_Checker_claimChain_20 ?_
          refine ks_cx (ci := 7) (q0 := 0) (kw_chk K k0 k1 l0 x0 n0 c0 t0 _ _ _ _ ++ kw_pages K x0 x1 x2 _ _) C (c_Checker_claim l D K k0 k1 l0 x0 x1 x2 n0 c0 t0 _ _ _ _ _ _ _ (by omega)) yw_Checker_claim sel_Checker_claim lk_Checker_98 d_Checker_claimChain_21 rfl rfl rfl [0, 1, 2, 3, 4] [] [0, 1, 2, 3, 4] rfl rfl rfl rfl (by decide) rfl rfl rfl rfl rfl ⟨by decide, by decide⟩ ⟨by decide, by decide⟩ rfl (Nat.le_of_ble_eq_true rfl) ?_
          refine ks_ifB_ne (tgt := 29) C (by decide) d_Checker_claimChain_24 (fun u4 => ?_) (fun u4 => ?_)
          · refine ks_iinc C rfl (z := 1) rfl (by decide) rfl d_Checker_claimChain_29 ?_
            refine ks_aload_n rfl rfl C d_Checker_claimChain_32 ?_
            refine ks_get (k := 0) C 0 7 in_Checker rfl (by decide) fk_Checker_32 rfl rfl rfl d_Checker_claimChain_33 ?_
            refine ks_iload_n rfl rfl C d_Checker_claimChain_36 ?_
            refine ks_bipush (a := 32) rfl C d_Checker_claimChain_37 ?_
            refine ks_imul C d_Checker_claimChain_39 ?_
            refine ks_cx (ci := 1) (q0 := 0) (kw_chk K k0 k1 l0 x0 n0 c0 t0 _ _ _ _ ++ kw_pages K x0 x1 x2 _ _) C (c_Pages_number l D K x0 x1 x2 _ _ _ (by omega)) yw_Pages_number sel_Pages_number lk_Checker_51 d_Checker_claimChain_40 rfl rfl rfl [2, 3, 4] [0, 1] [0, 1, 2, 3, 4] rfl rfl rfl rfl (by decide) rfl rfl rfl rfl rfl ⟨by decide, by decide⟩ ⟨by decide, by decide⟩ rfl (Nat.le_of_ble_eq_true rfl) ?_
            refine ks_top_num (fun u5 => ?_)
            refine ks_istore_n C rfl (by decide) rfl d_Checker_claimChain_43 ?_
            refine ks_iinc C rfl (z := 1) rfl (by decide) rfl d_Checker_claimChain_44 ?_
            refine ks_goto (tgt := 7) C (by decide) d_Checker_claimChain_47 ?_
            exact ih _ _ _ _ _ (by omega) (by omega) (by rw [← g3, kx_ccL, if_neg (by omega), if_pos u4])
          · refine ks_iload_n rfl rfl C d_Checker_claimChain_27 ?_
            exact ks_iret C Z rfl rfl d_Checker_claimChain_28 rfl rfl ⟨ks_eqN (by rw [← g3, kx_ccL, if_neg (by omega), if_neg (by rw [u4]; decide)]), by rw [← g3, kx_ccL, if_neg (by omega), if_neg (by rw [u4]; decide)]⟩
  refine ks_iload_n rfl rfl C d_Checker_claimChain_0 ?_
  refine ks_istore_n C rfl (by decide) rfl d_Checker_claimChain_1 ?_
  refine ks_iconst (a := 0) rfl C d_Checker_claimChain_2 ?_
  refine ks_istore_n C rfl (by decide) rfl d_Checker_claimChain_3 ?_
  refine ks_iconst (a := 0) rfl C d_Checker_claimChain_4 ?_
  refine ks_istore C (by decide) rfl d_Checker_claimChain_5 ?_
  exact loop 2720 Cl w p 0 0 (by omega) (by omega) rfl
set_option maxRecDepth 100000 in
set_option maxHeartbeats 4000000 in
theorem c_Checker_claimFree (l : Launch) (D : va_G) (K : Nat → ClassId) (k0 k1 l0 x0 x1 x2 n0 c0 t0 : Nat) (Cl : Nat → Bool) (w en sz : Nat) (B : Nat → UInt8) (G : Nat → Bool) : ks_M l D (ks_T K) (ks_R 4) y_Checker_claimFree b_Checker_claimFree 1 none [.ref k0] (kw_chk K k0 k1 l0 x0 n0 c0 t0 Cl w en sz ++ kw_pages K x0 x1 x2 B G) (ks_f none (kw_chk K k0 k1 l0 x0 n0 c0 t0 (kx_cf B (Cl, w)).1 (kx_cf B (Cl, w)).2 en sz ++ kw_pages K x0 x1 x2 B G)) := by
  refine ks_M.of 0 (by decide) (Nat.le_of_ble_eq_true rfl) ?_
  intro E C Z
  refine ks_aload_n rfl rfl C d_Checker_claimFree_0 ?_
  refine ks_aload_n rfl rfl C d_Checker_claimFree_1 ?_
  refine ks_aload_n rfl rfl C d_Checker_claimFree_2 ?_
  refine ks_get (k := 0) C 0 7 in_Checker rfl (by decide) fk_Checker_32 rfl rfl rfl d_Checker_claimFree_3 ?_
  refine ks_iconst (a := 2) rfl C d_Checker_claimFree_6 ?_
  refine ks_cx (ci := 1) (q0 := 0) (kw_chk K k0 k1 l0 x0 n0 c0 t0 _ _ _ _ ++ kw_pages K x0 x1 x2 _ _) C (c_Pages_number l D K x0 x1 x2 _ _ _ (by omega)) yw_Pages_number sel_Pages_number lk_Checker_51 d_Checker_claimFree_7 rfl rfl rfl [2, 3, 4] [0, 1] [0, 1, 2, 3, 4] rfl rfl rfl rfl (by decide) rfl rfl rfl rfl rfl ⟨by decide, by decide⟩ ⟨by decide, by decide⟩ rfl (Nat.le_of_ble_eq_true rfl) ?_
  refine ks_top_num (fun u1 => ?_)
  refine ks_cx (ci := 7) (q0 := 0) (kw_chk K k0 k1 l0 x0 n0 c0 t0 _ _ _ _ ++ kw_pages K x0 x1 x2 _ _) C (c_Checker_claimChain l D K k0 k1 l0 x0 x1 x2 n0 c0 t0 _ _ _ _ _ _ _ (by omega)) yw_Checker_claimChain sel_Checker_claimChain lk_Checker_95 d_Checker_claimFree_10 rfl rfl rfl [0, 1, 2, 3, 4] [] [0, 1, 2, 3, 4] rfl rfl rfl rfl (by decide) rfl rfl rfl rfl rfl ⟨by decide, by decide⟩ ⟨by decide, by decide⟩ rfl (Nat.le_of_ble_eq_true rfl) ?_
  refine ks_top_cc (fun u2 => ?_)
  refine ks_aload_n rfl rfl C d_Checker_claimFree_13 ?_
  refine ks_get (k := 0) C 0 7 in_Checker rfl (by decide) fk_Checker_32 rfl rfl rfl d_Checker_claimFree_14 ?_
  refine ks_iconst (a := 4) rfl C d_Checker_claimFree_17 ?_
  refine ks_cx (ci := 1) (q0 := 0) (kw_chk K k0 k1 l0 x0 n0 c0 t0 _ _ _ _ ++ kw_pages K x0 x1 x2 _ _) C (c_Pages_number l D K x0 x1 x2 _ _ _ (by omega)) yw_Pages_number sel_Pages_number lk_Checker_51 d_Checker_claimFree_18 rfl rfl rfl [2, 3, 4] [0, 1] [0, 1, 2, 3, 4] rfl rfl rfl rfl (by decide) rfl rfl rfl rfl rfl ⟨by decide, by decide⟩ ⟨by decide, by decide⟩ rfl (Nat.le_of_ble_eq_true rfl) ?_
  refine ks_top_num (fun u3 => ?_)
  refine ks_bool (decide ((kx_cc B (kv_num B 2) (Cl, w)).1 = kv_num B 4)) 29 (st := [.ref k0]) ?_ (fun J4 => ?_)
  · refine ks_cv (ci := 7) (q0 := 0) (kw_chk K k0 k1 l0 x0 n0 c0 t0 _ _ _ _ ++ kw_pages K x0 x1 x2 _ _) C (c_Checker_expect l D K k0 k1 l0 x0 n0 c0 t0 _ _ _ _ _) yw_Checker_expect sel_Checker_expect lk_Checker_61 d_Checker_claimFree_29 rfl rfl rfl [0, 1] [2, 3, 4] [3, 4, 0, 1, 2] rfl rfl rfl rfl (by decide) rfl rfl rfl rfl rfl ⟨by decide, by decide⟩ ⟨by decide, by decide⟩ rfl (Nat.le_of_ble_eq_true rfl) ?_
    exact ks_vret C Z rfl d_Checker_claimFree_32 rfl rfl ⟨rfl, rfl⟩
  · refine ks_icmp_ne (tgt := 28) C (by omega) (by omega) (by decide) d_Checker_claimFree_21 (fun u5 => ?_) (fun u5 => ?_)
    · refine ks_iconstB false rfl C d_Checker_claimFree_28 ?_
      exact J4 _ (decide_eq_false (by omega)).symm
    · refine ks_iconstB true rfl C d_Checker_claimFree_24 ?_
      refine ks_goto (tgt := 29) C (by decide) d_Checker_claimFree_25 ?_
      exact J4 _ (decide_eq_true (by omega)).symm
set_option maxRecDepth 100000 in
set_option maxHeartbeats 4000000 in
theorem c_Checker_expectAllClaimed (l : Launch) (D : va_G) (K : Nat → ClassId) (k0 k1 l0 x0 x1 x2 n0 c0 t0 : Nat) (Cl : Nat → Bool) (w en sz : Nat) (B : Nat → UInt8) (G : Nat → Bool) : ks_M l D (ks_T K) (ks_R 2) y_Checker_expectAllClaimed b_Checker_expectAllClaimed 3 none [.ref k0] (kw_chk K k0 k1 l0 x0 n0 c0 t0 Cl w en sz ++ kw_pages K x0 x1 x2 B G) (ks_f none (kw_chk K k0 k1 l0 x0 n0 c0 t0 Cl (kx_allL Cl (kv_used B) 9 w) en sz ++ kw_pages K x0 x1 x2 B G)) := by
  refine ks_M.of 2 (by decide) (Nat.le_of_ble_eq_true rfl) ?_
  intro E C Z
  have loop : ∀ (f : Nat) (w1 i : Nat), i + f = 9 + kv_used B → kv_used B ≤ 2711 → kx_allL Cl f i w1 = kx_allL Cl (kv_used B) 9 w → ks_w E D 3 (kw_chk K k0 k1 l0 x0 n0 c0 t0 Cl w1 en sz ++ kw_pages K x0 x1 x2 B G) [some (.ref k0), some (.int (nI (9 + kv_used B))), some (.int (nI i))] 0 0 14 [] := by
    intro f
    induction f with
    | zero =>
      intro w1 i g1 g2 g3
      refine ks_iload_n rfl rfl C d_Checker_expectAllClaimed_14 ?_
      refine ks_iload_n rfl rfl C d_Checker_expectAllClaimed_15 ?_
      refine ks_icmp_ge (tgt := 35) C (by omega) (by omega) (by decide) d_Checker_expectAllClaimed_16 (fun u1 => ?_) (fun u1 => ?_)
      · exact ks_vret C Z rfl d_Checker_expectAllClaimed_35 rfl rfl ⟨rfl, by rw [← g3]; rfl⟩
      · exact (by omega : False).elim
    | succ f ih =>
      intro w1 i g1 g2 g3
      refine ks_iload_n rfl rfl C d_Checker_expectAllClaimed_14 ?_
      refine ks_iload_n rfl rfl C d_Checker_expectAllClaimed_15 ?_
      refine ks_icmp_ge (tgt := 35) C (by omega) (by omega) (by decide) d_Checker_expectAllClaimed_16 (fun u2 => ?_) (fun u2 => ?_)
      · exact (by omega : False).elim
      · refine ks_aload_n rfl rfl C d_Checker_expectAllClaimed_19 ?_
        refine ks_aload_n rfl rfl C d_Checker_expectAllClaimed_20 ?_
        refine ks_get (k := 4) C 0 7 in_Checker rfl (by decide) fk_Checker_9 rfl rfl rfl d_Checker_expectAllClaimed_21 ?_
        refine ks_iload_n rfl rfl C d_Checker_expectAllClaimed_24 ?_
        refine ks_zald C 1 1 rfl rfl (by omega) (by omega) d_Checker_expectAllClaimed_25 ?_
        refine ks_cv (ci := 7) (q0 := 0) (kw_chk K k0 k1 l0 x0 n0 c0 t0 _ _ _ _ ++ kw_pages K x0 x1 x2 _ _) C (c_Checker_expect l D K k0 k1 l0 x0 n0 c0 t0 _ _ _ _ _) yw_Checker_expect sel_Checker_expect lk_Checker_61 d_Checker_expectAllClaimed_26 rfl rfl rfl [0, 1] [2, 3, 4] [3, 4, 0, 1, 2] rfl rfl rfl rfl (by decide) rfl rfl rfl rfl rfl ⟨by decide, by decide⟩ ⟨by decide, by decide⟩ rfl (Nat.le_of_ble_eq_true rfl) ?_
        refine ks_iinc C rfl (z := 1) rfl (by decide) rfl d_Checker_expectAllClaimed_29 ?_
        refine ks_goto (tgt := 14) C (by decide) d_Checker_expectAllClaimed_32 ?_
        exact ih _ _ (by omega) g2 g3
  refine ks_bipush (a := 9) rfl C d_Checker_expectAllClaimed_0 ?_
  refine ks_aload_n rfl rfl C d_Checker_expectAllClaimed_2 ?_
  refine ks_get (k := 0) C 0 7 in_Checker rfl (by decide) fk_Checker_32 rfl rfl rfl d_Checker_expectAllClaimed_3 ?_
  refine ks_cx (ci := 1) (q0 := 0) (kw_chk K k0 k1 l0 x0 n0 c0 t0 _ _ _ _ ++ kw_pages K x0 x1 x2 _ _) C (c_Pages_used l D K x0 x1 x2 _ _) yw_Pages_used sel_Pages_used lk_Checker_57 d_Checker_expectAllClaimed_6 rfl rfl rfl [2, 3, 4] [0, 1] [0, 1, 2, 3, 4] rfl rfl rfl rfl (by decide) rfl rfl rfl rfl rfl ⟨by decide, by decide⟩ ⟨by decide, by decide⟩ rfl (Nat.le_of_ble_eq_true rfl) ?_
  refine ks_top_used (fun u3 => ?_)
  refine ks_iadd C d_Checker_expectAllClaimed_9 ?_
  refine ks_istore_n C rfl (by decide) rfl d_Checker_expectAllClaimed_10 ?_
  refine ks_bipush (a := 9) rfl C d_Checker_expectAllClaimed_11 ?_
  refine ks_istore_n C rfl (by decide) rfl d_Checker_expectAllClaimed_13 ?_
  exact loop (kv_used B) w 9 (by omega) (by omega) rfl
