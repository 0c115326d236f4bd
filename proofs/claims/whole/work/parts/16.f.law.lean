/-! the law's loop -/
set_option maxRecDepth 100000 in
set_option maxHeartbeats 4000000 in
theorem kl_turn {E : ks_E} {l : Launch} {D : va_G} {K : Nat → ClassId} {z0 tk0 tv0 gk0 gv0 d0 x0 m0 c0 t0 k0 tk1 tv1 gk1 gv1 d1 d2 d3 x1 x2 m1 s0 s1 s2 s3 s4 t1 t2 n0 n1 k1 l0 l1 o0 a0 a1 a2 a3 a4 a5 a6 a7 a8 a9 a10 a11 a12 a13 b L i : Nat} {sc : Nat → Nat} (hNT : l.stackTraces = false) (C : ks_ok E l D (ks_T K) room_1 code 8 "KeyStoreLaw") (X : kl_X E b L (fun j => nI (sc j))) (HH : kl_H E) (hL : L ≤ 2048) (hsc : ∀ j, sc j < 4294967296) (hi : i + 4 ≤ L) {d : kz_D} {O : Nat → Int64} {e : kz_E} {s : kz_S} (hC : kz_C d s) (hN : kz_N e s) {cs ss : Nat} (hcs : cs + 1 ≤ 601024) (hss : ss + 6 ≤ 7293034) (k : ∀ (d' : kz_D) (O' : Nat → Int64) (e' : kz_E) (s' : kz_S), kz_C d' s' → kz_N e' s' → ks_w E D 8 ((kz_W K z0 tk0 tv0 gk0 gv0 d0 x0 m0 c0 t0 k0 tk1 tv1 gk1 gv1 d1 d2 d3 x1 x2 m1 s0 s1 s2 s3 s4 t1 t2 n0 n1 k1 l0 l1 d' ++ kw_out K o0 O') ++ kz_V K a0 a1 a2 a3 a4 a5 a6 a7 a8 a9 a10 a11 a12 a13 e') [some (.ref b), some (.ref z0), some (.ref a0), some (.ref o0), some (.int (nI i)), none, none, none] (cs + 1) (ss + 6) 1248 []) : ks_w E D 8 ((kz_W K z0 tk0 tv0 gk0 gv0 d0 x0 m0 c0 t0 k0 tk1 tv1 gk1 gv1 d1 d2 d3 x1 x2 m1 s0 s1 s2 s3 s4 t1 t2 n0 n1 k1 l0 l1 d ++ kw_out K o0 O) ++ kz_V K a0 a1 a2 a3 a4 a5 a6 a7 a8 a9 a10 a11 a12 a13 e) [some (.ref b), some (.ref z0), some (.ref a0), some (.ref o0), some (.int (nI i)), none, none, none] cs ss 39 [.int (nI (sc i % 32))] := by
  have hlt : sc i % 32 < 32 := Nat.mod_lt _ (by decide)
  generalize sc i % 32 = m at hlt ⊢
  by_cases hm : 20 ≤ m
  · exact ks_tsOut (tgt := 1248) C (by omega) (by omega) (by decide) d_Law_law_39 (ks_more (Nat.le_succ _) (Nat.le_add_right _ 6) (k d O e s hC hN))
  rcases (by omega : m = 0 ∨ m = 1 ∨ m = 2 ∨ m = 3 ∨ m = 4 ∨ m = 5 ∨ m = 6 ∨ m = 7 ∨ m = 8 ∨ m = 9 ∨ m = 10 ∨ m = 11 ∨ m = 12 ∨ m = 13 ∨ m = 14 ∨ m = 15 ∨ m = 16 ∨ m = 17 ∨ m = 18 ∨ m = 19) with rfl | rfl | rfl | rfl | rfl | rfl | rfl | rfl | rfl | rfl | rfl | rfl | rfl | rfl | rfl | rfl | rfl | rfl | rfl | rfl
  · refine ks_tsIn (tgt := 132) C (by decide) (by decide) rfl (by decide) d_Law_law_39 ?_
    exact lb_key hNT C X HH hL hsc hi hC hN hcs hss k
  · refine ks_tsIn (tgt := 232) C (by decide) (by decide) rfl (by decide) d_Law_law_39 ?_
    exact lb_value hNT C X HH hL hsc hi hC hN hcs hss k
  · refine ks_tsIn (tgt := 332) C (by decide) (by decide) rfl (by decide) d_Law_law_39 ?_
    by_cases hx : sc (i + 1) = 0
    · exact lb_fill0 hNT C X HH hL hsc hi hx hC hN hcs hss k
    · exact lb_fill1 hNT C X HH hL hsc hi hx hC hN hcs hss k
  · refine ks_tsIn (tgt := 428) C (by decide) (by decide) rfl (by decide) d_Law_law_39 ?_
    exact lb_tree hNT C X HH hL hsc hi hC hN hcs hss k
  · refine ks_tsIn (tgt := 472) C (by decide) (by decide) rfl (by decide) d_Law_law_39 ?_
    exact lb_drop hNT C X HH hL hsc hi hC hN hcs hss k
  · refine ks_tsIn (tgt := 528) C (by decide) (by decide) rfl (by decide) d_Law_law_39 ?_
    exact lb_put hNT C X HH hL hsc hi hC hN hcs hss k
  · refine ks_tsIn (tgt := 591) C (by decide) (by decide) rfl (by decide) d_Law_law_39 ?_
    exact lb_remove hNT C X HH hL hsc hi hC hN hcs hss k
  · refine ks_tsIn (tgt := 654) C (by decide) (by decide) rfl (by decide) d_Law_law_39 ?_
    by_cases hx : sc (i + 2) = 0
    · exact lb_seek0 hNT C X HH hL hsc hi hx hC hN hcs hss k
    · exact lb_seek1 hNT C X HH hL hsc hi hx hC hN hcs hss k
  · refine ks_tsIn (tgt := 745) C (by decide) (by decide) rfl (by decide) d_Law_law_39 ?_
    exact lb_take hNT C X HH hL hsc hi hC hN hcs hss k
  · refine ks_tsIn (tgt := 789) C (by decide) (by decide) rfl (by decide) d_Law_law_39 ?_
    exact lb_found hNT C X HH hL hsc hi hC hN hcs hss k
  · refine ks_tsIn (tgt := 856) C (by decide) (by decide) rfl (by decide) d_Law_law_39 ?_
    exact lb_begin hNT C X HH hL hsc hi hC hN hcs hss k
  · refine ks_tsIn (tgt := 880) C (by decide) (by decide) rfl (by decide) d_Law_law_39 ?_
    exact lb_commit hNT C X HH hL hsc hi hC hN hcs hss k
  · refine ks_tsIn (tgt := 904) C (by decide) (by decide) rfl (by decide) d_Law_law_39 ?_
    exact lb_rollback hNT C X HH hL hsc hi hC hN hcs hss k
  · refine ks_tsIn (tgt := 928) C (by decide) (by decide) rfl (by decide) d_Law_law_39 ?_
    exact lb_mark hNT C X HH hL hsc hi hC hN hcs hss k
  · refine ks_tsIn (tgt := 972) C (by decide) (by decide) rfl (by decide) d_Law_law_39 ?_
    exact lb_back hNT C X HH hL hsc hi hC hN hcs hss k
  · refine ks_tsIn (tgt := 1008) C (by decide) (by decide) rfl (by decide) d_Law_law_39 ?_
    exact lb_keep hNT C X HH hL hsc hi hC hN hcs hss k
  · refine ks_tsIn (tgt := 1044) C (by decide) (by decide) rfl (by decide) d_Law_law_39 ?_
    exact lb_power hNT C X HH hL hsc hi hC hN hcs hss k
  · refine ks_tsIn (tgt := 1104) C (by decide) (by decide) rfl (by decide) d_Law_law_39 ?_
    exact lb_reopen hNT C X HH hL hsc hi hC hN hcs hss k
  · refine ks_tsIn (tgt := 1148) C (by decide) (by decide) rfl (by decide) d_Law_law_39 ?_
    exact lb_told hNT C X HH hL hsc hi hC hN hcs hss k
  · refine ks_tsIn (tgt := 1204) C (by decide) (by decide) rfl (by decide) d_Law_law_39 ?_
    exact lb_check hNT C X HH hL hsc hi hC hN hcs hss k
set_option maxRecDepth 100000 in
set_option maxHeartbeats 4000000 in
theorem kl_loop {E : ks_E} {l : Launch} {D : va_G} {K : Nat → ClassId} {z0 tk0 tv0 gk0 gv0 d0 x0 m0 c0 t0 k0 tk1 tv1 gk1 gv1 d1 d2 d3 x1 x2 m1 s0 s1 s2 s3 s4 t1 t2 n0 n1 k1 l0 l1 o0 a0 a1 a2 a3 a4 a5 a6 a7 a8 a9 a10 a11 a12 a13 b L : Nat} {sc : Nat → Nat} (hNT : l.stackTraces = false) (C : ks_ok E l D (ks_T K) room_1 code 8 "KeyStoreLaw") (X : kl_X E b L (fun j => nI (sc j))) (HH : kl_H E) (hL : L ≤ 2048) (hsc : ∀ j, sc j < 4294967296) (k : ∀ (d' : kz_D) (O' : Nat → Int64) (e' : kz_E) (j : Nat), ks_w E D 8 ((kz_W K z0 tk0 tv0 gk0 gv0 d0 x0 m0 c0 t0 k0 tk1 tv1 gk1 gv1 d1 d2 d3 x1 x2 m1 s0 s1 s2 s3 s4 t1 t2 n0 n1 k1 l0 l1 d' ++ kw_out K o0 O') ++ kz_V K a0 a1 a2 a3 a4 a5 a6 a7 a8 a9 a10 a11 a12 a13 e') [some (.ref b), some (.ref z0), some (.ref a0), some (.ref o0), some (.int (nI j)), none, none, none] 601024 7293034 1254 []) : ∀ (n i : Nat) (d : kz_D) (O : Nat → Int64) (e : kz_E) (s : kz_S) (cs ss : Nat), kz_C d s → kz_N e s → L < i + 4 * n + 4 → i < L + 4 → cs + n ≤ 601024 → ss + 6 * n ≤ 7293034 → ks_w E D 8 ((kz_W K z0 tk0 tv0 gk0 gv0 d0 x0 m0 c0 t0 k0 tk1 tv1 gk1 gv1 d1 d2 d3 x1 x2 m1 s0 s1 s2 s3 s4 t1 t2 n0 n1 k1 l0 l1 d ++ kw_out K o0 O) ++ kz_V K a0 a1 a2 a3 a4 a5 a6 a7 a8 a9 a10 a11 a12 a13 e) [some (.ref b), some (.ref z0), some (.ref a0), some (.ref o0), some (.int (nI i)), none, none, none] cs ss 23 [] := by
  intro n
  induction n with
  | zero =>
    intro i d O e s cs ss hC hN h1 h2 h3 h4
    refine ks_iload rfl C d_Law_law_23 ?_
    refine ks_aload_n rfl rfl C d_Law_law_25 ?_
    refine ks_slen C X d_Law_law_26 ?_
    refine ks_iconst (a := 4) rfl C d_Law_law_27 ?_
    refine ks_isubI C d_Law_law_28 ?_
    refine ks_icmpS_gt (tgt := 1254) C (by omega) (by omega) (by omega) (by decide) d_Law_law_29 (fun _ => ks_more (by omega) (by omega) (k d O e i)) (fun z => absurd (show L < i + 4 by omega) z)
  | succ n ih =>
    intro i d O e s cs ss hC hN h1 h2 h3 h4
    refine ks_iload rfl C d_Law_law_23 ?_
    refine ks_aload_n rfl rfl C d_Law_law_25 ?_
    refine ks_slen C X d_Law_law_26 ?_
    refine ks_iconst (a := 4) rfl C d_Law_law_27 ?_
    refine ks_isubI C d_Law_law_28 ?_
    refine ks_icmpS_gt (tgt := 1254) C (by omega) (by omega) (by omega) (by decide) d_Law_law_29 (fun _ => ks_more (by omega) (by omega) (k d O e i)) (fun z => ?_)
    have hi : i + 4 ≤ L := Nat.le_of_not_lt z
    refine ks_aload_n rfl rfl C d_Law_law_32 ?_
    refine ks_iload rfl C d_Law_law_33 ?_
    refine ks_sld C X (by omega) hL d_Law_law_35 ?_
    refine ks_bipush (a := 31) rfl C d_Law_law_36 ?_
    refine ks_and31 C d_Law_law_38 ?_
    refine kl_turn hNT C X HH hL hsc hi hC hN (by omega) (by omega) (fun d' O' e' s' hC' hN' => ?_)
    refine ks_iinc (a := i) (z := 4) C rfl rfl (by decide) rfl d_Law_law_1248 ?_
    refine ks_goto (tgt := 23) C (by decide) d_Law_law_1251 ?_
    exact ih (i + 4) d' O' e' s' (cs + 1) (ss + 6) hC' hN' (by omega) (by omega) (by omega) (by omega)
