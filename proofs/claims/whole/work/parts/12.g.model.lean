/-! contracts of the reference: the calls, by cases -/
theorem km_is_t {TO PL KS : Nat → Nat} {Y KY : Nat → UInt8} {LI : Nat → Nat} {kn m k t : Nat} (h : km_is TO PL KS Y KY LI kn m k t = true) : k < m ∧ TO (LI k) = t ∧ km_cmp Y KY (PL (LI k)) (KS (LI k)) kn = 0 := of_decide_eq_true h
theorem km_tree_t {w : Int64} {t : Nat} (h : km_tree w t = true) : t < 64 := (of_decide_eq_true (p := t < 64 ∧ km_bit w t) h).1
def km_on (w : Int64) (t : Nat) : Int64 := w ||| ((1 : Int64) <<< ((nI t).toInt64 &&& 63))
def km_off (w : Int64) (t : Nat) : Int64 := w &&& (((1 : Int64) <<< ((nI t).toInt64 &&& 63)) ^^^ (-1))
def km_fwL (R : Nat → UInt8) (len fr : Nat) : Nat → Nat → Int64 → Int64
  | 0, _, w => w
  | f + 1, k, w => if 8448 < fr ∨ len ≤ fr + k then w else km_fwL R len fr f (k + 1) (w <<< ((nI 8).toInt64 &&& 63) ||| (nI (R (fr + k)).toNat).toInt64)
def km_fw (R : Nat → UInt8) (len fr : Nat) : Int64 := km_fwL R len fr 8 0 0
def km_told (off opn fnd : Bool) (mk kn vn fkn fvn cn sz : Nat) (en : Nat → Nat) (tr : Nat → Bool) (w : Nat) : Nat :=
  if w = 9 ∨ 73 < w then 0 else if w = 0 then (if off = true then 0 else 1) else if off = true then 0 else if 10 ≤ w then (if tr (w - 10) = true then en (w - 10) else 4294967295) else if w = 1 then (if opn = true then 1 else 0) else if w = 2 then mk else if w = 3 then cn else if w = 4 then sz else if w = 5 then kn else if w = 6 then vn else if fnd = true then (if w = 7 then fkn else fvn) else 0
theorem km_szL_ge (LI KS VS : Nat → Nat) : ∀ f i n : Nat, n ≤ km_szL LI KS VS f i n
  | 0, _, _ => Nat.le_refl _
  | f + 1, i, n => Nat.le_trans (by omega) (km_szL_ge LI KS VS f (i + 1) (n + (16 + KS (LI i) + VS (LI i))))
theorem km_szL_at (LI KS VS : Nat → Nat) {k : Nat} : ∀ f i n : Nat, i ≤ k → k < i + f → n + (16 + KS (LI k) + VS (LI k)) ≤ km_szL LI KS VS f i n
  | 0, _, _, _, _ => by omega
  | f + 1, i, n, h1, h2 => by
    rw [km_szL]
    by_cases h : i = k
    · subst h; exact km_szL_ge LI KS VS f (i + 1) _
    · exact Nat.le_trans (by omega) (km_szL_at LI KS VS (k := k) f (i + 1) (n + (16 + KS (LI i) + VS (LI i))) (by omega) (by omega))
theorem km_size_ge (LI KS VS : Nat → Nat) {k m : Nat} (h : k < m) : 16 + KS (LI k) + VS (LI k) ≤ km_size LI KS VS m := by
  have := km_szL_at LI KS VS (k := k) m 0 0 (by omega) (by omega)
  unfold km_size; omega
theorem km_shift_0 (LI : Nat → Nat) (n : Nat) : km_shift LI n n = LI := by funext j; unfold km_shift; rw [if_neg (by omega)]
theorem km_shift_s (LI : Nat → Nat) {k kk n : Nat} (e : k = kk + 1) (h : k ≤ n) : va_up (km_shift LI k n) k (km_shift LI k n (k - 1)) = km_shift LI kk n := by
  subst e
  funext j
  unfold va_up km_shift
  by_cases h1 : j = kk + 1
  · subst h1; rw [if_pos rfl, if_neg (by omega), if_pos (by omega)]
  · rw [if_neg h1]
    by_cases h2 : kk + 1 < j ∧ j ≤ n
    · rw [if_pos h2, if_pos (by omega)]
    · rw [if_neg h2, if_neg (by omega)]
theorem km_h3_out {mk : Nat} {MY LI : Nat → Nat} {p : Nat} (h3 : ∀ s, s < 2 + mk → MY s ≤ 2900 ∧ ∀ k, k < MY s → LI (2900 * s + k) < 20600) (hp : p < MY 0) : ∀ s, s < 2 + mk → va_up MY 0 (MY 0 - 1) s ≤ 2900 ∧ ∀ k, k < va_up MY 0 (MY 0 - 1) s → km_out LI p (MY 0 - 1) (2900 * s + k) < 20600 := by
  intro s hs
  obtain ⟨h, g⟩ := h3 s hs
  unfold va_up km_out
  by_cases e : s = 0
  · subst e
    rw [if_pos rfl]
    refine ⟨by omega, fun k hk => ?_⟩
    have g1 := g k (by omega)
    have g2 := g (k + 1) (by omega)
    rw [Nat.mul_zero, Nat.zero_add] at g1 g2 ⊢
    split
    · exact g2
    · exact g1
  · rw [if_neg e]
    refine ⟨h, fun k hk => ?_⟩
    obtain ⟨h0, -⟩ := h3 0 (by omega)
    rw [if_neg (by omega)]
    exact g k hk
set_option maxRecDepth 100000 in
set_option maxHeartbeats 4000000 in
theorem c_Model_begin (l : Launch) (D : va_G) (K : Nat → ClassId) (a0 a1 a2 a3 a4 a5 a6 a7 a8 a9 a10 a11 a12 a13 : Nat) (TO PL KS VS MV : Nat → Nat) (Y : Nat → UInt8) (LI MY : Nat → Nat) (TR : Nat → Int64) (KY VY FK FV : Nat → UInt8) (rn us kn vn fkn fvn mk : Nat) (off opn fnd : Bool) (wh af th : Nat) : ks_M l D (ks_T K) (ks_R 1) y_Model_begin b_Model_begin 1 none [.ref a0] (kw_model K a0 a1 a2 a3 a4 a5 a6 a7 a8 a9 a10 a11 a12 a13 TO PL KS VS MV Y LI MY TR KY VY FK FV rn us kn vn fkn fvn mk off opn fnd wh af th) (fun vR wR => ((off = true ∨ opn = true) ∧ vR = none ∧ wR = (kw_model K a0 a1 a2 a3 a4 a5 a6 a7 a8 a9 a10 a11 a12 a13 TO PL KS VS MV Y LI MY TR KY VY FK FV rn us kn vn fkn fvn mk off opn fnd wh af 1)) ∨ ((off = false ∧ opn = false) ∧ vR = none ∧ wR = (kw_model K a0 a1 a2 a3 a4 a5 a6 a7 a8 a9 a10 a11 a12 a13 TO PL KS VS MV Y LI MY TR KY VY FK FV rn us kn vn fkn fvn 0 off true fnd wh af 0))) := by
  refine ks_M.of 0 (by decide) (Nat.le_of_ble_eq_true rfl) ?_
  intro E C Z
  refine ks_aload_n rfl rfl C d_Model_begin_0 ?_
  refine ks_aload_n rfl rfl C d_Model_begin_1 ?_
  refine ks_get (k := 20) C 0 9 in_Model rfl (by decide) fk_Model_65 rfl rfl rfl d_Model_begin_2 ?_
  refine ks_ifB_ne (tgt := 15) C (by decide) d_Model_begin_5 (fun u1 => ?_) (fun u1 => ?_)
  · refine ks_iconstB true rfl C d_Model_begin_15 ?_
    refine ks_goto (tgt := 20) C (by decide) d_Model_begin_16 ?_
    refine ks_cx (ci := 9) (q0 := 0) (kw_model K a0 a1 a2 a3 a4 a5 a6 a7 a8 a9 a10 a11 a12 a13 _ _ _ _ _ _ _ _ _ _ _ _ _ _ _ _ _ _ _ _ _ _ _ _ _ _) C (c_Model_isShut_1 l D K a0 a1 a2 a3 a4 a5 a6 a7 a8 a9 a10 a11 a12 a13 _ _ _ _ _ _ _ _ _ _ _ _ _ _ _ _ _ _ _ _ _ _ _ _ _ _) yw_Model_isShut sel_Model_isShut lk_Model_141 d_Model_begin_20 rfl rfl rfl [0, 1, 2, 3, 4, 5, 6, 7, 8, 9, 10, 11, 12, 13] [] [0, 1, 2, 3, 4, 5, 6, 7, 8, 9, 10, 11, 12, 13] rfl rfl rfl rfl (by decide) rfl rfl rfl rfl rfl ⟨by decide, by decide⟩ ⟨by decide, by decide⟩ rfl (Nat.le_of_ble_eq_true rfl) ?_
    refine ks_ifB_eq (tgt := 27) C (by decide) d_Model_begin_23 (fun h => absurd h (by decide)) (fun _ => ?_)
    exact ks_vret C Z rfl d_Model_begin_26 rfl rfl (Or.inl ⟨Or.inl u1, rfl, rfl⟩)
  · refine ks_aload_n rfl rfl C d_Model_begin_8 ?_
    refine ks_get (k := 21) C 0 9 in_Model rfl (by decide) fk_Model_101 rfl rfl rfl d_Model_begin_9 ?_
    refine ks_ifB_eq (tgt := 19) C (by decide) d_Model_begin_12 (fun u3 => ?_) (fun u3 => ?_)
    · refine ks_iconstB false rfl C d_Model_begin_19 ?_
      refine ks_cx (ci := 9) (q0 := 0) (kw_model K a0 a1 a2 a3 a4 a5 a6 a7 a8 a9 a10 a11 a12 a13 _ _ _ _ _ _ _ _ _ _ _ _ _ _ _ _ _ _ _ _ _ _ _ _ _ _) C (c_Model_isShut_0 l D K a0 a1 a2 a3 a4 a5 a6 a7 a8 a9 a10 a11 a12 a13 _ _ _ _ _ _ _ _ _ _ _ _ _ _ _ _ _ _ _ _ _ _ _ _ _ _) yw_Model_isShut sel_Model_isShut lk_Model_141 d_Model_begin_20 rfl rfl rfl [0, 1, 2, 3, 4, 5, 6, 7, 8, 9, 10, 11, 12, 13] [] [0, 1, 2, 3, 4, 5, 6, 7, 8, 9, 10, 11, 12, 13] rfl rfl rfl rfl (by decide) rfl rfl rfl rfl rfl ⟨by decide, by decide⟩ ⟨by decide, by decide⟩ rfl (Nat.le_of_ble_eq_true rfl) ?_
      refine ks_ifB_eq (tgt := 27) C (by decide) d_Model_begin_23 (fun _ => ?_) (fun h => absurd h (by decide))
      refine ks_aload_n rfl rfl C d_Model_begin_27 ?_
      refine ks_iconstB true rfl C d_Model_begin_28 ?_
      refine ks_put (k := 21) (ws' := (kw_model K a0 a1 a2 a3 a4 a5 a6 a7 a8 a9 a10 a11 a12 a13 _ _ _ _ _ _ _ _ _ _ _ _ _ _ _ _ _ _ _ _ _ _ _ _ _ _)) C 0 9 t_Model ty_Model nm_Model in_Model rfl (by decide) fk_Model_101 rfl rfl (ks_nb1 _) (ks_fb1 _) rfl (Nat.le_of_ble_eq_true rfl) rfl d_Model_begin_29 ?_
      refine ks_aload_n rfl rfl C d_Model_begin_32 ?_
      refine ks_iconst (a := 0) rfl C d_Model_begin_33 ?_
      refine ks_put (k := 19) (ws' := (kw_model K a0 a1 a2 a3 a4 a5 a6 a7 a8 a9 a10 a11 a12 a13 _ _ _ _ _ _ _ _ _ _ _ _ _ _ _ _ _ _ _ _ _ _ _ _ _ _)) C 0 9 t_Model ty_Model nm_Model in_Model rfl (by decide) fk_Model_88 rfl rfl rfl rfl rfl (Nat.le_of_ble_eq_true rfl) rfl d_Model_begin_34 ?_
      exact ks_vret C Z rfl d_Model_begin_37 rfl rfl (Or.inr (⟨⟨u1, u3⟩, rfl, rfl⟩))
    · refine ks_iconstB true rfl C d_Model_begin_15 ?_
      refine ks_goto (tgt := 20) C (by decide) d_Model_begin_16 ?_
      refine ks_cx (ci := 9) (q0 := 0) (kw_model K a0 a1 a2 a3 a4 a5 a6 a7 a8 a9 a10 a11 a12 a13 _ _ _ _ _ _ _ _ _ _ _ _ _ _ _ _ _ _ _ _ _ _ _ _ _ _) C (c_Model_isShut_1 l D K a0 a1 a2 a3 a4 a5 a6 a7 a8 a9 a10 a11 a12 a13 _ _ _ _ _ _ _ _ _ _ _ _ _ _ _ _ _ _ _ _ _ _ _ _ _ _) yw_Model_isShut sel_Model_isShut lk_Model_141 d_Model_begin_20 rfl rfl rfl [0, 1, 2, 3, 4, 5, 6, 7, 8, 9, 10, 11, 12, 13] [] [0, 1, 2, 3, 4, 5, 6, 7, 8, 9, 10, 11, 12, 13] rfl rfl rfl rfl (by decide) rfl rfl rfl rfl rfl ⟨by decide, by decide⟩ ⟨by decide, by decide⟩ rfl (Nat.le_of_ble_eq_true rfl) ?_
      refine ks_ifB_eq (tgt := 27) C (by decide) d_Model_begin_23 (fun h => absurd h (by decide)) (fun _ => ?_)
      exact ks_vret C Z rfl d_Model_begin_26 rfl rfl (Or.inl ⟨Or.inr u3, rfl, rfl⟩)
set_option maxRecDepth 100000 in
set_option maxHeartbeats 4000000 in
theorem c_Model_rollback (l : Launch) (D : va_G) (K : Nat → ClassId) (a0 a1 a2 a3 a4 a5 a6 a7 a8 a9 a10 a11 a12 a13 : Nat) (TO PL KS VS MV : Nat → Nat) (Y : Nat → UInt8) (LI MY : Nat → Nat) (TR : Nat → Int64) (KY VY FK FV : Nat → UInt8) (rn us kn vn fkn fvn mk : Nat) (off opn fnd : Bool) (wh af th : Nat) (h1 : MY 1 ≤ 2900) : ks_M l D (ks_T K) (ks_R 1) y_Model_rollback b_Model_rollback 1 none [.ref a0] (kw_model K a0 a1 a2 a3 a4 a5 a6 a7 a8 a9 a10 a11 a12 a13 TO PL KS VS MV Y LI MY TR KY VY FK FV rn us kn vn fkn fvn mk off opn fnd wh af th) (fun vR wR => ((off = true ∨ opn = false) ∧ vR = none ∧ wR = (kw_model K a0 a1 a2 a3 a4 a5 a6 a7 a8 a9 a10 a11 a12 a13 TO PL KS VS MV Y LI MY TR KY VY FK FV rn us kn vn fkn fvn mk off opn fnd wh af 1)) ∨ ((off = false ∧ opn = true) ∧ vR = none ∧ wR = (kw_model K a0 a1 a2 a3 a4 a5 a6 a7 a8 a9 a10 a11 a12 a13 TO PL KS VS MV Y (va_cpy LI LI (2900 * 1) (2900 * 0) (MY 1)) (va_up MY 0 (MY 1)) (va_up TR 0 (TR 1)) KY VY FK FV rn us kn vn fkn fvn 0 off false fnd wh af 0))) := by
  refine ks_M.of 0 (by decide) (Nat.le_of_ble_eq_true rfl) ?_
  intro E C Z
  refine ks_aload_n rfl rfl C d_Model_rollback_0 ?_
  refine ks_aload_n rfl rfl C d_Model_rollback_1 ?_
  refine ks_get (k := 20) C 0 9 in_Model rfl (by decide) fk_Model_65 rfl rfl rfl d_Model_rollback_2 ?_
  refine ks_ifB_ne (tgt := 15) C (by decide) d_Model_rollback_5 (fun u1 => ?_) (fun u1 => ?_)
  · refine ks_iconstB true rfl C d_Model_rollback_15 ?_
    refine ks_goto (tgt := 20) C (by decide) d_Model_rollback_16 ?_
    refine ks_cx (ci := 9) (q0 := 0) (kw_model K a0 a1 a2 a3 a4 a5 a6 a7 a8 a9 a10 a11 a12 a13 _ _ _ _ _ _ _ _ _ _ _ _ _ _ _ _ _ _ _ _ _ _ _ _ _ _) C (c_Model_isShut_1 l D K a0 a1 a2 a3 a4 a5 a6 a7 a8 a9 a10 a11 a12 a13 _ _ _ _ _ _ _ _ _ _ _ _ _ _ _ _ _ _ _ _ _ _ _ _ _ _) yw_Model_isShut sel_Model_isShut lk_Model_141 d_Model_rollback_20 rfl rfl rfl [0, 1, 2, 3, 4, 5, 6, 7, 8, 9, 10, 11, 12, 13] [] [0, 1, 2, 3, 4, 5, 6, 7, 8, 9, 10, 11, 12, 13] rfl rfl rfl rfl (by decide) rfl rfl rfl rfl rfl ⟨by decide, by decide⟩ ⟨by decide, by decide⟩ rfl (Nat.le_of_ble_eq_true rfl) ?_
    refine ks_ifB_eq (tgt := 27) C (by decide) d_Model_rollback_23 (fun h => absurd h (by decide)) (fun _ => ?_)
    exact ks_vret C Z rfl d_Model_rollback_26 rfl rfl (Or.inl ⟨(Or.inl u1), rfl, rfl⟩)
  · refine ks_aload_n rfl rfl C d_Model_rollback_8 ?_
    refine ks_get (k := 21) C 0 9 in_Model rfl (by decide) fk_Model_101 rfl rfl rfl d_Model_rollback_9 ?_
    refine ks_ifB_ne (tgt := 19) C (by decide) d_Model_rollback_12 (fun u3 => ?_) (fun u3 => ?_)
    · refine ks_iconstB false rfl C d_Model_rollback_19 ?_
      refine ks_cx (ci := 9) (q0 := 0) (kw_model K a0 a1 a2 a3 a4 a5 a6 a7 a8 a9 a10 a11 a12 a13 _ _ _ _ _ _ _ _ _ _ _ _ _ _ _ _ _ _ _ _ _ _ _ _ _ _) C (c_Model_isShut_0 l D K a0 a1 a2 a3 a4 a5 a6 a7 a8 a9 a10 a11 a12 a13 _ _ _ _ _ _ _ _ _ _ _ _ _ _ _ _ _ _ _ _ _ _ _ _ _ _) yw_Model_isShut sel_Model_isShut lk_Model_141 d_Model_rollback_20 rfl rfl rfl [0, 1, 2, 3, 4, 5, 6, 7, 8, 9, 10, 11, 12, 13] [] [0, 1, 2, 3, 4, 5, 6, 7, 8, 9, 10, 11, 12, 13] rfl rfl rfl rfl (by decide) rfl rfl rfl rfl rfl ⟨by decide, by decide⟩ ⟨by decide, by decide⟩ rfl (Nat.le_of_ble_eq_true rfl) ?_
      refine ks_ifB_eq (tgt := 27) C (by decide) d_Model_rollback_23 (fun _ => ?_) (fun h => absurd h (by decide))
      refine ks_aload_n rfl rfl C d_Model_rollback_27 ?_
      refine ks_iconst (a := 1) rfl C d_Model_rollback_28 ?_
      refine ks_iconst (a := 0) rfl C d_Model_rollback_29 ?_
      refine ks_cv (ci := 9) (q0 := 0) (kw_model K a0 a1 a2 a3 a4 a5 a6 a7 a8 a9 a10 a11 a12 a13 _ _ _ _ _ _ _ _ _ _ _ _ _ _ _ _ _ _ _ _ _ _ _ _ _ _) C (c_Model_copy l D K a0 a1 a2 a3 a4 a5 a6 a7 a8 a9 a10 a11 a12 a13 _ _ _ _ _ _ _ _ _ _ _ _ _ _ _ _ _ _ _ _ _ _ _ _ _ _ _ _ (by omega) (by omega) (by omega) (by omega)) yw_Model_copy sel_Model_copy lk_Model_148 d_Model_rollback_30 rfl rfl rfl [0, 1, 2, 3, 4, 5, 6, 7, 8, 9, 10, 11, 12, 13] [] [0, 1, 2, 3, 4, 5, 6, 7, 8, 9, 10, 11, 12, 13] rfl rfl rfl rfl (by decide) rfl rfl rfl rfl rfl ⟨by decide, by decide⟩ ⟨by decide, by decide⟩ rfl (Nat.le_of_ble_eq_true rfl) ?_
      refine ks_aload_n rfl rfl C d_Model_rollback_33 ?_
      refine ks_cv (ci := 9) (q0 := 0) (kw_model K a0 a1 a2 a3 a4 a5 a6 a7 a8 a9 a10 a11 a12 a13 _ _ _ _ _ _ _ _ _ _ _ _ _ _ _ _ _ _ _ _ _ _ _ _ _ _) C (c_Model_end l D K a0 a1 a2 a3 a4 a5 a6 a7 a8 a9 a10 a11 a12 a13 _ _ _ _ _ _ _ _ _ _ _ _ _ _ _ _ _ _ _ _ _ _ _ _ _ _) yw_Model_end sel_Model_end lk_Model_145 d_Model_rollback_34 rfl rfl rfl [0, 1, 2, 3, 4, 5, 6, 7, 8, 9, 10, 11, 12, 13] [] [0, 1, 2, 3, 4, 5, 6, 7, 8, 9, 10, 11, 12, 13] rfl rfl rfl rfl (by decide) rfl rfl rfl rfl rfl ⟨by decide, by decide⟩ ⟨by decide, by decide⟩ rfl (Nat.le_of_ble_eq_true rfl) ?_
      exact ks_vret C Z rfl d_Model_rollback_37 rfl rfl (Or.inr (⟨⟨u1, u3⟩, rfl, rfl⟩))
    · refine ks_iconstB true rfl C d_Model_rollback_15 ?_
      refine ks_goto (tgt := 20) C (by decide) d_Model_rollback_16 ?_
      refine ks_cx (ci := 9) (q0 := 0) (kw_model K a0 a1 a2 a3 a4 a5 a6 a7 a8 a9 a10 a11 a12 a13 _ _ _ _ _ _ _ _ _ _ _ _ _ _ _ _ _ _ _ _ _ _ _ _ _ _) C (c_Model_isShut_1 l D K a0 a1 a2 a3 a4 a5 a6 a7 a8 a9 a10 a11 a12 a13 _ _ _ _ _ _ _ _ _ _ _ _ _ _ _ _ _ _ _ _ _ _ _ _ _ _) yw_Model_isShut sel_Model_isShut lk_Model_141 d_Model_rollback_20 rfl rfl rfl [0, 1, 2, 3, 4, 5, 6, 7, 8, 9, 10, 11, 12, 13] [] [0, 1, 2, 3, 4, 5, 6, 7, 8, 9, 10, 11, 12, 13] rfl rfl rfl rfl (by decide) rfl rfl rfl rfl rfl ⟨by decide, by decide⟩ ⟨by decide, by decide⟩ rfl (Nat.le_of_ble_eq_true rfl) ?_
      refine ks_ifB_eq (tgt := 27) C (by decide) d_Model_rollback_23 (fun h => absurd h (by decide)) (fun _ => ?_)
      exact ks_vret C Z rfl d_Model_rollback_26 rfl rfl (Or.inl ⟨(Or.inr u3), rfl, rfl⟩)
set_option maxRecDepth 100000 in
set_option maxHeartbeats 4000000 in
theorem c_Model_commit (l : Launch) (D : va_G) (K : Nat → ClassId) (a0 a1 a2 a3 a4 a5 a6 a7 a8 a9 a10 a11 a12 a13 : Nat) (TO PL KS VS MV : Nat → Nat) (Y : Nat → UInt8) (LI MY : Nat → Nat) (TR : Nat → Int64) (KY VY FK FV : Nat → UInt8) (rn us kn vn fkn fvn mk : Nat) (off opn fnd : Bool) (wh af th : Nat) (h1 : MY 1 ≤ 2900) (h2 : MY 0 ≤ 2900) (h3 : wh ≤ 4) (h4 : af ≤ 1000) : ks_M l D (ks_T K) (ks_R 2) y_Model_commit b_Model_commit 2 none [.ref a0] (kw_model K a0 a1 a2 a3 a4 a5 a6 a7 a8 a9 a10 a11 a12 a13 TO PL KS VS MV Y LI MY TR KY VY FK FV rn us kn vn fkn fvn mk off opn fnd wh af th) (fun vR wR => ((off = true ∨ opn = false) ∧ vR = none ∧ wR = (kw_model K a0 a1 a2 a3 a4 a5 a6 a7 a8 a9 a10 a11 a12 a13 TO PL KS VS MV Y LI MY TR KY VY FK FV rn us kn vn fkn fvn mk off opn fnd wh af 1)) ∨ (((off = false ∧ opn = true) ∧ 3 ≤ wh) ∧ vR = none ∧ wR = (kw_model K a0 a1 a2 a3 a4 a5 a6 a7 a8 a9 a10 a11 a12 a13 TO PL KS VS MV Y (va_cpy LI LI (2900 * 0) (2900 * 1) (MY 0)) (va_up MY 1 (MY 0)) (va_up TR 1 (TR 0)) KY VY FK FV rn us kn vn fkn fvn 0 off false fnd wh af 0)) ∨ (((off = false ∧ opn = true) ∧ wh = 2 ∧ 0 < af) ∧ vR = none ∧ wR = (kw_model K a0 a1 a2 a3 a4 a5 a6 a7 a8 a9 a10 a11 a12 a13 TO PL KS VS MV Y (va_cpy (va_cpy LI LI (2900 * 0) (2900 * 1) (MY 0)) (va_cpy LI LI (2900 * 0) (2900 * 1) (MY 0)) (2900 * 1) (2900 * 0) ((va_up MY 1 (MY 0)) 1)) (va_up (va_up MY 1 (MY 0)) 0 ((va_up MY 1 (MY 0)) 1)) (va_up (va_up TR 1 (TR 0)) 0 ((va_up TR 1 (TR 0)) 1)) KY VY FK FV rn us 0 0 fkn fvn 0 true false false 4 af 2)) ∨ (((off = false ∧ opn = true) ∧ wh < 3 ∧ ¬ (wh = 2 ∧ 0 < af)) ∧ vR = none ∧ wR = (kw_model K a0 a1 a2 a3 a4 a5 a6 a7 a8 a9 a10 a11 a12 a13 TO PL KS VS MV Y (va_cpy LI LI (2900 * 1) (2900 * 0) (MY 1)) (va_up MY 0 (MY 1)) (va_up TR 0 (TR 1)) KY VY FK FV rn us 0 0 fkn fvn 0 true false false 4 af 2))) := by
  refine ks_M.of 1 (by decide) (Nat.le_of_ble_eq_true rfl) ?_
  intro E C Z
  refine ks_aload_n rfl rfl C d_Model_commit_0 ?_
  refine ks_aload_n rfl rfl C d_Model_commit_1 ?_
  refine ks_get (k := 20) C 0 9 in_Model rfl (by decide) fk_Model_65 rfl rfl rfl d_Model_commit_2 ?_
  refine ks_ifB_ne (tgt := 15) C (by decide) d_Model_commit_5 (fun u1 => ?_) (fun u1 => ?_)
  · refine ks_iconstB true rfl C d_Model_commit_15 ?_
    refine ks_goto (tgt := 20) C (by decide) d_Model_commit_16 ?_
    refine ks_cx (ci := 9) (q0 := 0) (kw_model K a0 a1 a2 a3 a4 a5 a6 a7 a8 a9 a10 a11 a12 a13 _ _ _ _ _ _ _ _ _ _ _ _ _ _ _ _ _ _ _ _ _ _ _ _ _ _) C (c_Model_isShut_1 l D K a0 a1 a2 a3 a4 a5 a6 a7 a8 a9 a10 a11 a12 a13 _ _ _ _ _ _ _ _ _ _ _ _ _ _ _ _ _ _ _ _ _ _ _ _ _ _) yw_Model_isShut sel_Model_isShut lk_Model_141 d_Model_commit_20 rfl rfl rfl [0, 1, 2, 3, 4, 5, 6, 7, 8, 9, 10, 11, 12, 13] [] [0, 1, 2, 3, 4, 5, 6, 7, 8, 9, 10, 11, 12, 13] rfl rfl rfl rfl (by decide) rfl rfl rfl rfl rfl ⟨by decide, by decide⟩ ⟨by decide, by decide⟩ rfl (Nat.le_of_ble_eq_true rfl) ?_
    refine ks_ifB_eq (tgt := 27) C (by decide) d_Model_commit_23 (fun h => absurd h (by decide)) (fun _ => ?_)
    exact ks_vret C Z rfl d_Model_commit_26 rfl rfl (Or.inl ⟨(Or.inl u1), rfl, rfl⟩)
  · refine ks_aload_n rfl rfl C d_Model_commit_8 ?_
    refine ks_get (k := 21) C 0 9 in_Model rfl (by decide) fk_Model_101 rfl rfl rfl d_Model_commit_9 ?_
    refine ks_ifB_ne (tgt := 19) C (by decide) d_Model_commit_12 (fun u3 => ?_) (fun u3 => ?_)
    · refine ks_iconstB false rfl C d_Model_commit_19 ?_
      refine ks_cx (ci := 9) (q0 := 0) (kw_model K a0 a1 a2 a3 a4 a5 a6 a7 a8 a9 a10 a11 a12 a13 _ _ _ _ _ _ _ _ _ _ _ _ _ _ _ _ _ _ _ _ _ _ _ _ _ _) C (c_Model_isShut_0 l D K a0 a1 a2 a3 a4 a5 a6 a7 a8 a9 a10 a11 a12 a13 _ _ _ _ _ _ _ _ _ _ _ _ _ _ _ _ _ _ _ _ _ _ _ _ _ _) yw_Model_isShut sel_Model_isShut lk_Model_141 d_Model_commit_20 rfl rfl rfl [0, 1, 2, 3, 4, 5, 6, 7, 8, 9, 10, 11, 12, 13] [] [0, 1, 2, 3, 4, 5, 6, 7, 8, 9, 10, 11, 12, 13] rfl rfl rfl rfl (by decide) rfl rfl rfl rfl rfl ⟨by decide, by decide⟩ ⟨by decide, by decide⟩ rfl (Nat.le_of_ble_eq_true rfl) ?_
      refine ks_ifB_eq (tgt := 27) C (by decide) d_Model_commit_23 (fun _ => ?_) (fun h => absurd h (by decide))
      refine ks_aload_n rfl rfl C d_Model_commit_27 ?_
      refine ks_get (k := 23) C 0 9 in_Model rfl (by decide) fk_Model_52 rfl rfl rfl d_Model_commit_28 ?_
      refine ks_iconst (a := 3) rfl C d_Model_commit_31 ?_
      refine ks_icmp_ge (tgt := 39) C (by omega) (by omega) (by decide) d_Model_commit_32 (fun u5 => ?_) (fun u5 => ?_)
      · refine ks_iconstB false rfl C d_Model_commit_39 ?_
        refine ks_istore_n C rfl (by decide) rfl d_Model_commit_40 ?_
        refine ks_iload_n rfl rfl C d_Model_commit_41 ?_
        refine ks_ifB_eq (tgt := 60) C (by decide) d_Model_commit_42 (fun _ => ?_) (fun h => absurd h (by decide))
        refine ks_aload_n rfl rfl C d_Model_commit_60 ?_
        refine ks_iconst (a := 0) rfl C d_Model_commit_61 ?_
        refine ks_iconst (a := 1) rfl C d_Model_commit_62 ?_
        refine ks_cv (ci := 9) (q0 := 0) (kw_model K a0 a1 a2 a3 a4 a5 a6 a7 a8 a9 a10 a11 a12 a13 _ _ _ _ _ _ _ _ _ _ _ _ _ _ _ _ _ _ _ _ _ _ _ _ _ _) C (c_Model_copy l D K a0 a1 a2 a3 a4 a5 a6 a7 a8 a9 a10 a11 a12 a13 _ _ _ _ _ _ _ _ _ _ _ _ _ _ _ _ _ _ _ _ _ _ _ _ _ _ _ _ (by omega) (by omega) (by omega) (by omega)) yw_Model_copy sel_Model_copy lk_Model_148 d_Model_commit_63 rfl rfl rfl [0, 1, 2, 3, 4, 5, 6, 7, 8, 9, 10, 11, 12, 13] [] [0, 1, 2, 3, 4, 5, 6, 7, 8, 9, 10, 11, 12, 13] rfl rfl rfl rfl (by decide) rfl rfl rfl rfl rfl ⟨by decide, by decide⟩ ⟨by decide, by decide⟩ rfl (Nat.le_of_ble_eq_true rfl) ?_
        refine ks_aload_n rfl rfl C d_Model_commit_66 ?_
        refine ks_cv (ci := 9) (q0 := 0) (kw_model K a0 a1 a2 a3 a4 a5 a6 a7 a8 a9 a10 a11 a12 a13 _ _ _ _ _ _ _ _ _ _ _ _ _ _ _ _ _ _ _ _ _ _ _ _ _ _) C (c_Model_end l D K a0 a1 a2 a3 a4 a5 a6 a7 a8 a9 a10 a11 a12 a13 _ _ _ _ _ _ _ _ _ _ _ _ _ _ _ _ _ _ _ _ _ _ _ _ _ _) yw_Model_end sel_Model_end lk_Model_145 d_Model_commit_67 rfl rfl rfl [0, 1, 2, 3, 4, 5, 6, 7, 8, 9, 10, 11, 12, 13] [] [0, 1, 2, 3, 4, 5, 6, 7, 8, 9, 10, 11, 12, 13] rfl rfl rfl rfl (by decide) rfl rfl rfl rfl rfl ⟨by decide, by decide⟩ ⟨by decide, by decide⟩ rfl (Nat.le_of_ble_eq_true rfl) ?_
        refine ks_iload_n rfl rfl C d_Model_commit_70 ?_
        refine ks_ifB_ne (tgt := 75) C (by decide) d_Model_commit_71 (fun h => absurd h (by decide)) (fun _ => ?_)
        exact ks_vret C Z rfl d_Model_commit_74 rfl rfl (Or.inr (Or.inl ⟨⟨⟨u1, u3⟩, by omega⟩, rfl, rfl⟩))
      · refine ks_iconstB true rfl C d_Model_commit_35 ?_
        refine ks_goto (tgt := 40) C (by decide) d_Model_commit_36 ?_
        refine ks_istore_n C rfl (by decide) rfl d_Model_commit_40 ?_
        refine ks_iload_n rfl rfl C d_Model_commit_41 ?_
        refine ks_ifB_eq (tgt := 60) C (by decide) d_Model_commit_42 (fun h => absurd h (by decide)) (fun _ => ?_)
        refine ks_aload_n rfl rfl C d_Model_commit_45 ?_
        refine ks_get (k := 23) C 0 9 in_Model rfl (by decide) fk_Model_52 rfl rfl rfl d_Model_commit_46 ?_
        refine ks_iconst (a := 2) rfl C d_Model_commit_49 ?_
        refine ks_icmp_ne (tgt := 66) C (by omega) (by omega) (by decide) d_Model_commit_50 (fun u9 => ?_) (fun u9 => ?_)
        · refine ks_aload_n rfl rfl C d_Model_commit_66 ?_
          refine ks_cv (ci := 9) (q0 := 0) (kw_model K a0 a1 a2 a3 a4 a5 a6 a7 a8 a9 a10 a11 a12 a13 _ _ _ _ _ _ _ _ _ _ _ _ _ _ _ _ _ _ _ _ _ _ _ _ _ _) C (c_Model_end l D K a0 a1 a2 a3 a4 a5 a6 a7 a8 a9 a10 a11 a12 a13 _ _ _ _ _ _ _ _ _ _ _ _ _ _ _ _ _ _ _ _ _ _ _ _ _ _) yw_Model_end sel_Model_end lk_Model_145 d_Model_commit_67 rfl rfl rfl [0, 1, 2, 3, 4, 5, 6, 7, 8, 9, 10, 11, 12, 13] [] [0, 1, 2, 3, 4, 5, 6, 7, 8, 9, 10, 11, 12, 13] rfl rfl rfl rfl (by decide) rfl rfl rfl rfl rfl ⟨by decide, by decide⟩ ⟨by decide, by decide⟩ rfl (Nat.le_of_ble_eq_true rfl) ?_
          refine ks_iload_n rfl rfl C d_Model_commit_70 ?_
          refine ks_ifB_ne (tgt := 75) C (by decide) d_Model_commit_71 (fun _ => ?_) (fun h => absurd h (by decide))
          refine ks_aload_n rfl rfl C d_Model_commit_75 ?_
          refine ks_cv (ci := 9) (q0 := 0) (kw_model K a0 a1 a2 a3 a4 a5 a6 a7 a8 a9 a10 a11 a12 a13 _ _ _ _ _ _ _ _ _ _ _ _ _ _ _ _ _ _ _ _ _ _ _ _ _ _) C (c_Model_fall l D K a0 a1 a2 a3 a4 a5 a6 a7 a8 a9 a10 a11 a12 a13 _ _ _ _ _ _ _ _ _ _ _ _ _ _ _ _ _ _ _ _ _ _ _ _ _ _ (by first | omega | (show MY 0 ≤ 2900; omega))) yw_Model_fall sel_Model_fall lk_Model_155 d_Model_commit_76 rfl rfl rfl [0, 1, 2, 3, 4, 5, 6, 7, 8, 9, 10, 11, 12, 13] [] [0, 1, 2, 3, 4, 5, 6, 7, 8, 9, 10, 11, 12, 13] rfl rfl rfl rfl (by decide) rfl rfl rfl rfl rfl ⟨by decide, by decide⟩ ⟨by decide, by decide⟩ rfl (Nat.le_of_ble_eq_true rfl) ?_
          refine ks_aload_n rfl rfl C d_Model_commit_79 ?_
          refine ks_iconstB true rfl C d_Model_commit_80 ?_
          refine ks_put (k := 20) (ws' := (kw_model K a0 a1 a2 a3 a4 a5 a6 a7 a8 a9 a10 a11 a12 a13 _ _ _ _ _ _ _ _ _ _ _ _ _ _ _ _ _ _ _ _ _ _ _ _ _ _)) C 0 9 t_Model ty_Model nm_Model in_Model rfl (by decide) fk_Model_65 rfl rfl (ks_nb1 _) (ks_fb1 _) rfl (Nat.le_of_ble_eq_true rfl) rfl d_Model_commit_81 ?_
          refine ks_aload_n rfl rfl C d_Model_commit_84 ?_
          refine ks_iconst (a := 2) rfl C d_Model_commit_85 ?_
          refine ks_put (k := 25) (ws' := (kw_model K a0 a1 a2 a3 a4 a5 a6 a7 a8 a9 a10 a11 a12 a13 _ _ _ _ _ _ _ _ _ _ _ _ _ _ _ _ _ _ _ _ _ _ _ _ _ _)) C 0 9 t_Model ty_Model nm_Model in_Model rfl (by decide) fk_Model_56 rfl rfl rfl rfl rfl (Nat.le_of_ble_eq_true rfl) rfl d_Model_commit_86 ?_
          exact ks_vret C Z rfl d_Model_commit_89 rfl rfl (Or.inr (Or.inr (Or.inr (⟨⟨⟨u1, u3⟩, by omega⟩, rfl, rfl⟩))))
        · refine ks_aload_n rfl rfl C d_Model_commit_53 ?_
          refine ks_get (k := 24) C 0 9 in_Model rfl (by decide) fk_Model_152 rfl rfl rfl d_Model_commit_54 ?_
          refine ks_if_le (tgt := 66) C (by omega) (by decide) d_Model_commit_57 (fun u11 => ?_) (fun u11 => ?_)
          · refine ks_aload_n rfl rfl C d_Model_commit_66 ?_
            refine ks_cv (ci := 9) (q0 := 0) (kw_model K a0 a1 a2 a3 a4 a5 a6 a7 a8 a9 a10 a11 a12 a13 _ _ _ _ _ _ _ _ _ _ _ _ _ _ _ _ _ _ _ _ _ _ _ _ _ _) C (c_Model_end l D K a0 a1 a2 a3 a4 a5 a6 a7 a8 a9 a10 a11 a12 a13 _ _ _ _ _ _ _ _ _ _ _ _ _ _ _ _ _ _ _ _ _ _ _ _ _ _) yw_Model_end sel_Model_end lk_Model_145 d_Model_commit_67 rfl rfl rfl [0, 1, 2, 3, 4, 5, 6, 7, 8, 9, 10, 11, 12, 13] [] [0, 1, 2, 3, 4, 5, 6, 7, 8, 9, 10, 11, 12, 13] rfl rfl rfl rfl (by decide) rfl rfl rfl rfl rfl ⟨by decide, by decide⟩ ⟨by decide, by decide⟩ rfl (Nat.le_of_ble_eq_true rfl) ?_
            refine ks_iload_n rfl rfl C d_Model_commit_70 ?_
            refine ks_ifB_ne (tgt := 75) C (by decide) d_Model_commit_71 (fun _ => ?_) (fun h => absurd h (by decide))
            refine ks_aload_n rfl rfl C d_Model_commit_75 ?_
            refine ks_cv (ci := 9) (q0 := 0) (kw_model K a0 a1 a2 a3 a4 a5 a6 a7 a8 a9 a10 a11 a12 a13 _ _ _ _ _ _ _ _ _ _ _ _ _ _ _ _ _ _ _ _ _ _ _ _ _ _) C (c_Model_fall l D K a0 a1 a2 a3 a4 a5 a6 a7 a8 a9 a10 a11 a12 a13 _ _ _ _ _ _ _ _ _ _ _ _ _ _ _ _ _ _ _ _ _ _ _ _ _ _ (by first | omega | (show MY 0 ≤ 2900; omega))) yw_Model_fall sel_Model_fall lk_Model_155 d_Model_commit_76 rfl rfl rfl [0, 1, 2, 3, 4, 5, 6, 7, 8, 9, 10, 11, 12, 13] [] [0, 1, 2, 3, 4, 5, 6, 7, 8, 9, 10, 11, 12, 13] rfl rfl rfl rfl (by decide) rfl rfl rfl rfl rfl ⟨by decide, by decide⟩ ⟨by decide, by decide⟩ rfl (Nat.le_of_ble_eq_true rfl) ?_
            refine ks_aload_n rfl rfl C d_Model_commit_79 ?_
            refine ks_iconstB true rfl C d_Model_commit_80 ?_
            refine ks_put (k := 20) (ws' := (kw_model K a0 a1 a2 a3 a4 a5 a6 a7 a8 a9 a10 a11 a12 a13 _ _ _ _ _ _ _ _ _ _ _ _ _ _ _ _ _ _ _ _ _ _ _ _ _ _)) C 0 9 t_Model ty_Model nm_Model in_Model rfl (by decide) fk_Model_65 rfl rfl (ks_nb1 _) (ks_fb1 _) rfl (Nat.le_of_ble_eq_true rfl) rfl d_Model_commit_81 ?_
            refine ks_aload_n rfl rfl C d_Model_commit_84 ?_
            refine ks_iconst (a := 2) rfl C d_Model_commit_85 ?_
            refine ks_put (k := 25) (ws' := (kw_model K a0 a1 a2 a3 a4 a5 a6 a7 a8 a9 a10 a11 a12 a13 _ _ _ _ _ _ _ _ _ _ _ _ _ _ _ _ _ _ _ _ _ _ _ _ _ _)) C 0 9 t_Model ty_Model nm_Model in_Model rfl (by decide) fk_Model_56 rfl rfl rfl rfl rfl (Nat.le_of_ble_eq_true rfl) rfl d_Model_commit_86 ?_
            exact ks_vret C Z rfl d_Model_commit_89 rfl rfl (Or.inr (Or.inr (Or.inr (⟨⟨⟨u1, u3⟩, by omega⟩, rfl, rfl⟩))))
          · refine ks_aload_n rfl rfl C d_Model_commit_60 ?_
            refine ks_iconst (a := 0) rfl C d_Model_commit_61 ?_
            refine ks_iconst (a := 1) rfl C d_Model_commit_62 ?_
            refine ks_cv (ci := 9) (q0 := 0) (kw_model K a0 a1 a2 a3 a4 a5 a6 a7 a8 a9 a10 a11 a12 a13 _ _ _ _ _ _ _ _ _ _ _ _ _ _ _ _ _ _ _ _ _ _ _ _ _ _) C (c_Model_copy l D K a0 a1 a2 a3 a4 a5 a6 a7 a8 a9 a10 a11 a12 a13 _ _ _ _ _ _ _ _ _ _ _ _ _ _ _ _ _ _ _ _ _ _ _ _ _ _ _ _ (by omega) (by omega) (by omega) (by omega)) yw_Model_copy sel_Model_copy lk_Model_148 d_Model_commit_63 rfl rfl rfl [0, 1, 2, 3, 4, 5, 6, 7, 8, 9, 10, 11, 12, 13] [] [0, 1, 2, 3, 4, 5, 6, 7, 8, 9, 10, 11, 12, 13] rfl rfl rfl rfl (by decide) rfl rfl rfl rfl rfl ⟨by decide, by decide⟩ ⟨by decide, by decide⟩ rfl (Nat.le_of_ble_eq_true rfl) ?_
            refine ks_aload_n rfl rfl C d_Model_commit_66 ?_
            refine ks_cv (ci := 9) (q0 := 0) (kw_model K a0 a1 a2 a3 a4 a5 a6 a7 a8 a9 a10 a11 a12 a13 _ _ _ _ _ _ _ _ _ _ _ _ _ _ _ _ _ _ _ _ _ _ _ _ _ _) C (c_Model_end l D K a0 a1 a2 a3 a4 a5 a6 a7 a8 a9 a10 a11 a12 a13 _ _ _ _ _ _ _ _ _ _ _ _ _ _ _ _ _ _ _ _ _ _ _ _ _ _) yw_Model_end sel_Model_end lk_Model_145 d_Model_commit_67 rfl rfl rfl [0, 1, 2, 3, 4, 5, 6, 7, 8, 9, 10, 11, 12, 13] [] [0, 1, 2, 3, 4, 5, 6, 7, 8, 9, 10, 11, 12, 13] rfl rfl rfl rfl (by decide) rfl rfl rfl rfl rfl ⟨by decide, by decide⟩ ⟨by decide, by decide⟩ rfl (Nat.le_of_ble_eq_true rfl) ?_
            refine ks_iload_n rfl rfl C d_Model_commit_70 ?_
            refine ks_ifB_ne (tgt := 75) C (by decide) d_Model_commit_71 (fun _ => ?_) (fun h => absurd h (by decide))
            refine ks_aload_n rfl rfl C d_Model_commit_75 ?_
            refine ks_cv (ci := 9) (q0 := 0) (kw_model K a0 a1 a2 a3 a4 a5 a6 a7 a8 a9 a10 a11 a12 a13 _ _ _ _ _ _ _ _ _ _ _ _ _ _ _ _ _ _ _ _ _ _ _ _ _ _) C (c_Model_fall l D K a0 a1 a2 a3 a4 a5 a6 a7 a8 a9 a10 a11 a12 a13 _ _ _ _ _ _ _ _ _ _ _ _ _ _ _ _ _ _ _ _ _ _ _ _ _ _ (by first | omega | (show MY 0 ≤ 2900; omega))) yw_Model_fall sel_Model_fall lk_Model_155 d_Model_commit_76 rfl rfl rfl [0, 1, 2, 3, 4, 5, 6, 7, 8, 9, 10, 11, 12, 13] [] [0, 1, 2, 3, 4, 5, 6, 7, 8, 9, 10, 11, 12, 13] rfl rfl rfl rfl (by decide) rfl rfl rfl rfl rfl ⟨by decide, by decide⟩ ⟨by decide, by decide⟩ rfl (Nat.le_of_ble_eq_true rfl) ?_
            refine ks_aload_n rfl rfl C d_Model_commit_79 ?_
            refine ks_iconstB true rfl C d_Model_commit_80 ?_
            refine ks_put (k := 20) (ws' := (kw_model K a0 a1 a2 a3 a4 a5 a6 a7 a8 a9 a10 a11 a12 a13 _ _ _ _ _ _ _ _ _ _ _ _ _ _ _ _ _ _ _ _ _ _ _ _ _ _)) C 0 9 t_Model ty_Model nm_Model in_Model rfl (by decide) fk_Model_65 rfl rfl (ks_nb1 _) (ks_fb1 _) rfl (Nat.le_of_ble_eq_true rfl) rfl d_Model_commit_81 ?_
            refine ks_aload_n rfl rfl C d_Model_commit_84 ?_
            refine ks_iconst (a := 2) rfl C d_Model_commit_85 ?_
            refine ks_put (k := 25) (ws' := (kw_model K a0 a1 a2 a3 a4 a5 a6 a7 a8 a9 a10 a11 a12 a13 _ _ _ _ _ _ _ _ _ _ _ _ _ _ _ _ _ _ _ _ _ _ _ _ _ _)) C 0 9 t_Model ty_Model nm_Model in_Model rfl (by decide) fk_Model_56 rfl rfl rfl rfl rfl (Nat.le_of_ble_eq_true rfl) rfl d_Model_commit_86 ?_
            exact ks_vret C Z rfl d_Model_commit_89 rfl rfl (Or.inr (Or.inr (Or.inl ⟨⟨⟨u1, u3⟩, by omega⟩, rfl, rfl⟩)))
    · refine ks_iconstB true rfl C d_Model_commit_15 ?_
      refine ks_goto (tgt := 20) C (by decide) d_Model_commit_16 ?_
      refine ks_cx (ci := 9) (q0 := 0) (kw_model K a0 a1 a2 a3 a4 a5 a6 a7 a8 a9 a10 a11 a12 a13 _ _ _ _ _ _ _ _ _ _ _ _ _ _ _ _ _ _ _ _ _ _ _ _ _ _) C (c_Model_isShut_1 l D K a0 a1 a2 a3 a4 a5 a6 a7 a8 a9 a10 a11 a12 a13 _ _ _ _ _ _ _ _ _ _ _ _ _ _ _ _ _ _ _ _ _ _ _ _ _ _) yw_Model_isShut sel_Model_isShut lk_Model_141 d_Model_commit_20 rfl rfl rfl [0, 1, 2, 3, 4, 5, 6, 7, 8, 9, 10, 11, 12, 13] [] [0, 1, 2, 3, 4, 5, 6, 7, 8, 9, 10, 11, 12, 13] rfl rfl rfl rfl (by decide) rfl rfl rfl rfl rfl ⟨by decide, by decide⟩ ⟨by decide, by decide⟩ rfl (Nat.le_of_ble_eq_true rfl) ?_
      refine ks_ifB_eq (tgt := 27) C (by decide) d_Model_commit_23 (fun h => absurd h (by decide)) (fun _ => ?_)
      exact ks_vret C Z rfl d_Model_commit_26 rfl rfl (Or.inl ⟨(Or.inr u3), rfl, rfl⟩)
set_option maxRecDepth 100000 in
set_option maxHeartbeats 4000000 in
theorem c_Model_mark (l : Launch) (D : va_G) (K : Nat → ClassId) (a0 a1 a2 a3 a4 a5 a6 a7 a8 a9 a10 a11 a12 a13 : Nat) (TO PL KS VS MV : Nat → Nat) (Y : Nat → UInt8) (LI MY : Nat → Nat) (TR : Nat → Int64) (KY VY FK FV : Nat → UInt8) (rn us kn vn fkn fvn mk : Nat) (off opn fnd : Bool) (wh af th : Nat) (h1 : MY 0 ≤ 2900) (h2 : mk ≤ 5) : ks_M l D (ks_T K) (ks_R 1) y_Model_mark b_Model_mark 1 (some .int) [.ref a0] (kw_model K a0 a1 a2 a3 a4 a5 a6 a7 a8 a9 a10 a11 a12 a13 TO PL KS VS MV Y LI MY TR KY VY FK FV rn us kn vn fkn fvn mk off opn fnd wh af th) (fun vR wR => ((off = true ∨ opn = false ∨ mk = 5) ∧ vR = some (.int (nI 0)) ∧ wR = (kw_model K a0 a1 a2 a3 a4 a5 a6 a7 a8 a9 a10 a11 a12 a13 TO PL KS VS MV Y LI MY TR KY VY FK FV rn us kn vn fkn fvn mk off opn fnd wh af 1)) ∨ (((off = false ∧ opn = true) ∧ mk < 5) ∧ vR = some (.int (nI (mk + 1))) ∧ wR = (kw_model K a0 a1 a2 a3 a4 a5 a6 a7 a8 a9 a10 a11 a12 a13 TO PL KS VS MV Y (va_cpy LI LI (2900 * 0) (2900 * (2 + mk)) (MY 0)) (va_up MY (2 + mk) (MY 0)) (va_up TR (2 + mk) (TR 0)) KY VY FK FV rn us kn vn fkn fvn (mk + 1) off opn fnd wh af 0))) := by
  refine ks_M.of 0 (by decide) (Nat.le_of_ble_eq_true rfl) ?_
  intro E C Z
  refine ks_aload_n rfl rfl C d_Model_mark_0 ?_
  refine ks_aload_n rfl rfl C d_Model_mark_1 ?_
  refine ks_get (k := 20) C 0 9 in_Model rfl (by decide) fk_Model_65 rfl rfl rfl d_Model_mark_2 ?_
  refine ks_ifB_ne (tgt := 23) C (by decide) d_Model_mark_5 (fun u1 => ?_) (fun u1 => ?_)
  · refine ks_iconstB true rfl C d_Model_mark_23 ?_
    refine ks_goto (tgt := 28) C (by decide) d_Model_mark_24 ?_
    refine ks_cx (ci := 9) (q0 := 0) (kw_model K a0 a1 a2 a3 a4 a5 a6 a7 a8 a9 a10 a11 a12 a13 _ _ _ _ _ _ _ _ _ _ _ _ _ _ _ _ _ _ _ _ _ _ _ _ _ _) C (c_Model_isShut_1 l D K a0 a1 a2 a3 a4 a5 a6 a7 a8 a9 a10 a11 a12 a13 _ _ _ _ _ _ _ _ _ _ _ _ _ _ _ _ _ _ _ _ _ _ _ _ _ _) yw_Model_isShut sel_Model_isShut lk_Model_141 d_Model_mark_28 rfl rfl rfl [0, 1, 2, 3, 4, 5, 6, 7, 8, 9, 10, 11, 12, 13] [] [0, 1, 2, 3, 4, 5, 6, 7, 8, 9, 10, 11, 12, 13] rfl rfl rfl rfl (by decide) rfl rfl rfl rfl rfl ⟨by decide, by decide⟩ ⟨by decide, by decide⟩ rfl (Nat.le_of_ble_eq_true rfl) ?_
    refine ks_ifB_eq (tgt := 36) C (by decide) d_Model_mark_31 (fun h => absurd h (by decide)) (fun _ => ?_)
    refine ks_iconst (a := 0) rfl C d_Model_mark_34 ?_
    exact ks_iret C Z rfl rfl d_Model_mark_35 rfl rfl (Or.inl ⟨Or.inl u1, rfl, rfl⟩)
  · refine ks_aload_n rfl rfl C d_Model_mark_8 ?_
    refine ks_get (k := 21) C 0 9 in_Model rfl (by decide) fk_Model_101 rfl rfl rfl d_Model_mark_9 ?_
    refine ks_ifB_eq (tgt := 23) C (by decide) d_Model_mark_12 (fun u3 => ?_) (fun u3 => ?_)
    · refine ks_iconstB true rfl C d_Model_mark_23 ?_
      refine ks_goto (tgt := 28) C (by decide) d_Model_mark_24 ?_
      refine ks_cx (ci := 9) (q0 := 0) (kw_model K a0 a1 a2 a3 a4 a5 a6 a7 a8 a9 a10 a11 a12 a13 _ _ _ _ _ _ _ _ _ _ _ _ _ _ _ _ _ _ _ _ _ _ _ _ _ _) C (c_Model_isShut_1 l D K a0 a1 a2 a3 a4 a5 a6 a7 a8 a9 a10 a11 a12 a13 _ _ _ _ _ _ _ _ _ _ _ _ _ _ _ _ _ _ _ _ _ _ _ _ _ _) yw_Model_isShut sel_Model_isShut lk_Model_141 d_Model_mark_28 rfl rfl rfl [0, 1, 2, 3, 4, 5, 6, 7, 8, 9, 10, 11, 12, 13] [] [0, 1, 2, 3, 4, 5, 6, 7, 8, 9, 10, 11, 12, 13] rfl rfl rfl rfl (by decide) rfl rfl rfl rfl rfl ⟨by decide, by decide⟩ ⟨by decide, by decide⟩ rfl (Nat.le_of_ble_eq_true rfl) ?_
      refine ks_ifB_eq (tgt := 36) C (by decide) d_Model_mark_31 (fun h => absurd h (by decide)) (fun _ => ?_)
      refine ks_iconst (a := 0) rfl C d_Model_mark_34 ?_
      exact ks_iret C Z rfl rfl d_Model_mark_35 rfl rfl (Or.inl ⟨Or.inr (Or.inl u3), rfl, rfl⟩)
    · refine ks_aload_n rfl rfl C d_Model_mark_15 ?_
      refine ks_get (k := 19) C 0 9 in_Model rfl (by decide) fk_Model_88 rfl rfl rfl d_Model_mark_16 ?_
      refine ks_iconst (a := 5) rfl C d_Model_mark_19 ?_
      refine ks_icmp_ne (tgt := 27) C (by omega) (by omega) (by decide) d_Model_mark_20 (fun u5 => ?_) (fun u5 => ?_)
      · refine ks_iconstB false rfl C d_Model_mark_27 ?_
        refine ks_cx (ci := 9) (q0 := 0) (kw_model K a0 a1 a2 a3 a4 a5 a6 a7 a8 a9 a10 a11 a12 a13 _ _ _ _ _ _ _ _ _ _ _ _ _ _ _ _ _ _ _ _ _ _ _ _ _ _) C (c_Model_isShut_0 l D K a0 a1 a2 a3 a4 a5 a6 a7 a8 a9 a10 a11 a12 a13 _ _ _ _ _ _ _ _ _ _ _ _ _ _ _ _ _ _ _ _ _ _ _ _ _ _) yw_Model_isShut sel_Model_isShut lk_Model_141 d_Model_mark_28 rfl rfl rfl [0, 1, 2, 3, 4, 5, 6, 7, 8, 9, 10, 11, 12, 13] [] [0, 1, 2, 3, 4, 5, 6, 7, 8, 9, 10, 11, 12, 13] rfl rfl rfl rfl (by decide) rfl rfl rfl rfl rfl ⟨by decide, by decide⟩ ⟨by decide, by decide⟩ rfl (Nat.le_of_ble_eq_true rfl) ?_
        refine ks_ifB_eq (tgt := 36) C (by decide) d_Model_mark_31 (fun _ => ?_) (fun h => absurd h (by decide))
        refine ks_aload_n rfl rfl C d_Model_mark_36 ?_
        refine ks_iconst (a := 0) rfl C d_Model_mark_37 ?_
        refine ks_iconst (a := 2) rfl C d_Model_mark_38 ?_
        refine ks_aload_n rfl rfl C d_Model_mark_39 ?_
        refine ks_get (k := 19) C 0 9 in_Model rfl (by decide) fk_Model_88 rfl rfl rfl d_Model_mark_40 ?_
        refine ks_iadd C d_Model_mark_43 ?_
        refine ks_cv (ci := 9) (q0 := 0) (kw_model K a0 a1 a2 a3 a4 a5 a6 a7 a8 a9 a10 a11 a12 a13 _ _ _ _ _ _ _ _ _ _ _ _ _ _ _ _ _ _ _ _ _ _ _ _ _ _) C (c_Model_copy l D K a0 a1 a2 a3 a4 a5 a6 a7 a8 a9 a10 a11 a12 a13 _ _ _ _ _ _ _ _ _ _ _ _ _ _ _ _ _ _ _ _ _ _ _ _ _ _ _ _ (by omega) (by omega) (by omega) (by omega)) yw_Model_copy sel_Model_copy lk_Model_148 d_Model_mark_44 rfl rfl rfl [0, 1, 2, 3, 4, 5, 6, 7, 8, 9, 10, 11, 12, 13] [] [0, 1, 2, 3, 4, 5, 6, 7, 8, 9, 10, 11, 12, 13] rfl rfl rfl rfl (by decide) rfl rfl rfl rfl rfl ⟨by decide, by decide⟩ ⟨by decide, by decide⟩ rfl (Nat.le_of_ble_eq_true rfl) ?_
        refine ks_aload_n rfl rfl C d_Model_mark_47 ?_
        refine ks_dup rfl C d_Model_mark_48 ?_
        refine ks_get (k := 19) C 0 9 in_Model rfl (by decide) fk_Model_88 rfl rfl rfl d_Model_mark_49 ?_
        refine ks_iconst (a := 1) rfl C d_Model_mark_52 ?_
        refine ks_iadd C d_Model_mark_53 ?_
        refine ks_put (k := 19) (ws' := (kw_model K a0 a1 a2 a3 a4 a5 a6 a7 a8 a9 a10 a11 a12 a13 _ _ _ _ _ _ _ _ _ _ _ _ _ _ _ _ _ _ _ _ _ _ _ _ _ _)) C 0 9 t_Model ty_Model nm_Model in_Model rfl (by decide) fk_Model_88 rfl rfl rfl rfl rfl (Nat.le_of_ble_eq_true rfl) rfl d_Model_mark_54 ?_
        refine ks_aload_n rfl rfl C d_Model_mark_57 ?_
        refine ks_get (k := 19) C 0 9 in_Model rfl (by decide) fk_Model_88 rfl rfl rfl d_Model_mark_58 ?_
        exact ks_iret C Z rfl rfl d_Model_mark_61 rfl rfl (Or.inr (⟨⟨⟨u1, u3⟩, by omega⟩, rfl, rfl⟩))
      · refine ks_iconstB true rfl C d_Model_mark_23 ?_
        refine ks_goto (tgt := 28) C (by decide) d_Model_mark_24 ?_
        refine ks_cx (ci := 9) (q0 := 0) (kw_model K a0 a1 a2 a3 a4 a5 a6 a7 a8 a9 a10 a11 a12 a13 _ _ _ _ _ _ _ _ _ _ _ _ _ _ _ _ _ _ _ _ _ _ _ _ _ _) C (c_Model_isShut_1 l D K a0 a1 a2 a3 a4 a5 a6 a7 a8 a9 a10 a11 a12 a13 _ _ _ _ _ _ _ _ _ _ _ _ _ _ _ _ _ _ _ _ _ _ _ _ _ _) yw_Model_isShut sel_Model_isShut lk_Model_141 d_Model_mark_28 rfl rfl rfl [0, 1, 2, 3, 4, 5, 6, 7, 8, 9, 10, 11, 12, 13] [] [0, 1, 2, 3, 4, 5, 6, 7, 8, 9, 10, 11, 12, 13] rfl rfl rfl rfl (by decide) rfl rfl rfl rfl rfl ⟨by decide, by decide⟩ ⟨by decide, by decide⟩ rfl (Nat.le_of_ble_eq_true rfl) ?_
        refine ks_ifB_eq (tgt := 36) C (by decide) d_Model_mark_31 (fun h => absurd h (by decide)) (fun _ => ?_)
        refine ks_iconst (a := 0) rfl C d_Model_mark_34 ?_
        exact ks_iret C Z rfl rfl d_Model_mark_35 rfl rfl (Or.inl ⟨Or.inr (Or.inr (by omega)), rfl, rfl⟩)
set_option maxRecDepth 100000 in
set_option maxHeartbeats 4000000 in
theorem c_Model_back (l : Launch) (D : va_G) (K : Nat → ClassId) (a0 a1 a2 a3 a4 a5 a6 a7 a8 a9 a10 a11 a12 a13 : Nat) (TO PL KS VS MV : Nat → Nat) (Y : Nat → UInt8) (LI MY : Nat → Nat) (TR : Nat → Int64) (KY VY FK FV : Nat → UInt8) (rn us kn vn fkn fvn mk : Nat) (off opn fnd : Bool) (wh af th : Nat) (m : Nat) (h1 : m < 4294967296) (h2 : mk ≤ 5) (h3 : ∀ s, s < 2 + mk → MY s ≤ 2900) : ks_M l D (ks_T K) (ks_R 1) y_Model_back b_Model_back 2 none [.ref a0, .int (nI m)] (kw_model K a0 a1 a2 a3 a4 a5 a6 a7 a8 a9 a10 a11 a12 a13 TO PL KS VS MV Y LI MY TR KY VY FK FV rn us kn vn fkn fvn mk off opn fnd wh af th) (fun vR wR => ((km_mth off opn mk m ≠ 0) ∧ vR = none ∧ wR = (kw_model K a0 a1 a2 a3 a4 a5 a6 a7 a8 a9 a10 a11 a12 a13 TO PL KS VS MV Y LI MY TR KY VY FK FV rn us kn vn fkn fvn mk off opn fnd wh af (km_mth off opn mk m))) ∨ ((km_mth off opn mk m = 0) ∧ vR = none ∧ wR = (kw_model K a0 a1 a2 a3 a4 a5 a6 a7 a8 a9 a10 a11 a12 a13 TO PL KS VS MV Y (va_cpy LI LI (2900 * (1 + m)) (2900 * 0) (MY (1 + m))) (va_up MY 0 (MY (1 + m))) (va_up TR 0 (TR (1 + m))) KY VY FK FV rn us kn vn fkn fvn m off opn fnd wh af (km_mth off opn mk m)))) := by
  refine ks_M.of 0 (by decide) (Nat.le_of_ble_eq_true rfl) ?_
  intro E C Z
  refine ks_aload_n rfl rfl C d_Model_back_0 ?_
  refine ks_iload_n rfl rfl C d_Model_back_1 ?_
  refine ks_cx (ci := 9) (q0 := 0) (kw_model K a0 a1 a2 a3 a4 a5 a6 a7 a8 a9 a10 a11 a12 a13 _ _ _ _ _ _ _ _ _ _ _ _ _ _ _ _ _ _ _ _ _ _ _ _ _ _) C (c_Model_isMark l D K a0 a1 a2 a3 a4 a5 a6 a7 a8 a9 a10 a11 a12 a13 _ _ _ _ _ _ _ _ _ _ _ _ _ _ _ _ _ _ _ _ _ _ _ _ _ _ _ (by omega) (by omega)) yw_Model_isMark sel_Model_isMark lk_Model_158 d_Model_back_2 rfl rfl rfl [0, 1, 2, 3, 4, 5, 6, 7, 8, 9, 10, 11, 12, 13] [] [0, 1, 2, 3, 4, 5, 6, 7, 8, 9, 10, 11, 12, 13] rfl rfl rfl rfl (by decide) rfl rfl rfl rfl rfl ⟨by decide, by decide⟩ ⟨by decide, by decide⟩ rfl (Nat.le_of_ble_eq_true rfl) ?_
  refine ks_ifD_ne (tgt := 9) C (by decide) d_Model_back_5 (fun u1 => ?_) (fun u1 => ?_)
  · obtain ⟨q1, q2, q3, q4⟩ := km_mth_0 u1
    have q5 := h3 (1 + m) (by omega)
    refine ks_aload_n rfl rfl C d_Model_back_9 ?_
    refine ks_iconst (a := 1) rfl C d_Model_back_10 ?_
    refine ks_iload_n rfl rfl C d_Model_back_11 ?_
    refine ks_iadd C d_Model_back_12 ?_
    refine ks_iconst (a := 0) rfl C d_Model_back_13 ?_
    refine ks_cv (ci := 9) (q0 := 0) (kw_model K a0 a1 a2 a3 a4 a5 a6 a7 a8 a9 a10 a11 a12 a13 _ _ _ _ _ _ _ _ _ _ _ _ _ _ _ _ _ _ _ _ _ _ _ _ _ _) C (c_Model_copy l D K a0 a1 a2 a3 a4 a5 a6 a7 a8 a9 a10 a11 a12 a13 _ _ _ _ _ _ _ _ _ _ _ _ _ _ _ _ _ _ _ _ _ _ _ _ _ _ _ _ (by omega) (by omega) (by omega) (by omega)) yw_Model_copy sel_Model_copy lk_Model_148 d_Model_back_14 rfl rfl rfl [0, 1, 2, 3, 4, 5, 6, 7, 8, 9, 10, 11, 12, 13] [] [0, 1, 2, 3, 4, 5, 6, 7, 8, 9, 10, 11, 12, 13] rfl rfl rfl rfl (by decide) rfl rfl rfl rfl rfl ⟨by decide, by decide⟩ ⟨by decide, by decide⟩ rfl (Nat.le_of_ble_eq_true rfl) ?_
    refine ks_aload_n rfl rfl C d_Model_back_17 ?_
    refine ks_iload_n rfl rfl C d_Model_back_18 ?_
    refine ks_put (k := 19) (ws' := (kw_model K a0 a1 a2 a3 a4 a5 a6 a7 a8 a9 a10 a11 a12 a13 _ _ _ _ _ _ _ _ _ _ _ _ _ _ _ _ _ _ _ _ _ _ _ _ _ _)) C 0 9 t_Model ty_Model nm_Model in_Model rfl (by decide) fk_Model_88 rfl rfl rfl rfl rfl (Nat.le_of_ble_eq_true rfl) rfl d_Model_back_19 ?_
    exact ks_vret C Z rfl d_Model_back_22 rfl rfl (Or.inr (⟨u1, rfl, rfl⟩))
  · exact ks_vret C Z rfl d_Model_back_8 rfl rfl (Or.inl ⟨u1, rfl, rfl⟩)
set_option maxRecDepth 100000 in
set_option maxHeartbeats 4000000 in
theorem c_Model_keep (l : Launch) (D : va_G) (K : Nat → ClassId) (a0 a1 a2 a3 a4 a5 a6 a7 a8 a9 a10 a11 a12 a13 : Nat) (TO PL KS VS MV : Nat → Nat) (Y : Nat → UInt8) (LI MY : Nat → Nat) (TR : Nat → Int64) (KY VY FK FV : Nat → UInt8) (rn us kn vn fkn fvn mk : Nat) (off opn fnd : Bool) (wh af th : Nat) (m : Nat) (h1 : m < 4294967296) (h2 : mk ≤ 5) : ks_M l D (ks_T K) (ks_R 1) y_Model_keep b_Model_keep 2 none [.ref a0, .int (nI m)] (kw_model K a0 a1 a2 a3 a4 a5 a6 a7 a8 a9 a10 a11 a12 a13 TO PL KS VS MV Y LI MY TR KY VY FK FV rn us kn vn fkn fvn mk off opn fnd wh af th) (fun vR wR => ((km_mth off opn mk m ≠ 0) ∧ vR = none ∧ wR = (kw_model K a0 a1 a2 a3 a4 a5 a6 a7 a8 a9 a10 a11 a12 a13 TO PL KS VS MV Y LI MY TR KY VY FK FV rn us kn vn fkn fvn mk off opn fnd wh af (km_mth off opn mk m))) ∨ ((km_mth off opn mk m = 0) ∧ vR = none ∧ wR = (kw_model K a0 a1 a2 a3 a4 a5 a6 a7 a8 a9 a10 a11 a12 a13 TO PL KS VS MV Y LI MY TR KY VY FK FV rn us kn vn fkn fvn (m - 1) off opn fnd wh af (km_mth off opn mk m)))) := by
  refine ks_M.of 0 (by decide) (Nat.le_of_ble_eq_true rfl) ?_
  intro E C Z
  refine ks_aload_n rfl rfl C d_Model_keep_0 ?_
  refine ks_iload_n rfl rfl C d_Model_keep_1 ?_
  refine ks_cx (ci := 9) (q0 := 0) (kw_model K a0 a1 a2 a3 a4 a5 a6 a7 a8 a9 a10 a11 a12 a13 _ _ _ _ _ _ _ _ _ _ _ _ _ _ _ _ _ _ _ _ _ _ _ _ _ _) C (c_Model_isMark l D K a0 a1 a2 a3 a4 a5 a6 a7 a8 a9 a10 a11 a12 a13 _ _ _ _ _ _ _ _ _ _ _ _ _ _ _ _ _ _ _ _ _ _ _ _ _ _ _ (by omega) (by omega)) yw_Model_isMark sel_Model_isMark lk_Model_158 d_Model_keep_2 rfl rfl rfl [0, 1, 2, 3, 4, 5, 6, 7, 8, 9, 10, 11, 12, 13] [] [0, 1, 2, 3, 4, 5, 6, 7, 8, 9, 10, 11, 12, 13] rfl rfl rfl rfl (by decide) rfl rfl rfl rfl rfl ⟨by decide, by decide⟩ ⟨by decide, by decide⟩ rfl (Nat.le_of_ble_eq_true rfl) ?_
  refine ks_ifD_eq (tgt := 15) C (by decide) d_Model_keep_5 (fun u1 => ?_) (fun u1 => ?_)
  · exact ks_vret C Z rfl d_Model_keep_15 rfl rfl (Or.inl ⟨u1, rfl, rfl⟩)
  · obtain ⟨q1, q2, q3, q4⟩ := km_mth_0 u1
    refine ks_aload_n rfl rfl C d_Model_keep_8 ?_
    refine ks_iload_n rfl rfl C d_Model_keep_9 ?_
    refine ks_iconst (a := 1) rfl C d_Model_keep_10 ?_
    refine ks_isub (by omega) C d_Model_keep_11 ?_
    refine ks_put (k := 19) (ws' := (kw_model K a0 a1 a2 a3 a4 a5 a6 a7 a8 a9 a10 a11 a12 a13 _ _ _ _ _ _ _ _ _ _ _ _ _ _ _ _ _ _ _ _ _ _ _ _ _ _)) C 0 9 t_Model ty_Model nm_Model in_Model rfl (by decide) fk_Model_88 rfl rfl rfl rfl rfl (Nat.le_of_ble_eq_true rfl) rfl d_Model_keep_12 ?_
    exact ks_vret C Z rfl d_Model_keep_15 rfl rfl (Or.inr (⟨u1, rfl, rfl⟩))
set_option maxRecDepth 100000 in
set_option maxHeartbeats 4000000 in
theorem c_Model_power (l : Launch) (D : va_G) (K : Nat → ClassId) (a0 a1 a2 a3 a4 a5 a6 a7 a8 a9 a10 a11 a12 a13 : Nat) (TO PL KS VS MV : Nat → Nat) (Y : Nat → UInt8) (LI MY : Nat → Nat) (TR : Nat → Int64) (KY VY FK FV : Nat → UInt8) (rn us kn vn fkn fvn mk : Nat) (off opn fnd : Bool) (wh af th : Nat) (w k b : Nat) (h1 : w < 4294967296) (h2 : k < 4294967296) (h3 : b < 4294967296) : ks_M l D (ks_T K) (ks_R 0) y_Model_power b_Model_power 4 none [.ref a0, .int (nI w), .int (nI k), .int (nI b)] (kw_model K a0 a1 a2 a3 a4 a5 a6 a7 a8 a9 a10 a11 a12 a13 TO PL KS VS MV Y LI MY TR KY VY FK FV rn us kn vn fkn fvn mk off opn fnd wh af th) (fun vR wR => ((4 < w ∨ 1000 < k ∨ 300 < b) ∧ vR = none ∧ wR = (kw_model K a0 a1 a2 a3 a4 a5 a6 a7 a8 a9 a10 a11 a12 a13 TO PL KS VS MV Y LI MY TR KY VY FK FV rn us kn vn fkn fvn mk off opn fnd wh af 1)) ∨ ((w ≤ 4 ∧ k ≤ 1000 ∧ b ≤ 300) ∧ vR = none ∧ wR = (kw_model K a0 a1 a2 a3 a4 a5 a6 a7 a8 a9 a10 a11 a12 a13 TO PL KS VS MV Y LI MY TR KY VY FK FV rn us kn vn fkn fvn mk off opn fnd w k 0))) := by
  refine ks_M.of 0 (by decide) (Nat.le_of_ble_eq_true rfl) ?_
  intro E C Z
  refine ks_aload_n rfl rfl C d_Model_power_0 ?_
  refine ks_iload_n rfl rfl C d_Model_power_1 ?_
  refine ks_ifR_lt (tgt := 32) C (by omega) (by decide) d_Model_power_2 (fun u1 => ?_) (fun u1 => ?_)
  · refine ks_iconst (a := 1) rfl C d_Model_power_32 ?_
    refine ks_goto (tgt := 37) C (by decide) d_Model_power_33 ?_
    refine ks_put (k := 25) (ws' := (kw_model K a0 a1 a2 a3 a4 a5 a6 a7 a8 a9 a10 a11 a12 a13 _ _ _ _ _ _ _ _ _ _ _ _ _ _ _ _ _ _ _ _ _ _ _ _ _ _)) C 0 9 t_Model ty_Model nm_Model in_Model rfl (by decide) fk_Model_56 rfl rfl rfl rfl rfl (Nat.le_of_ble_eq_true rfl) rfl d_Model_power_37 ?_
    refine ks_aload_n rfl rfl C d_Model_power_40 ?_
    refine ks_get (k := 25) C 0 9 in_Model rfl (by decide) fk_Model_56 rfl rfl rfl d_Model_power_41 ?_
    refine ks_if_le (tgt := 48) C (by omega) (by decide) d_Model_power_44 (fun h => absurd h (by decide)) (fun _ => ?_)
    exact ks_vret C Z rfl d_Model_power_47 rfl rfl (Or.inl ⟨by omega, rfl, rfl⟩)
  · refine ks_iload_n rfl rfl C d_Model_power_5 ?_
    refine ks_iconst (a := 4) rfl C d_Model_power_6 ?_
    refine ks_icmpR_gt (tgt := 32) C (by omega) (by omega) (by decide) d_Model_power_7 (fun u3 => ?_) (fun u3 => ?_)
    · refine ks_iconst (a := 1) rfl C d_Model_power_32 ?_
      refine ks_goto (tgt := 37) C (by decide) d_Model_power_33 ?_
      refine ks_put (k := 25) (ws' := (kw_model K a0 a1 a2 a3 a4 a5 a6 a7 a8 a9 a10 a11 a12 a13 _ _ _ _ _ _ _ _ _ _ _ _ _ _ _ _ _ _ _ _ _ _ _ _ _ _)) C 0 9 t_Model ty_Model nm_Model in_Model rfl (by decide) fk_Model_56 rfl rfl rfl rfl rfl (Nat.le_of_ble_eq_true rfl) rfl d_Model_power_37 ?_
      refine ks_aload_n rfl rfl C d_Model_power_40 ?_
      refine ks_get (k := 25) C 0 9 in_Model rfl (by decide) fk_Model_56 rfl rfl rfl d_Model_power_41 ?_
      refine ks_if_le (tgt := 48) C (by omega) (by decide) d_Model_power_44 (fun h => absurd h (by decide)) (fun _ => ?_)
      exact ks_vret C Z rfl d_Model_power_47 rfl rfl (Or.inl ⟨by omega, rfl, rfl⟩)
    · refine ks_iload_n rfl rfl C d_Model_power_10 ?_
      refine ks_ifR_lt (tgt := 32) C (by omega) (by decide) d_Model_power_11 (fun u5 => ?_) (fun u5 => ?_)
      · refine ks_iconst (a := 1) rfl C d_Model_power_32 ?_
        refine ks_goto (tgt := 37) C (by decide) d_Model_power_33 ?_
        refine ks_put (k := 25) (ws' := (kw_model K a0 a1 a2 a3 a4 a5 a6 a7 a8 a9 a10 a11 a12 a13 _ _ _ _ _ _ _ _ _ _ _ _ _ _ _ _ _ _ _ _ _ _ _ _ _ _)) C 0 9 t_Model ty_Model nm_Model in_Model rfl (by decide) fk_Model_56 rfl rfl rfl rfl rfl (Nat.le_of_ble_eq_true rfl) rfl d_Model_power_37 ?_
        refine ks_aload_n rfl rfl C d_Model_power_40 ?_
        refine ks_get (k := 25) C 0 9 in_Model rfl (by decide) fk_Model_56 rfl rfl rfl d_Model_power_41 ?_
        refine ks_if_le (tgt := 48) C (by omega) (by decide) d_Model_power_44 (fun h => absurd h (by decide)) (fun _ => ?_)
        exact ks_vret C Z rfl d_Model_power_47 rfl rfl (Or.inl ⟨by omega, rfl, rfl⟩)
      · refine ks_iload_n rfl rfl C d_Model_power_14 ?_
        refine ks_sipush (a := 1000) rfl C d_Model_power_15 ?_
        refine ks_icmpR_gt (tgt := 32) C (by omega) (by omega) (by decide) d_Model_power_18 (fun u7 => ?_) (fun u7 => ?_)
        · refine ks_iconst (a := 1) rfl C d_Model_power_32 ?_
          refine ks_goto (tgt := 37) C (by decide) d_Model_power_33 ?_
          refine ks_put (k := 25) (ws' := (kw_model K a0 a1 a2 a3 a4 a5 a6 a7 a8 a9 a10 a11 a12 a13 _ _ _ _ _ _ _ _ _ _ _ _ _ _ _ _ _ _ _ _ _ _ _ _ _ _)) C 0 9 t_Model ty_Model nm_Model in_Model rfl (by decide) fk_Model_56 rfl rfl rfl rfl rfl (Nat.le_of_ble_eq_true rfl) rfl d_Model_power_37 ?_
          refine ks_aload_n rfl rfl C d_Model_power_40 ?_
          refine ks_get (k := 25) C 0 9 in_Model rfl (by decide) fk_Model_56 rfl rfl rfl d_Model_power_41 ?_
          refine ks_if_le (tgt := 48) C (by omega) (by decide) d_Model_power_44 (fun h => absurd h (by decide)) (fun _ => ?_)
          exact ks_vret C Z rfl d_Model_power_47 rfl rfl (Or.inl ⟨by omega, rfl, rfl⟩)
        · refine ks_iload_n rfl rfl C d_Model_power_21 ?_
          refine ks_ifR_lt (tgt := 32) C (by omega) (by decide) d_Model_power_22 (fun u9 => ?_) (fun u9 => ?_)
          · refine ks_iconst (a := 1) rfl C d_Model_power_32 ?_
            refine ks_goto (tgt := 37) C (by decide) d_Model_power_33 ?_
            refine ks_put (k := 25) (ws' := (kw_model K a0 a1 a2 a3 a4 a5 a6 a7 a8 a9 a10 a11 a12 a13 _ _ _ _ _ _ _ _ _ _ _ _ _ _ _ _ _ _ _ _ _ _ _ _ _ _)) C 0 9 t_Model ty_Model nm_Model in_Model rfl (by decide) fk_Model_56 rfl rfl rfl rfl rfl (Nat.le_of_ble_eq_true rfl) rfl d_Model_power_37 ?_
            refine ks_aload_n rfl rfl C d_Model_power_40 ?_
            refine ks_get (k := 25) C 0 9 in_Model rfl (by decide) fk_Model_56 rfl rfl rfl d_Model_power_41 ?_
            refine ks_if_le (tgt := 48) C (by omega) (by decide) d_Model_power_44 (fun h => absurd h (by decide)) (fun _ => ?_)
            exact ks_vret C Z rfl d_Model_power_47 rfl rfl (Or.inl ⟨by omega, rfl, rfl⟩)
          · refine ks_iload_n rfl rfl C d_Model_power_25 ?_
            refine ks_sipush (a := 300) rfl C d_Model_power_26 ?_
            refine ks_icmpR_le (tgt := 36) C (by omega) (by omega) (by decide) d_Model_power_29 (fun u11 => ?_) (fun u11 => ?_)
            · refine ks_iconst (a := 0) rfl C d_Model_power_36 ?_
              refine ks_put (k := 25) (ws' := (kw_model K a0 a1 a2 a3 a4 a5 a6 a7 a8 a9 a10 a11 a12 a13 _ _ _ _ _ _ _ _ _ _ _ _ _ _ _ _ _ _ _ _ _ _ _ _ _ _)) C 0 9 t_Model ty_Model nm_Model in_Model rfl (by decide) fk_Model_56 rfl rfl rfl rfl rfl (Nat.le_of_ble_eq_true rfl) rfl d_Model_power_37 ?_
              refine ks_aload_n rfl rfl C d_Model_power_40 ?_
              refine ks_get (k := 25) C 0 9 in_Model rfl (by decide) fk_Model_56 rfl rfl rfl d_Model_power_41 ?_
              refine ks_if_le (tgt := 48) C (by omega) (by decide) d_Model_power_44 (fun _ => ?_) (fun h => absurd h (by decide))
              refine ks_aload_n rfl rfl C d_Model_power_48 ?_
              refine ks_iload_n rfl rfl C d_Model_power_49 ?_
              refine ks_put (k := 23) (ws' := (kw_model K a0 a1 a2 a3 a4 a5 a6 a7 a8 a9 a10 a11 a12 a13 _ _ _ _ _ _ _ _ _ _ _ _ _ _ _ _ _ _ _ _ _ _ _ _ _ _)) C 0 9 t_Model ty_Model nm_Model in_Model rfl (by decide) fk_Model_52 rfl rfl rfl rfl rfl (Nat.le_of_ble_eq_true rfl) rfl d_Model_power_50 ?_
              refine ks_aload_n rfl rfl C d_Model_power_53 ?_
              refine ks_iload_n rfl rfl C d_Model_power_54 ?_
              refine ks_put (k := 24) (ws' := (kw_model K a0 a1 a2 a3 a4 a5 a6 a7 a8 a9 a10 a11 a12 a13 _ _ _ _ _ _ _ _ _ _ _ _ _ _ _ _ _ _ _ _ _ _ _ _ _ _)) C 0 9 t_Model ty_Model nm_Model in_Model rfl (by decide) fk_Model_152 rfl rfl rfl rfl rfl (Nat.le_of_ble_eq_true rfl) rfl d_Model_power_55 ?_
              exact ks_vret C Z rfl d_Model_power_58 rfl rfl (Or.inr (⟨by omega, rfl, rfl⟩))
            · refine ks_iconst (a := 1) rfl C d_Model_power_32 ?_
              refine ks_goto (tgt := 37) C (by decide) d_Model_power_33 ?_
              refine ks_put (k := 25) (ws' := (kw_model K a0 a1 a2 a3 a4 a5 a6 a7 a8 a9 a10 a11 a12 a13 _ _ _ _ _ _ _ _ _ _ _ _ _ _ _ _ _ _ _ _ _ _ _ _ _ _)) C 0 9 t_Model ty_Model nm_Model in_Model rfl (by decide) fk_Model_56 rfl rfl rfl rfl rfl (Nat.le_of_ble_eq_true rfl) rfl d_Model_power_37 ?_
              refine ks_aload_n rfl rfl C d_Model_power_40 ?_
              refine ks_get (k := 25) C 0 9 in_Model rfl (by decide) fk_Model_56 rfl rfl rfl d_Model_power_41 ?_
              refine ks_if_le (tgt := 48) C (by omega) (by decide) d_Model_power_44 (fun h => absurd h (by decide)) (fun _ => ?_)
              exact ks_vret C Z rfl d_Model_power_47 rfl rfl (Or.inl ⟨by omega, rfl, rfl⟩)
set_option maxRecDepth 100000 in
set_option maxHeartbeats 4000000 in
theorem c_Model_reopen (l : Launch) (D : va_G) (K : Nat → ClassId) (a0 a1 a2 a3 a4 a5 a6 a7 a8 a9 a10 a11 a12 a13 : Nat) (TO PL KS VS MV : Nat → Nat) (Y : Nat → UInt8) (LI MY : Nat → Nat) (TR : Nat → Int64) (KY VY FK FV : Nat → UInt8) (rn us kn vn fkn fvn mk : Nat) (off opn fnd : Bool) (wh af th : Nat) (h1 : MY 1 ≤ 2900) (h2 : wh ≤ 4) : ks_M l D (ks_T K) (ks_R 2) y_Model_reopen b_Model_reopen 2 (some .int) [.ref a0] (kw_model K a0 a1 a2 a3 a4 a5 a6 a7 a8 a9 a10 a11 a12 a13 TO PL KS VS MV Y LI MY TR KY VY FK FV rn us kn vn fkn fvn mk off opn fnd wh af th) (fun vR wR => ((wh = 3) ∧ vR = some (.int (nI 0)) ∧ wR = (kw_model K a0 a1 a2 a3 a4 a5 a6 a7 a8 a9 a10 a11 a12 a13 TO PL KS VS MV Y (va_cpy LI LI (2900 * 1) (2900 * 0) (MY 1)) (va_up MY 0 (MY 1)) (va_up TR 0 (TR 1)) KY VY FK FV rn us 0 0 fkn fvn 0 true false false 4 af 1)) ∨ ((wh ≠ 3) ∧ vR = some (.int (nI (km_count (TR 1)))) ∧ wR = (kw_model K a0 a1 a2 a3 a4 a5 a6 a7 a8 a9 a10 a11 a12 a13 TO PL KS VS MV Y (va_cpy LI LI (2900 * 1) (2900 * 0) (MY 1)) (va_up MY 0 (MY 1)) (va_up TR 0 (TR 1)) KY VY FK FV rn us 0 0 fkn fvn 0 false false false 4 af 0))) := by
  refine ks_M.of 1 (by decide) (Nat.le_of_ble_eq_true rfl) ?_
  intro E C Z
  refine ks_aload_n rfl rfl C d_Model_reopen_0 ?_
  refine ks_get (k := 23) C 0 9 in_Model rfl (by decide) fk_Model_52 rfl rfl rfl d_Model_reopen_1 ?_
  refine ks_iconst (a := 3) rfl C d_Model_reopen_4 ?_
  refine ks_icmp_ne (tgt := 12) C (by omega) (by omega) (by decide) d_Model_reopen_5 (fun u1 => ?_) (fun u1 => ?_)
  · refine ks_iconstB false rfl C d_Model_reopen_12 ?_
    refine ks_istore_n C rfl (by decide) rfl d_Model_reopen_13 ?_
    refine ks_aload_n rfl rfl C d_Model_reopen_14 ?_
    refine ks_cv (ci := 9) (q0 := 0) (kw_model K a0 a1 a2 a3 a4 a5 a6 a7 a8 a9 a10 a11 a12 a13 _ _ _ _ _ _ _ _ _ _ _ _ _ _ _ _ _ _ _ _ _ _ _ _ _ _) C (c_Model_fall l D K a0 a1 a2 a3 a4 a5 a6 a7 a8 a9 a10 a11 a12 a13 _ _ _ _ _ _ _ _ _ _ _ _ _ _ _ _ _ _ _ _ _ _ _ _ _ _ (by omega)) yw_Model_fall sel_Model_fall lk_Model_155 d_Model_reopen_15 rfl rfl rfl [0, 1, 2, 3, 4, 5, 6, 7, 8, 9, 10, 11, 12, 13] [] [0, 1, 2, 3, 4, 5, 6, 7, 8, 9, 10, 11, 12, 13] rfl rfl rfl rfl (by decide) rfl rfl rfl rfl rfl ⟨by decide, by decide⟩ ⟨by decide, by decide⟩ rfl (Nat.le_of_ble_eq_true rfl) ?_
    refine ks_aload_n rfl rfl C d_Model_reopen_18 ?_
    refine ks_iload_n rfl rfl C d_Model_reopen_19 ?_
    refine ks_put (k := 20) (ws' := (kw_model K a0 a1 a2 a3 a4 a5 a6 a7 a8 a9 a10 a11 a12 a13 _ _ _ _ _ _ _ _ _ _ _ _ _ _ _ _ _ _ _ _ _ _ _ _ _ _)) C 0 9 t_Model ty_Model nm_Model in_Model rfl (by decide) fk_Model_65 rfl rfl (ks_nb1 _) (ks_fb1 _) rfl (Nat.le_of_ble_eq_true rfl) rfl d_Model_reopen_20 ?_
    refine ks_aload_n rfl rfl C d_Model_reopen_23 ?_
    refine ks_iload_n rfl rfl C d_Model_reopen_24 ?_
    refine ks_ifB_eq (tgt := 32) C (by decide) d_Model_reopen_25 (fun _ => ?_) (fun h => absurd h (by decide))
    refine ks_iconst (a := 0) rfl C d_Model_reopen_32 ?_
    refine ks_put (k := 25) (ws' := (kw_model K a0 a1 a2 a3 a4 a5 a6 a7 a8 a9 a10 a11 a12 a13 _ _ _ _ _ _ _ _ _ _ _ _ _ _ _ _ _ _ _ _ _ _ _ _ _ _)) C 0 9 t_Model ty_Model nm_Model in_Model rfl (by decide) fk_Model_56 rfl rfl rfl rfl rfl (Nat.le_of_ble_eq_true rfl) rfl d_Model_reopen_33 ?_
    refine ks_iload_n rfl rfl C d_Model_reopen_36 ?_
    refine ks_ifB_eq (tgt := 44) C (by decide) d_Model_reopen_37 (fun _ => ?_) (fun h => absurd h (by decide))
    refine ks_aload_n rfl rfl C d_Model_reopen_44 ?_
    refine ks_cx (ci := 9) (q0 := 0) (kw_model K a0 a1 a2 a3 a4 a5 a6 a7 a8 a9 a10 a11 a12 a13 _ _ _ _ _ _ _ _ _ _ _ _ _ _ _ _ _ _ _ _ _ _ _ _ _ _) C (c_Model_count l D K a0 a1 a2 a3 a4 a5 a6 a7 a8 a9 a10 a11 a12 a13 _ _ _ _ _ _ _ _ _ _ _ _ _ _ _ _ _ _ _ _ _ _ _ _ _ _) yw_Model_count sel_Model_count lk_Model_161 d_Model_reopen_45 rfl rfl rfl [0, 1, 2, 3, 4, 5, 6, 7, 8, 9, 10, 11, 12, 13] [] [0, 1, 2, 3, 4, 5, 6, 7, 8, 9, 10, 11, 12, 13] rfl rfl rfl rfl (by decide) rfl rfl rfl rfl rfl ⟨by decide, by decide⟩ ⟨by decide, by decide⟩ rfl (Nat.le_of_ble_eq_true rfl) ?_
    exact ks_iret C Z rfl rfl d_Model_reopen_48 rfl rfl (Or.inr (⟨by omega, rfl, rfl⟩))
  · refine ks_iconstB true rfl C d_Model_reopen_8 ?_
    refine ks_goto (tgt := 13) C (by decide) d_Model_reopen_9 ?_
    refine ks_istore_n C rfl (by decide) rfl d_Model_reopen_13 ?_
    refine ks_aload_n rfl rfl C d_Model_reopen_14 ?_
    refine ks_cv (ci := 9) (q0 := 0) (kw_model K a0 a1 a2 a3 a4 a5 a6 a7 a8 a9 a10 a11 a12 a13 _ _ _ _ _ _ _ _ _ _ _ _ _ _ _ _ _ _ _ _ _ _ _ _ _ _) C (c_Model_fall l D K a0 a1 a2 a3 a4 a5 a6 a7 a8 a9 a10 a11 a12 a13 _ _ _ _ _ _ _ _ _ _ _ _ _ _ _ _ _ _ _ _ _ _ _ _ _ _ (by omega)) yw_Model_fall sel_Model_fall lk_Model_155 d_Model_reopen_15 rfl rfl rfl [0, 1, 2, 3, 4, 5, 6, 7, 8, 9, 10, 11, 12, 13] [] [0, 1, 2, 3, 4, 5, 6, 7, 8, 9, 10, 11, 12, 13] rfl rfl rfl rfl (by decide) rfl rfl rfl rfl rfl ⟨by decide, by decide⟩ ⟨by decide, by decide⟩ rfl (Nat.le_of_ble_eq_true rfl) ?_
    refine ks_aload_n rfl rfl C d_Model_reopen_18 ?_
    refine ks_iload_n rfl rfl C d_Model_reopen_19 ?_
    refine ks_put (k := 20) (ws' := (kw_model K a0 a1 a2 a3 a4 a5 a6 a7 a8 a9 a10 a11 a12 a13 _ _ _ _ _ _ _ _ _ _ _ _ _ _ _ _ _ _ _ _ _ _ _ _ _ _)) C 0 9 t_Model ty_Model nm_Model in_Model rfl (by decide) fk_Model_65 rfl rfl (ks_nb1 _) (ks_fb1 _) rfl (Nat.le_of_ble_eq_true rfl) rfl d_Model_reopen_20 ?_
    refine ks_aload_n rfl rfl C d_Model_reopen_23 ?_
    refine ks_iload_n rfl rfl C d_Model_reopen_24 ?_
    refine ks_ifB_eq (tgt := 32) C (by decide) d_Model_reopen_25 (fun h => absurd h (by decide)) (fun _ => ?_)
    refine ks_iconst (a := 1) rfl C d_Model_reopen_28 ?_
    refine ks_goto (tgt := 33) C (by decide) d_Model_reopen_29 ?_
    refine ks_put (k := 25) (ws' := (kw_model K a0 a1 a2 a3 a4 a5 a6 a7 a8 a9 a10 a11 a12 a13 _ _ _ _ _ _ _ _ _ _ _ _ _ _ _ _ _ _ _ _ _ _ _ _ _ _)) C 0 9 t_Model ty_Model nm_Model in_Model rfl (by decide) fk_Model_56 rfl rfl rfl rfl rfl (Nat.le_of_ble_eq_true rfl) rfl d_Model_reopen_33 ?_
    refine ks_iload_n rfl rfl C d_Model_reopen_36 ?_
    refine ks_ifB_eq (tgt := 44) C (by decide) d_Model_reopen_37 (fun h => absurd h (by decide)) (fun _ => ?_)
    refine ks_iconst (a := 0) rfl C d_Model_reopen_40 ?_
    refine ks_goto (tgt := 48) C (by decide) d_Model_reopen_41 ?_
    exact ks_iret C Z rfl rfl d_Model_reopen_48 rfl rfl (Or.inl ⟨by omega, rfl, rfl⟩)
set_option maxRecDepth 100000 in
set_option maxHeartbeats 4000000 in
theorem c_Model_told (l : Launch) (D : va_G) (K : Nat → ClassId) (a0 a1 a2 a3 a4 a5 a6 a7 a8 a9 a10 a11 a12 a13 : Nat) (TO PL KS VS MV : Nat → Nat) (Y : Nat → UInt8) (LI MY : Nat → Nat) (TR : Nat → Int64) (KY VY FK FV : Nat → UInt8) (rn us kn vn fkn fvn mk : Nat) (off opn fnd : Bool) (wh af th : Nat) (w : Nat) (h1 : w < 4294967296) (hg : km_g TO PL KS VS LI (MY 0)) : ks_M l D (ks_T K) (ks_R 2) y_Model_told b_Model_told 2 (some .int) [.ref a0, .int (nI w)] (kw_model K a0 a1 a2 a3 a4 a5 a6 a7 a8 a9 a10 a11 a12 a13 TO PL KS VS MV Y LI MY TR KY VY FK FV rn us kn vn fkn fvn mk off opn fnd wh af th) (ks_f (some (.int (nI (km_told off opn fnd mk kn vn fkn fvn (km_count (TR 0)) (km_size LI KS VS (MY 0)) (fun t => km_ents LI TO t (MY 0)) (km_tree (TR 0)) w)))) (kw_model K a0 a1 a2 a3 a4 a5 a6 a7 a8 a9 a10 a11 a12 a13 TO PL KS VS MV Y LI MY TR KY VY FK FV rn us kn vn fkn fvn mk off opn fnd wh af (if w = 9 ∨ 73 < w then 1 else 0))) := by
  refine ks_M.of 0 (by decide) (Nat.le_of_ble_eq_true rfl) ?_
  intro E C Z
  refine ks_aload_n rfl rfl C d_Model_told_0 ?_
  refine ks_iload_n rfl rfl C d_Model_told_1 ?_
  refine ks_ifR_lt (tgt := 17) C (by omega) (by decide) d_Model_told_2 (fun u1 => ?_) (fun u1 => ?_)
  · refine ks_iconst (a := 1) rfl C d_Model_told_17 ?_
    refine ks_goto (tgt := 22) C (by decide) d_Model_told_18 ?_
    refine ks_put (k := 25) (ws' := (kw_model K a0 a1 a2 a3 a4 a5 a6 a7 a8 a9 a10 a11 a12 a13 _ _ _ _ _ _ _ _ _ _ _ _ _ _ _ _ _ _ _ _ _ _ _ _ _ _)) C 0 9 t_Model ty_Model nm_Model in_Model rfl (by decide) fk_Model_56 rfl rfl rfl rfl rfl (Nat.le_of_ble_eq_true rfl) rfl d_Model_told_22 ?_
    refine ks_aload_n rfl rfl C d_Model_told_25 ?_
    refine ks_get (k := 25) C 0 9 in_Model rfl (by decide) fk_Model_56 rfl rfl rfl d_Model_told_26 ?_
    refine ks_if_le (tgt := 34) C (by omega) (by decide) d_Model_told_29 (fun h => absurd h (by decide)) (fun _ => ?_)
    refine ks_iconst (a := 0) rfl C d_Model_told_32 ?_
    exact ks_iret C Z rfl rfl d_Model_told_33 rfl rfl ⟨ks_eqN (by rw [km_told, if_pos (by omega)]), by rw [if_pos (by omega)]⟩
  · refine ks_iload_n rfl rfl C d_Model_told_5 ?_
    refine ks_bipush (a := 9) rfl C d_Model_told_6 ?_
    refine ks_icmpR_eq (tgt := 17) C (by omega) (by omega) (by decide) d_Model_told_8 (fun u3 => ?_) (fun u3 => ?_)
    · refine ks_iconst (a := 1) rfl C d_Model_told_17 ?_
      refine ks_goto (tgt := 22) C (by decide) d_Model_told_18 ?_
      refine ks_put (k := 25) (ws' := (kw_model K a0 a1 a2 a3 a4 a5 a6 a7 a8 a9 a10 a11 a12 a13 _ _ _ _ _ _ _ _ _ _ _ _ _ _ _ _ _ _ _ _ _ _ _ _ _ _)) C 0 9 t_Model ty_Model nm_Model in_Model rfl (by decide) fk_Model_56 rfl rfl rfl rfl rfl (Nat.le_of_ble_eq_true rfl) rfl d_Model_told_22 ?_
      refine ks_aload_n rfl rfl C d_Model_told_25 ?_
      refine ks_get (k := 25) C 0 9 in_Model rfl (by decide) fk_Model_56 rfl rfl rfl d_Model_told_26 ?_
      refine ks_if_le (tgt := 34) C (by omega) (by decide) d_Model_told_29 (fun h => absurd h (by decide)) (fun _ => ?_)
      refine ks_iconst (a := 0) rfl C d_Model_told_32 ?_
      exact ks_iret C Z rfl rfl d_Model_told_33 rfl rfl ⟨ks_eqN (by rw [km_told, if_pos (by omega)]), by rw [if_pos (by omega)]⟩
    · refine ks_iload_n rfl rfl C d_Model_told_11 ?_
      refine ks_bipush (a := 73) rfl C d_Model_told_12 ?_
      refine ks_icmpR_le (tgt := 21) C (by omega) (by omega) (by decide) d_Model_told_14 (fun u5 => ?_) (fun u5 => ?_)
      · refine ks_iconst (a := 0) rfl C d_Model_told_21 ?_
        refine ks_put (k := 25) (ws' := (kw_model K a0 a1 a2 a3 a4 a5 a6 a7 a8 a9 a10 a11 a12 a13 _ _ _ _ _ _ _ _ _ _ _ _ _ _ _ _ _ _ _ _ _ _ _ _ _ _)) C 0 9 t_Model ty_Model nm_Model in_Model rfl (by decide) fk_Model_56 rfl rfl rfl rfl rfl (Nat.le_of_ble_eq_true rfl) rfl d_Model_told_22 ?_
        refine ks_aload_n rfl rfl C d_Model_told_25 ?_
        refine ks_get (k := 25) C 0 9 in_Model rfl (by decide) fk_Model_56 rfl rfl rfl d_Model_told_26 ?_
        refine ks_if_le (tgt := 34) C (by omega) (by decide) d_Model_told_29 (fun _ => ?_) (fun h => absurd h (by decide))
        refine ks_iload_n rfl rfl C d_Model_told_34 ?_
        refine ks_ifR_ne (tgt := 51) C (by omega) (by decide) d_Model_told_35 (fun u7 => ?_) (fun u7 => ?_)
        · refine ks_aload_n rfl rfl C d_Model_told_51 ?_
          refine ks_get (k := 20) C 0 9 in_Model rfl (by decide) fk_Model_65 rfl rfl rfl d_Model_told_52 ?_
          refine ks_ifB_eq (tgt := 60) C (by decide) d_Model_told_55 (fun u8 => ?_) (fun u8 => ?_)
          · refine ks_iload_n rfl rfl C d_Model_told_60 ?_
            refine ks_bipush (a := 10) rfl C d_Model_told_61 ?_
            refine ks_icmpR_lt (tgt := 90) C (by omega) (by omega) (by decide) d_Model_told_63 (fun u9 => ?_) (fun u9 => ?_)
            · refine ks_iload_n rfl rfl C d_Model_told_90 ?_
              refine ks_iconst (a := 1) rfl C d_Model_told_91 ?_
              refine ks_icmpR_ne (tgt := 108) C (by omega) (by omega) (by decide) d_Model_told_92 (fun u10 => ?_) (fun u10 => ?_)
              · refine ks_iload_n rfl rfl C d_Model_told_108 ?_
                refine ks_iconst (a := 2) rfl C d_Model_told_109 ?_
                refine ks_icmpR_ne (tgt := 118) C (by omega) (by omega) (by decide) d_Model_told_110 (fun u11 => ?_) (fun u11 => ?_)
                · refine ks_iload_n rfl rfl C d_Model_told_118 ?_
                  refine ks_iconst (a := 3) rfl C d_Model_told_119 ?_
                  refine ks_icmpR_ne (tgt := 128) C (by omega) (by omega) (by decide) d_Model_told_120 (fun u12 => ?_) (fun u12 => ?_)
                  · refine ks_iload_n rfl rfl C d_Model_told_128 ?_
                    refine ks_iconst (a := 4) rfl C d_Model_told_129 ?_
                    refine ks_icmpR_ne (tgt := 138) C (by omega) (by omega) (by decide) d_Model_told_130 (fun u13 => ?_) (fun u13 => ?_)
                    · refine ks_iload_n rfl rfl C d_Model_told_138 ?_
                      refine ks_iconst (a := 5) rfl C d_Model_told_139 ?_
                      refine ks_icmpR_ne (tgt := 148) C (by omega) (by omega) (by decide) d_Model_told_140 (fun u14 => ?_) (fun u14 => ?_)
                      · refine ks_iload_n rfl rfl C d_Model_told_148 ?_
                        refine ks_bipush (a := 6) rfl C d_Model_told_149 ?_
                        refine ks_icmpR_ne (tgt := 159) C (by omega) (by omega) (by decide) d_Model_told_151 (fun u15 => ?_) (fun u15 => ?_)
                        · refine ks_aload_n rfl rfl C d_Model_told_159 ?_
                          refine ks_get (k := 22) C 0 9 in_Model rfl (by decide) fk_Model_132 rfl rfl rfl d_Model_told_160 ?_
                          refine ks_ifB_ne (tgt := 168) C (by decide) d_Model_told_163 (fun u16 => ?_) (fun u16 => ?_)
                          · refine ks_iload_n rfl rfl C d_Model_told_168 ?_
                            refine ks_bipush (a := 7) rfl C d_Model_told_169 ?_
                            refine ks_icmpR_ne (tgt := 181) C (by omega) (by omega) (by decide) d_Model_told_171 (fun u17 => ?_) (fun u17 => ?_)
                            · refine ks_aload_n rfl rfl C d_Model_told_181 ?_
                              refine ks_get (k := 18) C 0 9 in_Model rfl (by decide) fk_Model_138 rfl rfl rfl d_Model_told_182 ?_
                              exact ks_iret C Z rfl rfl d_Model_told_185 rfl rfl ⟨ks_eqN (by rw [km_told, if_neg (by omega), if_neg (by omega), if_neg (by rw [u8]; decide), if_neg (by omega), if_neg (by omega), if_neg (by omega), if_neg (by omega), if_neg (by omega), if_neg (by omega), if_neg (by omega), if_pos u16, if_neg (by omega)]), by rw [if_neg (by omega)]⟩
                            · refine ks_aload_n rfl rfl C d_Model_told_174 ?_
                              refine ks_get (k := 17) C 0 9 in_Model rfl (by decide) fk_Model_135 rfl rfl rfl d_Model_told_175 ?_
                              refine ks_goto (tgt := 185) C (by decide) d_Model_told_178 ?_
                              exact ks_iret C Z rfl rfl d_Model_told_185 rfl rfl ⟨ks_eqN (by rw [km_told, if_neg (by omega), if_neg (by omega), if_neg (by rw [u8]; decide), if_neg (by omega), if_neg (by omega), if_neg (by omega), if_neg (by omega), if_neg (by omega), if_neg (by omega), if_neg (by omega), if_pos u16, if_pos (by omega)]), by rw [if_neg (by omega)]⟩
                          · refine ks_iconst (a := 0) rfl C d_Model_told_166 ?_
                            exact ks_iret C Z rfl rfl d_Model_told_167 rfl rfl ⟨ks_eqN (by rw [km_told, if_neg (by omega), if_neg (by omega), if_neg (by rw [u8]; decide), if_neg (by omega), if_neg (by omega), if_neg (by omega), if_neg (by omega), if_neg (by omega), if_neg (by omega), if_neg (by omega), if_neg (by rw [u16]; decide)]), by rw [if_neg (by omega)]⟩
                        · refine ks_aload_n rfl rfl C d_Model_told_154 ?_
                          refine ks_get (k := 16) C 0 9 in_Model rfl (by decide) fk_Model_62 rfl rfl rfl d_Model_told_155 ?_
                          exact ks_iret C Z rfl rfl d_Model_told_158 rfl rfl ⟨ks_eqN (by rw [km_told, if_neg (by omega), if_neg (by omega), if_neg (by rw [u8]; decide), if_neg (by omega), if_neg (by omega), if_neg (by omega), if_neg (by omega), if_neg (by omega), if_neg (by omega), if_pos (by omega)]), by rw [if_neg (by omega)]⟩
                      · refine ks_aload_n rfl rfl C d_Model_told_143 ?_
                        refine ks_get (k := 15) C 0 9 in_Model rfl (by decide) fk_Model_59 rfl rfl rfl d_Model_told_144 ?_
                        exact ks_iret C Z rfl rfl d_Model_told_147 rfl rfl ⟨ks_eqN (by rw [km_told, if_neg (by omega), if_neg (by omega), if_neg (by rw [u8]; decide), if_neg (by omega), if_neg (by omega), if_neg (by omega), if_neg (by omega), if_neg (by omega), if_pos (by omega)]), by rw [if_neg (by omega)]⟩
                    · refine ks_aload_n rfl rfl C d_Model_told_133 ?_
                      refine ks_cx (ci := 9) (q0 := 0) (kw_model K a0 a1 a2 a3 a4 a5 a6 a7 a8 a9 a10 a11 a12 a13 _ _ _ _ _ _ _ _ _ _ _ _ _ _ _ _ _ _ _ _ _ _ _ _ _ _) C (c_Model_size l D K a0 a1 a2 a3 a4 a5 a6 a7 a8 a9 a10 a11 a12 a13 _ _ _ _ _ _ _ _ _ _ _ _ _ _ _ _ _ _ _ _ _ _ _ _ _ _ hg) yw_Model_size sel_Model_size lk_Model_120 d_Model_told_134 rfl rfl rfl [0, 1, 2, 3, 4, 5, 6, 7, 8, 9, 10, 11, 12, 13] [] [0, 1, 2, 3, 4, 5, 6, 7, 8, 9, 10, 11, 12, 13] rfl rfl rfl rfl (by decide) rfl rfl rfl rfl rfl ⟨by decide, by decide⟩ ⟨by decide, by decide⟩ rfl (Nat.le_of_ble_eq_true rfl) ?_
                      exact ks_iret C Z rfl rfl d_Model_told_137 rfl rfl ⟨ks_eqN (by rw [km_told, if_neg (by omega), if_neg (by omega), if_neg (by rw [u8]; decide), if_neg (by omega), if_neg (by omega), if_neg (by omega), if_neg (by omega), if_pos (by omega)]), by rw [if_neg (by omega)]⟩
                  · refine ks_aload_n rfl rfl C d_Model_told_123 ?_
                    refine ks_cx (ci := 9) (q0 := 0) (kw_model K a0 a1 a2 a3 a4 a5 a6 a7 a8 a9 a10 a11 a12 a13 _ _ _ _ _ _ _ _ _ _ _ _ _ _ _ _ _ _ _ _ _ _ _ _ _ _) C (c_Model_count l D K a0 a1 a2 a3 a4 a5 a6 a7 a8 a9 a10 a11 a12 a13 _ _ _ _ _ _ _ _ _ _ _ _ _ _ _ _ _ _ _ _ _ _ _ _ _ _) yw_Model_count sel_Model_count lk_Model_161 d_Model_told_124 rfl rfl rfl [0, 1, 2, 3, 4, 5, 6, 7, 8, 9, 10, 11, 12, 13] [] [0, 1, 2, 3, 4, 5, 6, 7, 8, 9, 10, 11, 12, 13] rfl rfl rfl rfl (by decide) rfl rfl rfl rfl rfl ⟨by decide, by decide⟩ ⟨by decide, by decide⟩ rfl (Nat.le_of_ble_eq_true rfl) ?_
                    exact ks_iret C Z rfl rfl d_Model_told_127 rfl rfl ⟨ks_eqN (by rw [km_told, if_neg (by omega), if_neg (by omega), if_neg (by rw [u8]; decide), if_neg (by omega), if_neg (by omega), if_neg (by omega), if_pos (by omega)]), by rw [if_neg (by omega)]⟩
                · refine ks_aload_n rfl rfl C d_Model_told_113 ?_
                  refine ks_get (k := 19) C 0 9 in_Model rfl (by decide) fk_Model_88 rfl rfl rfl d_Model_told_114 ?_
                  exact ks_iret C Z rfl rfl d_Model_told_117 rfl rfl ⟨ks_eqN (by rw [km_told, if_neg (by omega), if_neg (by omega), if_neg (by rw [u8]; decide), if_neg (by omega), if_neg (by omega), if_pos (by omega)]), by rw [if_neg (by omega)]⟩
              · refine ks_aload_n rfl rfl C d_Model_told_95 ?_
                refine ks_get (k := 21) C 0 9 in_Model rfl (by decide) fk_Model_101 rfl rfl rfl d_Model_told_96 ?_
                refine ks_ifB_eq (tgt := 106) C (by decide) d_Model_told_99 (fun u18 => ?_) (fun u18 => ?_)
                · refine ks_iconst (a := 0) rfl C d_Model_told_106 ?_
                  exact ks_iret C Z rfl rfl d_Model_told_107 rfl rfl ⟨ks_eqN (by rw [km_told, if_neg (by omega), if_neg (by omega), if_neg (by rw [u8]; decide), if_neg (by omega), if_pos (by omega), if_neg (by rw [u18]; decide)]), by rw [if_neg (by omega)]⟩
                · refine ks_iconst (a := 1) rfl C d_Model_told_102 ?_
                  refine ks_goto (tgt := 107) C (by decide) d_Model_told_103 ?_
                  exact ks_iret C Z rfl rfl d_Model_told_107 rfl rfl ⟨ks_eqN (by rw [km_told, if_neg (by omega), if_neg (by omega), if_neg (by rw [u8]; decide), if_neg (by omega), if_pos (by omega), if_pos u18]), by rw [if_neg (by omega)]⟩
            · refine ks_aload_n rfl rfl C d_Model_told_66 ?_
              refine ks_iload_n rfl rfl C d_Model_told_67 ?_
              refine ks_bipush (a := 10) rfl C d_Model_told_68 ?_
              refine ks_isub (by omega) C d_Model_told_70 ?_
              refine ks_cx (ci := 9) (q0 := 0) (kw_model K a0 a1 a2 a3 a4 a5 a6 a7 a8 a9 a10 a11 a12 a13 _ _ _ _ _ _ _ _ _ _ _ _ _ _ _ _ _ _ _ _ _ _ _ _ _ _) C (c_Model_isTree l D K a0 a1 a2 a3 a4 a5 a6 a7 a8 a9 a10 a11 a12 a13 _ _ _ _ _ _ _ _ _ _ _ _ _ _ _ _ _ _ _ _ _ _ _ _ _ _ _ (by omega)) yw_Model_isTree sel_Model_isTree lk_Model_97 d_Model_told_71 rfl rfl rfl [0, 1, 2, 3, 4, 5, 6, 7, 8, 9, 10, 11, 12, 13] [] [0, 1, 2, 3, 4, 5, 6, 7, 8, 9, 10, 11, 12, 13] rfl rfl rfl rfl (by decide) rfl rfl rfl rfl rfl ⟨by decide, by decide⟩ ⟨by decide, by decide⟩ rfl (Nat.le_of_ble_eq_true rfl) ?_
              refine ks_ifB_eq (tgt := 88) C (by decide) d_Model_told_74 (fun u19 => ?_) (fun u19 => ?_)
              · refine ks_iconst (a := 4294967295) rfl C d_Model_told_88 ?_
                exact ks_iret C Z rfl rfl d_Model_told_89 rfl rfl ⟨ks_eqN (by rw [km_told, if_neg (by omega), if_neg (by omega), if_neg (by rw [u8]; decide), if_pos (by omega), if_neg (by rw [u19]; decide)]), by rw [if_neg (by omega)]⟩
              · have q64 := km_tree_t u19
                refine ks_aload_n rfl rfl C d_Model_told_77 ?_
                refine ks_iload_n rfl rfl C d_Model_told_78 ?_
                refine ks_bipush (a := 10) rfl C d_Model_told_79 ?_
                refine ks_isub (by omega) C d_Model_told_81 ?_
                refine ks_cx (ci := 9) (q0 := 0) (kw_model K a0 a1 a2 a3 a4 a5 a6 a7 a8 a9 a10 a11 a12 a13 _ _ _ _ _ _ _ _ _ _ _ _ _ _ _ _ _ _ _ _ _ _ _ _ _ _) C (c_Model_entries l D K a0 a1 a2 a3 a4 a5 a6 a7 a8 a9 a10 a11 a12 a13 _ _ _ _ _ _ _ _ _ _ _ _ _ _ _ _ _ _ _ _ _ _ _ _ _ _ _ hg (by omega)) yw_Model_entries sel_Model_entries lk_Model_108 d_Model_told_82 rfl rfl rfl [0, 1, 2, 3, 4, 5, 6, 7, 8, 9, 10, 11, 12, 13] [] [0, 1, 2, 3, 4, 5, 6, 7, 8, 9, 10, 11, 12, 13] rfl rfl rfl rfl (by decide) rfl rfl rfl rfl rfl ⟨by decide, by decide⟩ ⟨by decide, by decide⟩ rfl (Nat.le_of_ble_eq_true rfl) ?_
                refine ks_goto (tgt := 89) C (by decide) d_Model_told_85 ?_
                exact ks_iret C Z rfl rfl d_Model_told_89 rfl rfl ⟨ks_eqN (by rw [km_told, if_neg (by omega), if_neg (by omega), if_neg (by rw [u8]; decide), if_pos (by omega), if_pos u19]), by rw [if_neg (by omega)]⟩
          · refine ks_iconst (a := 0) rfl C d_Model_told_58 ?_
            exact ks_iret C Z rfl rfl d_Model_told_59 rfl rfl ⟨ks_eqN (by rw [km_told, if_neg (by omega), if_neg (by omega), if_pos u8]), by rw [if_neg (by omega)]⟩
        · refine ks_aload_n rfl rfl C d_Model_told_38 ?_
          refine ks_get (k := 20) C 0 9 in_Model rfl (by decide) fk_Model_65 rfl rfl rfl d_Model_told_39 ?_
          refine ks_ifB_eq (tgt := 49) C (by decide) d_Model_told_42 (fun u20 => ?_) (fun u20 => ?_)
          · refine ks_iconst (a := 1) rfl C d_Model_told_49 ?_
            exact ks_iret C Z rfl rfl d_Model_told_50 rfl rfl ⟨ks_eqN (by rw [km_told, if_neg (by omega), if_pos (by omega), if_neg (by rw [u20]; decide)]), by rw [if_neg (by omega)]⟩
          · refine ks_iconst (a := 0) rfl C d_Model_told_45 ?_
            refine ks_goto (tgt := 50) C (by decide) d_Model_told_46 ?_
            exact ks_iret C Z rfl rfl d_Model_told_50 rfl rfl ⟨ks_eqN (by rw [km_told, if_neg (by omega), if_pos (by omega), if_pos u20]), by rw [if_neg (by omega)]⟩
      · refine ks_iconst (a := 1) rfl C d_Model_told_17 ?_
        refine ks_goto (tgt := 22) C (by decide) d_Model_told_18 ?_
        refine ks_put (k := 25) (ws' := (kw_model K a0 a1 a2 a3 a4 a5 a6 a7 a8 a9 a10 a11 a12 a13 _ _ _ _ _ _ _ _ _ _ _ _ _ _ _ _ _ _ _ _ _ _ _ _ _ _)) C 0 9 t_Model ty_Model nm_Model in_Model rfl (by decide) fk_Model_56 rfl rfl rfl rfl rfl (Nat.le_of_ble_eq_true rfl) rfl d_Model_told_22 ?_
        refine ks_aload_n rfl rfl C d_Model_told_25 ?_
        refine ks_get (k := 25) C 0 9 in_Model rfl (by decide) fk_Model_56 rfl rfl rfl d_Model_told_26 ?_
        refine ks_if_le (tgt := 34) C (by omega) (by decide) d_Model_told_29 (fun h => absurd h (by decide)) (fun _ => ?_)
        refine ks_iconst (a := 0) rfl C d_Model_told_32 ?_
        exact ks_iret C Z rfl rfl d_Model_told_33 rfl rfl ⟨ks_eqN (by rw [km_told, if_pos (by omega)]), by rw [if_pos (by omega)]⟩
set_option maxRecDepth 100000 in
set_option maxHeartbeats 4000000 in
theorem c_Model_take (l : Launch) (D : va_G) (K : Nat → ClassId) (a0 a1 a2 a3 a4 a5 a6 a7 a8 a9 a10 a11 a12 a13 : Nat) (TO PL KS VS MV : Nat → Nat) (Y : Nat → UInt8) (LI MY : Nat → Nat) (TR : Nat → Int64) (KY VY FK FV : Nat → UInt8) (rn us kn vn fkn fvn mk : Nat) (off opn fnd : Bool) (wh af th : Nat) (h1 : fkn ≤ 8448) : ks_M l D (ks_T K) (ks_R 0) y_Model_take b_Model_take 2 (some .int) [.ref a0] (kw_model K a0 a1 a2 a3 a4 a5 a6 a7 a8 a9 a10 a11 a12 a13 TO PL KS VS MV Y LI MY TR KY VY FK FV rn us kn vn fkn fvn mk off opn fnd wh af th) (fun vR wR => ((fnd = false) ∧ vR = some (.int (nI 0)) ∧ wR = (kw_model K a0 a1 a2 a3 a4 a5 a6 a7 a8 a9 a10 a11 a12 a13 TO PL KS VS MV Y LI MY TR KY VY FK FV rn us kn vn fkn fvn mk off opn fnd wh af 1)) ∨ ((fnd = true) ∧ vR = some (.int (nI fkn)) ∧ wR = (kw_model K a0 a1 a2 a3 a4 a5 a6 a7 a8 a9 a10 a11 a12 a13 TO PL KS VS MV Y LI MY TR (va_cpy FK KY 0 0 fkn) VY FK FV rn us fkn vn fkn fvn mk off opn fnd wh af 0))) := by
  refine ks_M.of 1 (by decide) (Nat.le_of_ble_eq_true rfl) ?_
  intro E C Z
  have loop : ∀ (f : Nat) (i : Nat), i + f = fkn → fnd = true → ks_w E D 2 (kw_model K a0 a1 a2 a3 a4 a5 a6 a7 a8 a9 a10 a11 a12 a13 TO PL KS VS MV Y LI MY TR (va_cpy FK KY 0 0 i) VY FK FV rn us fkn vn fkn fvn mk off opn fnd wh af 0) [some (.ref a0), some (.int (nI i))] 0 0 35 [] := by
    intro f
    induction f with
    | zero =>
      intro i g1 g2
      refine ks_iload_n rfl rfl C d_Model_take_35 ?_
      refine ks_aload_n rfl rfl C d_Model_take_36 ?_
      refine ks_get (k := 15) C 0 9 in_Model rfl (by decide) fk_Model_59 rfl rfl rfl d_Model_take_37 ?_
      refine ks_icmp_ge (tgt := 61) C (by omega) (by omega) (by decide) d_Model_take_40 (fun u1 => ?_) (fun u1 => ?_)
      · refine ks_aload_n rfl rfl C d_Model_take_61 ?_
        refine ks_get (k := 15) C 0 9 in_Model rfl (by decide) fk_Model_59 rfl rfl rfl d_Model_take_62 ?_
        exact ks_iret C Z rfl rfl d_Model_take_65 rfl rfl (Or.inr (⟨g2, rfl, by rw [show i = fkn by omega]⟩))
      · exact (by omega : False).elim
    | succ f ih =>
      intro i g1 g2
      refine ks_iload_n rfl rfl C d_Model_take_35 ?_
      refine ks_aload_n rfl rfl C d_Model_take_36 ?_
      refine ks_get (k := 15) C 0 9 in_Model rfl (by decide) fk_Model_59 rfl rfl rfl d_Model_take_37 ?_
      refine ks_icmp_ge (tgt := 61) C (by omega) (by omega) (by decide) d_Model_take_40 (fun u2 => ?_) (fun u2 => ?_)
      · exact (by omega : False).elim
      · refine ks_aload_n rfl rfl C d_Model_take_43 ?_
        refine ks_get (k := 11) C 0 9 in_Model rfl (by decide) fk_Model_40 rfl rfl rfl d_Model_take_44 ?_
        refine ks_iload_n rfl rfl C d_Model_take_47 ?_
        refine ks_aload_n rfl rfl C d_Model_take_48 ?_
        refine ks_get (k := 13) C 0 9 in_Model rfl (by decide) fk_Model_46 rfl rfl rfl d_Model_take_49 ?_
        refine ks_iload_n rfl rfl C d_Model_take_52 ?_
        refine ks_bald0 C 12 0 rfl rfl (by omega) (by omega) d_Model_take_53 ?_
        refine ks_bast (ws' := (kw_model K a0 a1 a2 a3 a4 a5 a6 a7 a8 a9 a10 a11 a12 a13 _ _ _ _ _ _ _ _ _ _ _ _ _ _ _ _ _ _ _ _ _ _ _ _ _ _)) C 10 0 rfl rfl (by omega) (by omega) (ks_nbb _ _) rfl d_Model_take_54 ?_
        refine ks_iinc C rfl (z := 1) rfl (by decide) rfl d_Model_take_55 ?_
        refine ks_goto (tgt := 35) C (by decide) d_Model_take_58 ?_
        rw [km_cpy_00]
        exact ih _ (by omega) g2
  refine ks_aload_n rfl rfl C d_Model_take_0 ?_
  refine ks_aload_n rfl rfl C d_Model_take_1 ?_
  refine ks_get (k := 22) C 0 9 in_Model rfl (by decide) fk_Model_132 rfl rfl rfl d_Model_take_2 ?_
  refine ks_ifB_eq (tgt := 12) C (by decide) d_Model_take_5 (fun u3 => ?_) (fun u3 => ?_)
  · refine ks_iconst (a := 1) rfl C d_Model_take_12 ?_
    refine ks_put (k := 25) (ws' := (kw_model K a0 a1 a2 a3 a4 a5 a6 a7 a8 a9 a10 a11 a12 a13 _ _ _ _ _ _ _ _ _ _ _ _ _ _ _ _ _ _ _ _ _ _ _ _ _ _)) C 0 9 t_Model ty_Model nm_Model in_Model rfl (by decide) fk_Model_56 rfl rfl rfl rfl rfl (Nat.le_of_ble_eq_true rfl) rfl d_Model_take_13 ?_
    refine ks_aload_n rfl rfl C d_Model_take_16 ?_
    refine ks_get (k := 25) C 0 9 in_Model rfl (by decide) fk_Model_56 rfl rfl rfl d_Model_take_17 ?_
    refine ks_if_le (tgt := 25) C (by omega) (by decide) d_Model_take_20 (fun h => absurd h (by decide)) (fun _ => ?_)
    refine ks_iconst (a := 0) rfl C d_Model_take_23 ?_
    exact ks_iret C Z rfl rfl d_Model_take_24 rfl rfl (Or.inl ⟨u3, rfl, rfl⟩)
  · refine ks_iconst (a := 0) rfl C d_Model_take_8 ?_
    refine ks_goto (tgt := 13) C (by decide) d_Model_take_9 ?_
    refine ks_put (k := 25) (ws' := (kw_model K a0 a1 a2 a3 a4 a5 a6 a7 a8 a9 a10 a11 a12 a13 _ _ _ _ _ _ _ _ _ _ _ _ _ _ _ _ _ _ _ _ _ _ _ _ _ _)) C 0 9 t_Model ty_Model nm_Model in_Model rfl (by decide) fk_Model_56 rfl rfl rfl rfl rfl (Nat.le_of_ble_eq_true rfl) rfl d_Model_take_13 ?_
    refine ks_aload_n rfl rfl C d_Model_take_16 ?_
    refine ks_get (k := 25) C 0 9 in_Model rfl (by decide) fk_Model_56 rfl rfl rfl d_Model_take_17 ?_
    refine ks_if_le (tgt := 25) C (by omega) (by decide) d_Model_take_20 (fun _ => ?_) (fun h => absurd h (by decide))
    refine ks_aload_n rfl rfl C d_Model_take_25 ?_
    refine ks_aload_n rfl rfl C d_Model_take_26 ?_
    refine ks_get (k := 17) C 0 9 in_Model rfl (by decide) fk_Model_135 rfl rfl rfl d_Model_take_27 ?_
    refine ks_put (k := 15) (ws' := (kw_model K a0 a1 a2 a3 a4 a5 a6 a7 a8 a9 a10 a11 a12 a13 _ _ _ _ _ _ _ _ _ _ _ _ _ _ _ _ _ _ _ _ _ _ _ _ _ _)) C 0 9 t_Model ty_Model nm_Model in_Model rfl (by decide) fk_Model_59 rfl rfl rfl rfl rfl (Nat.le_of_ble_eq_true rfl) rfl d_Model_take_30 ?_
    refine ks_iconst (a := 0) rfl C d_Model_take_33 ?_
    refine ks_istore_n C rfl (by decide) rfl d_Model_take_34 ?_
    have e := loop fkn 0 (by omega) u3
    rw [km_cpy_0] at e
    exact e
set_option maxRecDepth 100000 in
set_option maxHeartbeats 4000000 in
theorem c_Model_found (l : Launch) (D : va_G) (K : Nat → ClassId) (a0 a1 a2 a3 a4 a5 a6 a7 a8 a9 a10 a11 a12 a13 : Nat) (TO PL KS VS MV : Nat → Nat) (Y : Nat → UInt8) (LI MY : Nat → Nat) (TR : Nat → Int64) (KY VY FK FV : Nat → UInt8) (rn us kn vn fkn fvn mk : Nat) (off opn fnd : Bool) (wh af th : Nat) (wt fr : Nat) (h1 : wt < 4294967296) (h2 : fr < 4294967296) (h3 : fkn ≤ 8448) (h4 : fvn ≤ 8448) : ks_M l D (ks_T K) (ks_R 0) y_Model_found b_Model_found 6 (some .long) [.ref a0, .int (nI wt), .int (nI fr)] (kw_model K a0 a1 a2 a3 a4 a5 a6 a7 a8 a9 a10 a11 a12 a13 TO PL KS VS MV Y LI MY TR KY VY FK FV rn us kn vn fkn fvn mk off opn fnd wh af th) (fun vR wR => ((1 < wt) ∧ vR = some (.long 0) ∧ wR = (kw_model K a0 a1 a2 a3 a4 a5 a6 a7 a8 a9 a10 a11 a12 a13 TO PL KS VS MV Y LI MY TR KY VY FK FV rn us kn vn fkn fvn mk off opn fnd wh af 1)) ∨ ((wt ≤ 1 ∧ fnd = false) ∧ vR = some (.long 0) ∧ wR = (kw_model K a0 a1 a2 a3 a4 a5 a6 a7 a8 a9 a10 a11 a12 a13 TO PL KS VS MV Y LI MY TR KY VY FK FV rn us kn vn fkn fvn mk off opn fnd wh af 2)) ∨ ((wt ≤ 1 ∧ 2147483648 ≤ fr ∧ fnd = true) ∧ vR = some (.long 0) ∧ wR = (kw_model K a0 a1 a2 a3 a4 a5 a6 a7 a8 a9 a10 a11 a12 a13 TO PL KS VS MV Y LI MY TR KY VY FK FV rn us kn vn fkn fvn mk off opn fnd wh af 0)) ∨ ((wt = 0 ∧ fr < 2147483648 ∧ fnd = true) ∧ vR = some (.long (km_fw FK fkn fr)) ∧ wR = (kw_model K a0 a1 a2 a3 a4 a5 a6 a7 a8 a9 a10 a11 a12 a13 TO PL KS VS MV Y LI MY TR KY VY FK FV rn us kn vn fkn fvn mk off opn fnd wh af 0)) ∨ ((wt = 1 ∧ fr < 2147483648 ∧ fnd = true) ∧ vR = some (.long (km_fw FV fvn fr)) ∧ wR = (kw_model K a0 a1 a2 a3 a4 a5 a6 a7 a8 a9 a10 a11 a12 a13 TO PL KS VS MV Y LI MY TR KY VY FK FV rn us kn vn fkn fvn mk off opn fnd wh af 0))) := by
  refine ks_M.of 3 (by decide) (Nat.le_of_ble_eq_true rfl) ?_
  intro E C Z
  have lk : ∀ (f : Nat) (k : Nat) (w : Int64), k + f = 8 → fr < 2147483648 → wt = 0 → fnd = true → km_fwL FK fkn fr f k w = km_fw FK fkn fr → ks_w E D 6 (kw_model K a0 a1 a2 a3 a4 a5 a6 a7 a8 a9 a10 a11 a12 a13 TO PL KS VS MV Y LI MY TR KY VY FK FV rn us kn vn fkn fvn mk off opn fnd wh af 0) [some (.ref a0), some (.int (nI wt)), some (.int (nI fr)), some (.long w), none, some (.int (nI k))] 0 0 47 [] := by
    intro f
    induction f with
    | zero =>
      intro k w g1 g2 g3 g4 g5
      refine ks_iload rfl C d_Model_found_47 ?_
      refine ks_bipush (a := 8) rfl C d_Model_found_49 ?_
      refine ks_icmp_ge (tgt := 127) C (by omega) (by omega) (by decide) d_Model_found_51 (fun u1 => ?_) (fun u1 => ?_)
      · refine ks_lload_n rfl rfl C d_Model_found_127 ?_
        exact ks_lret C Z rfl d_Model_found_128 rfl rfl (Or.inr (Or.inr (Or.inr (Or.inl ⟨⟨by omega, by omega, g4⟩, by rw [← g5]; rfl, rfl⟩))))
      · exact (by omega : False).elim
    | succ f ih =>
      intro k w g1 g2 g3 g4 g5
      refine ks_iload rfl C d_Model_found_47 ?_
      refine ks_bipush (a := 8) rfl C d_Model_found_49 ?_
      refine ks_icmp_ge (tgt := 127) C (by omega) (by omega) (by decide) d_Model_found_51 (fun u2 => ?_) (fun u2 => ?_)
      · exact (by omega : False).elim
      · refine ks_iload_n rfl rfl C d_Model_found_54 ?_
        refine ks_sipush (a := 8448) rfl C d_Model_found_55 ?_
        refine ks_icmpR_gt (tgt := 83) C (by omega) (by omega) (by decide) d_Model_found_58 (fun u3 => ?_) (fun u3 => ?_)
        · refine ks_lload_n rfl rfl C d_Model_found_83 ?_
          exact ks_lret C Z rfl d_Model_found_84 rfl rfl (Or.inr (Or.inr (Or.inr (Or.inl ⟨⟨by omega, by omega, g4⟩, by rw [← g5, km_fwL, if_pos (by omega)], rfl⟩))))
        · refine ks_iload_n rfl rfl C d_Model_found_61 ?_
          refine ks_iload rfl C d_Model_found_62 ?_
          refine ks_iadd C d_Model_found_64 ?_
          refine ks_iload_n rfl rfl C d_Model_found_65 ?_
          refine ks_ifR_ne (tgt := 76) C (by omega) (by decide) d_Model_found_66 (fun u4 => ?_) (fun u4 => ?_)
          · exact (by omega : False).elim
          · refine ks_aload_n rfl rfl C d_Model_found_69 ?_
            refine ks_get (k := 17) C 0 9 in_Model rfl (by decide) fk_Model_135 rfl rfl rfl d_Model_found_70 ?_
            refine ks_goto (tgt := 80) C (by decide) d_Model_found_73 ?_
            refine ks_icmp_lt (tgt := 85) C (by omega) (by omega) (by decide) d_Model_found_80 (fun u5 => ?_) (fun u5 => ?_)
            · refine ks_lload_n rfl rfl C d_Model_found_85 ?_
              refine ks_bipush (a := 8) rfl C d_Model_found_86 ?_
              refine ks_lshl C d_Model_found_88 ?_
              refine ks_iload_n rfl rfl C d_Model_found_89 ?_
              refine ks_ifR_ne (tgt := 105) C (by omega) (by decide) d_Model_found_90 (fun u6 => ?_) (fun u6 => ?_)
              · exact (by omega : False).elim
              · refine ks_aload_n rfl rfl C d_Model_found_93 ?_
                refine ks_get (k := 13) C 0 9 in_Model rfl (by decide) fk_Model_46 rfl rfl rfl d_Model_found_94 ?_
                refine ks_iload_n rfl rfl C d_Model_found_97 ?_
                refine ks_iload rfl C d_Model_found_98 ?_
                refine ks_iadd C d_Model_found_100 ?_
                refine ks_bald0 C 12 0 rfl rfl (by omega) (by omega) d_Model_found_101 ?_
                refine ks_goto (tgt := 114) C (by decide) d_Model_found_102 ?_
                refine ks_sipush (a := 255) rfl C d_Model_found_114 ?_
                refine ks_iandI C d_Model_found_117 ?_
                refine ks_xr (congrArg Value.int (ks_by255 _ _)) ?_
                refine ks_i2l C d_Model_found_118 ?_
                refine ks_lor C d_Model_found_119 ?_
                refine ks_lstore_n C rfl (by decide) rfl d_Model_found_120 ?_
                refine ks_iinc C rfl (z := 1) rfl (by decide) rfl d_Model_found_121 ?_
                refine ks_goto (tgt := 47) C (by decide) d_Model_found_124 ?_
                exact ih _ _ (by omega) g2 g3 g4 (by rw [← g5, km_fwL, if_neg (by omega)])
            · refine ks_lload_n rfl rfl C d_Model_found_83 ?_
              exact ks_lret C Z rfl d_Model_found_84 rfl rfl (Or.inr (Or.inr (Or.inr (Or.inl ⟨⟨by omega, by omega, g4⟩, by rw [← g5, km_fwL, if_pos (by omega)], rfl⟩))))
  have lv : ∀ (f : Nat) (k : Nat) (w : Int64), k + f = 8 → fr < 2147483648 → wt = 1 → fnd = true → km_fwL FV fvn fr f k w = km_fw FV fvn fr → ks_w E D 6 (kw_model K a0 a1 a2 a3 a4 a5 a6 a7 a8 a9 a10 a11 a12 a13 TO PL KS VS MV Y LI MY TR KY VY FK FV rn us kn vn fkn fvn mk off opn fnd wh af 0) [some (.ref a0), some (.int (nI wt)), some (.int (nI fr)), some (.long w), none, some (.int (nI k))] 0 0 47 [] := by
    intro f
    induction f with
    | zero =>
      intro k w g1 g2 g3 g4 g5
      refine ks_iload rfl C d_Model_found_47 ?_
      refine ks_bipush (a := 8) rfl C d_Model_found_49 ?_
      refine ks_icmp_ge (tgt := 127) C (by omega) (by omega) (by decide) d_Model_found_51 (fun u7 => ?_) (fun u7 => ?_)
      · refine ks_lload_n rfl rfl C d_Model_found_127 ?_
        exact ks_lret C Z rfl d_Model_found_128 rfl rfl (Or.inr (Or.inr (Or.inr (Or.inr (⟨⟨by omega, by omega, g4⟩, by rw [← g5]; rfl, rfl⟩)))))
      · exact (by omega : False).elim
    | succ f ih =>
      intro k w g1 g2 g3 g4 g5
      refine ks_iload rfl C d_Model_found_47 ?_
      refine ks_bipush (a := 8) rfl C d_Model_found_49 ?_
      refine ks_icmp_ge (tgt := 127) C (by omega) (by omega) (by decide) d_Model_found_51 (fun u8 => ?_) (fun u8 => ?_)
      · exact (by omega : False).elim
      · refine ks_iload_n rfl rfl C d_Model_found_54 ?_
        refine ks_sipush (a := 8448) rfl C d_Model_found_55 ?_
        refine ks_icmpR_gt (tgt := 83) C (by omega) (by omega) (by decide) d_Model_found_58 (fun u9 => ?_) (fun u9 => ?_)
        · refine ks_lload_n rfl rfl C d_Model_found_83 ?_
          exact ks_lret C Z rfl d_Model_found_84 rfl rfl (Or.inr (Or.inr (Or.inr (Or.inr (⟨⟨by omega, by omega, g4⟩, by rw [← g5, km_fwL, if_pos (by omega)], rfl⟩)))))
        · refine ks_iload_n rfl rfl C d_Model_found_61 ?_
          refine ks_iload rfl C d_Model_found_62 ?_
          refine ks_iadd C d_Model_found_64 ?_
          refine ks_iload_n rfl rfl C d_Model_found_65 ?_
          refine ks_ifR_ne (tgt := 76) C (by omega) (by decide) d_Model_found_66 (fun u10 => ?_) (fun u10 => ?_)
          · refine ks_aload_n rfl rfl C d_Model_found_76 ?_
            refine ks_get (k := 18) C 0 9 in_Model rfl (by decide) fk_Model_138 rfl rfl rfl d_Model_found_77 ?_
            refine ks_icmp_lt (tgt := 85) C (by omega) (by omega) (by decide) d_Model_found_80 (fun u11 => ?_) (fun u11 => ?_)
            · refine ks_lload_n rfl rfl C d_Model_found_85 ?_
              refine ks_bipush (a := 8) rfl C d_Model_found_86 ?_
              refine ks_lshl C d_Model_found_88 ?_
              refine ks_iload_n rfl rfl C d_Model_found_89 ?_
              refine ks_ifR_ne (tgt := 105) C (by omega) (by decide) d_Model_found_90 (fun u12 => ?_) (fun u12 => ?_)
              · refine ks_aload_n rfl rfl C d_Model_found_105 ?_
                refine ks_get (k := 14) C 0 9 in_Model rfl (by decide) fk_Model_49 rfl rfl rfl d_Model_found_106 ?_
                refine ks_iload_n rfl rfl C d_Model_found_109 ?_
                refine ks_iload rfl C d_Model_found_110 ?_
                refine ks_iadd C d_Model_found_112 ?_
                refine ks_bald C 13 0 rfl rfl (by omega) (by omega) d_Model_found_113 d_Model_found_114 d_Model_found_117 ?_
                refine ks_top_byte (fun u13 => ?_)
                refine ks_i2l C d_Model_found_118 ?_
                refine ks_lor C d_Model_found_119 ?_
                refine ks_lstore_n C rfl (by decide) rfl d_Model_found_120 ?_
                refine ks_iinc C rfl (z := 1) rfl (by decide) rfl d_Model_found_121 ?_
                refine ks_goto (tgt := 47) C (by decide) d_Model_found_124 ?_
                exact ih _ _ (by omega) g2 g3 g4 (by rw [← g5, km_fwL, if_neg (by omega)])
              · exact (by omega : False).elim
            · refine ks_lload_n rfl rfl C d_Model_found_83 ?_
              exact ks_lret C Z rfl d_Model_found_84 rfl rfl (Or.inr (Or.inr (Or.inr (Or.inr (⟨⟨by omega, by omega, g4⟩, by rw [← g5, km_fwL, if_pos (by omega)], rfl⟩)))))
          · exact (by omega : False).elim
  refine ks_aload_n rfl rfl C d_Model_found_0 ?_
  refine ks_iload_n rfl rfl C d_Model_found_1 ?_
  refine ks_ifR_lt (tgt := 10) C (by omega) (by decide) d_Model_found_2 (fun u14 => ?_) (fun u14 => ?_)
  · refine ks_iconst (a := 1) rfl C d_Model_found_10 ?_
    refine ks_goto (tgt := 26) C (by decide) d_Model_found_11 ?_
    refine ks_put (k := 25) (ws' := (kw_model K a0 a1 a2 a3 a4 a5 a6 a7 a8 a9 a10 a11 a12 a13 _ _ _ _ _ _ _ _ _ _ _ _ _ _ _ _ _ _ _ _ _ _ _ _ _ _)) C 0 9 t_Model ty_Model nm_Model in_Model rfl (by decide) fk_Model_56 rfl rfl rfl rfl rfl (Nat.le_of_ble_eq_true rfl) rfl d_Model_found_26 ?_
    refine ks_aload_n rfl rfl C d_Model_found_29 ?_
    refine ks_get (k := 25) C 0 9 in_Model rfl (by decide) fk_Model_56 rfl rfl rfl d_Model_found_30 ?_
    refine ks_if_gt (tgt := 40) C (by omega) (by decide) d_Model_found_33 (fun _ => ?_) (fun h => absurd h (by decide))
    refine ks_lconst rfl C d_Model_found_40 ?_
    exact ks_lret C Z rfl d_Model_found_41 rfl rfl (Or.inl ⟨by omega, rfl, rfl⟩)
  · refine ks_iload_n rfl rfl C d_Model_found_5 ?_
    refine ks_iconst (a := 1) rfl C d_Model_found_6 ?_
    refine ks_icmpR_le (tgt := 14) C (by omega) (by omega) (by decide) d_Model_found_7 (fun u16 => ?_) (fun u16 => ?_)
    · refine ks_aload_n rfl rfl C d_Model_found_14 ?_
      refine ks_get (k := 22) C 0 9 in_Model rfl (by decide) fk_Model_132 rfl rfl rfl d_Model_found_15 ?_
      refine ks_ifB_eq (tgt := 25) C (by decide) d_Model_found_18 (fun u17 => ?_) (fun u17 => ?_)
      · refine ks_iconst (a := 2) rfl C d_Model_found_25 ?_
        refine ks_put (k := 25) (ws' := (kw_model K a0 a1 a2 a3 a4 a5 a6 a7 a8 a9 a10 a11 a12 a13 _ _ _ _ _ _ _ _ _ _ _ _ _ _ _ _ _ _ _ _ _ _ _ _ _ _)) C 0 9 t_Model ty_Model nm_Model in_Model rfl (by decide) fk_Model_56 rfl rfl rfl rfl rfl (Nat.le_of_ble_eq_true rfl) rfl d_Model_found_26 ?_
        refine ks_aload_n rfl rfl C d_Model_found_29 ?_
        refine ks_get (k := 25) C 0 9 in_Model rfl (by decide) fk_Model_56 rfl rfl rfl d_Model_found_30 ?_
        refine ks_if_gt (tgt := 40) C (by omega) (by decide) d_Model_found_33 (fun _ => ?_) (fun h => absurd h (by decide))
        refine ks_lconst rfl C d_Model_found_40 ?_
        exact ks_lret C Z rfl d_Model_found_41 rfl rfl (Or.inr (Or.inl ⟨⟨by omega, u17⟩, rfl, rfl⟩))
      · refine ks_iconst (a := 0) rfl C d_Model_found_21 ?_
        refine ks_goto (tgt := 26) C (by decide) d_Model_found_22 ?_
        refine ks_put (k := 25) (ws' := (kw_model K a0 a1 a2 a3 a4 a5 a6 a7 a8 a9 a10 a11 a12 a13 _ _ _ _ _ _ _ _ _ _ _ _ _ _ _ _ _ _ _ _ _ _ _ _ _ _)) C 0 9 t_Model ty_Model nm_Model in_Model rfl (by decide) fk_Model_56 rfl rfl rfl rfl rfl (Nat.le_of_ble_eq_true rfl) rfl d_Model_found_26 ?_
        refine ks_aload_n rfl rfl C d_Model_found_29 ?_
        refine ks_get (k := 25) C 0 9 in_Model rfl (by decide) fk_Model_56 rfl rfl rfl d_Model_found_30 ?_
        refine ks_if_gt (tgt := 40) C (by omega) (by decide) d_Model_found_33 (fun h => absurd h (by decide)) (fun _ => ?_)
        refine ks_iload_n rfl rfl C d_Model_found_36 ?_
        refine ks_ifR_ge (tgt := 42) C (by omega) (by decide) d_Model_found_37 (fun u20 => ?_) (fun u20 => ?_)
        · refine ks_lconst rfl C d_Model_found_42 ?_
          refine ks_lstore_n C rfl (by decide) rfl d_Model_found_43 ?_
          refine ks_iconst (a := 0) rfl C d_Model_found_44 ?_
          refine ks_istore C (by decide) rfl d_Model_found_45 ?_
          rcases (by omega : wt = 0 ∨ wt = 1) with z | z
          · exact lk 8 0 0 (by omega) (by omega) z u17 rfl
          · exact lv 8 0 0 (by omega) (by omega) z u17 rfl
        · refine ks_lconst rfl C d_Model_found_40 ?_
          exact ks_lret C Z rfl d_Model_found_41 rfl rfl (Or.inr (Or.inr (Or.inl ⟨⟨by omega, by omega, u17⟩, rfl, rfl⟩)))
    · refine ks_iconst (a := 1) rfl C d_Model_found_10 ?_
      refine ks_goto (tgt := 26) C (by decide) d_Model_found_11 ?_
      refine ks_put (k := 25) (ws' := (kw_model K a0 a1 a2 a3 a4 a5 a6 a7 a8 a9 a10 a11 a12 a13 _ _ _ _ _ _ _ _ _ _ _ _ _ _ _ _ _ _ _ _ _ _ _ _ _ _)) C 0 9 t_Model ty_Model nm_Model in_Model rfl (by decide) fk_Model_56 rfl rfl rfl rfl rfl (Nat.le_of_ble_eq_true rfl) rfl d_Model_found_26 ?_
      refine ks_aload_n rfl rfl C d_Model_found_29 ?_
      refine ks_get (k := 25) C 0 9 in_Model rfl (by decide) fk_Model_56 rfl rfl rfl d_Model_found_30 ?_
      refine ks_if_gt (tgt := 40) C (by omega) (by decide) d_Model_found_33 (fun _ => ?_) (fun h => absurd h (by decide))
      refine ks_lconst rfl C d_Model_found_40 ?_
      exact ks_lret C Z rfl d_Model_found_41 rfl rfl (Or.inl ⟨by omega, rfl, rfl⟩)
