/-! Marks and Disk: worlds, mirrors, contracts -/
def ks_sv (s0 s1 s2 s3 s4 : Nat) : Nat → Option Nat := fun i => if i = 0 then some s0 else if i = 1 then some s1 else if i = 2 then some s2 else if i = 3 then some s3 else if i = 4 then some s4 else none
abbrev kw_marks (K : Nat → ClassId) (m0 m1 s0 s1 s2 s3 s4 : Nat) (S0 S1 S2 S3 S4 : Nat → UInt8) (cnt : Nat) : va_W := [(m0, .inr (3, [.ref m1, .int (nI cnt)])), (m1, .inl (K 4, 5, .inr (.inr (.inr (.inr (ks_sv s0 s1 s2 s3 s4)))))), (s0, .inl (K 0, 87040, .inl (ks_by S0))), (s1, .inl (K 0, 87040, .inl (ks_by S1))), (s2, .inl (K 0, 87040, .inl (ks_by S2))), (s3, .inl (K 0, 87040, .inl (ks_by S3))), (s4, .inl (K 0, 87040, .inl (ks_by S4)))]
abbrev kw_disk (K : Nat → ClassId) (d0 d1 d2 d3 : Nat) (F J Rc : Nat → UInt8) (jl fw fk fb : Nat) : va_W := [(d0, .inr (2, [.ref d1, .ref d2, .ref d3, .int (nI jl), .int (nI fw), .int (nI fk), .int (nI fb)])), (d1, .inl (K 0, 87040, .inl (ks_by F))), (d2, .inl (K 0, 92480, .inl (ks_by J))), (d3, .inl (K 0, 34, .inl (ks_by Rc)))]
section KSD
variable {E : ks_E} {l0 : Launch} {D : va_G} {tys : List (ClassId × FieldType)} {R0 : Room} {cc : ByteArray} {nL : Nat} {own : String} {ws : va_W} {lo : List (Option Value)} {cs ss pc : Nat} {st : List Value}
theorem ks_aald {a b i : Nat} {cA : ClassId} {n : Nat} {f : Nat → Option Nat} {t : FieldType} (C : ks_ok E l0 D tys R0 cc nL own) (q0 t0 : Nat) (ht : tys[t0]? = some (cA, .array t)) (ha : ws[q0]? = some (a, .inl (cA, n, .inr (.inr (.inr (.inr f)))))) (hi : i < n) (hN : n < 2 ^ 31) (hv : f i = some b) (hd : decode cc pc = .ok (.aaload, 1)) (k : ks_w E D nL ws lo cs ss (pc + 1) (.ref b :: st)) : ks_w E D nL ws lo cs ss pc (.int (nI i) :: .ref a :: st) := by
  obtain ⟨p, l, e, R, s, m, args, below, meth, c, Q, A⟩ := E
  obtain ⟨-, -, hx, hb, hml, hown, hts, hK, hA, hlocks, hNw⟩ := C
  intro H locs ls hP hD hS hl
  have hcl : (nI i).toNatClampNeg = i := nI_clamp (by omega)
  refine W.aald (v := va_rf (f (nI i).toNatClampNeg)) (ty := .array t) hx hb (hP q0 _ ha) ((hK.2 t0 _ ht).1 n (fun j => va_rf (f j))) rfl (fun q => by cases q) (by show ¬ (nI i < 0 ∨ (arrV _ _ _).slots.size ≤ _); rw [arrV_size]; exact vp_in_nI hi hN) (by show (arrV _ _ _).slots[_]? = _; rw [arrV_read _ _ (by rw [hcl]; exact hi)]) rfl rfl hd ?_
  rw [hcl, hv]
  exact k H locs ls hP hD hS hl
theorem ks_top_bw {fw fk fb wh wr n : Nat} (k : (if fw = wh ∧ fk = wr then min fb n else n) ≤ n → ks_w E D nL ws lo cs ss pc (.int (nI (if fw = wh ∧ fk = wr then min fb n else n)) :: st)) : ks_w E D nL ws lo cs ss pc (.int (nI (if fw = wh ∧ fk = wr then min fb n else n)) :: st) := k (by split <;> omega)
end KSD
def kv_bw (fw fk fb wh wr n : Nat) : Nat := if fw = wh ∧ fk = wr then min fb n else n
theorem kv_bw_le (fw fk fb wh wr n : Nat) : kv_bw fw fk fb wh wr n ≤ n := by unfold kv_bw; split <;> omega
def kv_wf (F S : Nat → UInt8) (sl fw fk fb wh wr pg at_ : Nat) : Nat → UInt8 := if pg < 2720 ∧ at_ + kv_bw fw fk fb wh wr 32 ≤ sl then va_cpy S F at_ (pg * 32) (kv_bw fw fk fb wh wr 32) else F
def kv_rec (F Rc : Nat → UInt8) (pg : Nat) : Nat → UInt8 := va_cpy F (va_up (va_up Rc 0 (UInt8.ofNat (pg / 256))) 1 (UInt8.ofNat pg)) (pg * 32) 2 32
def kv_wj (F J Rc : Nat → UInt8) (jl fw fk fb wr pg : Nat) : (Nat → UInt8) × Nat := if kv_bw fw fk fb 0 wr 34 ≤ 92480 - jl then (va_cpy (kv_rec F Rc pg) J 0 jl (kv_bw fw fk fb 0 wr 34), jl + kv_bw fw fk fb 0 wr 34) else (J, jl)
theorem kv_wj_le {F J Rc : Nat → UInt8} {jl fw fk fb wr pg : Nat} (h : jl ≤ 92480) : (kv_wj F J Rc jl fw fk fb wr pg).2 ≤ 92480 := by
  unfold kv_wj
  split
  · show jl + _ ≤ 92480; omega
  · exact h
/-- Disk.saveOld: held, journal, its length, the record -/
def kv_soL (F : Nat → UInt8) (G : Nat → Bool) (fw fk fb : Nat) : Nat → Nat → Bool → Nat → (Nat → UInt8) → Nat → (Nat → UInt8) → Bool × (Nat → UInt8) × Nat × (Nat → UInt8)
  | 0, _, h, _, J, jl, Rc => (h, J, jl, Rc)
  | f + 1, pg, h, wr, J, jl, Rc => if h = true then (if G pg = true then kv_soL F G fw fk fb f (pg + 1) (decide (¬ (fw = 0 ∧ fk = wr))) (wr + 1) (kv_wj F J Rc jl fw fk fb wr pg).1 (kv_wj F J Rc jl fw fk fb wr pg).2 (kv_rec F Rc pg) else kv_soL F G fw fk fb f (pg + 1) h wr J jl Rc) else (h, J, jl, Rc)
/-- Disk.saveNew: held, file -/
def kv_snL (B : Nat → UInt8) (G : Nat → Bool) (fw fk fb : Nat) : Nat → Nat → Bool → Nat → (Nat → UInt8) → Bool × (Nat → UInt8)
  | 0, _, h, _, F => (h, F)
  | f + 1, pg, h, wr, F => if h = true then (if G pg = true then kv_snL B G fw fk fb f (pg + 1) (decide (¬ (fw = 1 ∧ fk = wr))) (wr + 1) (kv_wf F B 87040 fw fk fb 1 wr pg (pg * 32)) else kv_snL B G fw fk fb f (pg + 1) h wr F) else (h, F)
def kv_esF (fw fk : Nat) : Prop := fw = 0 ∨ fw = 1 ∨ (fw = 2 ∧ fk = 0)
/-- Disk.recover: held, file; i the next record, of n -/
def kv_jp (J : Nat → UInt8) (i : Nat) : Nat := (J (i * 34)).toNat * 256 + (J (i * 34 + 1)).toNat
def kv_rcL (J : Nat → UInt8) (fw fk fb : Nat) : Nat → Nat → Bool → (Nat → UInt8) → Bool × (Nat → UInt8)
  | 0, _, h, F => (h, F)
  | f + 1, i, h, F => if h = true then kv_rcL J fw fk fb f (i + 1) (decide (¬ (fw = 3 ∧ fk = i))) (kv_wf F J 92480 fw fk fb 3 i (kv_jp J i) (i * 34 + 2)) else (h, F)
section KSD2
variable {E : ks_E} {D : va_G} {nL : Nat} {ws : va_W} {lo : List (Option Value)} {cs ss pc : Nat} {st : List Value}
theorem ks_top_kbw {fw fk fb wh wr n : Nat} (k : kv_bw fw fk fb wh wr n ≤ n → ks_w E D nL ws lo cs ss pc (.int (nI (kv_bw fw fk fb wh wr n)) :: st)) : ks_w E D nL ws lo cs ss pc (.int (nI (kv_bw fw fk fb wh wr n)) :: st) := k (kv_bw_le _ _ _ _ _ _)
end KSD2
set_option maxRecDepth 100000 in
set_option maxHeartbeats 4000000 in
theorem c_Marks_count (l : Launch) (D : va_G) (K : Nat → ClassId) (m0 m1 s0 s1 s2 s3 s4 : Nat) (S0 S1 S2 S3 S4 : Nat → UInt8) (cnt : Nat) : ks_M l D (ks_T K) (ks_R 0) y_Marks_count b_Marks_count 1 (some .int) [.ref m0] (kw_marks K m0 m1 s0 s1 s2 s3 s4 S0 S1 S2 S3 S4 cnt) (ks_f (some (.int (nI cnt))) (kw_marks K m0 m1 s0 s1 s2 s3 s4 S0 S1 S2 S3 S4 cnt)) := by
  refine ks_M.of 0 (by decide) (Nat.le_of_ble_eq_true rfl) ?_
  intro E C Z
  refine ks_aload_n rfl rfl C d_Marks_count_0 ?_
  refine ks_get (k := 1) C 0 3 in_Marks rfl (by decide) fk_Marks_17 rfl rfl rfl d_Marks_count_1 ?_
  exact ks_iret C Z rfl rfl d_Marks_count_4 rfl rfl ⟨rfl, rfl⟩
set_option maxRecDepth 100000 in
set_option maxHeartbeats 4000000 in
theorem c_Marks_forgetAbove (l : Launch) (D : va_G) (K : Nat → ClassId) (m0 m1 s0 s1 s2 s3 s4 : Nat) (S0 S1 S2 S3 S4 : Nat → UInt8) (cnt a : Nat) (h1 : cnt ≤ 5) (h2 : a < 2147483648) : ks_M l D (ks_T K) (ks_R 0) y_Marks_forgetAbove b_Marks_forgetAbove 2 none [.ref m0, .int (nI a)] (kw_marks K m0 m1 s0 s1 s2 s3 s4 S0 S1 S2 S3 S4 cnt) (ks_f none (kw_marks K m0 m1 s0 s1 s2 s3 s4 S0 S1 S2 S3 S4 (if a < cnt then a else cnt))) := by
  refine ks_M.of 0 (by decide) (Nat.le_of_ble_eq_true rfl) ?_
  intro E C Z
  refine ks_iload_n rfl rfl C d_Marks_forgetAbove_0 ?_
  refine ks_iflt0 (tgt := 17) C (by omega) d_Marks_forgetAbove_1 (by decide) ?_
  refine ks_iload_n rfl rfl C d_Marks_forgetAbove_4 ?_
  refine ks_aload_n rfl rfl C d_Marks_forgetAbove_5 ?_
  refine ks_get (k := 1) C 0 3 in_Marks rfl (by decide) fk_Marks_17 rfl rfl rfl d_Marks_forgetAbove_6 ?_
  refine ks_icmp_ge (tgt := 17) C (by omega) (by omega) (by decide) d_Marks_forgetAbove_9 (fun u2 => ?_) (fun u2 => ?_)
  · exact ks_vret C Z rfl d_Marks_forgetAbove_17 rfl rfl ⟨rfl, by rw [if_neg (by omega)]⟩
  · refine ks_aload_n rfl rfl C d_Marks_forgetAbove_12 ?_
    refine ks_iload_n rfl rfl C d_Marks_forgetAbove_13 ?_
    refine ks_put (k := 1) (ws' := (kw_marks K m0 m1 s0 s1 s2 s3 s4 _ _ _ _ _ _)) C 0 3 t_Marks ty_Marks nm_Marks in_Marks rfl (by decide) fk_Marks_17 rfl rfl rfl rfl rfl (Nat.le_of_ble_eq_true rfl) rfl d_Marks_forgetAbove_14 ?_
    exact ks_vret C Z rfl d_Marks_forgetAbove_17 rfl rfl ⟨rfl, by rw [if_pos (by omega)]⟩
set_option maxRecDepth 100000 in
set_option maxHeartbeats 4000000 in
theorem c_Marks_add_0 (l : Launch) (D : va_G) (K : Nat → ClassId) (m0 m1 s0 s1 s2 s3 s4 : Nat) (S0 S1 S2 S3 S4 : Nat → UInt8) (x0 x1 x2 : Nat) (B : Nat → UInt8) (G : Nat → Bool) : ks_M l D (ks_T K) (ks_R 3) y_Marks_add b_Marks_add 2 none [.ref m0, .ref x0] (kw_marks K m0 m1 s0 s1 s2 s3 s4 S0 S1 S2 S3 S4 0 ++ kw_pages K x0 x1 x2 B G) (ks_f none (kw_marks K m0 m1 s0 s1 s2 s3 s4 (va_cpy B S0 0 0 (288 + kv_used B * 32)) S1 S2 S3 S4 1 ++ kw_pages K x0 x1 x2 B G)) := by
  refine ks_M.of 0 (by decide) (Nat.le_of_ble_eq_true rfl) ?_
  intro E C Z
  refine ks_aload_n rfl rfl C d_Marks_add_0 ?_
  refine ks_get (k := 1) C 0 3 in_Marks rfl (by decide) fk_Marks_17 rfl rfl rfl d_Marks_add_1 ?_
  refine ks_iconst (a := 5) rfl C d_Marks_add_4 ?_
  refine ks_icmp_ge (tgt := 31) C (by omega) (by omega) (by decide) d_Marks_add_5 (fun u1 => ?_) (fun u1 => ?_)
  · exact ks_vret C Z rfl d_Marks_add_31 rfl rfl (False.elim (by omega))
  · refine ks_aload_n rfl rfl C d_Marks_add_8 ?_
    refine ks_aload_n rfl rfl C d_Marks_add_9 ?_
    refine ks_get (k := 0) C 0 3 in_Marks rfl (by decide) fk_Marks_12 rfl rfl rfl d_Marks_add_10 ?_
    refine ks_aload_n rfl rfl C d_Marks_add_13 ?_
    refine ks_get (k := 1) C 0 3 in_Marks rfl (by decide) fk_Marks_17 rfl rfl rfl d_Marks_add_14 ?_
    refine ks_aald (b := s0) C 1 4 rfl rfl (by decide) (by decide) rfl d_Marks_add_17 ?_
    refine ks_cv (ci := 1) (q0 := 0) (kw_marks K m0 m1 s0 s1 s2 s3 s4 _ _ _ _ _ _ ++ kw_pages K x0 x1 x2 _ _) C (c_Pages_saveTo l D K x0 x1 x2 _ _ s0 _) yw_Pages_saveTo sel_Pages_saveTo lk_Marks_21 d_Marks_add_18 rfl rfl rfl [7, 8, 9, 2] [0, 1, 3, 4, 5, 6] [0, 1, 9, 2, 3, 4, 5, 6, 7, 8] rfl rfl rfl rfl (by decide) rfl rfl rfl rfl rfl ⟨by decide, by decide⟩ ⟨by decide, by decide⟩ rfl (Nat.le_of_ble_eq_true rfl) ?_
    refine ks_aload_n rfl rfl C d_Marks_add_21 ?_
    refine ks_dup rfl C d_Marks_add_22 ?_
    refine ks_get (k := 1) C 0 3 in_Marks rfl (by decide) fk_Marks_17 rfl rfl rfl d_Marks_add_23 ?_
    refine ks_iconst (a := 1) rfl C d_Marks_add_26 ?_
    refine ks_iadd C d_Marks_add_27 ?_
    refine ks_put (k := 1) (ws' := (kw_marks K m0 m1 s0 s1 s2 s3 s4 _ _ _ _ _ _ ++ kw_pages K x0 x1 x2 _ _)) C 0 3 t_Marks ty_Marks nm_Marks in_Marks rfl (by decide) fk_Marks_17 rfl rfl rfl rfl rfl (Nat.le_of_ble_eq_true rfl) rfl d_Marks_add_28 ?_
    exact ks_vret C Z rfl d_Marks_add_31 rfl rfl ⟨rfl, rfl⟩
set_option maxRecDepth 100000 in
set_option maxHeartbeats 4000000 in
theorem c_Marks_add_1 (l : Launch) (D : va_G) (K : Nat → ClassId) (m0 m1 s0 s1 s2 s3 s4 : Nat) (S0 S1 S2 S3 S4 : Nat → UInt8) (x0 x1 x2 : Nat) (B : Nat → UInt8) (G : Nat → Bool) : ks_M l D (ks_T K) (ks_R 3) y_Marks_add b_Marks_add 2 none [.ref m0, .ref x0] (kw_marks K m0 m1 s0 s1 s2 s3 s4 S0 S1 S2 S3 S4 1 ++ kw_pages K x0 x1 x2 B G) (ks_f none (kw_marks K m0 m1 s0 s1 s2 s3 s4 S0 (va_cpy B S1 0 0 (288 + kv_used B * 32)) S2 S3 S4 2 ++ kw_pages K x0 x1 x2 B G)) := by
  refine ks_M.of 0 (by decide) (Nat.le_of_ble_eq_true rfl) ?_
  intro E C Z
  refine ks_aload_n rfl rfl C d_Marks_add_0 ?_
  refine ks_get (k := 1) C 0 3 in_Marks rfl (by decide) fk_Marks_17 rfl rfl rfl d_Marks_add_1 ?_
  refine ks_iconst (a := 5) rfl C d_Marks_add_4 ?_
  refine ks_icmp_ge (tgt := 31) C (by omega) (by omega) (by decide) d_Marks_add_5 (fun u1 => ?_) (fun u1 => ?_)
  · exact ks_vret C Z rfl d_Marks_add_31 rfl rfl (False.elim (by omega))
  · refine ks_aload_n rfl rfl C d_Marks_add_8 ?_
    refine ks_aload_n rfl rfl C d_Marks_add_9 ?_
    refine ks_get (k := 0) C 0 3 in_Marks rfl (by decide) fk_Marks_12 rfl rfl rfl d_Marks_add_10 ?_
    refine ks_aload_n rfl rfl C d_Marks_add_13 ?_
    refine ks_get (k := 1) C 0 3 in_Marks rfl (by decide) fk_Marks_17 rfl rfl rfl d_Marks_add_14 ?_
    refine ks_aald (b := s1) C 1 4 rfl rfl (by decide) (by decide) rfl d_Marks_add_17 ?_
    refine ks_cv (ci := 1) (q0 := 0) (kw_marks K m0 m1 s0 s1 s2 s3 s4 _ _ _ _ _ _ ++ kw_pages K x0 x1 x2 _ _) C (c_Pages_saveTo l D K x0 x1 x2 _ _ s1 _) yw_Pages_saveTo sel_Pages_saveTo lk_Marks_21 d_Marks_add_18 rfl rfl rfl [7, 8, 9, 3] [0, 1, 2, 4, 5, 6] [0, 1, 2, 9, 3, 4, 5, 6, 7, 8] rfl rfl rfl rfl (by decide) rfl rfl rfl rfl rfl ⟨by decide, by decide⟩ ⟨by decide, by decide⟩ rfl (Nat.le_of_ble_eq_true rfl) ?_
    refine ks_aload_n rfl rfl C d_Marks_add_21 ?_
    refine ks_dup rfl C d_Marks_add_22 ?_
    refine ks_get (k := 1) C 0 3 in_Marks rfl (by decide) fk_Marks_17 rfl rfl rfl d_Marks_add_23 ?_
    refine ks_iconst (a := 1) rfl C d_Marks_add_26 ?_
    refine ks_iadd C d_Marks_add_27 ?_
    refine ks_put (k := 1) (ws' := (kw_marks K m0 m1 s0 s1 s2 s3 s4 _ _ _ _ _ _ ++ kw_pages K x0 x1 x2 _ _)) C 0 3 t_Marks ty_Marks nm_Marks in_Marks rfl (by decide) fk_Marks_17 rfl rfl rfl rfl rfl (Nat.le_of_ble_eq_true rfl) rfl d_Marks_add_28 ?_
    exact ks_vret C Z rfl d_Marks_add_31 rfl rfl ⟨rfl, rfl⟩
set_option maxRecDepth 100000 in
set_option maxHeartbeats 4000000 in
theorem c_Marks_add_2 (l : Launch) (D : va_G) (K : Nat → ClassId) (m0 m1 s0 s1 s2 s3 s4 : Nat) (S0 S1 S2 S3 S4 : Nat → UInt8) (x0 x1 x2 : Nat) (B : Nat → UInt8) (G : Nat → Bool) : ks_M l D (ks_T K) (ks_R 3) y_Marks_add b_Marks_add 2 none [.ref m0, .ref x0] (kw_marks K m0 m1 s0 s1 s2 s3 s4 S0 S1 S2 S3 S4 2 ++ kw_pages K x0 x1 x2 B G) (ks_f none (kw_marks K m0 m1 s0 s1 s2 s3 s4 S0 S1 (va_cpy B S2 0 0 (288 + kv_used B * 32)) S3 S4 3 ++ kw_pages K x0 x1 x2 B G)) := by
  refine ks_M.of 0 (by decide) (Nat.le_of_ble_eq_true rfl) ?_
  intro E C Z
  refine ks_aload_n rfl rfl C d_Marks_add_0 ?_
  refine ks_get (k := 1) C 0 3 in_Marks rfl (by decide) fk_Marks_17 rfl rfl rfl d_Marks_add_1 ?_
  refine ks_iconst (a := 5) rfl C d_Marks_add_4 ?_
  refine ks_icmp_ge (tgt := 31) C (by omega) (by omega) (by decide) d_Marks_add_5 (fun u1 => ?_) (fun u1 => ?_)
  · exact ks_vret C Z rfl d_Marks_add_31 rfl rfl (False.elim (by omega))
  · refine ks_aload_n rfl rfl C d_Marks_add_8 ?_
    refine ks_aload_n rfl rfl C d_Marks_add_9 ?_
    refine ks_get (k := 0) C 0 3 in_Marks rfl (by decide) fk_Marks_12 rfl rfl rfl d_Marks_add_10 ?_
    refine ks_aload_n rfl rfl C d_Marks_add_13 ?_
    refine ks_get (k := 1) C 0 3 in_Marks rfl (by decide) fk_Marks_17 rfl rfl rfl d_Marks_add_14 ?_
    refine ks_aald (b := s2) C 1 4 rfl rfl (by decide) (by decide) rfl d_Marks_add_17 ?_
    refine ks_cv (ci := 1) (q0 := 0) (kw_marks K m0 m1 s0 s1 s2 s3 s4 _ _ _ _ _ _ ++ kw_pages K x0 x1 x2 _ _) C (c_Pages_saveTo l D K x0 x1 x2 _ _ s2 _) yw_Pages_saveTo sel_Pages_saveTo lk_Marks_21 d_Marks_add_18 rfl rfl rfl [7, 8, 9, 4] [0, 1, 2, 3, 5, 6] [0, 1, 2, 3, 9, 4, 5, 6, 7, 8] rfl rfl rfl rfl (by decide) rfl rfl rfl rfl rfl ⟨by decide, by decide⟩ ⟨by decide, by decide⟩ rfl (Nat.le_of_ble_eq_true rfl) ?_
    refine ks_aload_n rfl rfl C d_Marks_add_21 ?_
    refine ks_dup rfl C d_Marks_add_22 ?_
    refine ks_get (k := 1) C 0 3 in_Marks rfl (by decide) fk_Marks_17 rfl rfl rfl d_Marks_add_23 ?_
    refine ks_iconst (a := 1) rfl C d_Marks_add_26 ?_
    refine ks_iadd C d_Marks_add_27 ?_
    refine ks_put (k := 1) (ws' := (kw_marks K m0 m1 s0 s1 s2 s3 s4 _ _ _ _ _ _ ++ kw_pages K x0 x1 x2 _ _)) C 0 3 t_Marks ty_Marks nm_Marks in_Marks rfl (by decide) fk_Marks_17 rfl rfl rfl rfl rfl (Nat.le_of_ble_eq_true rfl) rfl d_Marks_add_28 ?_
    exact ks_vret C Z rfl d_Marks_add_31 rfl rfl ⟨rfl, rfl⟩
set_option maxRecDepth 100000 in
set_option maxHeartbeats 4000000 in
theorem c_Marks_add_3 (l : Launch) (D : va_G) (K : Nat → ClassId) (m0 m1 s0 s1 s2 s3 s4 : Nat) (S0 S1 S2 S3 S4 : Nat → UInt8) (x0 x1 x2 : Nat) (B : Nat → UInt8) (G : Nat → Bool) : ks_M l D (ks_T K) (ks_R 3) y_Marks_add b_Marks_add 2 none [.ref m0, .ref x0] (kw_marks K m0 m1 s0 s1 s2 s3 s4 S0 S1 S2 S3 S4 3 ++ kw_pages K x0 x1 x2 B G) (ks_f none (kw_marks K m0 m1 s0 s1 s2 s3 s4 S0 S1 S2 (va_cpy B S3 0 0 (288 + kv_used B * 32)) S4 4 ++ kw_pages K x0 x1 x2 B G)) := by
  refine ks_M.of 0 (by decide) (Nat.le_of_ble_eq_true rfl) ?_
  intro E C Z
  refine ks_aload_n rfl rfl C d_Marks_add_0 ?_
  refine ks_get (k := 1) C 0 3 in_Marks rfl (by decide) fk_Marks_17 rfl rfl rfl d_Marks_add_1 ?_
  refine ks_iconst (a := 5) rfl C d_Marks_add_4 ?_
  refine ks_icmp_ge (tgt := 31) C (by omega) (by omega) (by decide) d_Marks_add_5 (fun u1 => ?_) (fun u1 => ?_)
  · exact ks_vret C Z rfl d_Marks_add_31 rfl rfl (False.elim (by omega))
  · refine ks_aload_n rfl rfl C d_Marks_add_8 ?_
    refine ks_aload_n rfl rfl C d_Marks_add_9 ?_
    refine ks_get (k := 0) C 0 3 in_Marks rfl (by decide) fk_Marks_12 rfl rfl rfl d_Marks_add_10 ?_
    refine ks_aload_n rfl rfl C d_Marks_add_13 ?_
    refine ks_get (k := 1) C 0 3 in_Marks rfl (by decide) fk_Marks_17 rfl rfl rfl d_Marks_add_14 ?_
    refine ks_aald (b := s3) C 1 4 rfl rfl (by decide) (by decide) rfl d_Marks_add_17 ?_
    refine ks_cv (ci := 1) (q0 := 0) (kw_marks K m0 m1 s0 s1 s2 s3 s4 _ _ _ _ _ _ ++ kw_pages K x0 x1 x2 _ _) C (c_Pages_saveTo l D K x0 x1 x2 _ _ s3 _) yw_Pages_saveTo sel_Pages_saveTo lk_Marks_21 d_Marks_add_18 rfl rfl rfl [7, 8, 9, 5] [0, 1, 2, 3, 4, 6] [0, 1, 2, 3, 4, 9, 5, 6, 7, 8] rfl rfl rfl rfl (by decide) rfl rfl rfl rfl rfl ⟨by decide, by decide⟩ ⟨by decide, by decide⟩ rfl (Nat.le_of_ble_eq_true rfl) ?_
    refine ks_aload_n rfl rfl C d_Marks_add_21 ?_
    refine ks_dup rfl C d_Marks_add_22 ?_
    refine ks_get (k := 1) C 0 3 in_Marks rfl (by decide) fk_Marks_17 rfl rfl rfl d_Marks_add_23 ?_
    refine ks_iconst (a := 1) rfl C d_Marks_add_26 ?_
    refine ks_iadd C d_Marks_add_27 ?_
    refine ks_put (k := 1) (ws' := (kw_marks K m0 m1 s0 s1 s2 s3 s4 _ _ _ _ _ _ ++ kw_pages K x0 x1 x2 _ _)) C 0 3 t_Marks ty_Marks nm_Marks in_Marks rfl (by decide) fk_Marks_17 rfl rfl rfl rfl rfl (Nat.le_of_ble_eq_true rfl) rfl d_Marks_add_28 ?_
    exact ks_vret C Z rfl d_Marks_add_31 rfl rfl ⟨rfl, rfl⟩
set_option maxRecDepth 100000 in
set_option maxHeartbeats 4000000 in
theorem c_Marks_add_4 (l : Launch) (D : va_G) (K : Nat → ClassId) (m0 m1 s0 s1 s2 s3 s4 : Nat) (S0 S1 S2 S3 S4 : Nat → UInt8) (x0 x1 x2 : Nat) (B : Nat → UInt8) (G : Nat → Bool) : ks_M l D (ks_T K) (ks_R 3) y_Marks_add b_Marks_add 2 none [.ref m0, .ref x0] (kw_marks K m0 m1 s0 s1 s2 s3 s4 S0 S1 S2 S3 S4 4 ++ kw_pages K x0 x1 x2 B G) (ks_f none (kw_marks K m0 m1 s0 s1 s2 s3 s4 S0 S1 S2 S3 (va_cpy B S4 0 0 (288 + kv_used B * 32)) 5 ++ kw_pages K x0 x1 x2 B G)) := by
  refine ks_M.of 0 (by decide) (Nat.le_of_ble_eq_true rfl) ?_
  intro E C Z
  refine ks_aload_n rfl rfl C d_Marks_add_0 ?_
  refine ks_get (k := 1) C 0 3 in_Marks rfl (by decide) fk_Marks_17 rfl rfl rfl d_Marks_add_1 ?_
  refine ks_iconst (a := 5) rfl C d_Marks_add_4 ?_
  refine ks_icmp_ge (tgt := 31) C (by omega) (by omega) (by decide) d_Marks_add_5 (fun u1 => ?_) (fun u1 => ?_)
  · exact ks_vret C Z rfl d_Marks_add_31 rfl rfl (False.elim (by omega))
  · refine ks_aload_n rfl rfl C d_Marks_add_8 ?_
    refine ks_aload_n rfl rfl C d_Marks_add_9 ?_
    refine ks_get (k := 0) C 0 3 in_Marks rfl (by decide) fk_Marks_12 rfl rfl rfl d_Marks_add_10 ?_
    refine ks_aload_n rfl rfl C d_Marks_add_13 ?_
    refine ks_get (k := 1) C 0 3 in_Marks rfl (by decide) fk_Marks_17 rfl rfl rfl d_Marks_add_14 ?_
    refine ks_aald (b := s4) C 1 4 rfl rfl (by decide) (by decide) rfl d_Marks_add_17 ?_
    refine ks_cv (ci := 1) (q0 := 0) (kw_marks K m0 m1 s0 s1 s2 s3 s4 _ _ _ _ _ _ ++ kw_pages K x0 x1 x2 _ _) C (c_Pages_saveTo l D K x0 x1 x2 _ _ s4 _) yw_Pages_saveTo sel_Pages_saveTo lk_Marks_21 d_Marks_add_18 rfl rfl rfl [7, 8, 9, 6] [0, 1, 2, 3, 4, 5] [0, 1, 2, 3, 4, 5, 9, 6, 7, 8] rfl rfl rfl rfl (by decide) rfl rfl rfl rfl rfl ⟨by decide, by decide⟩ ⟨by decide, by decide⟩ rfl (Nat.le_of_ble_eq_true rfl) ?_
    refine ks_aload_n rfl rfl C d_Marks_add_21 ?_
    refine ks_dup rfl C d_Marks_add_22 ?_
    refine ks_get (k := 1) C 0 3 in_Marks rfl (by decide) fk_Marks_17 rfl rfl rfl d_Marks_add_23 ?_
    refine ks_iconst (a := 1) rfl C d_Marks_add_26 ?_
    refine ks_iadd C d_Marks_add_27 ?_
    refine ks_put (k := 1) (ws' := (kw_marks K m0 m1 s0 s1 s2 s3 s4 _ _ _ _ _ _ ++ kw_pages K x0 x1 x2 _ _)) C 0 3 t_Marks ty_Marks nm_Marks in_Marks rfl (by decide) fk_Marks_17 rfl rfl rfl rfl rfl (Nat.le_of_ble_eq_true rfl) rfl d_Marks_add_28 ?_
    exact ks_vret C Z rfl d_Marks_add_31 rfl rfl ⟨rfl, rfl⟩
set_option maxRecDepth 100000 in
set_option maxHeartbeats 4000000 in
theorem c_Marks_restore_1 (l : Launch) (D : va_G) (K : Nat → ClassId) (m0 m1 s0 s1 s2 s3 s4 : Nat) (S0 S1 S2 S3 S4 : Nat → UInt8) (x0 x1 x2 : Nat) (B : Nat → UInt8) (G : Nat → Bool) (cnt : Nat) (h1 : 1 ≤ cnt) (h2 : cnt ≤ 5) : ks_M l D (ks_T K) (ks_R 3) y_Marks_restore b_Marks_restore 3 none [.ref m0, .int (nI 1), .ref x0] (kw_marks K m0 m1 s0 s1 s2 s3 s4 S0 S1 S2 S3 S4 cnt ++ kw_pages K x0 x1 x2 B G) (ks_f none (kw_marks K m0 m1 s0 s1 s2 s3 s4 S0 S1 S2 S3 S4 cnt ++ kw_pages K x0 x1 x2 (kv_load B S0) G)) := by
  refine ks_M.of 0 (by decide) (Nat.le_of_ble_eq_true rfl) ?_
  intro E C Z
  refine ks_iload_n rfl rfl C d_Marks_restore_0 ?_
  refine ks_iconst (a := 1) rfl C d_Marks_restore_1 ?_
  refine ks_icmp_lt (tgt := 25) C (by omega) (by omega) (by decide) d_Marks_restore_2 (fun u1 => ?_) (fun u1 => ?_)
  · exact ks_vret C Z rfl d_Marks_restore_25 rfl rfl (False.elim (by omega))
  · refine ks_iload_n rfl rfl C d_Marks_restore_5 ?_
    refine ks_aload_n rfl rfl C d_Marks_restore_6 ?_
    refine ks_get (k := 1) C 0 3 in_Marks rfl (by decide) fk_Marks_17 rfl rfl rfl d_Marks_restore_7 ?_
    refine ks_icmp_gt (tgt := 25) C (by omega) (by omega) (by decide) d_Marks_restore_10 (fun u2 => ?_) (fun u2 => ?_)
    · exact ks_vret C Z rfl d_Marks_restore_25 rfl rfl (False.elim (by omega))
    · refine ks_aload_n rfl rfl C d_Marks_restore_13 ?_
      refine ks_aload_n rfl rfl C d_Marks_restore_14 ?_
      refine ks_get (k := 0) C 0 3 in_Marks rfl (by decide) fk_Marks_12 rfl rfl rfl d_Marks_restore_15 ?_
      refine ks_iload_n rfl rfl C d_Marks_restore_18 ?_
      refine ks_iconst (a := 1) rfl C d_Marks_restore_19 ?_
      refine ks_isub (by omega) C d_Marks_restore_20 ?_
      refine ks_aald (b := s0) C 1 4 rfl rfl (by decide) (by decide) rfl d_Marks_restore_21 ?_
      refine ks_cv (ci := 1) (q0 := 0) (kw_marks K m0 m1 s0 s1 s2 s3 s4 _ _ _ _ _ _ ++ kw_pages K x0 x1 x2 _ _) C (c_Pages_load l D K x0 x1 x2 _ _ s0 _) yw_Pages_load sel_Pages_load lk_Marks_27 d_Marks_restore_22 rfl rfl rfl [7, 8, 9, 2] [0, 1, 3, 4, 5, 6] [0, 1, 9, 2, 3, 4, 5, 6, 7, 8] rfl rfl rfl rfl (by decide) rfl rfl rfl rfl rfl ⟨by decide, by decide⟩ ⟨by decide, by decide⟩ rfl (Nat.le_of_ble_eq_true rfl) ?_
      exact ks_vret C Z rfl d_Marks_restore_25 rfl rfl ⟨rfl, rfl⟩
set_option maxRecDepth 100000 in
set_option maxHeartbeats 4000000 in
theorem c_Marks_restore_2 (l : Launch) (D : va_G) (K : Nat → ClassId) (m0 m1 s0 s1 s2 s3 s4 : Nat) (S0 S1 S2 S3 S4 : Nat → UInt8) (x0 x1 x2 : Nat) (B : Nat → UInt8) (G : Nat → Bool) (cnt : Nat) (h1 : 2 ≤ cnt) (h2 : cnt ≤ 5) : ks_M l D (ks_T K) (ks_R 3) y_Marks_restore b_Marks_restore 3 none [.ref m0, .int (nI 2), .ref x0] (kw_marks K m0 m1 s0 s1 s2 s3 s4 S0 S1 S2 S3 S4 cnt ++ kw_pages K x0 x1 x2 B G) (ks_f none (kw_marks K m0 m1 s0 s1 s2 s3 s4 S0 S1 S2 S3 S4 cnt ++ kw_pages K x0 x1 x2 (kv_load B S1) G)) := by
  refine ks_M.of 0 (by decide) (Nat.le_of_ble_eq_true rfl) ?_
  intro E C Z
  refine ks_iload_n rfl rfl C d_Marks_restore_0 ?_
  refine ks_iconst (a := 1) rfl C d_Marks_restore_1 ?_
  refine ks_icmp_lt (tgt := 25) C (by omega) (by omega) (by decide) d_Marks_restore_2 (fun u1 => ?_) (fun u1 => ?_)
  · exact ks_vret C Z rfl d_Marks_restore_25 rfl rfl (False.elim (by omega))
  · refine ks_iload_n rfl rfl C d_Marks_restore_5 ?_
    refine ks_aload_n rfl rfl C d_Marks_restore_6 ?_
    refine ks_get (k := 1) C 0 3 in_Marks rfl (by decide) fk_Marks_17 rfl rfl rfl d_Marks_restore_7 ?_
    refine ks_icmp_gt (tgt := 25) C (by omega) (by omega) (by decide) d_Marks_restore_10 (fun u2 => ?_) (fun u2 => ?_)
    · exact ks_vret C Z rfl d_Marks_restore_25 rfl rfl (False.elim (by omega))
    · refine ks_aload_n rfl rfl C d_Marks_restore_13 ?_
      refine ks_aload_n rfl rfl C d_Marks_restore_14 ?_
      refine ks_get (k := 0) C 0 3 in_Marks rfl (by decide) fk_Marks_12 rfl rfl rfl d_Marks_restore_15 ?_
      refine ks_iload_n rfl rfl C d_Marks_restore_18 ?_
      refine ks_iconst (a := 1) rfl C d_Marks_restore_19 ?_
      refine ks_isub (by omega) C d_Marks_restore_20 ?_
      refine ks_aald (b := s1) C 1 4 rfl rfl (by decide) (by decide) rfl d_Marks_restore_21 ?_
      refine ks_cv (ci := 1) (q0 := 0) (kw_marks K m0 m1 s0 s1 s2 s3 s4 _ _ _ _ _ _ ++ kw_pages K x0 x1 x2 _ _) C (c_Pages_load l D K x0 x1 x2 _ _ s1 _) yw_Pages_load sel_Pages_load lk_Marks_27 d_Marks_restore_22 rfl rfl rfl [7, 8, 9, 3] [0, 1, 2, 4, 5, 6] [0, 1, 2, 9, 3, 4, 5, 6, 7, 8] rfl rfl rfl rfl (by decide) rfl rfl rfl rfl rfl ⟨by decide, by decide⟩ ⟨by decide, by decide⟩ rfl (Nat.le_of_ble_eq_true rfl) ?_
      exact ks_vret C Z rfl d_Marks_restore_25 rfl rfl ⟨rfl, rfl⟩
set_option maxRecDepth 100000 in
set_option maxHeartbeats 4000000 in
theorem c_Marks_restore_3 (l : Launch) (D : va_G) (K : Nat → ClassId) (m0 m1 s0 s1 s2 s3 s4 : Nat) (S0 S1 S2 S3 S4 : Nat → UInt8) (x0 x1 x2 : Nat) (B : Nat → UInt8) (G : Nat → Bool) (cnt : Nat) (h1 : 3 ≤ cnt) (h2 : cnt ≤ 5) : ks_M l D (ks_T K) (ks_R 3) y_Marks_restore b_Marks_restore 3 none [.ref m0, .int (nI 3), .ref x0] (kw_marks K m0 m1 s0 s1 s2 s3 s4 S0 S1 S2 S3 S4 cnt ++ kw_pages K x0 x1 x2 B G) (ks_f none (kw_marks K m0 m1 s0 s1 s2 s3 s4 S0 S1 S2 S3 S4 cnt ++ kw_pages K x0 x1 x2 (kv_load B S2) G)) := by
  refine ks_M.of 0 (by decide) (Nat.le_of_ble_eq_true rfl) ?_
  intro E C Z
  refine ks_iload_n rfl rfl C d_Marks_restore_0 ?_
  refine ks_iconst (a := 1) rfl C d_Marks_restore_1 ?_
  refine ks_icmp_lt (tgt := 25) C (by omega) (by omega) (by decide) d_Marks_restore_2 (fun u1 => ?_) (fun u1 => ?_)
  · exact ks_vret C Z rfl d_Marks_restore_25 rfl rfl (False.elim (by omega))
  · refine ks_iload_n rfl rfl C d_Marks_restore_5 ?_
    refine ks_aload_n rfl rfl C d_Marks_restore_6 ?_
    refine ks_get (k := 1) C 0 3 in_Marks rfl (by decide) fk_Marks_17 rfl rfl rfl d_Marks_restore_7 ?_
    refine ks_icmp_gt (tgt := 25) C (by omega) (by omega) (by decide) d_Marks_restore_10 (fun u2 => ?_) (fun u2 => ?_)
    · exact ks_vret C Z rfl d_Marks_restore_25 rfl rfl (False.elim (by omega))
    · refine ks_aload_n rfl rfl C d_Marks_restore_13 ?_
      refine ks_aload_n rfl rfl C d_Marks_restore_14 ?_
      refine ks_get (k := 0) C 0 3 in_Marks rfl (by decide) fk_Marks_12 rfl rfl rfl d_Marks_restore_15 ?_
      refine ks_iload_n rfl rfl C d_Marks_restore_18 ?_
      refine ks_iconst (a := 1) rfl C d_Marks_restore_19 ?_
      refine ks_isub (by omega) C d_Marks_restore_20 ?_
      refine ks_aald (b := s2) C 1 4 rfl rfl (by decide) (by decide) rfl d_Marks_restore_21 ?_
      refine ks_cv (ci := 1) (q0 := 0) (kw_marks K m0 m1 s0 s1 s2 s3 s4 _ _ _ _ _ _ ++ kw_pages K x0 x1 x2 _ _) C (c_Pages_load l D K x0 x1 x2 _ _ s2 _) yw_Pages_load sel_Pages_load lk_Marks_27 d_Marks_restore_22 rfl rfl rfl [7, 8, 9, 4] [0, 1, 2, 3, 5, 6] [0, 1, 2, 3, 9, 4, 5, 6, 7, 8] rfl rfl rfl rfl (by decide) rfl rfl rfl rfl rfl ⟨by decide, by decide⟩ ⟨by decide, by decide⟩ rfl (Nat.le_of_ble_eq_true rfl) ?_
      exact ks_vret C Z rfl d_Marks_restore_25 rfl rfl ⟨rfl, rfl⟩
set_option maxRecDepth 100000 in
set_option maxHeartbeats 4000000 in
theorem c_Marks_restore_4 (l : Launch) (D : va_G) (K : Nat → ClassId) (m0 m1 s0 s1 s2 s3 s4 : Nat) (S0 S1 S2 S3 S4 : Nat → UInt8) (x0 x1 x2 : Nat) (B : Nat → UInt8) (G : Nat → Bool) (cnt : Nat) (h1 : 4 ≤ cnt) (h2 : cnt ≤ 5) : ks_M l D (ks_T K) (ks_R 3) y_Marks_restore b_Marks_restore 3 none [.ref m0, .int (nI 4), .ref x0] (kw_marks K m0 m1 s0 s1 s2 s3 s4 S0 S1 S2 S3 S4 cnt ++ kw_pages K x0 x1 x2 B G) (ks_f none (kw_marks K m0 m1 s0 s1 s2 s3 s4 S0 S1 S2 S3 S4 cnt ++ kw_pages K x0 x1 x2 (kv_load B S3) G)) := by
  refine ks_M.of 0 (by decide) (Nat.le_of_ble_eq_true rfl) ?_
  intro E C Z
  refine ks_iload_n rfl rfl C d_Marks_restore_0 ?_
  refine ks_iconst (a := 1) rfl C d_Marks_restore_1 ?_
  refine ks_icmp_lt (tgt := 25) C (by omega) (by omega) (by decide) d_Marks_restore_2 (fun u1 => ?_) (fun u1 => ?_)
  · exact ks_vret C Z rfl d_Marks_restore_25 rfl rfl (False.elim (by omega))
  · refine ks_iload_n rfl rfl C d_Marks_restore_5 ?_
    refine ks_aload_n rfl rfl C d_Marks_restore_6 ?_
    refine ks_get (k := 1) C 0 3 in_Marks rfl (by decide) fk_Marks_17 rfl rfl rfl d_Marks_restore_7 ?_
    refine ks_icmp_gt (tgt := 25) C (by omega) (by omega) (by decide) d_Marks_restore_10 (fun u2 => ?_) (fun u2 => ?_)
    · exact ks_vret C Z rfl d_Marks_restore_25 rfl rfl (False.elim (by omega))
    · refine ks_aload_n rfl rfl C d_Marks_restore_13 ?_
      refine ks_aload_n rfl rfl C d_Marks_restore_14 ?_
      refine ks_get (k := 0) C 0 3 in_Marks rfl (by decide) fk_Marks_12 rfl rfl rfl d_Marks_restore_15 ?_
      refine ks_iload_n rfl rfl C d_Marks_restore_18 ?_
      refine ks_iconst (a := 1) rfl C d_Marks_restore_19 ?_
      refine ks_isub (by omega) C d_Marks_restore_20 ?_
      refine ks_aald (b := s3) C 1 4 rfl rfl (by decide) (by decide) rfl d_Marks_restore_21 ?_
      refine ks_cv (ci := 1) (q0 := 0) (kw_marks K m0 m1 s0 s1 s2 s3 s4 _ _ _ _ _ _ ++ kw_pages K x0 x1 x2 _ _) C (c_Pages_load l D K x0 x1 x2 _ _ s3 _) yw_Pages_load sel_Pages_load lk_Marks_27 d_Marks_restore_22 rfl rfl rfl [7, 8, 9, 5] [0, 1, 2, 3, 4, 6] [0, 1, 2, 3, 4, 9, 5, 6, 7, 8] rfl rfl rfl rfl (by decide) rfl rfl rfl rfl rfl ⟨by decide, by decide⟩ ⟨by decide, by decide⟩ rfl (Nat.le_of_ble_eq_true rfl) ?_
      exact ks_vret C Z rfl d_Marks_restore_25 rfl rfl ⟨rfl, rfl⟩
set_option maxRecDepth 100000 in
set_option maxHeartbeats 4000000 in
theorem c_Marks_restore_5 (l : Launch) (D : va_G) (K : Nat → ClassId) (m0 m1 s0 s1 s2 s3 s4 : Nat) (S0 S1 S2 S3 S4 : Nat → UInt8) (x0 x1 x2 : Nat) (B : Nat → UInt8) (G : Nat → Bool) (cnt : Nat) (h1 : 5 ≤ cnt) (h2 : cnt ≤ 5) : ks_M l D (ks_T K) (ks_R 3) y_Marks_restore b_Marks_restore 3 none [.ref m0, .int (nI 5), .ref x0] (kw_marks K m0 m1 s0 s1 s2 s3 s4 S0 S1 S2 S3 S4 cnt ++ kw_pages K x0 x1 x2 B G) (ks_f none (kw_marks K m0 m1 s0 s1 s2 s3 s4 S0 S1 S2 S3 S4 cnt ++ kw_pages K x0 x1 x2 (kv_load B S4) G)) := by
  refine ks_M.of 0 (by decide) (Nat.le_of_ble_eq_true rfl) ?_
  intro E C Z
  refine ks_iload_n rfl rfl C d_Marks_restore_0 ?_
  refine ks_iconst (a := 1) rfl C d_Marks_restore_1 ?_
  refine ks_icmp_lt (tgt := 25) C (by omega) (by omega) (by decide) d_Marks_restore_2 (fun u1 => ?_) (fun u1 => ?_)
  · exact ks_vret C Z rfl d_Marks_restore_25 rfl rfl (False.elim (by omega))
  · refine ks_iload_n rfl rfl C d_Marks_restore_5 ?_
    refine ks_aload_n rfl rfl C d_Marks_restore_6 ?_
    refine ks_get (k := 1) C 0 3 in_Marks rfl (by decide) fk_Marks_17 rfl rfl rfl d_Marks_restore_7 ?_
    refine ks_icmp_gt (tgt := 25) C (by omega) (by omega) (by decide) d_Marks_restore_10 (fun u2 => ?_) (fun u2 => ?_)
    · exact ks_vret C Z rfl d_Marks_restore_25 rfl rfl (False.elim (by omega))
    · refine ks_aload_n rfl rfl C d_Marks_restore_13 ?_
      refine ks_aload_n rfl rfl C d_Marks_restore_14 ?_
      refine ks_get (k := 0) C 0 3 in_Marks rfl (by decide) fk_Marks_12 rfl rfl rfl d_Marks_restore_15 ?_
      refine ks_iload_n rfl rfl C d_Marks_restore_18 ?_
      refine ks_iconst (a := 1) rfl C d_Marks_restore_19 ?_
      refine ks_isub (by omega) C d_Marks_restore_20 ?_
      refine ks_aald (b := s4) C 1 4 rfl rfl (by decide) (by decide) rfl d_Marks_restore_21 ?_
      refine ks_cv (ci := 1) (q0 := 0) (kw_marks K m0 m1 s0 s1 s2 s3 s4 _ _ _ _ _ _ ++ kw_pages K x0 x1 x2 _ _) C (c_Pages_load l D K x0 x1 x2 _ _ s4 _) yw_Pages_load sel_Pages_load lk_Marks_27 d_Marks_restore_22 rfl rfl rfl [7, 8, 9, 6] [0, 1, 2, 3, 4, 5] [0, 1, 2, 3, 4, 5, 9, 6, 7, 8] rfl rfl rfl rfl (by decide) rfl rfl rfl rfl rfl ⟨by decide, by decide⟩ ⟨by decide, by decide⟩ rfl (Nat.le_of_ble_eq_true rfl) ?_
      exact ks_vret C Z rfl d_Marks_restore_25 rfl rfl ⟨rfl, rfl⟩
set_option maxRecDepth 100000 in
set_option maxHeartbeats 4000000 in
theorem c_Disk_plan (l : Launch) (D : va_G) (K : Nat → ClassId) (d0 d1 d2 d3 : Nat) (F J Rc : Nat → UInt8) (jl fw fk fb : Nat) (a b c : Nat) : ks_M l D (ks_T K) (ks_R 0) y_Disk_plan b_Disk_plan 4 none [.ref d0, .int (nI a), .int (nI b), .int (nI c)] (kw_disk K d0 d1 d2 d3 F J Rc jl fw fk fb) (ks_f none (kw_disk K d0 d1 d2 d3 F J Rc jl a b c)) := by
  refine ks_M.of 0 (by decide) (Nat.le_of_ble_eq_true rfl) ?_
  intro E C Z
  refine ks_aload_n rfl rfl C d_Disk_plan_0 ?_
  refine ks_iload_n rfl rfl C d_Disk_plan_1 ?_
  refine ks_put (k := 4) (ws' := (kw_disk K d0 d1 d2 d3 _ _ _ _ _ _ _)) C 0 2 t_Disk ty_Disk nm_Disk in_Disk rfl (by decide) fk_Disk_27 rfl rfl rfl rfl rfl (Nat.le_of_ble_eq_true rfl) rfl d_Disk_plan_2 ?_
  refine ks_aload_n rfl rfl C d_Disk_plan_5 ?_
  refine ks_iload_n rfl rfl C d_Disk_plan_6 ?_
  refine ks_put (k := 5) (ws' := (kw_disk K d0 d1 d2 d3 _ _ _ _ _ _ _)) C 0 2 t_Disk ty_Disk nm_Disk in_Disk rfl (by decide) fk_Disk_30 rfl rfl rfl rfl rfl (Nat.le_of_ble_eq_true rfl) rfl d_Disk_plan_7 ?_
  refine ks_aload_n rfl rfl C d_Disk_plan_10 ?_
  refine ks_iload_n rfl rfl C d_Disk_plan_11 ?_
  refine ks_put (k := 6) (ws' := (kw_disk K d0 d1 d2 d3 _ _ _ _ _ _ _)) C 0 2 t_Disk ty_Disk nm_Disk in_Disk rfl (by decide) fk_Disk_33 rfl rfl rfl rfl rfl (Nat.le_of_ble_eq_true rfl) rfl d_Disk_plan_12 ?_
  exact ks_vret C Z rfl d_Disk_plan_15 rfl rfl ⟨rfl, rfl⟩
set_option maxRecDepth 100000 in
set_option maxHeartbeats 4000000 in
theorem c_Disk_fails (l : Launch) (D : va_G) (K : Nat → ClassId) (d0 d1 d2 d3 : Nat) (F J Rc : Nat → UInt8) (jl fw fk fb : Nat) (wh wr : Nat) (h1 : wh ≤ 4) (h2 : wr < 65536) (hw : fw ≤ 4) (hk : fk ≤ 1000) (hb : fb ≤ 300) : ks_M l D (ks_T K) (ks_R 0) y_Disk_fails b_Disk_fails 3 (some .boolean) [.ref d0, .int (nI wh), .int (nI wr)] (kw_disk K d0 d1 d2 d3 F J Rc jl fw fk fb) (ks_f (some (.int (ks_b (decide (fw = wh ∧ fk = wr))))) (kw_disk K d0 d1 d2 d3 F J Rc jl fw fk fb)) := by
  refine ks_M.of 0 (by decide) (Nat.le_of_ble_eq_true rfl) ?_
  intro E C Z
  refine ks_aload_n rfl rfl C d_Disk_fails_0 ?_
  refine ks_get (k := 4) C 0 2 in_Disk rfl (by decide) fk_Disk_27 rfl rfl rfl d_Disk_fails_1 ?_
  refine ks_iload_n rfl rfl C d_Disk_fails_4 ?_
  refine ks_icmp_ne (tgt := 20) C (by omega) (by omega) (by decide) d_Disk_fails_5 (fun u1 => ?_) (fun u1 => ?_)
  · refine ks_iconstB false rfl C d_Disk_fails_20 ?_
    exact ks_iret C Z rfl (ks_nb1 _) d_Disk_fails_21 rfl rfl ⟨ks_eqF (by omega), rfl⟩
  · refine ks_aload_n rfl rfl C d_Disk_fails_8 ?_
    refine ks_get (k := 5) C 0 2 in_Disk rfl (by decide) fk_Disk_30 rfl rfl rfl d_Disk_fails_9 ?_
    refine ks_iload_n rfl rfl C d_Disk_fails_12 ?_
    refine ks_icmp_ne (tgt := 20) C (by omega) (by omega) (by decide) d_Disk_fails_13 (fun u2 => ?_) (fun u2 => ?_)
    · refine ks_iconstB false rfl C d_Disk_fails_20 ?_
      exact ks_iret C Z rfl (ks_nb1 _) d_Disk_fails_21 rfl rfl ⟨ks_eqF (by omega), rfl⟩
    · refine ks_iconstB true rfl C d_Disk_fails_16 ?_
      refine ks_goto (tgt := 21) C (by decide) d_Disk_fails_17 ?_
      exact ks_iret C Z rfl (ks_nb1 _) d_Disk_fails_21 rfl rfl ⟨ks_eqT (by omega), rfl⟩
set_option maxRecDepth 100000 in
set_option maxHeartbeats 4000000 in
theorem c_Disk_bytesWritten (l : Launch) (D : va_G) (K : Nat → ClassId) (d0 d1 d2 d3 : Nat) (F J Rc : Nat → UInt8) (jl fw fk fb : Nat) (wh wr n : Nat) (h1 : wh ≤ 4) (h2 : wr < 65536) (h3 : n ≤ 100) (hw : fw ≤ 4) (hk : fk ≤ 1000) (hb : fb ≤ 300) : ks_M l D (ks_T K) (ks_R 1) y_Disk_bytesWritten b_Disk_bytesWritten 4 (some .int) [.ref d0, .int (nI wh), .int (nI wr), .int (nI n)] (kw_disk K d0 d1 d2 d3 F J Rc jl fw fk fb) (ks_f (some (.int (nI (kv_bw fw fk fb wh wr n)))) (kw_disk K d0 d1 d2 d3 F J Rc jl fw fk fb)) := by
  refine ks_M.of 0 (by decide) (Nat.le_of_ble_eq_true rfl) ?_
  intro E C Z
  refine ks_aload_n rfl rfl C d_Disk_bytesWritten_0 ?_
  refine ks_iload_n rfl rfl C d_Disk_bytesWritten_1 ?_
  refine ks_iload_n rfl rfl C d_Disk_bytesWritten_2 ?_
  refine ks_cx (ci := 2) (q0 := 0) (kw_disk K d0 d1 d2 d3 _ _ _ _ _ _ _) C (c_Disk_fails l D K d0 d1 d2 d3 _ _ _ _ _ _ _ _ _ (by omega) (by omega) (by omega) (by omega) (by omega)) yw_Disk_fails sel_Disk_fails lk_Disk_85 d_Disk_bytesWritten_3 rfl rfl rfl [0, 1, 2, 3] [] [0, 1, 2, 3] rfl rfl rfl rfl (by decide) rfl rfl rfl rfl rfl ⟨by decide, by decide⟩ ⟨by decide, by decide⟩ rfl (Nat.le_of_ble_eq_true rfl) ?_
  refine ks_ifD_eq (tgt := 20) C (by decide) d_Disk_bytesWritten_6 (fun u1 => ?_) (fun u1 => ?_)
  · refine ks_iload_n rfl rfl C d_Disk_bytesWritten_20 ?_
    exact ks_iret C Z rfl rfl d_Disk_bytesWritten_21 rfl rfl ⟨ks_eqN (by unfold kv_bw; rw [if_neg u1]), rfl⟩
  · refine ks_aload_n rfl rfl C d_Disk_bytesWritten_9 ?_
    refine ks_get (k := 6) C 0 2 in_Disk rfl (by decide) fk_Disk_33 rfl rfl rfl d_Disk_bytesWritten_10 ?_
    refine ks_iload_n rfl rfl C d_Disk_bytesWritten_13 ?_
    refine ks_min C lk_Disk_88 wm_min (by omega) (by omega) (by decide) (Nat.le_of_ble_eq_true rfl) (by decide) (by decide) d_Disk_bytesWritten_14 ?_
    refine ks_goto (tgt := 21) C (by decide) d_Disk_bytesWritten_17 ?_
    exact ks_iret C Z rfl rfl d_Disk_bytesWritten_21 rfl rfl ⟨ks_eqN (by unfold kv_bw; rw [if_pos u1]), rfl⟩
set_option maxRecDepth 100000 in
set_option maxHeartbeats 4000000 in
theorem c_Disk_writeFile (l : Launch) (D : va_G) (K : Nat → ClassId) (d0 d1 d2 d3 : Nat) (F J Rc : Nat → UInt8) (jl fw fk fb : Nat) (f0 : Nat) (S : Nat → UInt8) (wh wr pg a : Nat) (h1 : wh ≤ 4) (h2 : wr < 65536) (h3 : pg < 65536) (h4 : a < 1073741824) (hw : fw ≤ 4) (hk : fk ≤ 1000) (hb : fb ≤ 300) : ks_M l D (ks_T K) (ks_R 2) y_Disk_writeFile b_Disk_writeFile 7 (some .boolean) [.ref d0, .int (nI wh), .int (nI wr), .int (nI pg), .ref f0, .int (nI a)] (kw_disk K d0 d1 d2 d3 F J Rc jl fw fk fb ++ kw_arr K f0 87040 S) (ks_f (some (.int (ks_b (decide (¬ (fw = wh ∧ fk = wr)))))) (kw_disk K d0 d1 d2 d3 (kv_wf F S 87040 fw fk fb wh wr pg a) J Rc jl fw fk fb ++ kw_arr K f0 87040 S)) := by
  refine ks_M.of 1 (by decide) (Nat.le_of_ble_eq_true rfl) ?_
  intro E C Z
  refine ks_aload_n rfl rfl C d_Disk_writeFile_0 ?_
  refine ks_iload_n rfl rfl C d_Disk_writeFile_1 ?_
  refine ks_iload_n rfl rfl C d_Disk_writeFile_2 ?_
  refine ks_bipush (a := 32) rfl C d_Disk_writeFile_3 ?_
  refine ks_cx (ci := 2) (q0 := 0) (kw_disk K d0 d1 d2 d3 _ _ _ _ _ _ _ ++ kw_arr K f0 87040 _) C (c_Disk_bytesWritten l D K d0 d1 d2 d3 _ _ _ _ _ _ _ _ _ _ (by omega) (by omega) (by omega) (by omega) (by omega) (by omega)) yw_Disk_bytesWritten sel_Disk_bytesWritten lk_Disk_81 d_Disk_writeFile_5 rfl rfl rfl [0, 1, 2, 3] [4] [1, 2, 3, 4, 0] rfl rfl rfl rfl (by decide) rfl rfl rfl rfl rfl ⟨by decide, by decide⟩ ⟨by decide, by decide⟩ rfl (Nat.le_of_ble_eq_true rfl) ?_
  refine ks_top_kbw (fun u1 => ?_)
  refine ks_istore C (by decide) rfl d_Disk_writeFile_8 ?_
  refine ks_iload_n rfl rfl C d_Disk_writeFile_10 ?_
  refine ks_sipush (a := 2720) rfl C d_Disk_writeFile_11 ?_
  refine ks_icmp_ge (tgt := 45) C (by omega) (by omega) (by decide) d_Disk_writeFile_14 (fun u2 => ?_) (fun u2 => ?_)
  · refine ks_aload_n rfl rfl C d_Disk_writeFile_45 ?_
    refine ks_iload_n rfl rfl C d_Disk_writeFile_46 ?_
    refine ks_iload_n rfl rfl C d_Disk_writeFile_47 ?_
    refine ks_cx (ci := 2) (q0 := 0) (kw_disk K d0 d1 d2 d3 _ _ _ _ _ _ _ ++ kw_arr K f0 87040 _) C (c_Disk_fails l D K d0 d1 d2 d3 _ _ _ _ _ _ _ _ _ (by omega) (by omega) (by omega) (by omega) (by omega)) yw_Disk_fails sel_Disk_fails lk_Disk_85 d_Disk_writeFile_48 rfl rfl rfl [0, 1, 2, 3] [4] [1, 2, 3, 4, 0] rfl rfl rfl rfl (by decide) rfl rfl rfl rfl rfl ⟨by decide, by decide⟩ ⟨by decide, by decide⟩ rfl (Nat.le_of_ble_eq_true rfl) ?_
    refine ks_ifD_ne (tgt := 58) C (by decide) d_Disk_writeFile_51 (fun u3 => ?_) (fun u3 => ?_)
    · refine ks_iconstB false rfl C d_Disk_writeFile_58 ?_
      exact ks_iret C Z rfl (ks_nb1 _) d_Disk_writeFile_59 rfl rfl ⟨ks_eqF (by omega), by unfold kv_wf; rw [if_neg (by omega)]⟩
    · refine ks_iconstB true rfl C d_Disk_writeFile_54 ?_
      refine ks_goto (tgt := 59) C (by decide) d_Disk_writeFile_55 ?_
      exact ks_iret C Z rfl (ks_nb1 _) d_Disk_writeFile_59 rfl rfl ⟨ks_eqT (by omega), by unfold kv_wf; rw [if_neg (by omega)]⟩
  · refine ks_iload rfl C d_Disk_writeFile_17 ?_
    refine ks_aload rfl C d_Disk_writeFile_19 ?_
    refine ks_alen C 4 0 rfl rfl d_Disk_writeFile_21 ?_
    refine ks_iload rfl C d_Disk_writeFile_22 ?_
    refine ks_isub (by omega) C d_Disk_writeFile_24 ?_
    refine ks_icmp_gt (tgt := 45) C (by omega) (by omega) (by decide) d_Disk_writeFile_25 (fun u4 => ?_) (fun u4 => ?_)
    · refine ks_aload_n rfl rfl C d_Disk_writeFile_45 ?_
      refine ks_iload_n rfl rfl C d_Disk_writeFile_46 ?_
      refine ks_iload_n rfl rfl C d_Disk_writeFile_47 ?_
      refine ks_cx (ci := 2) (q0 := 0) (kw_disk K d0 d1 d2 d3 _ _ _ _ _ _ _ ++ kw_arr K f0 87040 _) C (c_Disk_fails l D K d0 d1 d2 d3 _ _ _ _ _ _ _ _ _ (by omega) (by omega) (by omega) (by omega) (by omega)) yw_Disk_fails sel_Disk_fails lk_Disk_85 d_Disk_writeFile_48 rfl rfl rfl [0, 1, 2, 3] [4] [1, 2, 3, 4, 0] rfl rfl rfl rfl (by decide) rfl rfl rfl rfl rfl ⟨by decide, by decide⟩ ⟨by decide, by decide⟩ rfl (Nat.le_of_ble_eq_true rfl) ?_
      refine ks_ifD_ne (tgt := 58) C (by decide) d_Disk_writeFile_51 (fun u5 => ?_) (fun u5 => ?_)
      · refine ks_iconstB false rfl C d_Disk_writeFile_58 ?_
        exact ks_iret C Z rfl (ks_nb1 _) d_Disk_writeFile_59 rfl rfl ⟨ks_eqF (by omega), by unfold kv_wf; rw [if_neg (by omega)]⟩
      · refine ks_iconstB true rfl C d_Disk_writeFile_54 ?_
        refine ks_goto (tgt := 59) C (by decide) d_Disk_writeFile_55 ?_
        exact ks_iret C Z rfl (ks_nb1 _) d_Disk_writeFile_59 rfl rfl ⟨ks_eqT (by omega), by unfold kv_wf; rw [if_neg (by omega)]⟩
    · refine ks_aload rfl C d_Disk_writeFile_28 ?_
      refine ks_iload rfl C d_Disk_writeFile_30 ?_
      refine ks_aload_n rfl rfl C d_Disk_writeFile_32 ?_
      refine ks_get (k := 0) C 0 2 in_Disk rfl (by decide) fk_Disk_10 rfl rfl rfl d_Disk_writeFile_33 ?_
      refine ks_iload_n rfl rfl C d_Disk_writeFile_36 ?_
      refine ks_bipush (a := 32) rfl C d_Disk_writeFile_37 ?_
      refine ks_imul C d_Disk_writeFile_39 ?_
      refine ks_iload rfl C d_Disk_writeFile_40 ?_
      refine ks_copy (ws' := (kw_disk K d0 d1 d2 d3 _ _ _ _ _ _ _ ++ kw_arr K f0 87040 _)) C 4 1 0 rfl lk_Disk_75 wm_copy rfl rfl (by omega) (by omega) (by omega) (by omega) (by decide) (Nat.le_of_ble_eq_true rfl) rfl d_Disk_writeFile_42 ?_
      refine ks_aload_n rfl rfl C d_Disk_writeFile_45 ?_
      refine ks_iload_n rfl rfl C d_Disk_writeFile_46 ?_
      refine ks_iload_n rfl rfl C d_Disk_writeFile_47 ?_
      refine ks_cx (ci := 2) (q0 := 0) (kw_disk K d0 d1 d2 d3 _ _ _ _ _ _ _ ++ kw_arr K f0 87040 _) C (c_Disk_fails l D K d0 d1 d2 d3 _ _ _ _ _ _ _ _ _ (by omega) (by omega) (by omega) (by omega) (by omega)) yw_Disk_fails sel_Disk_fails lk_Disk_85 d_Disk_writeFile_48 rfl rfl rfl [0, 1, 2, 3] [4] [1, 2, 3, 4, 0] rfl rfl rfl rfl (by decide) rfl rfl rfl rfl rfl ⟨by decide, by decide⟩ ⟨by decide, by decide⟩ rfl (Nat.le_of_ble_eq_true rfl) ?_
      refine ks_ifD_ne (tgt := 58) C (by decide) d_Disk_writeFile_51 (fun u6 => ?_) (fun u6 => ?_)
      · refine ks_iconstB false rfl C d_Disk_writeFile_58 ?_
        exact ks_iret C Z rfl (ks_nb1 _) d_Disk_writeFile_59 rfl rfl ⟨ks_eqF (by omega), by unfold kv_wf; rw [if_pos (by omega)]⟩
      · refine ks_iconstB true rfl C d_Disk_writeFile_54 ?_
        refine ks_goto (tgt := 59) C (by decide) d_Disk_writeFile_55 ?_
        exact ks_iret C Z rfl (ks_nb1 _) d_Disk_writeFile_59 rfl rfl ⟨ks_eqT (by omega), by unfold kv_wf; rw [if_pos (by omega)]⟩
set_option maxRecDepth 100000 in
set_option maxHeartbeats 4000000 in
theorem c_Disk_writeFileJ (l : Launch) (D : va_G) (K : Nat → ClassId) (d0 d1 d2 d3 : Nat) (F J Rc : Nat → UInt8) (jl fw fk fb : Nat) (wh wr pg a : Nat) (h1 : wh ≤ 4) (h2 : wr < 65536) (h3 : pg < 65536) (h4 : a < 1073741824) (hw : fw ≤ 4) (hk : fk ≤ 1000) (hb : fb ≤ 300) : ks_M l D (ks_T K) (ks_R 2) y_Disk_writeFile b_Disk_writeFile 7 (some .boolean) [.ref d0, .int (nI wh), .int (nI wr), .int (nI pg), .ref d2, .int (nI a)] (kw_disk K d0 d1 d2 d3 F J Rc jl fw fk fb) (ks_f (some (.int (ks_b (decide (¬ (fw = wh ∧ fk = wr)))))) (kw_disk K d0 d1 d2 d3 (kv_wf F J 92480 fw fk fb wh wr pg a) J Rc jl fw fk fb)) := by
  refine ks_M.of 1 (by decide) (Nat.le_of_ble_eq_true rfl) ?_
  intro E C Z
  refine ks_aload_n rfl rfl C d_Disk_writeFile_0 ?_
  refine ks_iload_n rfl rfl C d_Disk_writeFile_1 ?_
  refine ks_iload_n rfl rfl C d_Disk_writeFile_2 ?_
  refine ks_bipush (a := 32) rfl C d_Disk_writeFile_3 ?_
  refine ks_cx (ci := 2) (q0 := 0) (kw_disk K d0 d1 d2 d3 _ _ _ _ _ _ _) C (c_Disk_bytesWritten l D K d0 d1 d2 d3 _ _ _ _ _ _ _ _ _ _ (by omega) (by omega) (by omega) (by omega) (by omega) (by omega)) yw_Disk_bytesWritten sel_Disk_bytesWritten lk_Disk_81 d_Disk_writeFile_5 rfl rfl rfl [0, 1, 2, 3] [] [0, 1, 2, 3] rfl rfl rfl rfl (by decide) rfl rfl rfl rfl rfl ⟨by decide, by decide⟩ ⟨by decide, by decide⟩ rfl (Nat.le_of_ble_eq_true rfl) ?_
  refine ks_top_kbw (fun u1 => ?_)
  refine ks_istore C (by decide) rfl d_Disk_writeFile_8 ?_
  refine ks_iload_n rfl rfl C d_Disk_writeFile_10 ?_
  refine ks_sipush (a := 2720) rfl C d_Disk_writeFile_11 ?_
  refine ks_icmp_ge (tgt := 45) C (by omega) (by omega) (by decide) d_Disk_writeFile_14 (fun u2 => ?_) (fun u2 => ?_)
  · refine ks_aload_n rfl rfl C d_Disk_writeFile_45 ?_
    refine ks_iload_n rfl rfl C d_Disk_writeFile_46 ?_
    refine ks_iload_n rfl rfl C d_Disk_writeFile_47 ?_
    refine ks_cx (ci := 2) (q0 := 0) (kw_disk K d0 d1 d2 d3 _ _ _ _ _ _ _) C (c_Disk_fails l D K d0 d1 d2 d3 _ _ _ _ _ _ _ _ _ (by omega) (by omega) (by omega) (by omega) (by omega)) yw_Disk_fails sel_Disk_fails lk_Disk_85 d_Disk_writeFile_48 rfl rfl rfl [0, 1, 2, 3] [] [0, 1, 2, 3] rfl rfl rfl rfl (by decide) rfl rfl rfl rfl rfl ⟨by decide, by decide⟩ ⟨by decide, by decide⟩ rfl (Nat.le_of_ble_eq_true rfl) ?_
    refine ks_ifD_ne (tgt := 58) C (by decide) d_Disk_writeFile_51 (fun u3 => ?_) (fun u3 => ?_)
    · refine ks_iconstB false rfl C d_Disk_writeFile_58 ?_
      exact ks_iret C Z rfl (ks_nb1 _) d_Disk_writeFile_59 rfl rfl ⟨ks_eqF (by omega), by unfold kv_wf; rw [if_neg (by omega)]⟩
    · refine ks_iconstB true rfl C d_Disk_writeFile_54 ?_
      refine ks_goto (tgt := 59) C (by decide) d_Disk_writeFile_55 ?_
      exact ks_iret C Z rfl (ks_nb1 _) d_Disk_writeFile_59 rfl rfl ⟨ks_eqT (by omega), by unfold kv_wf; rw [if_neg (by omega)]⟩
  · refine ks_iload rfl C d_Disk_writeFile_17 ?_
    refine ks_aload rfl C d_Disk_writeFile_19 ?_
    refine ks_alen C 2 0 rfl rfl d_Disk_writeFile_21 ?_
    refine ks_iload rfl C d_Disk_writeFile_22 ?_
    refine ks_isub (by omega) C d_Disk_writeFile_24 ?_
    refine ks_icmp_gt (tgt := 45) C (by omega) (by omega) (by decide) d_Disk_writeFile_25 (fun u4 => ?_) (fun u4 => ?_)
    · refine ks_aload_n rfl rfl C d_Disk_writeFile_45 ?_
      refine ks_iload_n rfl rfl C d_Disk_writeFile_46 ?_
      refine ks_iload_n rfl rfl C d_Disk_writeFile_47 ?_
      refine ks_cx (ci := 2) (q0 := 0) (kw_disk K d0 d1 d2 d3 _ _ _ _ _ _ _) C (c_Disk_fails l D K d0 d1 d2 d3 _ _ _ _ _ _ _ _ _ (by omega) (by omega) (by omega) (by omega) (by omega)) yw_Disk_fails sel_Disk_fails lk_Disk_85 d_Disk_writeFile_48 rfl rfl rfl [0, 1, 2, 3] [] [0, 1, 2, 3] rfl rfl rfl rfl (by decide) rfl rfl rfl rfl rfl ⟨by decide, by decide⟩ ⟨by decide, by decide⟩ rfl (Nat.le_of_ble_eq_true rfl) ?_
      refine ks_ifD_ne (tgt := 58) C (by decide) d_Disk_writeFile_51 (fun u5 => ?_) (fun u5 => ?_)
      · refine ks_iconstB false rfl C d_Disk_writeFile_58 ?_
        exact ks_iret C Z rfl (ks_nb1 _) d_Disk_writeFile_59 rfl rfl ⟨ks_eqF (by omega), by unfold kv_wf; rw [if_neg (by omega)]⟩
      · refine ks_iconstB true rfl C d_Disk_writeFile_54 ?_
        refine ks_goto (tgt := 59) C (by decide) d_Disk_writeFile_55 ?_
        exact ks_iret C Z rfl (ks_nb1 _) d_Disk_writeFile_59 rfl rfl ⟨ks_eqT (by omega), by unfold kv_wf; rw [if_neg (by omega)]⟩
    · refine ks_aload rfl C d_Disk_writeFile_28 ?_
      refine ks_iload rfl C d_Disk_writeFile_30 ?_
      refine ks_aload_n rfl rfl C d_Disk_writeFile_32 ?_
      refine ks_get (k := 0) C 0 2 in_Disk rfl (by decide) fk_Disk_10 rfl rfl rfl d_Disk_writeFile_33 ?_
      refine ks_iload_n rfl rfl C d_Disk_writeFile_36 ?_
      refine ks_bipush (a := 32) rfl C d_Disk_writeFile_37 ?_
      refine ks_imul C d_Disk_writeFile_39 ?_
      refine ks_iload rfl C d_Disk_writeFile_40 ?_
      refine ks_copy (ws' := (kw_disk K d0 d1 d2 d3 _ _ _ _ _ _ _)) C 2 1 0 rfl lk_Disk_75 wm_copy rfl rfl (by omega) (by omega) (by omega) (by omega) (by decide) (Nat.le_of_ble_eq_true rfl) rfl d_Disk_writeFile_42 ?_
      refine ks_aload_n rfl rfl C d_Disk_writeFile_45 ?_
      refine ks_iload_n rfl rfl C d_Disk_writeFile_46 ?_
      refine ks_iload_n rfl rfl C d_Disk_writeFile_47 ?_
      refine ks_cx (ci := 2) (q0 := 0) (kw_disk K d0 d1 d2 d3 _ _ _ _ _ _ _) C (c_Disk_fails l D K d0 d1 d2 d3 _ _ _ _ _ _ _ _ _ (by omega) (by omega) (by omega) (by omega) (by omega)) yw_Disk_fails sel_Disk_fails lk_Disk_85 d_Disk_writeFile_48 rfl rfl rfl [0, 1, 2, 3] [] [0, 1, 2, 3] rfl rfl rfl rfl (by decide) rfl rfl rfl rfl rfl ⟨by decide, by decide⟩ ⟨by decide, by decide⟩ rfl (Nat.le_of_ble_eq_true rfl) ?_
      refine ks_ifD_ne (tgt := 58) C (by decide) d_Disk_writeFile_51 (fun u6 => ?_) (fun u6 => ?_)
      · refine ks_iconstB false rfl C d_Disk_writeFile_58 ?_
        exact ks_iret C Z rfl (ks_nb1 _) d_Disk_writeFile_59 rfl rfl ⟨ks_eqF (by omega), by unfold kv_wf; rw [if_pos (by omega)]⟩
      · refine ks_iconstB true rfl C d_Disk_writeFile_54 ?_
        refine ks_goto (tgt := 59) C (by decide) d_Disk_writeFile_55 ?_
        exact ks_iret C Z rfl (ks_nb1 _) d_Disk_writeFile_59 rfl rfl ⟨ks_eqT (by omega), by unfold kv_wf; rw [if_pos (by omega)]⟩
set_option maxRecDepth 100000 in
set_option maxHeartbeats 4000000 in
theorem c_Disk_writeJournal (l : Launch) (D : va_G) (K : Nat → ClassId) (d0 d1 d2 d3 : Nat) (F J Rc : Nat → UInt8) (jl fw fk fb : Nat) (wr pg : Nat) (h1 : wr < 65536) (h2 : pg < 2720) (h3 : jl ≤ 92480) (hw : fw ≤ 4) (hk : fk ≤ 1000) (hb : fb ≤ 300) : ks_M l D (ks_T K) (ks_R 2) y_Disk_writeJournal b_Disk_writeJournal 4 (some .boolean) [.ref d0, .int (nI wr), .int (nI pg)] (kw_disk K d0 d1 d2 d3 F J Rc jl fw fk fb) (ks_f (some (.int (ks_b (decide (¬ (fw = 0 ∧ fk = wr)))))) (kw_disk K d0 d1 d2 d3 F (kv_wj F J Rc jl fw fk fb wr pg).1 (kv_rec F Rc pg) (kv_wj F J Rc jl fw fk fb wr pg).2 fw fk fb)) := by
  refine ks_M.of 1 (by decide) (Nat.le_of_ble_eq_true rfl) ?_
  intro E C Z
  refine ks_aload_n rfl rfl C d_Disk_writeJournal_0 ?_
  refine ks_get (k := 2) C 0 2 in_Disk rfl (by decide) fk_Disk_20 rfl rfl rfl d_Disk_writeJournal_1 ?_
  refine ks_iconst (a := 0) rfl C d_Disk_writeJournal_4 ?_
  refine ks_iload_n rfl rfl C d_Disk_writeJournal_5 ?_
  refine ks_bipush (a := 8) rfl C d_Disk_writeJournal_6 ?_
  refine ks_ishrI C d_Disk_writeJournal_8 ?_
  refine ks_i2b C d_Disk_writeJournal_9 ?_
  refine ks_bast (ws' := (kw_disk K d0 d1 d2 d3 _ _ _ _ _ _ _)) C 3 0 rfl rfl (by omega) (by omega) (ks_nb8 _) rfl d_Disk_writeJournal_10 ?_
  refine ks_aload_n rfl rfl C d_Disk_writeJournal_11 ?_
  refine ks_get (k := 2) C 0 2 in_Disk rfl (by decide) fk_Disk_20 rfl rfl rfl d_Disk_writeJournal_12 ?_
  refine ks_iconst (a := 1) rfl C d_Disk_writeJournal_15 ?_
  refine ks_iload_n rfl rfl C d_Disk_writeJournal_16 ?_
  refine ks_i2b C d_Disk_writeJournal_17 ?_
  refine ks_bast (ws' := (kw_disk K d0 d1 d2 d3 _ _ _ _ _ _ _)) C 3 0 rfl rfl (by omega) (by omega) (ks_nb _) rfl d_Disk_writeJournal_18 ?_
  refine ks_aload_n rfl rfl C d_Disk_writeJournal_19 ?_
  refine ks_get (k := 0) C 0 2 in_Disk rfl (by decide) fk_Disk_10 rfl rfl rfl d_Disk_writeJournal_20 ?_
  refine ks_iload_n rfl rfl C d_Disk_writeJournal_23 ?_
  refine ks_bipush (a := 32) rfl C d_Disk_writeJournal_24 ?_
  refine ks_imul C d_Disk_writeJournal_26 ?_
  refine ks_aload_n rfl rfl C d_Disk_writeJournal_27 ?_
  refine ks_get (k := 2) C 0 2 in_Disk rfl (by decide) fk_Disk_20 rfl rfl rfl d_Disk_writeJournal_28 ?_
  refine ks_iconst (a := 2) rfl C d_Disk_writeJournal_31 ?_
  refine ks_bipush (a := 32) rfl C d_Disk_writeJournal_32 ?_
  refine ks_copy (ws' := (kw_disk K d0 d1 d2 d3 _ _ _ _ _ _ _)) C 1 3 0 rfl lk_Disk_75 wm_copy rfl rfl (by omega) (by omega) (by omega) (by omega) (by decide) (Nat.le_of_ble_eq_true rfl) rfl d_Disk_writeJournal_34 ?_
  refine ks_aload_n rfl rfl C d_Disk_writeJournal_37 ?_
  refine ks_iconst (a := 0) rfl C d_Disk_writeJournal_38 ?_
  refine ks_iload_n rfl rfl C d_Disk_writeJournal_39 ?_
  refine ks_bipush (a := 34) rfl C d_Disk_writeJournal_40 ?_
  refine ks_cx (ci := 2) (q0 := 0) (kw_disk K d0 d1 d2 d3 _ _ _ _ _ _ _) C (c_Disk_bytesWritten l D K d0 d1 d2 d3 _ _ _ _ _ _ _ _ _ _ (by omega) (by omega) (by omega) (by omega) (by omega) (by omega)) yw_Disk_bytesWritten sel_Disk_bytesWritten lk_Disk_81 d_Disk_writeJournal_42 rfl rfl rfl [0, 1, 2, 3] [] [0, 1, 2, 3] rfl rfl rfl rfl (by decide) rfl rfl rfl rfl rfl ⟨by decide, by decide⟩ ⟨by decide, by decide⟩ rfl (Nat.le_of_ble_eq_true rfl) ?_
  refine ks_top_kbw (fun u1 => ?_)
  refine ks_istore_n C rfl (by decide) rfl d_Disk_writeJournal_45 ?_
  refine ks_iload_n rfl rfl C d_Disk_writeJournal_46 ?_
  refine ks_aload_n rfl rfl C d_Disk_writeJournal_47 ?_
  refine ks_get (k := 1) C 0 2 in_Disk rfl (by decide) fk_Disk_17 rfl rfl rfl d_Disk_writeJournal_48 ?_
  refine ks_alen C 2 0 rfl rfl d_Disk_writeJournal_51 ?_
  refine ks_aload_n rfl rfl C d_Disk_writeJournal_52 ?_
  refine ks_get (k := 3) C 0 2 in_Disk rfl (by decide) fk_Disk_23 rfl rfl rfl d_Disk_writeJournal_53 ?_
  refine ks_isub (by omega) C d_Disk_writeJournal_56 ?_
  refine ks_icmp_gt (tgt := 87) C (by omega) (by omega) (by decide) d_Disk_writeJournal_57 (fun u2 => ?_) (fun u2 => ?_)
  · refine ks_aload_n rfl rfl C d_Disk_writeJournal_87 ?_
    refine ks_iconst (a := 0) rfl C d_Disk_writeJournal_88 ?_
    refine ks_iload_n rfl rfl C d_Disk_writeJournal_89 ?_
    refine ks_cx (ci := 2) (q0 := 0) (kw_disk K d0 d1 d2 d3 _ _ _ _ _ _ _) C (c_Disk_fails l D K d0 d1 d2 d3 _ _ _ _ _ _ _ _ _ (by omega) (by omega) (by omega) (by omega) (by omega)) yw_Disk_fails sel_Disk_fails lk_Disk_85 d_Disk_writeJournal_90 rfl rfl rfl [0, 1, 2, 3] [] [0, 1, 2, 3] rfl rfl rfl rfl (by decide) rfl rfl rfl rfl rfl ⟨by decide, by decide⟩ ⟨by decide, by decide⟩ rfl (Nat.le_of_ble_eq_true rfl) ?_
    refine ks_ifD_ne (tgt := 100) C (by decide) d_Disk_writeJournal_93 (fun u3 => ?_) (fun u3 => ?_)
    · refine ks_iconstB false rfl C d_Disk_writeJournal_100 ?_
      exact ks_iret C Z rfl (ks_nb1 _) d_Disk_writeJournal_101 rfl rfl ⟨ks_eqF (by omega), by unfold kv_wj; rw [if_neg (by omega)]; rfl⟩
    · refine ks_iconstB true rfl C d_Disk_writeJournal_96 ?_
      refine ks_goto (tgt := 101) C (by decide) d_Disk_writeJournal_97 ?_
      exact ks_iret C Z rfl (ks_nb1 _) d_Disk_writeJournal_101 rfl rfl ⟨ks_eqT (by omega), by unfold kv_wj; rw [if_neg (by omega)]; rfl⟩
  · refine ks_aload_n rfl rfl C d_Disk_writeJournal_60 ?_
    refine ks_get (k := 2) C 0 2 in_Disk rfl (by decide) fk_Disk_20 rfl rfl rfl d_Disk_writeJournal_61 ?_
    refine ks_iconst (a := 0) rfl C d_Disk_writeJournal_64 ?_
    refine ks_aload_n rfl rfl C d_Disk_writeJournal_65 ?_
    refine ks_get (k := 1) C 0 2 in_Disk rfl (by decide) fk_Disk_17 rfl rfl rfl d_Disk_writeJournal_66 ?_
    refine ks_aload_n rfl rfl C d_Disk_writeJournal_69 ?_
    refine ks_get (k := 3) C 0 2 in_Disk rfl (by decide) fk_Disk_23 rfl rfl rfl d_Disk_writeJournal_70 ?_
    refine ks_iload_n rfl rfl C d_Disk_writeJournal_73 ?_
    refine ks_copy (ws' := (kw_disk K d0 d1 d2 d3 _ _ _ _ _ _ _)) C 3 2 0 rfl lk_Disk_75 wm_copy rfl rfl (by omega) (by omega) (by omega) (by omega) (by decide) (Nat.le_of_ble_eq_true rfl) rfl d_Disk_writeJournal_74 ?_
    refine ks_aload_n rfl rfl C d_Disk_writeJournal_77 ?_
    refine ks_dup rfl C d_Disk_writeJournal_78 ?_
    refine ks_get (k := 3) C 0 2 in_Disk rfl (by decide) fk_Disk_23 rfl rfl rfl d_Disk_writeJournal_79 ?_
    refine ks_iload_n rfl rfl C d_Disk_writeJournal_82 ?_
    refine ks_iadd C d_Disk_writeJournal_83 ?_
    refine ks_put (k := 3) (ws' := (kw_disk K d0 d1 d2 d3 _ _ _ _ _ _ _)) C 0 2 t_Disk ty_Disk nm_Disk in_Disk rfl (by decide) fk_Disk_23 rfl rfl rfl rfl rfl (Nat.le_of_ble_eq_true rfl) rfl d_Disk_writeJournal_84 ?_
    refine ks_aload_n rfl rfl C d_Disk_writeJournal_87 ?_
    refine ks_iconst (a := 0) rfl C d_Disk_writeJournal_88 ?_
    refine ks_iload_n rfl rfl C d_Disk_writeJournal_89 ?_
    refine ks_cx (ci := 2) (q0 := 0) (kw_disk K d0 d1 d2 d3 _ _ _ _ _ _ _) C (c_Disk_fails l D K d0 d1 d2 d3 _ _ _ _ _ _ _ _ _ (by omega) (by omega) (by omega) (by omega) (by omega)) yw_Disk_fails sel_Disk_fails lk_Disk_85 d_Disk_writeJournal_90 rfl rfl rfl [0, 1, 2, 3] [] [0, 1, 2, 3] rfl rfl rfl rfl (by decide) rfl rfl rfl rfl rfl ⟨by decide, by decide⟩ ⟨by decide, by decide⟩ rfl (Nat.le_of_ble_eq_true rfl) ?_
    refine ks_ifD_ne (tgt := 100) C (by decide) d_Disk_writeJournal_93 (fun u4 => ?_) (fun u4 => ?_)
    · refine ks_iconstB false rfl C d_Disk_writeJournal_100 ?_
      exact ks_iret C Z rfl (ks_nb1 _) d_Disk_writeJournal_101 rfl rfl ⟨ks_eqF (by omega), by unfold kv_wj; rw [if_pos (by omega)]; rfl⟩
    · refine ks_iconstB true rfl C d_Disk_writeJournal_96 ?_
      refine ks_goto (tgt := 101) C (by decide) d_Disk_writeJournal_97 ?_
      exact ks_iret C Z rfl (ks_nb1 _) d_Disk_writeJournal_101 rfl rfl ⟨ks_eqT (by omega), by unfold kv_wj; rw [if_pos (by omega)]; rfl⟩
