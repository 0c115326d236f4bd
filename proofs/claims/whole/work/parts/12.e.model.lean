/-! contracts of the reference: packing, a new record -/
def km_neg (MV : Nat → Nat) (n : Nat) : Nat → Nat := fun j => if j < n then 4294967295 else MV j
theorem km_neg_0 (MV : Nat → Nat) : km_neg MV 0 = MV := by funext j; unfold km_neg; rw [if_neg (by omega)]
theorem km_neg_s (MV : Nat → Nat) (n : Nat) : va_up (km_neg MV n) n 4294967295 = km_neg MV (n + 1) := by
  funext j
  unfold va_up km_neg
  by_cases h : j = n
  · rw [if_pos h, if_pos (by omega)]
  · rw [if_neg h]
    by_cases h2 : j < n
    · rw [if_pos h2, if_pos (by omega)]
    · rw [if_neg h2, if_neg (by omega)]
def km_lvL (LI : Nat → Nat) (b : Nat) : Nat → Nat → (Nat → Nat) → (Nat → Nat)
  | 0, _, MV => MV
  | f + 1, k, MV => km_lvL LI b f (k + 1) (va_up MV (LI (b + k)) 0)
def km_lvS (LI MY : Nat → Nat) : Nat → Nat → (Nat → Nat) → (Nat → Nat)
  | 0, _, MV => MV
  | f + 1, s, MV => km_lvS LI MY f (s + 1) (km_lvL LI (2900 * s) (MY s) 0 MV)
theorem km_lvL_lt (LI : Nat → Nat) (b : Nat) : ∀ (f k : Nat) (MV : Nat → Nat) (j : Nat), MV j < 4294967296 → km_lvL LI b f k MV j < 4294967296
  | 0, _, _, _, h => h
  | f + 1, k, MV, j, h => km_lvL_lt LI b f (k + 1) _ j (by unfold va_up; split <;> omega)
theorem km_lvS_lt (LI MY : Nat → Nat) : ∀ (f s : Nat) (MV : Nat → Nat) (j : Nat), MV j < 4294967296 → km_lvS LI MY f s MV j < 4294967296
  | 0, _, _, _, h => h
  | f + 1, s, MV, j, h => km_lvS_lt LI MY f (s + 1) _ j (km_lvL_lt LI _ _ _ _ _ h)
abbrev km_S : Type := ((Nat → Nat) × (Nat → Nat)) × ((Nat → Nat) × (Nat → Nat)) × ((Nat → Nat) × (Nat → UInt8)) × (Nat × Nat)
abbrev km_P : Type := ((Nat → Nat) × (Nat → Nat)) × ((Nat → Nat) × (Nat → Nat)) × ((Nat → Nat) × (Nat → UInt8)) × (Nat → Nat) × (Nat × Nat)
def km_pk1 (e : Nat) (S : km_S) : km_S :=
  if 2147483648 ≤ S.2.2.1.1 e then S else
    ((va_up S.1.1 S.2.2.2.1 (S.1.1 e), va_up S.1.2 S.2.2.2.1 S.2.2.2.2), (va_up S.2.1.1 S.2.2.2.1 (S.2.1.1 e), va_up S.2.1.2 S.2.2.2.1 (S.2.1.2 e)), (va_up S.2.2.1.1 e S.2.2.2.1, va_cpy S.2.2.1.2 S.2.2.1.2 (S.1.2 e) S.2.2.2.2 (S.2.1.1 e + S.2.1.2 e)), (S.2.2.2.1 + 1, S.2.2.2.2 + (S.2.1.1 e + S.2.1.2 e)))
def km_pkL : Nat → Nat → km_S → km_S
  | 0, _, S => S
  | f + 1, e, S => km_pkL f (e + 1) (km_pk1 e S)
def km_rlL (MV : Nat → Nat) (b : Nat) : Nat → Nat → (Nat → Nat) → (Nat → Nat)
  | 0, _, LI => LI
  | f + 1, k, LI => km_rlL MV b f (k + 1) (va_up LI (b + k) (MV (LI (b + k))))
theorem km_rlL_out (MV : Nat → Nat) (b : Nat) : ∀ (f k : Nat) (LI : Nat → Nat) (j : Nat), j < b + k ∨ b + k + f ≤ j → km_rlL MV b f k LI j = LI j
  | 0, _, _, _, _ => rfl
  | f + 1, k, LI, j, h => by
    rw [km_rlL, km_rlL_out MV b f (k + 1) _ j (by omega)]
    unfold va_up
    rw [if_neg (by omega)]
def km_rlS (MV MY : Nat → Nat) : Nat → Nat → (Nat → Nat) → (Nat → Nat)
  | 0, _, LI => LI
  | f + 1, s, LI => km_rlS MV MY f (s + 1) (km_rlL MV (2900 * s) (MY s) 0 LI)
def km_packS (mk : Nat) (MY : Nat → Nat) (P : km_P) : km_S := km_pkL P.2.2.2.2.1 0 (P.1, P.2.1, (km_lvS P.2.2.2.1 MY (2 + mk) 0 (km_neg P.2.2.1.1 P.2.2.2.2.1), P.2.2.1.2), (0, 0))
def km_packR (mk : Nat) (MY LI : Nat → Nat) (S : km_S) : km_P := (S.1, S.2.1, S.2.2.1, km_rlS S.2.2.1.1 MY (2 + mk) 0 LI, S.2.2.2)
def km_pack (mk : Nat) (MY : Nat → Nat) (P : km_P) : km_P := km_packR mk MY P.2.2.2.1 (km_packS mk MY P)
set_option maxRecDepth 100000 in
set_option maxHeartbeats 4000000 in
theorem c_Model_pack (l : Launch) (D : va_G) (K : Nat → ClassId) (a0 a1 a2 a3 a4 a5 a6 a7 a8 a9 a10 a11 a12 a13 : Nat) (TO PL KS VS MV : Nat → Nat) (Y : Nat → UInt8) (LI MY : Nat → Nat) (TR : Nat → Int64) (KY VY FK FV : Nat → UInt8) (rn us kn vn fkn fvn mk : Nat) (off opn fnd : Bool) (wh af th : Nat) (h1 : rn ≤ 20600) (h2 : mk ≤ 5) (h3 : ∀ s, s < 2 + mk → MY s ≤ 2900 ∧ ∀ k, k < MY s → LI (2900 * s + k) < 20600) (h4 : ∀ j, j < rn → PL j + (KS j + VS j) ≤ 400000) (h5 : ∀ j j2, j < j2 → j2 < rn → PL j + (KS j + VS j) ≤ PL j2) : ks_M l D (ks_T K) (ks_R 0) y_Model_pack b_Model_pack 5 none [.ref a0] (kw_model K a0 a1 a2 a3 a4 a5 a6 a7 a8 a9 a10 a11 a12 a13 TO PL KS VS MV Y LI MY TR KY VY FK FV rn us kn vn fkn fvn mk off opn fnd wh af th) (ks_f none (kw_model K a0 a1 a2 a3 a4 a5 a6 a7 a8 a9 a10 a11 a12 a13 (km_pack mk MY ((TO, PL), (KS, VS), (MV, Y), LI, (rn, us))).1.1 (km_pack mk MY ((TO, PL), (KS, VS), (MV, Y), LI, (rn, us))).1.2 (km_pack mk MY ((TO, PL), (KS, VS), (MV, Y), LI, (rn, us))).2.1.1 (km_pack mk MY ((TO, PL), (KS, VS), (MV, Y), LI, (rn, us))).2.1.2 (km_pack mk MY ((TO, PL), (KS, VS), (MV, Y), LI, (rn, us))).2.2.1.1 (km_pack mk MY ((TO, PL), (KS, VS), (MV, Y), LI, (rn, us))).2.2.1.2 (km_pack mk MY ((TO, PL), (KS, VS), (MV, Y), LI, (rn, us))).2.2.2.1 MY TR KY VY FK FV (km_pack mk MY ((TO, PL), (KS, VS), (MV, Y), LI, (rn, us))).2.2.2.2.1 (km_pack mk MY ((TO, PL), (KS, VS), (MV, Y), LI, (rn, us))).2.2.2.2.2 kn vn fkn fvn mk off opn fnd wh af th)) := by
  refine ks_M.of 4 (by decide) (Nat.le_of_ble_eq_true rfl) ?_
  intro E C Z
  have in4 : ∀ (f : Nat) (TO1 PL1 KS1 VS1 MV1 : Nat → Nat) (Y1 : Nat → UInt8) (rn1 us1 : Nat) (LI1 LI2 : Nat → Nat) (s k : Nat), s < 7 → MY s ≤ 2900 → k + f = MY s → (∀ k2, k ≤ k2 → k2 < MY s → LI1 (2900 * s + k2) < 20600) → km_rlL MV1 (2900 * s) f k LI1 = LI2 → (ks_w E D 5 (kw_model K a0 a1 a2 a3 a4 a5 a6 a7 a8 a9 a10 a11 a12 a13 TO1 PL1 KS1 VS1 MV1 Y1 LI2 MY TR KY VY FK FV rn1 us1 kn vn fkn fvn mk off opn fnd wh af th) [some (.ref a0), none, some (.int (nI s)), none, none] 0 0 297 []) → ks_w E D 5 (kw_model K a0 a1 a2 a3 a4 a5 a6 a7 a8 a9 a10 a11 a12 a13 TO1 PL1 KS1 VS1 MV1 Y1 LI1 MY TR KY VY FK FV rn1 us1 kn vn fkn fvn mk off opn fnd wh af th) [some (.ref a0), none, some (.int (nI s)), some (.int (nI k)), none] 0 0 252 [] := by
    intro f
    induction f with
    | zero =>
      intro TO1 PL1 KS1 VS1 MV1 Y1 rn1 us1 LI1 LI2 s k g1 g2 g3 g4 g5 g6
      refine ks_iload_n rfl rfl C d_Model_pack_252 ?_
      refine ks_aload_n rfl rfl C d_Model_pack_253 ?_
      refine ks_get (k := 9) C 0 9 in_Model rfl (by decide) fk_Model_33 rfl rfl rfl d_Model_pack_254 ?_
      refine ks_iload_n rfl rfl C d_Model_pack_257 ?_
      refine ks_iald C 8 2 rfl rfl (by omega) (by omega) d_Model_pack_258 ?_
      refine ks_icmp_ge (tgt := 297) C (by omega) (by omega) (by decide) d_Model_pack_259 (fun u1 => ?_) (fun u1 => ?_)
      · refine ks_forget 3 ?_
        rw [show LI1 = LI2 from g5]
        exact g6
      · exact (by omega : False).elim
    | succ f ih =>
      intro TO1 PL1 KS1 VS1 MV1 Y1 rn1 us1 LI1 LI2 s k g1 g2 g3 g4 g5 g6
      refine ks_iload_n rfl rfl C d_Model_pack_252 ?_
      refine ks_aload_n rfl rfl C d_Model_pack_253 ?_
      refine ks_get (k := 9) C 0 9 in_Model rfl (by decide) fk_Model_33 rfl rfl rfl d_Model_pack_254 ?_
      refine ks_iload_n rfl rfl C d_Model_pack_257 ?_
      refine ks_iald C 8 2 rfl rfl (by omega) (by omega) d_Model_pack_258 ?_
      refine ks_icmp_ge (tgt := 297) C (by omega) (by omega) (by decide) d_Model_pack_259 (fun u2 => ?_) (fun u2 => ?_)
      · exact (by omega : False).elim
      · have q1 := g4 k (by omega) (by omega)
        refine ks_aload_n rfl rfl C d_Model_pack_262 ?_
        refine ks_get (k := 8) C 0 9 in_Model rfl (by decide) fk_Model_30 rfl rfl rfl d_Model_pack_263 ?_
        refine ks_sipush (a := 2900) rfl C d_Model_pack_266 ?_
        refine ks_iload_n rfl rfl C d_Model_pack_269 ?_
        refine ks_imul C d_Model_pack_270 ?_
        refine ks_iload_n rfl rfl C d_Model_pack_271 ?_
        refine ks_iadd C d_Model_pack_272 ?_
        refine ks_aload_n rfl rfl C d_Model_pack_273 ?_
        refine ks_get (k := 4) C 0 9 in_Model rfl (by decide) fk_Model_22 rfl rfl rfl d_Model_pack_274 ?_
        refine ks_aload_n rfl rfl C d_Model_pack_277 ?_
        refine ks_get (k := 8) C 0 9 in_Model rfl (by decide) fk_Model_30 rfl rfl rfl d_Model_pack_278 ?_
        refine ks_sipush (a := 2900) rfl C d_Model_pack_281 ?_
        refine ks_iload_n rfl rfl C d_Model_pack_284 ?_
        refine ks_imul C d_Model_pack_285 ?_
        refine ks_iload_n rfl rfl C d_Model_pack_286 ?_
        refine ks_iadd C d_Model_pack_287 ?_
        refine ks_iald C 7 2 rfl rfl (by omega) (by omega) d_Model_pack_288 ?_
        refine ks_iald C 5 2 rfl rfl (by omega) (by omega) d_Model_pack_289 ?_
        refine ks_iast (ws' := (kw_model K a0 a1 a2 a3 a4 a5 a6 a7 a8 a9 a10 a11 a12 a13 _ _ _ _ _ _ _ _ _ _ _ _ _ _ _ _ _ _ _ _ _ _ _ _ _ _)) C 7 2 rfl rfl (by omega) (by omega) rfl d_Model_pack_290 ?_
        refine ks_iinc C rfl (z := 1) rfl (by decide) rfl d_Model_pack_291 ?_
        refine ks_goto (tgt := 252) C (by decide) d_Model_pack_294 ?_
        exact ih _ _ _ _ _ _ _ _ _ _ _ _ g1 g2 (by omega) (fun k2 z1 z2 => by unfold va_up; rw [if_neg (by omega)]; exact g4 k2 (by omega) z2) g5 g6
  have out4 : ∀ (f : Nat) (TO1 PL1 KS1 VS1 MV1 : Nat → Nat) (Y1 : Nat → UInt8) (rn1 us1 : Nat) (LI1 : Nat → Nat) (s : Nat), s + f = 2 + mk → (∀ s2, s ≤ s2 → s2 < 2 + mk → MY s2 ≤ 2900 ∧ ∀ k, k < MY s2 → LI1 (2900 * s2 + k) < 20600) → ((TO1, PL1), (KS1, VS1), (MV1, Y1), km_rlS MV1 MY f s LI1, (rn1, us1)) = (km_pack mk MY ((TO, PL), (KS, VS), (MV, Y), LI, (rn, us))) → ks_w E D 5 (kw_model K a0 a1 a2 a3 a4 a5 a6 a7 a8 a9 a10 a11 a12 a13 TO1 PL1 KS1 VS1 MV1 Y1 LI1 MY TR KY VY FK FV rn1 us1 kn vn fkn fvn mk off opn fnd wh af th) [some (.ref a0), none, some (.int (nI s)), none, none] 0 0 240 [] := by
    intro f
    induction f with
    | zero =>
      intro TO1 PL1 KS1 VS1 MV1 Y1 rn1 us1 LI1 s g1 g2 g3
      refine ks_iload_n rfl rfl C d_Model_pack_240 ?_
      refine ks_iconst (a := 2) rfl C d_Model_pack_241 ?_
      refine ks_aload_n rfl rfl C d_Model_pack_242 ?_
      refine ks_get (k := 19) C 0 9 in_Model rfl (by decide) fk_Model_88 rfl rfl rfl d_Model_pack_243 ?_
      refine ks_iadd C d_Model_pack_246 ?_
      refine ks_icmp_ge (tgt := 303) C (by omega) (by omega) (by decide) d_Model_pack_247 (fun u3 => ?_) (fun u3 => ?_)
      · exact ks_vret C Z rfl d_Model_pack_303 rfl rfl ⟨rfl, by rw [← g3] <;> rfl⟩
      · exact (by omega : False).elim
    | succ f ih =>
      intro TO1 PL1 KS1 VS1 MV1 Y1 rn1 us1 LI1 s g1 g2 g3
      refine ks_iload_n rfl rfl C d_Model_pack_240 ?_
      refine ks_iconst (a := 2) rfl C d_Model_pack_241 ?_
      refine ks_aload_n rfl rfl C d_Model_pack_242 ?_
      refine ks_get (k := 19) C 0 9 in_Model rfl (by decide) fk_Model_88 rfl rfl rfl d_Model_pack_243 ?_
      refine ks_iadd C d_Model_pack_246 ?_
      refine ks_icmp_ge (tgt := 303) C (by omega) (by omega) (by decide) d_Model_pack_247 (fun u4 => ?_) (fun u4 => ?_)
      · exact (by omega : False).elim
      · obtain ⟨q1, q2⟩ := g2 s (by omega) (by omega)
        refine ks_iconst (a := 0) rfl C d_Model_pack_250 ?_
        refine ks_istore_n C rfl (by decide) rfl d_Model_pack_251 ?_
        refine in4 (MY s) _ _ _ _ _ _ _ _ _ _ s 0 (by omega) q1 (by omega) (fun k2 z1 z2 => q2 k2 z2) rfl ?_
        refine ks_iinc C rfl (z := 1) rfl (by decide) rfl d_Model_pack_297 ?_
        refine ks_goto (tgt := 240) C (by decide) d_Model_pack_300 ?_
        exact ih _ _ _ _ _ _ _ _ _ _ (by omega) (fun s2 z1 z2 => ⟨(g2 s2 (by omega) z2).1, fun k z3 => by rw [km_rlL_out _ _ _ _ _ _ (by have := g2 s (by omega) (by omega); omega)]; exact (g2 s2 (by omega) z2).2 k z3⟩) g3
  have in3 : ∀ (f : Nat) (TO1 PL1 KS1 VS1 MV1 : Nat → Nat) (Y1 : Nat → UInt8) (us1 to e n i : Nat), e < 20600 → i + f = n → us1 ≤ PL1 e → PL1 e + n ≤ 400000 → (ks_w E D 5 (kw_model K a0 a1 a2 a3 a4 a5 a6 a7 a8 a9 a10 a11 a12 a13 TO1 PL1 KS1 VS1 MV1 (va_cpy Y1 Y1 (PL1 e) us1 n) LI MY TR KY VY FK FV rn us1 kn vn fkn fvn mk off opn fnd wh af th) [some (.ref a0), some (.int (nI to)), some (.int (nI e)), some (.int (nI n)), none] 0 0 161 []) → ks_w E D 5 (kw_model K a0 a1 a2 a3 a4 a5 a6 a7 a8 a9 a10 a11 a12 a13 TO1 PL1 KS1 VS1 MV1 (va_cpy Y1 Y1 (PL1 e) us1 i) LI MY TR KY VY FK FV rn us1 kn vn fkn fvn mk off opn fnd wh af th) [some (.ref a0), some (.int (nI to)), some (.int (nI e)), some (.int (nI n)), some (.int (nI i))] 0 0 123 [] := by
    intro f
    induction f with
    | zero =>
      intro TO1 PL1 KS1 VS1 MV1 Y1 us1 to e n i g1 g2 g3 g4 g5
      refine ks_iload rfl C d_Model_pack_123 ?_
      refine ks_iload_n rfl rfl C d_Model_pack_125 ?_
      refine ks_icmp_ge (tgt := 161) C (by omega) (by omega) (by decide) d_Model_pack_126 (fun u5 => ?_) (fun u5 => ?_)
      · refine ks_forget 4 ?_
        rw [show i = n by omega]
        exact g5
      · exact (by omega : False).elim
    | succ f ih =>
      intro TO1 PL1 KS1 VS1 MV1 Y1 us1 to e n i g1 g2 g3 g4 g5
      refine ks_iload rfl C d_Model_pack_123 ?_
      refine ks_iload_n rfl rfl C d_Model_pack_125 ?_
      refine ks_icmp_ge (tgt := 161) C (by omega) (by omega) (by decide) d_Model_pack_126 (fun u6 => ?_) (fun u6 => ?_)
      · exact (by omega : False).elim
      · refine ks_aload_n rfl rfl C d_Model_pack_129 ?_
        refine ks_get (k := 5) C 0 9 in_Model rfl (by decide) fk_Model_26 rfl rfl rfl d_Model_pack_130 ?_
        refine ks_aload_n rfl rfl C d_Model_pack_133 ?_
        refine ks_get (k := 7) C 0 9 in_Model rfl (by decide) fk_Model_91 rfl rfl rfl d_Model_pack_134 ?_
        refine ks_iload rfl C d_Model_pack_137 ?_
        refine ks_iadd C d_Model_pack_139 ?_
        refine ks_aload_n rfl rfl C d_Model_pack_140 ?_
        refine ks_get (k := 5) C 0 9 in_Model rfl (by decide) fk_Model_26 rfl rfl rfl d_Model_pack_141 ?_
        refine ks_aload_n rfl rfl C d_Model_pack_144 ?_
        refine ks_get (k := 1) C 0 9 in_Model rfl (by decide) fk_Model_13 rfl rfl rfl d_Model_pack_145 ?_
        refine ks_iload_n rfl rfl C d_Model_pack_148 ?_
        refine ks_iald C 2 2 rfl rfl (by omega) (by omega) d_Model_pack_149 ?_
        refine ks_iload rfl C d_Model_pack_150 ?_
        refine ks_iadd C d_Model_pack_152 ?_
        refine ks_bald0 C 6 0 rfl rfl (by omega) (by omega) d_Model_pack_153 ?_
        refine ks_bast (ws' := (kw_model K a0 a1 a2 a3 a4 a5 a6 a7 a8 a9 a10 a11 a12 a13 _ _ _ _ _ _ _ _ _ _ _ _ _ _ _ _ _ _ _ _ _ _ _ _ _ _)) C 6 0 rfl rfl (by omega) (by omega) (ks_nbb _ _) rfl d_Model_pack_154 ?_
        refine ks_iinc C rfl (z := 1) rfl (by decide) rfl d_Model_pack_155 ?_
        refine ks_goto (tgt := 123) C (by decide) d_Model_pack_158 ?_
        rw [km_cpy_s Y1 (fun j z1 z2 z3 => by omega)]
        exact ih _ _ _ _ _ _ _ _ _ _ _ g1 (by omega) g3 g4 g5
  have out3 : ∀ (f : Nat) (TO1 PL1 KS1 VS1 MV1 : Nat → Nat) (Y1 : Nat → UInt8) (us1 to e : Nat), e + f = rn → to ≤ e → (∀ j, e ≤ j → j < rn → us1 ≤ PL1 j ∧ PL1 j + (KS1 j + VS1 j) ≤ 400000 ∧ MV1 j < 4294967296) → (∀ j j2, e ≤ j → j < j2 → j2 < rn → PL1 j + (KS1 j + VS1 j) ≤ PL1 j2) → km_pkL f e ((TO1, PL1), (KS1, VS1), (MV1, Y1), (to, us1)) = km_packS mk MY ((TO, PL), (KS, VS), (MV, Y), LI, (rn, us)) → ks_w E D 5 (kw_model K a0 a1 a2 a3 a4 a5 a6 a7 a8 a9 a10 a11 a12 a13 TO1 PL1 KS1 VS1 MV1 Y1 LI MY TR KY VY FK FV rn us1 kn vn fkn fvn mk off opn fnd wh af th) [some (.ref a0), some (.int (nI to)), some (.int (nI e)), none, none] 0 0 86 [] := by
    intro f
    induction f with
    | zero =>
      intro TO1 PL1 KS1 VS1 MV1 Y1 us1 to e g1 g2 g3 g4 g5
      refine ks_iload_n rfl rfl C d_Model_pack_86 ?_
      refine ks_aload_n rfl rfl C d_Model_pack_87 ?_
      refine ks_get (k := 6) C 0 9 in_Model rfl (by decide) fk_Model_85 rfl rfl rfl d_Model_pack_88 ?_
      refine ks_icmp_ge (tgt := 233) C (by omega) (by omega) (by decide) d_Model_pack_91 (fun u7 => ?_) (fun u7 => ?_)
      · refine ks_aload_n rfl rfl C d_Model_pack_233 ?_
        refine ks_iload_n rfl rfl C d_Model_pack_234 ?_
        refine ks_put (k := 6) (ws' := (kw_model K a0 a1 a2 a3 a4 a5 a6 a7 a8 a9 a10 a11 a12 a13 _ _ _ _ _ _ _ _ _ _ _ _ _ _ _ _ _ _ _ _ _ _ _ _ _ _)) C 0 9 t_Model ty_Model nm_Model in_Model rfl (by decide) fk_Model_85 rfl rfl rfl rfl rfl (Nat.le_of_ble_eq_true rfl) rfl d_Model_pack_235 ?_
        refine ks_iconst (a := 0) rfl C d_Model_pack_238 ?_
        refine ks_istore_n C rfl (by decide) rfl d_Model_pack_239 ?_
        refine ks_forget 1 ?_
        refine ks_forget 1 ?_
        exact out4 (2 + mk) _ _ _ _ _ _ _ _ _ 0 (by omega) (fun s2 z1 z2 => h3 s2 z2) (by unfold km_pack; rw [← g5]; rfl)
      · exact (by omega : False).elim
    | succ f ih =>
      intro TO1 PL1 KS1 VS1 MV1 Y1 us1 to e g1 g2 g3 g4 g5
      refine ks_iload_n rfl rfl C d_Model_pack_86 ?_
      refine ks_aload_n rfl rfl C d_Model_pack_87 ?_
      refine ks_get (k := 6) C 0 9 in_Model rfl (by decide) fk_Model_85 rfl rfl rfl d_Model_pack_88 ?_
      refine ks_icmp_ge (tgt := 233) C (by omega) (by omega) (by decide) d_Model_pack_91 (fun u8 => ?_) (fun u8 => ?_)
      · exact (by omega : False).elim
      · obtain ⟨q1, q2, q3⟩ := g3 e (by omega) (by omega)
        refine ks_aload_n rfl rfl C d_Model_pack_94 ?_
        refine ks_get (k := 4) C 0 9 in_Model rfl (by decide) fk_Model_22 rfl rfl rfl d_Model_pack_95 ?_
        refine ks_iload_n rfl rfl C d_Model_pack_98 ?_
        refine ks_iald C 5 2 rfl rfl (by omega) (by omega) d_Model_pack_99 ?_
        refine ks_ifR_ge (tgt := 106) C (by omega) (by decide) d_Model_pack_100 (fun u9 => ?_) (fun u9 => ?_)
        · refine ks_aload_n rfl rfl C d_Model_pack_106 ?_
          refine ks_get (k := 2) C 0 9 in_Model rfl (by decide) fk_Model_16 rfl rfl rfl d_Model_pack_107 ?_
          refine ks_iload_n rfl rfl C d_Model_pack_110 ?_
          refine ks_iald C 3 2 rfl rfl (by omega) (by omega) d_Model_pack_111 ?_
          refine ks_aload_n rfl rfl C d_Model_pack_112 ?_
          refine ks_get (k := 3) C 0 9 in_Model rfl (by decide) fk_Model_19 rfl rfl rfl d_Model_pack_113 ?_
          refine ks_iload_n rfl rfl C d_Model_pack_116 ?_
          refine ks_iald C 4 2 rfl rfl (by omega) (by omega) d_Model_pack_117 ?_
          refine ks_iadd C d_Model_pack_118 ?_
          refine ks_istore_n C rfl (by decide) rfl d_Model_pack_119 ?_
          refine ks_iconst (a := 0) rfl C d_Model_pack_120 ?_
          refine ks_istore C (by decide) rfl d_Model_pack_121 ?_
          have e0 := in3 (KS1 e + VS1 e) TO1 PL1 KS1 VS1 MV1 Y1 us1 to e (KS1 e + VS1 e) 0 (by omega) (by omega) q1 q2
          rw [km_cpy_0] at e0
          refine e0 ?_
          clear e0
          refine ks_aload_n rfl rfl C d_Model_pack_161 ?_
          refine ks_get (k := 0) C 0 9 in_Model rfl (by decide) fk_Model_7 rfl rfl rfl d_Model_pack_162 ?_
          refine ks_iload_n rfl rfl C d_Model_pack_165 ?_
          refine ks_aload_n rfl rfl C d_Model_pack_166 ?_
          refine ks_get (k := 0) C 0 9 in_Model rfl (by decide) fk_Model_7 rfl rfl rfl d_Model_pack_167 ?_
          refine ks_iload_n rfl rfl C d_Model_pack_170 ?_
          refine ks_iald C 1 2 rfl rfl (by omega) (by omega) d_Model_pack_171 ?_
          refine ks_iast (ws' := (kw_model K a0 a1 a2 a3 a4 a5 a6 a7 a8 a9 a10 a11 a12 a13 _ _ _ _ _ _ _ _ _ _ _ _ _ _ _ _ _ _ _ _ _ _ _ _ _ _)) C 1 2 rfl rfl (by omega) (by omega) rfl d_Model_pack_172 ?_
          refine ks_aload_n rfl rfl C d_Model_pack_173 ?_
          refine ks_get (k := 1) C 0 9 in_Model rfl (by decide) fk_Model_13 rfl rfl rfl d_Model_pack_174 ?_
          refine ks_iload_n rfl rfl C d_Model_pack_177 ?_
          refine ks_aload_n rfl rfl C d_Model_pack_178 ?_
          refine ks_get (k := 7) C 0 9 in_Model rfl (by decide) fk_Model_91 rfl rfl rfl d_Model_pack_179 ?_
          refine ks_iast (ws' := (kw_model K a0 a1 a2 a3 a4 a5 a6 a7 a8 a9 a10 a11 a12 a13 _ _ _ _ _ _ _ _ _ _ _ _ _ _ _ _ _ _ _ _ _ _ _ _ _ _)) C 2 2 rfl rfl (by omega) (by omega) rfl d_Model_pack_182 ?_
          refine ks_aload_n rfl rfl C d_Model_pack_183 ?_
          refine ks_get (k := 2) C 0 9 in_Model rfl (by decide) fk_Model_16 rfl rfl rfl d_Model_pack_184 ?_
          refine ks_iload_n rfl rfl C d_Model_pack_187 ?_
          refine ks_aload_n rfl rfl C d_Model_pack_188 ?_
          refine ks_get (k := 2) C 0 9 in_Model rfl (by decide) fk_Model_16 rfl rfl rfl d_Model_pack_189 ?_
          refine ks_iload_n rfl rfl C d_Model_pack_192 ?_
          refine ks_iald C 3 2 rfl rfl (by omega) (by omega) d_Model_pack_193 ?_
          refine ks_iast (ws' := (kw_model K a0 a1 a2 a3 a4 a5 a6 a7 a8 a9 a10 a11 a12 a13 _ _ _ _ _ _ _ _ _ _ _ _ _ _ _ _ _ _ _ _ _ _ _ _ _ _)) C 3 2 rfl rfl (by omega) (by omega) rfl d_Model_pack_194 ?_
          refine ks_aload_n rfl rfl C d_Model_pack_195 ?_
          refine ks_get (k := 3) C 0 9 in_Model rfl (by decide) fk_Model_19 rfl rfl rfl d_Model_pack_196 ?_
          refine ks_iload_n rfl rfl C d_Model_pack_199 ?_
          refine ks_aload_n rfl rfl C d_Model_pack_200 ?_
          refine ks_get (k := 3) C 0 9 in_Model rfl (by decide) fk_Model_19 rfl rfl rfl d_Model_pack_201 ?_
          refine ks_iload_n rfl rfl C d_Model_pack_204 ?_
          refine ks_iald C 4 2 rfl rfl (by omega) (by omega) d_Model_pack_205 ?_
          refine ks_iast (ws' := (kw_model K a0 a1 a2 a3 a4 a5 a6 a7 a8 a9 a10 a11 a12 a13 _ _ _ _ _ _ _ _ _ _ _ _ _ _ _ _ _ _ _ _ _ _ _ _ _ _)) C 4 2 rfl rfl (by omega) (by omega) rfl d_Model_pack_206 ?_
          refine ks_aload_n rfl rfl C d_Model_pack_207 ?_
          refine ks_get (k := 4) C 0 9 in_Model rfl (by decide) fk_Model_22 rfl rfl rfl d_Model_pack_208 ?_
          refine ks_iload_n rfl rfl C d_Model_pack_211 ?_
          refine ks_iload_n rfl rfl C d_Model_pack_212 ?_
          refine ks_iast (ws' := (kw_model K a0 a1 a2 a3 a4 a5 a6 a7 a8 a9 a10 a11 a12 a13 _ _ _ _ _ _ _ _ _ _ _ _ _ _ _ _ _ _ _ _ _ _ _ _ _ _)) C 5 2 rfl rfl (by omega) (by omega) rfl d_Model_pack_213 ?_
          refine ks_iinc C rfl (z := 1) rfl (by decide) rfl d_Model_pack_214 ?_
          refine ks_aload_n rfl rfl C d_Model_pack_217 ?_
          refine ks_dup rfl C d_Model_pack_218 ?_
          refine ks_get (k := 7) C 0 9 in_Model rfl (by decide) fk_Model_91 rfl rfl rfl d_Model_pack_219 ?_
          refine ks_iload_n rfl rfl C d_Model_pack_222 ?_
          refine ks_iadd C d_Model_pack_223 ?_
          refine ks_put (k := 7) (ws' := (kw_model K a0 a1 a2 a3 a4 a5 a6 a7 a8 a9 a10 a11 a12 a13 _ _ _ _ _ _ _ _ _ _ _ _ _ _ _ _ _ _ _ _ _ _ _ _ _ _)) C 0 9 t_Model ty_Model nm_Model in_Model rfl (by decide) fk_Model_91 rfl rfl rfl rfl rfl (Nat.le_of_ble_eq_true rfl) rfl d_Model_pack_224 ?_
          refine ks_iinc C rfl (z := 1) rfl (by decide) rfl d_Model_pack_227 ?_
          refine ks_goto (tgt := 86) C (by decide) d_Model_pack_230 ?_
          refine ks_forget 3 ?_
          exact ih _ _ _ _ _ _ _ _ _ (by omega) (by omega) (fun j z1 z2 => by have z3 := g3 j (by omega) z2; have z4 := g4 e j (by omega) (by omega) z2; unfold va_up; rw [if_neg (by omega), if_neg (by omega), if_neg (by omega), if_neg (by omega)]; omega) (fun j j2 z1 z2 z3 => by unfold va_up; rw [if_neg (by omega), if_neg (by omega), if_neg (by omega), if_neg (by omega)]; exact g4 j j2 (by omega) z2 z3) (by rw [← g5, km_pkL, km_pk1]; dsimp only; rw [if_neg (by omega)])
        · refine ks_goto (tgt := 227) C (by decide) d_Model_pack_103 ?_
          refine ks_iinc C rfl (z := 1) rfl (by decide) rfl d_Model_pack_227 ?_
          refine ks_goto (tgt := 86) C (by decide) d_Model_pack_230 ?_
          exact ih _ _ _ _ _ _ _ _ _ (by omega) (by omega) (fun j z1 z2 => g3 j (by omega) z2) (fun j j2 z1 z2 z3 => g4 j j2 (by omega) z2 z3) (by rw [← g5, km_pkL, km_pk1]; dsimp only; rw [if_pos (by omega)])
  have in2 : ∀ (f : Nat) (MV1 MV2 : Nat → Nat) (s k : Nat), s < 7 → MY s ≤ 2900 → k + f = MY s → (∀ k2, k2 < MY s → LI (2900 * s + k2) < 20600) → km_lvL LI (2900 * s) f k MV1 = MV2 → (ks_w E D 5 (kw_model K a0 a1 a2 a3 a4 a5 a6 a7 a8 a9 a10 a11 a12 a13 TO PL KS VS MV2 Y LI MY TR KY VY FK FV rn us kn vn fkn fvn mk off opn fnd wh af th) [some (.ref a0), some (.int (nI s)), none, none, none] 0 0 71 []) → ks_w E D 5 (kw_model K a0 a1 a2 a3 a4 a5 a6 a7 a8 a9 a10 a11 a12 a13 TO PL KS VS MV1 Y LI MY TR KY VY FK FV rn us kn vn fkn fvn mk off opn fnd wh af th) [some (.ref a0), some (.int (nI s)), some (.int (nI k)), none, none] 0 0 37 [] := by
    intro f
    induction f with
    | zero =>
      intro MV1 MV2 s k g1 g2 g3 g4 g5 g6
      refine ks_iload_n rfl rfl C d_Model_pack_37 ?_
      refine ks_aload_n rfl rfl C d_Model_pack_38 ?_
      refine ks_get (k := 9) C 0 9 in_Model rfl (by decide) fk_Model_33 rfl rfl rfl d_Model_pack_39 ?_
      refine ks_iload_n rfl rfl C d_Model_pack_42 ?_
      refine ks_iald C 8 2 rfl rfl (by omega) (by omega) d_Model_pack_43 ?_
      refine ks_icmp_ge (tgt := 71) C (by omega) (by omega) (by decide) d_Model_pack_44 (fun u10 => ?_) (fun u10 => ?_)
      · refine ks_forget 2 ?_
        rw [show MV1 = MV2 from g5]
        exact g6
      · exact (by omega : False).elim
    | succ f ih =>
      intro MV1 MV2 s k g1 g2 g3 g4 g5 g6
      refine ks_iload_n rfl rfl C d_Model_pack_37 ?_
      refine ks_aload_n rfl rfl C d_Model_pack_38 ?_
      refine ks_get (k := 9) C 0 9 in_Model rfl (by decide) fk_Model_33 rfl rfl rfl d_Model_pack_39 ?_
      refine ks_iload_n rfl rfl C d_Model_pack_42 ?_
      refine ks_iald C 8 2 rfl rfl (by omega) (by omega) d_Model_pack_43 ?_
      refine ks_icmp_ge (tgt := 71) C (by omega) (by omega) (by decide) d_Model_pack_44 (fun u11 => ?_) (fun u11 => ?_)
      · exact (by omega : False).elim
      · have q1 := g4 k (by omega)
        refine ks_aload_n rfl rfl C d_Model_pack_47 ?_
        refine ks_get (k := 4) C 0 9 in_Model rfl (by decide) fk_Model_22 rfl rfl rfl d_Model_pack_48 ?_
        refine ks_aload_n rfl rfl C d_Model_pack_51 ?_
        refine ks_get (k := 8) C 0 9 in_Model rfl (by decide) fk_Model_30 rfl rfl rfl d_Model_pack_52 ?_
        refine ks_sipush (a := 2900) rfl C d_Model_pack_55 ?_
        refine ks_iload_n rfl rfl C d_Model_pack_58 ?_
        refine ks_imul C d_Model_pack_59 ?_
        refine ks_iload_n rfl rfl C d_Model_pack_60 ?_
        refine ks_iadd C d_Model_pack_61 ?_
        refine ks_iald C 7 2 rfl rfl (by omega) (by omega) d_Model_pack_62 ?_
        refine ks_iconst (a := 0) rfl C d_Model_pack_63 ?_
        refine ks_iast (ws' := (kw_model K a0 a1 a2 a3 a4 a5 a6 a7 a8 a9 a10 a11 a12 a13 _ _ _ _ _ _ _ _ _ _ _ _ _ _ _ _ _ _ _ _ _ _ _ _ _ _)) C 5 2 rfl rfl (by omega) (by omega) rfl d_Model_pack_64 ?_
        refine ks_iinc C rfl (z := 1) rfl (by decide) rfl d_Model_pack_65 ?_
        refine ks_goto (tgt := 37) C (by decide) d_Model_pack_68 ?_
        exact ih _ _ _ _ g1 g2 (by omega) g4 g5 g6
  have out2 : ∀ (f : Nat) (MV1 : Nat → Nat) (s : Nat), s + f = 2 + mk → km_lvS LI MY f s MV1 = km_lvS LI MY (2 + mk) 0 (km_neg MV rn) → ks_w E D 5 (kw_model K a0 a1 a2 a3 a4 a5 a6 a7 a8 a9 a10 a11 a12 a13 TO PL KS VS MV1 Y LI MY TR KY VY FK FV rn us kn vn fkn fvn mk off opn fnd wh af th) [some (.ref a0), some (.int (nI s)), none, none, none] 0 0 25 [] := by
    intro f
    induction f with
    | zero =>
      intro MV1 s g1 g2
      refine ks_iload_n rfl rfl C d_Model_pack_25 ?_
      refine ks_iconst (a := 2) rfl C d_Model_pack_26 ?_
      refine ks_aload_n rfl rfl C d_Model_pack_27 ?_
      refine ks_get (k := 19) C 0 9 in_Model rfl (by decide) fk_Model_88 rfl rfl rfl d_Model_pack_28 ?_
      refine ks_iadd C d_Model_pack_31 ?_
      refine ks_icmp_ge (tgt := 77) C (by omega) (by omega) (by decide) d_Model_pack_32 (fun u12 => ?_) (fun u12 => ?_)
      · refine ks_iconst (a := 0) rfl C d_Model_pack_77 ?_
        refine ks_istore_n C rfl (by decide) rfl d_Model_pack_78 ?_
        refine ks_aload_n rfl rfl C d_Model_pack_79 ?_
        refine ks_iconst (a := 0) rfl C d_Model_pack_80 ?_
        refine ks_put (k := 7) (ws' := (kw_model K a0 a1 a2 a3 a4 a5 a6 a7 a8 a9 a10 a11 a12 a13 _ _ _ _ _ _ _ _ _ _ _ _ _ _ _ _ _ _ _ _ _ _ _ _ _ _)) C 0 9 t_Model ty_Model nm_Model in_Model rfl (by decide) fk_Model_91 rfl rfl rfl rfl rfl (Nat.le_of_ble_eq_true rfl) rfl d_Model_pack_81 ?_
        refine ks_iconst (a := 0) rfl C d_Model_pack_84 ?_
        refine ks_istore_n C rfl (by decide) rfl d_Model_pack_85 ?_
        exact out3 rn _ _ _ _ _ _ 0 0 0 (by omega) (by omega) (fun j z1 z2 => ⟨by omega, h4 j z2, by rw [show MV1 = km_lvS LI MY (2 + mk) 0 (km_neg MV rn) from g2]; exact km_lvS_lt _ _ _ _ _ _ (by unfold km_neg; rw [if_pos z2]; omega)⟩) (fun j j2 z1 z2 z3 => h5 j j2 z2 z3) (by rw [show MV1 = km_lvS LI MY (2 + mk) 0 (km_neg MV rn) from g2]; rfl)
      · exact (by omega : False).elim
    | succ f ih =>
      intro MV1 s g1 g2
      refine ks_iload_n rfl rfl C d_Model_pack_25 ?_
      refine ks_iconst (a := 2) rfl C d_Model_pack_26 ?_
      refine ks_aload_n rfl rfl C d_Model_pack_27 ?_
      refine ks_get (k := 19) C 0 9 in_Model rfl (by decide) fk_Model_88 rfl rfl rfl d_Model_pack_28 ?_
      refine ks_iadd C d_Model_pack_31 ?_
      refine ks_icmp_ge (tgt := 77) C (by omega) (by omega) (by decide) d_Model_pack_32 (fun u13 => ?_) (fun u13 => ?_)
      · exact (by omega : False).elim
      · obtain ⟨q1, q2⟩ := h3 s (by omega)
        refine ks_iconst (a := 0) rfl C d_Model_pack_35 ?_
        refine ks_istore_n C rfl (by decide) rfl d_Model_pack_36 ?_
        refine in2 (MY s) _ _ s 0 (by omega) q1 (by omega) q2 rfl ?_
        refine ks_iinc C rfl (z := 1) rfl (by decide) rfl d_Model_pack_71 ?_
        refine ks_goto (tgt := 25) C (by decide) d_Model_pack_74 ?_
        exact ih _ _ (by omega) g2
  have lp1 : ∀ (f : Nat) (e : Nat), e + f = rn → ks_w E D 5 (kw_model K a0 a1 a2 a3 a4 a5 a6 a7 a8 a9 a10 a11 a12 a13 TO PL KS VS (km_neg MV e) Y LI MY TR KY VY FK FV rn us kn vn fkn fvn mk off opn fnd wh af th) [some (.ref a0), some (.int (nI e)), none, none, none] 0 0 2 [] := by
    intro f
    induction f with
    | zero =>
      intro e g1
      refine ks_iload_n rfl rfl C d_Model_pack_2 ?_
      refine ks_aload_n rfl rfl C d_Model_pack_3 ?_
      refine ks_get (k := 6) C 0 9 in_Model rfl (by decide) fk_Model_85 rfl rfl rfl d_Model_pack_4 ?_
      refine ks_icmp_ge (tgt := 23) C (by omega) (by omega) (by decide) d_Model_pack_7 (fun u14 => ?_) (fun u14 => ?_)
      · refine ks_iconst (a := 0) rfl C d_Model_pack_23 ?_
        refine ks_istore_n C rfl (by decide) rfl d_Model_pack_24 ?_
        rw [show e = rn by omega]
        exact out2 (2 + mk) _ 0 (by omega) rfl
      · exact (by omega : False).elim
    | succ f ih =>
      intro e g1
      refine ks_iload_n rfl rfl C d_Model_pack_2 ?_
      refine ks_aload_n rfl rfl C d_Model_pack_3 ?_
      refine ks_get (k := 6) C 0 9 in_Model rfl (by decide) fk_Model_85 rfl rfl rfl d_Model_pack_4 ?_
      refine ks_icmp_ge (tgt := 23) C (by omega) (by omega) (by decide) d_Model_pack_7 (fun u15 => ?_) (fun u15 => ?_)
      · exact (by omega : False).elim
      · refine ks_aload_n rfl rfl C d_Model_pack_10 ?_
        refine ks_get (k := 4) C 0 9 in_Model rfl (by decide) fk_Model_22 rfl rfl rfl d_Model_pack_11 ?_
        refine ks_iload_n rfl rfl C d_Model_pack_14 ?_
        refine ks_iconst (a := 4294967295) rfl C d_Model_pack_15 ?_
        refine ks_iast (ws' := (kw_model K a0 a1 a2 a3 a4 a5 a6 a7 a8 a9 a10 a11 a12 a13 _ _ _ _ _ _ _ _ _ _ _ _ _ _ _ _ _ _ _ _ _ _ _ _ _ _)) C 5 2 rfl rfl (by omega) (by omega) rfl d_Model_pack_16 ?_
        refine ks_iinc C rfl (z := 1) rfl (by decide) rfl d_Model_pack_17 ?_
        refine ks_goto (tgt := 2) C (by decide) d_Model_pack_20 ?_
        rw [km_neg_s]
        exact ih _ (by omega)
  refine ks_iconst (a := 0) rfl C d_Model_pack_0 ?_
  refine ks_istore_n C rfl (by decide) rfl d_Model_pack_1 ?_
  have e := lp1 rn 0 (by omega)
  rw [km_neg_0] at e
  exact e
