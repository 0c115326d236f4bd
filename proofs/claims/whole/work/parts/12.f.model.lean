/-! contracts of the reference: a new record, small ones -/
def km_pk0 (mk : Nat) (MY : Nat → Nat) (kn vn : Nat) (P : km_P) : km_P := if P.2.2.2.2.1 = 20600 ∨ 400000 < P.2.2.2.2.2 + kn + vn then km_pack mk MY P else P
def km_entT (t : Nat) (KY VY : Nat → UInt8) (kn vn : Nat) (P : km_P) : km_P := ((va_up P.1.1 P.2.2.2.2.1 t, va_up P.1.2 P.2.2.2.2.1 P.2.2.2.2.2), (va_up P.2.1.1 P.2.2.2.2.1 kn, va_up P.2.1.2 P.2.2.2.2.1 vn), (P.2.2.1.1, va_cpy VY (va_cpy KY P.2.2.1.2 0 P.2.2.2.2.2 kn) 0 (P.2.2.2.2.2 + kn) vn), P.2.2.2.1, (P.2.2.2.2.1 + 1, P.2.2.2.2.2 + (kn + vn)))
def km_ent (t : Nat) (KY VY : Nat → UInt8) (kn vn mk : Nat) (MY : Nat → Nat) (P : km_P) : km_P := km_entT t KY VY kn vn (km_pk0 mk MY kn vn P)
def km_cap (P : km_P) (kn vn : Nat) : Prop := P.2.2.2.2.1 < 20600 ∧ P.2.2.2.2.2 + kn + vn ≤ 400000
theorem km_cpy_t0 {α : Type} (F G : Nat → α) (u i : Nat) : va_up (va_cpy F G 0 u i) (u + i) (F i) = va_cpy F G 0 u (i + 1) := by
  have := km_cpy_t F G 0 u i
  rwa [Nat.zero_add] at this
theorem km_cpy_00 {α : Type} (F G : Nat → α) (i : Nat) : va_up (va_cpy F G 0 0 i) i (F i) = va_cpy F G 0 0 (i + 1) := by
  have := km_cpy_t F G 0 0 i
  rwa [Nat.zero_add] at this
theorem km_cpy_u0 {α : Type} (F G : Nat → α) (p i : Nat) : va_up (va_cpy F G p 0 i) i (F (p + i)) = va_cpy F G p 0 (i + 1) := by
  have := km_cpy_t F G p 0 i
  rwa [Nat.zero_add] at this
theorem km_out_s (LI : Nat → Nat) {at_ i : Nat} (h : at_ ≤ i) : va_up (km_out LI at_ i) i (km_out LI at_ i (i + 1)) = km_out LI at_ (i + 1) := by
  funext j
  unfold va_up km_out
  by_cases h1 : j = i
  · subst h1; rw [if_pos rfl, if_neg (by omega), if_pos (by omega)]
  · rw [if_neg h1]
    by_cases h2 : at_ ≤ j ∧ j < i
    · rw [if_pos h2, if_pos (by omega)]
    · rw [if_neg h2, if_neg (by omega)]
theorem km_out_0 (LI : Nat → Nat) (a : Nat) : km_out LI a a = LI := by funext j; unfold km_out; rw [if_neg (by omega)]
def km_mth (off opn : Bool) (mk m : Nat) : Nat := if off = true ∨ opn = false then 1 else if m < 1 ∨ mk < m then 2 else 0
theorem km_mth_0 {off opn : Bool} {mk m : Nat} (h : km_mth off opn mk m = 0) : off = false ∧ opn = true ∧ 1 ≤ m ∧ m ≤ mk := by
  unfold km_mth at h
  split at h
  · cases h
  · split at h
    · cases h
    · rename_i h1 h2
      refine ⟨?_, ?_, by omega, by omega⟩
      · cases off
        · rfl
        · exact absurd (Or.inl rfl) h1
      · cases opn
        · exact absurd (Or.inr rfl) h1
        · rfl
set_option maxRecDepth 100000 in
set_option maxHeartbeats 4000000 in
theorem c_Model_entry (l : Launch) (D : va_G) (K : Nat → ClassId) (a0 a1 a2 a3 a4 a5 a6 a7 a8 a9 a10 a11 a12 a13 : Nat) (TO PL KS VS MV : Nat → Nat) (Y : Nat → UInt8) (LI MY : Nat → Nat) (TR : Nat → Int64) (KY VY FK FV : Nat → UInt8) (rn us kn vn fkn fvn mk : Nat) (off opn fnd : Bool) (wh af th : Nat) (t : Nat) (h1 : rn ≤ 20600) (h2 : mk ≤ 5) (h3 : ∀ s, s < 2 + mk → MY s ≤ 2900 ∧ ∀ k, k < MY s → LI (2900 * s + k) < 20600) (h4 : ∀ j, j < rn → PL j + (KS j + VS j) ≤ 400000) (h5 : ∀ j j2, j < j2 → j2 < rn → PL j + (KS j + VS j) ≤ PL j2) (h6 : km_cap (km_pk0 mk MY kn vn ((TO, PL), (KS, VS), (MV, Y), LI, (rn, us))) kn vn) (h7 : kn ≤ 8448) (h8 : vn ≤ 8448) (h9 : us ≤ 400000) : ks_M l D (ks_T K) (ks_R 1) y_Model_entry b_Model_entry 4 (some .int) [.ref a0, .int (nI t)] (kw_model K a0 a1 a2 a3 a4 a5 a6 a7 a8 a9 a10 a11 a12 a13 TO PL KS VS MV Y LI MY TR KY VY FK FV rn us kn vn fkn fvn mk off opn fnd wh af th) (ks_f (some (.int (nI ((km_pk0 mk MY kn vn ((TO, PL), (KS, VS), (MV, Y), LI, (rn, us))).2.2.2.2.1)))) (kw_model K a0 a1 a2 a3 a4 a5 a6 a7 a8 a9 a10 a11 a12 a13 (km_ent t KY VY kn vn mk MY ((TO, PL), (KS, VS), (MV, Y), LI, (rn, us))).1.1 (km_ent t KY VY kn vn mk MY ((TO, PL), (KS, VS), (MV, Y), LI, (rn, us))).1.2 (km_ent t KY VY kn vn mk MY ((TO, PL), (KS, VS), (MV, Y), LI, (rn, us))).2.1.1 (km_ent t KY VY kn vn mk MY ((TO, PL), (KS, VS), (MV, Y), LI, (rn, us))).2.1.2 (km_ent t KY VY kn vn mk MY ((TO, PL), (KS, VS), (MV, Y), LI, (rn, us))).2.2.1.1 (km_ent t KY VY kn vn mk MY ((TO, PL), (KS, VS), (MV, Y), LI, (rn, us))).2.2.1.2 (km_ent t KY VY kn vn mk MY ((TO, PL), (KS, VS), (MV, Y), LI, (rn, us))).2.2.2.1 MY TR KY VY FK FV (km_ent t KY VY kn vn mk MY ((TO, PL), (KS, VS), (MV, Y), LI, (rn, us))).2.2.2.2.1 (km_ent t KY VY kn vn mk MY ((TO, PL), (KS, VS), (MV, Y), LI, (rn, us))).2.2.2.2.2 kn vn fkn fvn mk off opn fnd wh af th)) := by
  refine ks_M.of 2 (by decide) (Nat.le_of_ble_eq_true rfl) ?_
  intro E C Z
  have lb : ∀ (f : Nat) (TO2 PL2 KS2 VS2 MV2 : Nat → Nat) (Y2 : Nat → UInt8) (LI2 : Nat → Nat) (rn2 us2 : Nat) (i : Nat), i + f = vn → us2 + kn + vn ≤ 400000 → ((TO2, PL2), (KS2, VS2), (MV2, va_cpy VY Y2 0 (us2 + kn) vn), LI2, (rn2 + 1, us2 + (kn + vn))) = (km_ent t KY VY kn vn mk MY ((TO, PL), (KS, VS), (MV, Y), LI, (rn, us))) → rn2 = (km_pk0 mk MY kn vn ((TO, PL), (KS, VS), (MV, Y), LI, (rn, us))).2.2.2.2.1 → ks_w E D 4 (kw_model K a0 a1 a2 a3 a4 a5 a6 a7 a8 a9 a10 a11 a12 a13 TO2 PL2 KS2 VS2 MV2 (va_cpy VY Y2 0 (us2 + kn) i) LI2 MY TR KY VY FK FV rn2 us2 kn vn fkn fvn mk off opn fnd wh af th) [some (.ref a0), some (.int (nI t)), some (.int (nI rn2)), some (.int (nI i))] 0 0 110 [] := by
    intro f
    induction f with
    | zero =>
      intro TO2 PL2 KS2 VS2 MV2 Y2 LI2 rn2 us2 i g1 g2 g3 g4
      refine ks_iload_n rfl rfl C d_Model_entry_110 ?_
      refine ks_aload_n rfl rfl C d_Model_entry_111 ?_
      refine ks_get (k := 16) C 0 9 in_Model rfl (by decide) fk_Model_62 rfl rfl rfl d_Model_entry_112 ?_
      refine ks_icmp_ge (tgt := 146) C (by omega) (by omega) (by decide) d_Model_entry_115 (fun u1 => ?_) (fun u1 => ?_)
      · refine ks_aload_n rfl rfl C d_Model_entry_146 ?_
        refine ks_dup rfl C d_Model_entry_147 ?_
        refine ks_get (k := 7) C 0 9 in_Model rfl (by decide) fk_Model_91 rfl rfl rfl d_Model_entry_148 ?_
        refine ks_aload_n rfl rfl C d_Model_entry_151 ?_
        refine ks_get (k := 15) C 0 9 in_Model rfl (by decide) fk_Model_59 rfl rfl rfl d_Model_entry_152 ?_
        refine ks_aload_n rfl rfl C d_Model_entry_155 ?_
        refine ks_get (k := 16) C 0 9 in_Model rfl (by decide) fk_Model_62 rfl rfl rfl d_Model_entry_156 ?_
        refine ks_iadd C d_Model_entry_159 ?_
        refine ks_iadd C d_Model_entry_160 ?_
        refine ks_put (k := 7) (ws' := (kw_model K a0 a1 a2 a3 a4 a5 a6 a7 a8 a9 a10 a11 a12 a13 _ _ _ _ _ _ _ _ _ _ _ _ _ _ _ _ _ _ _ _ _ _ _ _ _ _)) C 0 9 t_Model ty_Model nm_Model in_Model rfl (by decide) fk_Model_91 rfl rfl rfl rfl rfl (Nat.le_of_ble_eq_true rfl) rfl d_Model_entry_161 ?_
        refine ks_aload_n rfl rfl C d_Model_entry_164 ?_
        refine ks_dup rfl C d_Model_entry_165 ?_
        refine ks_get (k := 6) C 0 9 in_Model rfl (by decide) fk_Model_85 rfl rfl rfl d_Model_entry_166 ?_
        refine ks_iconst (a := 1) rfl C d_Model_entry_169 ?_
        refine ks_iadd C d_Model_entry_170 ?_
        refine ks_put (k := 6) (ws' := (kw_model K a0 a1 a2 a3 a4 a5 a6 a7 a8 a9 a10 a11 a12 a13 _ _ _ _ _ _ _ _ _ _ _ _ _ _ _ _ _ _ _ _ _ _ _ _ _ _)) C 0 9 t_Model ty_Model nm_Model in_Model rfl (by decide) fk_Model_85 rfl rfl rfl rfl rfl (Nat.le_of_ble_eq_true rfl) rfl d_Model_entry_171 ?_
        refine ks_iload_n rfl rfl C d_Model_entry_174 ?_
        exact ks_iret C Z rfl rfl d_Model_entry_175 rfl rfl ⟨ks_eqN g4, by rw [show i = vn by omega, ← g3] <;> rfl⟩
      · exact (by omega : False).elim
    | succ f ih =>
      intro TO2 PL2 KS2 VS2 MV2 Y2 LI2 rn2 us2 i g1 g2 g3 g4
      refine ks_iload_n rfl rfl C d_Model_entry_110 ?_
      refine ks_aload_n rfl rfl C d_Model_entry_111 ?_
      refine ks_get (k := 16) C 0 9 in_Model rfl (by decide) fk_Model_62 rfl rfl rfl d_Model_entry_112 ?_
      refine ks_icmp_ge (tgt := 146) C (by omega) (by omega) (by decide) d_Model_entry_115 (fun u2 => ?_) (fun u2 => ?_)
      · exact (by omega : False).elim
      · refine ks_aload_n rfl rfl C d_Model_entry_118 ?_
        refine ks_get (k := 5) C 0 9 in_Model rfl (by decide) fk_Model_26 rfl rfl rfl d_Model_entry_119 ?_
        refine ks_aload_n rfl rfl C d_Model_entry_122 ?_
        refine ks_get (k := 7) C 0 9 in_Model rfl (by decide) fk_Model_91 rfl rfl rfl d_Model_entry_123 ?_
        refine ks_aload_n rfl rfl C d_Model_entry_126 ?_
        refine ks_get (k := 15) C 0 9 in_Model rfl (by decide) fk_Model_59 rfl rfl rfl d_Model_entry_127 ?_
        refine ks_iadd C d_Model_entry_130 ?_
        refine ks_iload_n rfl rfl C d_Model_entry_131 ?_
        refine ks_iadd C d_Model_entry_132 ?_
        refine ks_aload_n rfl rfl C d_Model_entry_133 ?_
        refine ks_get (k := 12) C 0 9 in_Model rfl (by decide) fk_Model_43 rfl rfl rfl d_Model_entry_134 ?_
        refine ks_iload_n rfl rfl C d_Model_entry_137 ?_
        refine ks_bald0 C 11 0 rfl rfl (by omega) (by omega) d_Model_entry_138 ?_
        refine ks_bast (ws' := (kw_model K a0 a1 a2 a3 a4 a5 a6 a7 a8 a9 a10 a11 a12 a13 _ _ _ _ _ _ _ _ _ _ _ _ _ _ _ _ _ _ _ _ _ _ _ _ _ _)) C 6 0 rfl rfl (by omega) (by omega) (ks_nbb _ _) rfl d_Model_entry_139 ?_
        refine ks_iinc C rfl (z := 1) rfl (by decide) rfl d_Model_entry_140 ?_
        refine ks_goto (tgt := 110) C (by decide) d_Model_entry_143 ?_
        rw [km_cpy_t0]
        exact ih _ _ _ _ _ _ _ _ _ _ (by omega) g2 g3 g4
  have la : ∀ (f : Nat) (TO2 PL2 KS2 VS2 MV2 : Nat → Nat) (Y2 : Nat → UInt8) (LI2 : Nat → Nat) (rn2 us2 : Nat) (i : Nat), i + f = kn → us2 + kn + vn ≤ 400000 → ((TO2, PL2), (KS2, VS2), (MV2, va_cpy VY (va_cpy KY Y2 0 us2 kn) 0 (us2 + kn) vn), LI2, (rn2 + 1, us2 + (kn + vn))) = (km_ent t KY VY kn vn mk MY ((TO, PL), (KS, VS), (MV, Y), LI, (rn, us))) → rn2 = (km_pk0 mk MY kn vn ((TO, PL), (KS, VS), (MV, Y), LI, (rn, us))).2.2.2.2.1 → ks_w E D 4 (kw_model K a0 a1 a2 a3 a4 a5 a6 a7 a8 a9 a10 a11 a12 a13 TO2 PL2 KS2 VS2 MV2 (va_cpy KY Y2 0 us2 i) LI2 MY TR KY VY FK FV rn2 us2 kn vn fkn fvn mk off opn fnd wh af th) [some (.ref a0), some (.int (nI t)), some (.int (nI rn2)), some (.int (nI i))] 0 0 77 [] := by
    intro f
    induction f with
    | zero =>
      intro TO2 PL2 KS2 VS2 MV2 Y2 LI2 rn2 us2 i g1 g2 g3 g4
      refine ks_iload_n rfl rfl C d_Model_entry_77 ?_
      refine ks_aload_n rfl rfl C d_Model_entry_78 ?_
      refine ks_get (k := 15) C 0 9 in_Model rfl (by decide) fk_Model_59 rfl rfl rfl d_Model_entry_79 ?_
      refine ks_icmp_ge (tgt := 108) C (by omega) (by omega) (by decide) d_Model_entry_82 (fun u3 => ?_) (fun u3 => ?_)
      · refine ks_iconst (a := 0) rfl C d_Model_entry_108 ?_
        refine ks_istore_n C rfl (by decide) rfl d_Model_entry_109 ?_
        rw [show i = kn by omega]
        have e := lb vn _ _ _ _ _ (va_cpy KY Y2 0 us2 kn) _ _ _ 0 (by omega) g2 g3 g4
        rw [km_cpy_0] at e
        exact e
      · exact (by omega : False).elim
    | succ f ih =>
      intro TO2 PL2 KS2 VS2 MV2 Y2 LI2 rn2 us2 i g1 g2 g3 g4
      refine ks_iload_n rfl rfl C d_Model_entry_77 ?_
      refine ks_aload_n rfl rfl C d_Model_entry_78 ?_
      refine ks_get (k := 15) C 0 9 in_Model rfl (by decide) fk_Model_59 rfl rfl rfl d_Model_entry_79 ?_
      refine ks_icmp_ge (tgt := 108) C (by omega) (by omega) (by decide) d_Model_entry_82 (fun u4 => ?_) (fun u4 => ?_)
      · exact (by omega : False).elim
      · refine ks_aload_n rfl rfl C d_Model_entry_85 ?_
        refine ks_get (k := 5) C 0 9 in_Model rfl (by decide) fk_Model_26 rfl rfl rfl d_Model_entry_86 ?_
        refine ks_aload_n rfl rfl C d_Model_entry_89 ?_
        refine ks_get (k := 7) C 0 9 in_Model rfl (by decide) fk_Model_91 rfl rfl rfl d_Model_entry_90 ?_
        refine ks_iload_n rfl rfl C d_Model_entry_93 ?_
        refine ks_iadd C d_Model_entry_94 ?_
        refine ks_aload_n rfl rfl C d_Model_entry_95 ?_
        refine ks_get (k := 11) C 0 9 in_Model rfl (by decide) fk_Model_40 rfl rfl rfl d_Model_entry_96 ?_
        refine ks_iload_n rfl rfl C d_Model_entry_99 ?_
        refine ks_bald0 C 10 0 rfl rfl (by omega) (by omega) d_Model_entry_100 ?_
        refine ks_bast (ws' := (kw_model K a0 a1 a2 a3 a4 a5 a6 a7 a8 a9 a10 a11 a12 a13 _ _ _ _ _ _ _ _ _ _ _ _ _ _ _ _ _ _ _ _ _ _ _ _ _ _)) C 6 0 rfl rfl (by omega) (by omega) (ks_nbb _ _) rfl d_Model_entry_101 ?_
        refine ks_iinc C rfl (z := 1) rfl (by decide) rfl d_Model_entry_102 ?_
        refine ks_goto (tgt := 77) C (by decide) d_Model_entry_105 ?_
        rw [km_cpy_t0]
        exact ih _ _ _ _ _ _ _ _ _ _ (by omega) g2 g3 g4
  have tail : ∀ (f : Nat) (TO1 PL1 KS1 VS1 MV1 : Nat → Nat) (Y1 : Nat → UInt8) (rn1 us1 : Nat) (LI1 : Nat → Nat), ((TO1, PL1), (KS1, VS1), (MV1, Y1), LI1, (rn1, us1)) = (km_pk0 mk MY kn vn ((TO, PL), (KS, VS), (MV, Y), LI, (rn, us))) → ks_w E D 4 (kw_model K a0 a1 a2 a3 a4 a5 a6 a7 a8 a9 a10 a11 a12 a13 TO1 PL1 KS1 VS1 MV1 Y1 LI1 MY TR KY VY FK FV rn1 us1 kn vn fkn fvn mk off opn fnd wh af th) [some (.ref a0), some (.int (nI t)), none, none] 0 0 33 [] := by
    intro f
    intro TO1 PL1 KS1 VS1 MV1 Y1 rn1 us1 LI1 g1
    have h6a := h6
    rw [← g1] at h6a
    obtain ⟨h61, h62⟩ := h6a
    dsimp only at h61 h62
    refine ks_aload_n rfl rfl C d_Model_entry_33 ?_
    refine ks_get (k := 6) C 0 9 in_Model rfl (by decide) fk_Model_85 rfl rfl rfl d_Model_entry_34 ?_
    refine ks_istore_n C rfl (by decide) rfl d_Model_entry_37 ?_
    refine ks_aload_n rfl rfl C d_Model_entry_38 ?_
    refine ks_get (k := 0) C 0 9 in_Model rfl (by decide) fk_Model_7 rfl rfl rfl d_Model_entry_39 ?_
    refine ks_iload_n rfl rfl C d_Model_entry_42 ?_
    refine ks_iload_n rfl rfl C d_Model_entry_43 ?_
    refine ks_iast (ws' := (kw_model K a0 a1 a2 a3 a4 a5 a6 a7 a8 a9 a10 a11 a12 a13 _ _ _ _ _ _ _ _ _ _ _ _ _ _ _ _ _ _ _ _ _ _ _ _ _ _)) C 1 2 rfl rfl (by omega) (by omega) rfl d_Model_entry_44 ?_
    refine ks_aload_n rfl rfl C d_Model_entry_45 ?_
    refine ks_get (k := 1) C 0 9 in_Model rfl (by decide) fk_Model_13 rfl rfl rfl d_Model_entry_46 ?_
    refine ks_iload_n rfl rfl C d_Model_entry_49 ?_
    refine ks_aload_n rfl rfl C d_Model_entry_50 ?_
    refine ks_get (k := 7) C 0 9 in_Model rfl (by decide) fk_Model_91 rfl rfl rfl d_Model_entry_51 ?_
    refine ks_iast (ws' := (kw_model K a0 a1 a2 a3 a4 a5 a6 a7 a8 a9 a10 a11 a12 a13 _ _ _ _ _ _ _ _ _ _ _ _ _ _ _ _ _ _ _ _ _ _ _ _ _ _)) C 2 2 rfl rfl (by omega) (by omega) rfl d_Model_entry_54 ?_
    refine ks_aload_n rfl rfl C d_Model_entry_55 ?_
    refine ks_get (k := 2) C 0 9 in_Model rfl (by decide) fk_Model_16 rfl rfl rfl d_Model_entry_56 ?_
    refine ks_iload_n rfl rfl C d_Model_entry_59 ?_
    refine ks_aload_n rfl rfl C d_Model_entry_60 ?_
    refine ks_get (k := 15) C 0 9 in_Model rfl (by decide) fk_Model_59 rfl rfl rfl d_Model_entry_61 ?_
    refine ks_iast (ws' := (kw_model K a0 a1 a2 a3 a4 a5 a6 a7 a8 a9 a10 a11 a12 a13 _ _ _ _ _ _ _ _ _ _ _ _ _ _ _ _ _ _ _ _ _ _ _ _ _ _)) C 3 2 rfl rfl (by omega) (by omega) rfl d_Model_entry_64 ?_
    refine ks_aload_n rfl rfl C d_Model_entry_65 ?_
    refine ks_get (k := 3) C 0 9 in_Model rfl (by decide) fk_Model_19 rfl rfl rfl d_Model_entry_66 ?_
    refine ks_iload_n rfl rfl C d_Model_entry_69 ?_
    refine ks_aload_n rfl rfl C d_Model_entry_70 ?_
    refine ks_get (k := 16) C 0 9 in_Model rfl (by decide) fk_Model_62 rfl rfl rfl d_Model_entry_71 ?_
    refine ks_iast (ws' := (kw_model K a0 a1 a2 a3 a4 a5 a6 a7 a8 a9 a10 a11 a12 a13 _ _ _ _ _ _ _ _ _ _ _ _ _ _ _ _ _ _ _ _ _ _ _ _ _ _)) C 4 2 rfl rfl (by omega) (by omega) rfl d_Model_entry_74 ?_
    refine ks_iconst (a := 0) rfl C d_Model_entry_75 ?_
    refine ks_istore_n C rfl (by decide) rfl d_Model_entry_76 ?_
    have e := la kn _ _ _ _ _ Y1 _ _ _ 0 (by omega) (by omega) (by unfold km_ent; rw [← g1]; rfl) (by rw [← g1])
    rw [km_cpy_0] at e
    exact e
  refine ks_aload_n rfl rfl C d_Model_entry_0 ?_
  refine ks_get (k := 6) C 0 9 in_Model rfl (by decide) fk_Model_85 rfl rfl rfl d_Model_entry_1 ?_
  refine ks_sipush (a := 20600) rfl C d_Model_entry_4 ?_
  refine ks_icmp_eq (tgt := 29) C (by omega) (by omega) (by decide) d_Model_entry_7 (fun u5 => ?_) (fun u5 => ?_)
  · refine ks_aload_n rfl rfl C d_Model_entry_29 ?_
    refine ks_cv (ci := 9) (q0 := 0) (kw_model K a0 a1 a2 a3 a4 a5 a6 a7 a8 a9 a10 a11 a12 a13 _ _ _ _ _ _ _ _ _ _ _ _ _ _ _ _ _ _ _ _ _ _ _ _ _ _) C (c_Model_pack l D K a0 a1 a2 a3 a4 a5 a6 a7 a8 a9 a10 a11 a12 a13 _ _ _ _ _ _ _ _ _ _ _ _ _ _ _ _ _ _ _ _ _ _ _ _ _ _ (by omega) (by omega) h3 h4 h5) yw_Model_pack sel_Model_pack lk_Model_94 d_Model_entry_30 rfl rfl rfl [0, 1, 2, 3, 4, 5, 6, 7, 8, 9, 10, 11, 12, 13] [] [0, 1, 2, 3, 4, 5, 6, 7, 8, 9, 10, 11, 12, 13] rfl rfl rfl rfl (by decide) rfl rfl rfl rfl rfl ⟨by decide, by decide⟩ ⟨by decide, by decide⟩ rfl (Nat.le_of_ble_eq_true rfl) ?_
    exact tail 0 _ _ _ _ _ _ _ _ _ (by unfold km_pk0; dsimp only; rw [if_pos (by omega)])
  · refine ks_aload_n rfl rfl C d_Model_entry_10 ?_
    refine ks_get (k := 7) C 0 9 in_Model rfl (by decide) fk_Model_91 rfl rfl rfl d_Model_entry_11 ?_
    refine ks_aload_n rfl rfl C d_Model_entry_14 ?_
    refine ks_get (k := 15) C 0 9 in_Model rfl (by decide) fk_Model_59 rfl rfl rfl d_Model_entry_15 ?_
    refine ks_iadd C d_Model_entry_18 ?_
    refine ks_aload_n rfl rfl C d_Model_entry_19 ?_
    refine ks_get (k := 16) C 0 9 in_Model rfl (by decide) fk_Model_62 rfl rfl rfl d_Model_entry_20 ?_
    refine ks_iadd C d_Model_entry_23 ?_
    refine ks_ldc ck_Model_25 C d_Model_entry_24 ?_
    refine ks_icmp_le (tgt := 33) C (by omega) (by omega) (by decide) d_Model_entry_26 (fun u6 => ?_) (fun u6 => ?_)
    · exact tail 0 _ _ _ _ _ _ _ _ _ (by unfold km_pk0; dsimp only; rw [if_neg (by omega)])
    · refine ks_aload_n rfl rfl C d_Model_entry_29 ?_
      refine ks_cv (ci := 9) (q0 := 0) (kw_model K a0 a1 a2 a3 a4 a5 a6 a7 a8 a9 a10 a11 a12 a13 _ _ _ _ _ _ _ _ _ _ _ _ _ _ _ _ _ _ _ _ _ _ _ _ _ _) C (c_Model_pack l D K a0 a1 a2 a3 a4 a5 a6 a7 a8 a9 a10 a11 a12 a13 _ _ _ _ _ _ _ _ _ _ _ _ _ _ _ _ _ _ _ _ _ _ _ _ _ _ (by omega) (by omega) h3 h4 h5) yw_Model_pack sel_Model_pack lk_Model_94 d_Model_entry_30 rfl rfl rfl [0, 1, 2, 3, 4, 5, 6, 7, 8, 9, 10, 11, 12, 13] [] [0, 1, 2, 3, 4, 5, 6, 7, 8, 9, 10, 11, 12, 13] rfl rfl rfl rfl (by decide) rfl rfl rfl rfl rfl ⟨by decide, by decide⟩ ⟨by decide, by decide⟩ rfl (Nat.le_of_ble_eq_true rfl) ?_
      exact tail 0 _ _ _ _ _ _ _ _ _ (by unfold km_pk0; dsimp only; rw [if_pos (by omega)])
set_option maxRecDepth 100000 in
set_option maxHeartbeats 4000000 in
theorem c_Model_out (l : Launch) (D : va_G) (K : Nat → ClassId) (a0 a1 a2 a3 a4 a5 a6 a7 a8 a9 a10 a11 a12 a13 : Nat) (TO PL KS VS MV : Nat → Nat) (Y : Nat → UInt8) (LI MY : Nat → Nat) (TR : Nat → Int64) (KY VY FK FV : Nat → UInt8) (rn us kn vn fkn fvn mk : Nat) (off opn fnd : Bool) (wh af th : Nat) (p : Nat) (h1 : MY 0 ≤ 2900) (h2 : p < MY 0) : ks_M l D (ks_T K) (ks_R 0) y_Model_out b_Model_out 3 none [.ref a0, .int (nI p)] (kw_model K a0 a1 a2 a3 a4 a5 a6 a7 a8 a9 a10 a11 a12 a13 TO PL KS VS MV Y LI MY TR KY VY FK FV rn us kn vn fkn fvn mk off opn fnd wh af th) (ks_f none (kw_model K a0 a1 a2 a3 a4 a5 a6 a7 a8 a9 a10 a11 a12 a13 TO PL KS VS MV Y (km_out LI p (MY 0 - 1)) (va_up MY 0 (MY 0 - 1)) TR KY VY FK FV rn us kn vn fkn fvn mk off opn fnd wh af th)) := by
  refine ks_M.of 1 (by decide) (Nat.le_of_ble_eq_true rfl) ?_
  intro E C Z
  have hz : va_up MY 0 (MY 0 - 1) 0 = MY 0 - 1 := rfl
  have loop : ∀ (f : Nat) (i : Nat), i + f = MY 0 - 1 → p ≤ i → ks_w E D 3 (kw_model K a0 a1 a2 a3 a4 a5 a6 a7 a8 a9 a10 a11 a12 a13 TO PL KS VS MV Y (km_out LI p i) (va_up MY 0 (MY 0 - 1)) TR KY VY FK FV rn us kn vn fkn fvn mk off opn fnd wh af th) [some (.ref a0), some (.int (nI p)), some (.int (nI i))] 0 0 12 [] := by
    intro f
    induction f with
    | zero =>
      intro i g1 g2
      refine ks_iload_n rfl rfl C d_Model_out_12 ?_
      refine ks_aload_n rfl rfl C d_Model_out_13 ?_
      refine ks_get (k := 9) C 0 9 in_Model rfl (by decide) fk_Model_33 rfl rfl rfl d_Model_out_14 ?_
      refine ks_iconst (a := 0) rfl C d_Model_out_17 ?_
      refine ks_iald C 8 2 rfl rfl (by omega) (by omega) d_Model_out_18 ?_
      refine ks_icmp_ge (tgt := 42) C (by omega) (by omega) (by decide) d_Model_out_19 (fun u1 => ?_) (fun u1 => ?_)
      · exact ks_vret C Z rfl d_Model_out_42 rfl rfl ⟨rfl, by rw [show i = MY 0 - 1 by omega]⟩
      · exact (by have z : va_up MY 0 (MY 0 - 1) 0 = MY 0 - 1 := rfl; omega : False).elim
    | succ f ih =>
      intro i g1 g2
      refine ks_iload_n rfl rfl C d_Model_out_12 ?_
      refine ks_aload_n rfl rfl C d_Model_out_13 ?_
      refine ks_get (k := 9) C 0 9 in_Model rfl (by decide) fk_Model_33 rfl rfl rfl d_Model_out_14 ?_
      refine ks_iconst (a := 0) rfl C d_Model_out_17 ?_
      refine ks_iald C 8 2 rfl rfl (by omega) (by omega) d_Model_out_18 ?_
      refine ks_icmp_ge (tgt := 42) C (by omega) (by omega) (by decide) d_Model_out_19 (fun u2 => ?_) (fun u2 => ?_)
      · exact (by have z : va_up MY 0 (MY 0 - 1) 0 = MY 0 - 1 := rfl; omega : False).elim
      · refine ks_aload_n rfl rfl C d_Model_out_22 ?_
        refine ks_get (k := 8) C 0 9 in_Model rfl (by decide) fk_Model_30 rfl rfl rfl d_Model_out_23 ?_
        refine ks_iload_n rfl rfl C d_Model_out_26 ?_
        refine ks_aload_n rfl rfl C d_Model_out_27 ?_
        refine ks_get (k := 8) C 0 9 in_Model rfl (by decide) fk_Model_30 rfl rfl rfl d_Model_out_28 ?_
        refine ks_iload_n rfl rfl C d_Model_out_31 ?_
        refine ks_iconst (a := 1) rfl C d_Model_out_32 ?_
        refine ks_iadd C d_Model_out_33 ?_
        refine ks_iald C 7 2 rfl rfl (by omega) (by omega) d_Model_out_34 ?_
        refine ks_iast (ws' := (kw_model K a0 a1 a2 a3 a4 a5 a6 a7 a8 a9 a10 a11 a12 a13 _ _ _ _ _ _ _ _ _ _ _ _ _ _ _ _ _ _ _ _ _ _ _ _ _ _)) C 7 2 rfl rfl (by omega) (by omega) rfl d_Model_out_35 ?_
        refine ks_iinc C rfl (z := 1) rfl (by decide) rfl d_Model_out_36 ?_
        refine ks_goto (tgt := 12) C (by decide) d_Model_out_39 ?_
        rw [km_out_s LI g2]
        exact ih _ (by omega) (by omega)
  refine ks_aload_n rfl rfl C d_Model_out_0 ?_
  refine ks_get (k := 9) C 0 9 in_Model rfl (by decide) fk_Model_33 rfl rfl rfl d_Model_out_1 ?_
  refine ks_iconst (a := 0) rfl C d_Model_out_4 ?_
  refine ks_dup2 rfl rfl C d_Model_out_5 ?_
  refine ks_iald C 8 2 rfl rfl (by omega) (by omega) d_Model_out_6 ?_
  refine ks_iconst (a := 1) rfl C d_Model_out_7 ?_
  refine ks_isub (by omega) C d_Model_out_8 ?_
  refine ks_iast (ws' := (kw_model K a0 a1 a2 a3 a4 a5 a6 a7 a8 a9 a10 a11 a12 a13 _ _ _ _ _ _ _ _ _ _ _ _ _ _ _ _ _ _ _ _ _ _ _ _ _ _)) C 8 2 rfl rfl (by omega) (by omega) rfl d_Model_out_9 ?_
  refine ks_iload_n rfl rfl C d_Model_out_10 ?_
  refine ks_istore_n C rfl (by decide) rfl d_Model_out_11 ?_
  have e := loop (MY 0 - 1 - p) p (by omega) (Nat.le_refl _)
  rw [km_out_0] at e
  exact e
set_option maxRecDepth 100000 in
set_option maxHeartbeats 4000000 in
theorem c_Model_isTree (l : Launch) (D : va_G) (K : Nat → ClassId) (a0 a1 a2 a3 a4 a5 a6 a7 a8 a9 a10 a11 a12 a13 : Nat) (TO PL KS VS MV : Nat → Nat) (Y : Nat → UInt8) (LI MY : Nat → Nat) (TR : Nat → Int64) (KY VY FK FV : Nat → UInt8) (rn us kn vn fkn fvn mk : Nat) (off opn fnd : Bool) (wh af th : Nat) (t : Nat) (h1 : t < 4294967296) : ks_M l D (ks_T K) (ks_R 0) y_Model_isTree b_Model_isTree 2 (some .boolean) [.ref a0, .int (nI t)] (kw_model K a0 a1 a2 a3 a4 a5 a6 a7 a8 a9 a10 a11 a12 a13 TO PL KS VS MV Y LI MY TR KY VY FK FV rn us kn vn fkn fvn mk off opn fnd wh af th) (ks_f (some (.int (ks_b (km_tree (TR 0) t)))) (kw_model K a0 a1 a2 a3 a4 a5 a6 a7 a8 a9 a10 a11 a12 a13 TO PL KS VS MV Y LI MY TR KY VY FK FV rn us kn vn fkn fvn mk off opn fnd wh af th)) := by
  refine ks_M.of 0 (by decide) (Nat.le_of_ble_eq_true rfl) ?_
  intro E C Z
  refine ks_iload_n rfl rfl C d_Model_isTree_0 ?_
  refine ks_ifR_lt (tgt := 29) C (by omega) (by decide) d_Model_isTree_1 (fun u1 => ?_) (fun u1 => ?_)
  · refine ks_iconstB false rfl C d_Model_isTree_29 ?_
    exact ks_iret C Z rfl (ks_nb1 _) d_Model_isTree_30 rfl rfl ⟨ks_eqF (fun z => absurd z.1 (by omega)), rfl⟩
  · refine ks_iload_n rfl rfl C d_Model_isTree_4 ?_
    refine ks_bipush (a := 64) rfl C d_Model_isTree_5 ?_
    refine ks_icmpR_ge (tgt := 29) C (by omega) (by omega) (by decide) d_Model_isTree_7 (fun u2 => ?_) (fun u2 => ?_)
    · refine ks_iconstB false rfl C d_Model_isTree_29 ?_
      exact ks_iret C Z rfl (ks_nb1 _) d_Model_isTree_30 rfl rfl ⟨ks_eqF (fun z => absurd z.1 (by omega)), rfl⟩
    · refine ks_aload_n rfl rfl C d_Model_isTree_10 ?_
      refine ks_get (k := 10) C 0 9 in_Model rfl (by decide) fk_Model_36 rfl rfl rfl d_Model_isTree_11 ?_
      refine ks_iconst (a := 0) rfl C d_Model_isTree_14 ?_
      refine ks_lald C 9 3 rfl rfl (by omega) (by omega) d_Model_isTree_15 ?_
      refine ks_iload_n rfl rfl C d_Model_isTree_16 ?_
      refine ks_lshr C d_Model_isTree_17 ?_
      refine ks_lconst rfl C d_Model_isTree_18 ?_
      refine ks_land C d_Model_isTree_19 ?_
      refine ks_lconst rfl C d_Model_isTree_20 ?_
      refine ks_lcmp C d_Model_isTree_21 ?_
      refine ks_ifC_ne (tgt := 29) C (by decide) d_Model_isTree_22 (fun u3 => ?_) (fun u3 => ?_)
      · refine ks_iconstB false rfl C d_Model_isTree_29 ?_
        exact ks_iret C Z rfl (ks_nb1 _) d_Model_isTree_30 rfl rfl ⟨ks_eqF (fun z => absurd z.2 u3), rfl⟩
      · refine ks_iconstB true rfl C d_Model_isTree_25 ?_
        refine ks_goto (tgt := 30) C (by decide) d_Model_isTree_26 ?_
        exact ks_iret C Z rfl (ks_nb1 _) d_Model_isTree_30 rfl rfl ⟨ks_eqT ⟨by omega, u3⟩, rfl⟩
set_option maxRecDepth 100000 in
set_option maxHeartbeats 4000000 in
theorem c_Model_fails_1 (l : Launch) (D : va_G) (K : Nat → ClassId) (a0 a1 a2 a3 a4 a5 a6 a7 a8 a9 a10 a11 a12 a13 : Nat) (TO PL KS VS MV : Nat → Nat) (Y : Nat → UInt8) (LI MY : Nat → Nat) (TR : Nat → Int64) (KY VY FK FV : Nat → UInt8) (rn us kn vn fkn fvn mk : Nat) (off opn fnd : Bool) (wh af th : Nat) (t : Nat) : ks_M l D (ks_T K) (ks_R 0) y_Model_fails b_Model_fails 3 (some .boolean) [.ref a0, .int (ks_b true), .int (nI t)] (kw_model K a0 a1 a2 a3 a4 a5 a6 a7 a8 a9 a10 a11 a12 a13 TO PL KS VS MV Y LI MY TR KY VY FK FV rn us kn vn fkn fvn mk off opn fnd wh af th) (ks_f (some (.int (ks_b true))) (kw_model K a0 a1 a2 a3 a4 a5 a6 a7 a8 a9 a10 a11 a12 a13 TO PL KS VS MV Y LI MY TR KY VY FK FV rn us kn vn fkn fvn mk off opn fnd wh af 1)) := by
  refine ks_M.of 0 (by decide) (Nat.le_of_ble_eq_true rfl) ?_
  intro E C Z
  refine ks_aload_n rfl rfl C d_Model_fails_0 ?_
  refine ks_iload_n rfl rfl C d_Model_fails_1 ?_
  refine ks_ifB_eq (tgt := 9) C (by decide) d_Model_fails_2 (fun h => absurd h (by decide)) (fun _ => ?_)
  refine ks_iconst (a := 1) rfl C d_Model_fails_5 ?_
  refine ks_goto (tgt := 22) C (by decide) d_Model_fails_6 ?_
  refine ks_put (k := 25) (ws' := (kw_model K a0 a1 a2 a3 a4 a5 a6 a7 a8 a9 a10 a11 a12 a13 _ _ _ _ _ _ _ _ _ _ _ _ _ _ _ _ _ _ _ _ _ _ _ _ _ _)) C 0 9 t_Model ty_Model nm_Model in_Model rfl (by decide) fk_Model_56 rfl rfl rfl rfl rfl (Nat.le_of_ble_eq_true rfl) rfl d_Model_fails_22 ?_
  refine ks_aload_n rfl rfl C d_Model_fails_25 ?_
  refine ks_get (k := 25) C 0 9 in_Model rfl (by decide) fk_Model_56 rfl rfl rfl d_Model_fails_26 ?_
  refine ks_if_le (tgt := 36) C (by omega) (by decide) d_Model_fails_29 (fun h => absurd h (by decide)) (fun _ => ?_)
  refine ks_iconstB true rfl C d_Model_fails_32 ?_
  refine ks_goto (tgt := 37) C (by decide) d_Model_fails_33 ?_
  exact ks_iret C Z rfl (ks_nb1 _) d_Model_fails_37 rfl rfl ⟨rfl, rfl⟩
set_option maxRecDepth 100000 in
set_option maxHeartbeats 4000000 in
theorem c_Model_fails_0 (l : Launch) (D : va_G) (K : Nat → ClassId) (a0 a1 a2 a3 a4 a5 a6 a7 a8 a9 a10 a11 a12 a13 : Nat) (TO PL KS VS MV : Nat → Nat) (Y : Nat → UInt8) (LI MY : Nat → Nat) (TR : Nat → Int64) (KY VY FK FV : Nat → UInt8) (rn us kn vn fkn fvn mk : Nat) (off opn fnd : Bool) (wh af th : Nat) (t : Nat) (h1 : t < 4294967296) : ks_M l D (ks_T K) (ks_R 1) y_Model_fails b_Model_fails 3 (some .boolean) [.ref a0, .int (ks_b false), .int (nI t)] (kw_model K a0 a1 a2 a3 a4 a5 a6 a7 a8 a9 a10 a11 a12 a13 TO PL KS VS MV Y LI MY TR KY VY FK FV rn us kn vn fkn fvn mk off opn fnd wh af th) (ks_f (some (.int (ks_b (!(km_tree (TR 0) t))))) (kw_model K a0 a1 a2 a3 a4 a5 a6 a7 a8 a9 a10 a11 a12 a13 TO PL KS VS MV Y LI MY TR KY VY FK FV rn us kn vn fkn fvn mk off opn fnd wh af (if km_tree (TR 0) t = true then 0 else 2))) := by
  refine ks_M.of 0 (by decide) (Nat.le_of_ble_eq_true rfl) ?_
  intro E C Z
  refine ks_aload_n rfl rfl C d_Model_fails_0 ?_
  refine ks_iload_n rfl rfl C d_Model_fails_1 ?_
  refine ks_ifB_eq (tgt := 9) C (by decide) d_Model_fails_2 (fun _ => ?_) (fun h => absurd h (by decide))
  refine ks_aload_n rfl rfl C d_Model_fails_9 ?_
  refine ks_iload_n rfl rfl C d_Model_fails_10 ?_
  refine ks_cx (ci := 9) (q0 := 0) (kw_model K a0 a1 a2 a3 a4 a5 a6 a7 a8 a9 a10 a11 a12 a13 _ _ _ _ _ _ _ _ _ _ _ _ _ _ _ _ _ _ _ _ _ _ _ _ _ _) C (c_Model_isTree l D K a0 a1 a2 a3 a4 a5 a6 a7 a8 a9 a10 a11 a12 a13 _ _ _ _ _ _ _ _ _ _ _ _ _ _ _ _ _ _ _ _ _ _ _ _ _ _ _ (by omega)) yw_Model_isTree sel_Model_isTree lk_Model_97 d_Model_fails_11 rfl rfl rfl [0, 1, 2, 3, 4, 5, 6, 7, 8, 9, 10, 11, 12, 13] [] [0, 1, 2, 3, 4, 5, 6, 7, 8, 9, 10, 11, 12, 13] rfl rfl rfl rfl (by decide) rfl rfl rfl rfl rfl ⟨by decide, by decide⟩ ⟨by decide, by decide⟩ rfl (Nat.le_of_ble_eq_true rfl) ?_
  refine ks_ifB_eq (tgt := 21) C (by decide) d_Model_fails_14 (fun u2 => ?_) (fun u2 => ?_)
  · refine ks_iconst (a := 2) rfl C d_Model_fails_21 ?_
    refine ks_put (k := 25) (ws' := (kw_model K a0 a1 a2 a3 a4 a5 a6 a7 a8 a9 a10 a11 a12 a13 _ _ _ _ _ _ _ _ _ _ _ _ _ _ _ _ _ _ _ _ _ _ _ _ _ _)) C 0 9 t_Model ty_Model nm_Model in_Model rfl (by decide) fk_Model_56 rfl rfl rfl rfl rfl (Nat.le_of_ble_eq_true rfl) rfl d_Model_fails_22 ?_
    refine ks_aload_n rfl rfl C d_Model_fails_25 ?_
    refine ks_get (k := 25) C 0 9 in_Model rfl (by decide) fk_Model_56 rfl rfl rfl d_Model_fails_26 ?_
    refine ks_if_le (tgt := 36) C (by omega) (by decide) d_Model_fails_29 (fun h => absurd h (by decide)) (fun _ => ?_)
    refine ks_iconstB true rfl C d_Model_fails_32 ?_
    refine ks_goto (tgt := 37) C (by decide) d_Model_fails_33 ?_
    exact ks_iret C Z rfl (ks_nb1 _) d_Model_fails_37 rfl rfl (by rw [if_neg (by rw [u2]; decide), u2]; exact ⟨rfl, rfl⟩)
  · refine ks_iconst (a := 0) rfl C d_Model_fails_17 ?_
    refine ks_goto (tgt := 22) C (by decide) d_Model_fails_18 ?_
    refine ks_put (k := 25) (ws' := (kw_model K a0 a1 a2 a3 a4 a5 a6 a7 a8 a9 a10 a11 a12 a13 _ _ _ _ _ _ _ _ _ _ _ _ _ _ _ _ _ _ _ _ _ _ _ _ _ _)) C 0 9 t_Model ty_Model nm_Model in_Model rfl (by decide) fk_Model_56 rfl rfl rfl rfl rfl (Nat.le_of_ble_eq_true rfl) rfl d_Model_fails_22 ?_
    refine ks_aload_n rfl rfl C d_Model_fails_25 ?_
    refine ks_get (k := 25) C 0 9 in_Model rfl (by decide) fk_Model_56 rfl rfl rfl d_Model_fails_26 ?_
    refine ks_if_le (tgt := 36) C (by omega) (by decide) d_Model_fails_29 (fun _ => ?_) (fun h => absurd h (by decide))
    refine ks_iconstB false rfl C d_Model_fails_36 ?_
    exact ks_iret C Z rfl (ks_nb1 _) d_Model_fails_37 rfl rfl (by rw [if_pos u2, u2]; exact ⟨rfl, rfl⟩)
set_option maxRecDepth 100000 in
set_option maxHeartbeats 4000000 in
theorem c_Model_isShut_1 (l : Launch) (D : va_G) (K : Nat → ClassId) (a0 a1 a2 a3 a4 a5 a6 a7 a8 a9 a10 a11 a12 a13 : Nat) (TO PL KS VS MV : Nat → Nat) (Y : Nat → UInt8) (LI MY : Nat → Nat) (TR : Nat → Int64) (KY VY FK FV : Nat → UInt8) (rn us kn vn fkn fvn mk : Nat) (off opn fnd : Bool) (wh af th : Nat) : ks_M l D (ks_T K) (ks_R 0) y_Model_isShut b_Model_isShut 2 (some .boolean) [.ref a0, .int (ks_b true)] (kw_model K a0 a1 a2 a3 a4 a5 a6 a7 a8 a9 a10 a11 a12 a13 TO PL KS VS MV Y LI MY TR KY VY FK FV rn us kn vn fkn fvn mk off opn fnd wh af th) (ks_f (some (.int (ks_b true))) (kw_model K a0 a1 a2 a3 a4 a5 a6 a7 a8 a9 a10 a11 a12 a13 TO PL KS VS MV Y LI MY TR KY VY FK FV rn us kn vn fkn fvn mk off opn fnd wh af 1)) := by
  refine ks_M.of 0 (by decide) (Nat.le_of_ble_eq_true rfl) ?_
  intro E C Z
  refine ks_aload_n rfl rfl C d_Model_isShut_0 ?_
  refine ks_iload_n rfl rfl C d_Model_isShut_1 ?_
  refine ks_ifB_eq (tgt := 9) C (by decide) d_Model_isShut_2 (fun h => absurd h (by decide)) (fun _ => ?_)
  refine ks_iconst (a := 1) rfl C d_Model_isShut_5 ?_
  refine ks_goto (tgt := 10) C (by decide) d_Model_isShut_6 ?_
  refine ks_put (k := 25) (ws' := (kw_model K a0 a1 a2 a3 a4 a5 a6 a7 a8 a9 a10 a11 a12 a13 _ _ _ _ _ _ _ _ _ _ _ _ _ _ _ _ _ _ _ _ _ _ _ _ _ _)) C 0 9 t_Model ty_Model nm_Model in_Model rfl (by decide) fk_Model_56 rfl rfl rfl rfl rfl (Nat.le_of_ble_eq_true rfl) rfl d_Model_isShut_10 ?_
  refine ks_iload_n rfl rfl C d_Model_isShut_13 ?_
  exact ks_iret C Z rfl (ks_nb1 _) d_Model_isShut_14 rfl rfl ⟨rfl, rfl⟩
set_option maxRecDepth 100000 in
set_option maxHeartbeats 4000000 in
theorem c_Model_isShut_0 (l : Launch) (D : va_G) (K : Nat → ClassId) (a0 a1 a2 a3 a4 a5 a6 a7 a8 a9 a10 a11 a12 a13 : Nat) (TO PL KS VS MV : Nat → Nat) (Y : Nat → UInt8) (LI MY : Nat → Nat) (TR : Nat → Int64) (KY VY FK FV : Nat → UInt8) (rn us kn vn fkn fvn mk : Nat) (off opn fnd : Bool) (wh af th : Nat) : ks_M l D (ks_T K) (ks_R 0) y_Model_isShut b_Model_isShut 2 (some .boolean) [.ref a0, .int (ks_b false)] (kw_model K a0 a1 a2 a3 a4 a5 a6 a7 a8 a9 a10 a11 a12 a13 TO PL KS VS MV Y LI MY TR KY VY FK FV rn us kn vn fkn fvn mk off opn fnd wh af th) (ks_f (some (.int (ks_b false))) (kw_model K a0 a1 a2 a3 a4 a5 a6 a7 a8 a9 a10 a11 a12 a13 TO PL KS VS MV Y LI MY TR KY VY FK FV rn us kn vn fkn fvn mk off opn fnd wh af 0)) := by
  refine ks_M.of 0 (by decide) (Nat.le_of_ble_eq_true rfl) ?_
  intro E C Z
  refine ks_aload_n rfl rfl C d_Model_isShut_0 ?_
  refine ks_iload_n rfl rfl C d_Model_isShut_1 ?_
  refine ks_ifB_eq (tgt := 9) C (by decide) d_Model_isShut_2 (fun _ => ?_) (fun h => absurd h (by decide))
  refine ks_iconst (a := 0) rfl C d_Model_isShut_9 ?_
  refine ks_put (k := 25) (ws' := (kw_model K a0 a1 a2 a3 a4 a5 a6 a7 a8 a9 a10 a11 a12 a13 _ _ _ _ _ _ _ _ _ _ _ _ _ _ _ _ _ _ _ _ _ _ _ _ _ _)) C 0 9 t_Model ty_Model nm_Model in_Model rfl (by decide) fk_Model_56 rfl rfl rfl rfl rfl (Nat.le_of_ble_eq_true rfl) rfl d_Model_isShut_10 ?_
  refine ks_iload_n rfl rfl C d_Model_isShut_13 ?_
  exact ks_iret C Z rfl (ks_nb1 _) d_Model_isShut_14 rfl rfl ⟨rfl, rfl⟩
set_option maxRecDepth 100000 in
set_option maxHeartbeats 4000000 in
theorem c_Model_end (l : Launch) (D : va_G) (K : Nat → ClassId) (a0 a1 a2 a3 a4 a5 a6 a7 a8 a9 a10 a11 a12 a13 : Nat) (TO PL KS VS MV : Nat → Nat) (Y : Nat → UInt8) (LI MY : Nat → Nat) (TR : Nat → Int64) (KY VY FK FV : Nat → UInt8) (rn us kn vn fkn fvn mk : Nat) (off opn fnd : Bool) (wh af th : Nat) : ks_M l D (ks_T K) (ks_R 0) y_Model_end b_Model_end 1 none [.ref a0] (kw_model K a0 a1 a2 a3 a4 a5 a6 a7 a8 a9 a10 a11 a12 a13 TO PL KS VS MV Y LI MY TR KY VY FK FV rn us kn vn fkn fvn mk off opn fnd wh af th) (ks_f none (kw_model K a0 a1 a2 a3 a4 a5 a6 a7 a8 a9 a10 a11 a12 a13 TO PL KS VS MV Y LI MY TR KY VY FK FV rn us kn vn fkn fvn 0 off false fnd wh af th)) := by
  refine ks_M.of 0 (by decide) (Nat.le_of_ble_eq_true rfl) ?_
  intro E C Z
  refine ks_aload_n rfl rfl C d_Model_end_0 ?_
  refine ks_iconstB false rfl C d_Model_end_1 ?_
  refine ks_put (k := 21) (ws' := (kw_model K a0 a1 a2 a3 a4 a5 a6 a7 a8 a9 a10 a11 a12 a13 _ _ _ _ _ _ _ _ _ _ _ _ _ _ _ _ _ _ _ _ _ _ _ _ _ _)) C 0 9 t_Model ty_Model nm_Model in_Model rfl (by decide) fk_Model_101 rfl rfl (ks_nb1 _) (ks_fb1 _) rfl (Nat.le_of_ble_eq_true rfl) rfl d_Model_end_2 ?_
  refine ks_aload_n rfl rfl C d_Model_end_5 ?_
  refine ks_iconst (a := 0) rfl C d_Model_end_6 ?_
  refine ks_put (k := 19) (ws' := (kw_model K a0 a1 a2 a3 a4 a5 a6 a7 a8 a9 a10 a11 a12 a13 _ _ _ _ _ _ _ _ _ _ _ _ _ _ _ _ _ _ _ _ _ _ _ _ _ _)) C 0 9 t_Model ty_Model nm_Model in_Model rfl (by decide) fk_Model_88 rfl rfl rfl rfl rfl (Nat.le_of_ble_eq_true rfl) rfl d_Model_end_7 ?_
  exact ks_vret C Z rfl d_Model_end_10 rfl rfl ⟨rfl, rfl⟩
set_option maxRecDepth 100000 in
set_option maxHeartbeats 4000000 in
theorem c_Model_fall (l : Launch) (D : va_G) (K : Nat → ClassId) (a0 a1 a2 a3 a4 a5 a6 a7 a8 a9 a10 a11 a12 a13 : Nat) (TO PL KS VS MV : Nat → Nat) (Y : Nat → UInt8) (LI MY : Nat → Nat) (TR : Nat → Int64) (KY VY FK FV : Nat → UInt8) (rn us kn vn fkn fvn mk : Nat) (off opn fnd : Bool) (wh af th : Nat) (h1 : MY 1 ≤ 2900) : ks_M l D (ks_T K) (ks_R 1) y_Model_fall b_Model_fall 1 none [.ref a0] (kw_model K a0 a1 a2 a3 a4 a5 a6 a7 a8 a9 a10 a11 a12 a13 TO PL KS VS MV Y LI MY TR KY VY FK FV rn us kn vn fkn fvn mk off opn fnd wh af th) (ks_f none (kw_model K a0 a1 a2 a3 a4 a5 a6 a7 a8 a9 a10 a11 a12 a13 TO PL KS VS MV Y (va_cpy LI LI (2900 * 1) (2900 * 0) (MY 1)) (va_up MY 0 (MY 1)) (va_up TR 0 (TR 1)) KY VY FK FV rn us 0 0 fkn fvn 0 off false false 4 af th)) := by
  refine ks_M.of 0 (by decide) (Nat.le_of_ble_eq_true rfl) ?_
  intro E C Z
  refine ks_aload_n rfl rfl C d_Model_fall_0 ?_
  refine ks_cv (ci := 9) (q0 := 0) (kw_model K a0 a1 a2 a3 a4 a5 a6 a7 a8 a9 a10 a11 a12 a13 _ _ _ _ _ _ _ _ _ _ _ _ _ _ _ _ _ _ _ _ _ _ _ _ _ _) C (c_Model_end l D K a0 a1 a2 a3 a4 a5 a6 a7 a8 a9 a10 a11 a12 a13 _ _ _ _ _ _ _ _ _ _ _ _ _ _ _ _ _ _ _ _ _ _ _ _ _ _) yw_Model_end sel_Model_end lk_Model_145 d_Model_fall_1 rfl rfl rfl [0, 1, 2, 3, 4, 5, 6, 7, 8, 9, 10, 11, 12, 13] [] [0, 1, 2, 3, 4, 5, 6, 7, 8, 9, 10, 11, 12, 13] rfl rfl rfl rfl (by decide) rfl rfl rfl rfl rfl ⟨by decide, by decide⟩ ⟨by decide, by decide⟩ rfl (Nat.le_of_ble_eq_true rfl) ?_
  refine ks_aload_n rfl rfl C d_Model_fall_4 ?_
  refine ks_iconst (a := 1) rfl C d_Model_fall_5 ?_
  refine ks_iconst (a := 0) rfl C d_Model_fall_6 ?_
  refine ks_cv (ci := 9) (q0 := 0) (kw_model K a0 a1 a2 a3 a4 a5 a6 a7 a8 a9 a10 a11 a12 a13 _ _ _ _ _ _ _ _ _ _ _ _ _ _ _ _ _ _ _ _ _ _ _ _ _ _) C (c_Model_copy l D K a0 a1 a2 a3 a4 a5 a6 a7 a8 a9 a10 a11 a12 a13 _ _ _ _ _ _ _ _ _ _ _ _ _ _ _ _ _ _ _ _ _ _ _ _ _ _ _ _ (by omega) (by omega) (by omega) (by omega)) yw_Model_copy sel_Model_copy lk_Model_148 d_Model_fall_7 rfl rfl rfl [0, 1, 2, 3, 4, 5, 6, 7, 8, 9, 10, 11, 12, 13] [] [0, 1, 2, 3, 4, 5, 6, 7, 8, 9, 10, 11, 12, 13] rfl rfl rfl rfl (by decide) rfl rfl rfl rfl rfl ⟨by decide, by decide⟩ ⟨by decide, by decide⟩ rfl (Nat.le_of_ble_eq_true rfl) ?_
  refine ks_aload_n rfl rfl C d_Model_fall_10 ?_
  refine ks_iconst (a := 0) rfl C d_Model_fall_11 ?_
  refine ks_put (k := 15) (ws' := (kw_model K a0 a1 a2 a3 a4 a5 a6 a7 a8 a9 a10 a11 a12 a13 _ _ _ _ _ _ _ _ _ _ _ _ _ _ _ _ _ _ _ _ _ _ _ _ _ _)) C 0 9 t_Model ty_Model nm_Model in_Model rfl (by decide) fk_Model_59 rfl rfl rfl rfl rfl (Nat.le_of_ble_eq_true rfl) rfl d_Model_fall_12 ?_
  refine ks_aload_n rfl rfl C d_Model_fall_15 ?_
  refine ks_iconst (a := 0) rfl C d_Model_fall_16 ?_
  refine ks_put (k := 16) (ws' := (kw_model K a0 a1 a2 a3 a4 a5 a6 a7 a8 a9 a10 a11 a12 a13 _ _ _ _ _ _ _ _ _ _ _ _ _ _ _ _ _ _ _ _ _ _ _ _ _ _)) C 0 9 t_Model ty_Model nm_Model in_Model rfl (by decide) fk_Model_62 rfl rfl rfl rfl rfl (Nat.le_of_ble_eq_true rfl) rfl d_Model_fall_17 ?_
  refine ks_aload_n rfl rfl C d_Model_fall_20 ?_
  refine ks_iconstB false rfl C d_Model_fall_21 ?_
  refine ks_put (k := 22) (ws' := (kw_model K a0 a1 a2 a3 a4 a5 a6 a7 a8 a9 a10 a11 a12 a13 _ _ _ _ _ _ _ _ _ _ _ _ _ _ _ _ _ _ _ _ _ _ _ _ _ _)) C 0 9 t_Model ty_Model nm_Model in_Model rfl (by decide) fk_Model_132 rfl rfl (ks_nb1 _) (ks_fb1 _) rfl (Nat.le_of_ble_eq_true rfl) rfl d_Model_fall_22 ?_
  refine ks_aload_n rfl rfl C d_Model_fall_25 ?_
  refine ks_iconst (a := 4) rfl C d_Model_fall_26 ?_
  refine ks_put (k := 23) (ws' := (kw_model K a0 a1 a2 a3 a4 a5 a6 a7 a8 a9 a10 a11 a12 a13 _ _ _ _ _ _ _ _ _ _ _ _ _ _ _ _ _ _ _ _ _ _ _ _ _ _)) C 0 9 t_Model ty_Model nm_Model in_Model rfl (by decide) fk_Model_52 rfl rfl rfl rfl rfl (Nat.le_of_ble_eq_true rfl) rfl d_Model_fall_27 ?_
  exact ks_vret C Z rfl d_Model_fall_30 rfl rfl ⟨rfl, rfl⟩
set_option maxRecDepth 100000 in
set_option maxHeartbeats 4000000 in
theorem c_Model_count (l : Launch) (D : va_G) (K : Nat → ClassId) (a0 a1 a2 a3 a4 a5 a6 a7 a8 a9 a10 a11 a12 a13 : Nat) (TO PL KS VS MV : Nat → Nat) (Y : Nat → UInt8) (LI MY : Nat → Nat) (TR : Nat → Int64) (KY VY FK FV : Nat → UInt8) (rn us kn vn fkn fvn mk : Nat) (off opn fnd : Bool) (wh af th : Nat) : ks_M l D (ks_T K) (ks_R 1) y_Model_count b_Model_count 3 (some .int) [.ref a0] (kw_model K a0 a1 a2 a3 a4 a5 a6 a7 a8 a9 a10 a11 a12 a13 TO PL KS VS MV Y LI MY TR KY VY FK FV rn us kn vn fkn fvn mk off opn fnd wh af th) (ks_f (some (.int (nI (km_count (TR 0))))) (kw_model K a0 a1 a2 a3 a4 a5 a6 a7 a8 a9 a10 a11 a12 a13 TO PL KS VS MV Y LI MY TR KY VY FK FV rn us kn vn fkn fvn mk off opn fnd wh af th)) := by
  refine ks_M.of 2 (by decide) (Nat.le_of_ble_eq_true rfl) ?_
  intro E C Z
  have loop : ∀ (f : Nat) (n t : Nat), t + f = 64 → km_ctL (TR 0) f t n = km_count (TR 0) → ks_w E D 3 (kw_model K a0 a1 a2 a3 a4 a5 a6 a7 a8 a9 a10 a11 a12 a13 TO PL KS VS MV Y LI MY TR KY VY FK FV rn us kn vn fkn fvn mk off opn fnd wh af th) [some (.ref a0), some (.int (nI n)), some (.int (nI t))] 0 0 4 [] := by
    intro f
    induction f with
    | zero =>
      intro n t g1 g2
      refine ks_iload_n rfl rfl C d_Model_count_4 ?_
      refine ks_bipush (a := 64) rfl C d_Model_count_5 ?_
      refine ks_icmp_ge (tgt := 27) C (by omega) (by omega) (by decide) d_Model_count_7 (fun u1 => ?_) (fun u1 => ?_)
      · refine ks_iload_n rfl rfl C d_Model_count_27 ?_
        exact ks_iret C Z rfl rfl d_Model_count_28 rfl rfl ⟨ks_eqN g2, rfl⟩
      · exact (by omega : False).elim
    | succ f ih =>
      intro n t g1 g2
      refine ks_iload_n rfl rfl C d_Model_count_4 ?_
      refine ks_bipush (a := 64) rfl C d_Model_count_5 ?_
      refine ks_icmp_ge (tgt := 27) C (by omega) (by omega) (by decide) d_Model_count_7 (fun u2 => ?_) (fun u2 => ?_)
      · exact (by omega : False).elim
      · refine ks_aload_n rfl rfl C d_Model_count_10 ?_
        refine ks_iload_n rfl rfl C d_Model_count_11 ?_
        refine ks_cx (ci := 9) (q0 := 0) (kw_model K a0 a1 a2 a3 a4 a5 a6 a7 a8 a9 a10 a11 a12 a13 _ _ _ _ _ _ _ _ _ _ _ _ _ _ _ _ _ _ _ _ _ _ _ _ _ _) C (c_Model_isTree l D K a0 a1 a2 a3 a4 a5 a6 a7 a8 a9 a10 a11 a12 a13 _ _ _ _ _ _ _ _ _ _ _ _ _ _ _ _ _ _ _ _ _ _ _ _ _ _ _ (by omega)) yw_Model_isTree sel_Model_isTree lk_Model_97 d_Model_count_12 rfl rfl rfl [0, 1, 2, 3, 4, 5, 6, 7, 8, 9, 10, 11, 12, 13] [] [0, 1, 2, 3, 4, 5, 6, 7, 8, 9, 10, 11, 12, 13] rfl rfl rfl rfl (by decide) rfl rfl rfl rfl rfl ⟨by decide, by decide⟩ ⟨by decide, by decide⟩ rfl (Nat.le_of_ble_eq_true rfl) ?_
        refine ks_ifB_eq (tgt := 21) C (by decide) d_Model_count_15 (fun u3 => ?_) (fun u3 => ?_)
        · refine ks_iinc C rfl (z := 1) rfl (by decide) rfl d_Model_count_21 ?_
          refine ks_goto (tgt := 4) C (by decide) d_Model_count_24 ?_
          exact ih _ _ (by omega) (by rw [← g2, km_ctL, if_neg (by rw [u3]; decide)])
        · refine ks_iinc C rfl (z := 1) rfl (by decide) rfl d_Model_count_18 ?_
          refine ks_iinc C rfl (z := 1) rfl (by decide) rfl d_Model_count_21 ?_
          refine ks_goto (tgt := 4) C (by decide) d_Model_count_24 ?_
          exact ih _ _ (by omega) (by rw [← g2, km_ctL, if_pos u3])
  refine ks_iconst (a := 0) rfl C d_Model_count_0 ?_
  refine ks_istore_n C rfl (by decide) rfl d_Model_count_1 ?_
  refine ks_iconst (a := 0) rfl C d_Model_count_2 ?_
  refine ks_istore_n C rfl (by decide) rfl d_Model_count_3 ?_
  exact loop 64 0 0 (by omega) rfl
set_option maxRecDepth 100000 in
set_option maxHeartbeats 4000000 in
theorem c_Model_isMark (l : Launch) (D : va_G) (K : Nat → ClassId) (a0 a1 a2 a3 a4 a5 a6 a7 a8 a9 a10 a11 a12 a13 : Nat) (TO PL KS VS MV : Nat → Nat) (Y : Nat → UInt8) (LI MY : Nat → Nat) (TR : Nat → Int64) (KY VY FK FV : Nat → UInt8) (rn us kn vn fkn fvn mk : Nat) (off opn fnd : Bool) (wh af th : Nat) (m : Nat) (h1 : m < 4294967296) (h2 : mk ≤ 5) : ks_M l D (ks_T K) (ks_R 0) y_Model_isMark b_Model_isMark 2 (some .boolean) [.ref a0, .int (nI m)] (kw_model K a0 a1 a2 a3 a4 a5 a6 a7 a8 a9 a10 a11 a12 a13 TO PL KS VS MV Y LI MY TR KY VY FK FV rn us kn vn fkn fvn mk off opn fnd wh af th) (ks_f (some (.int (ks_b (decide (km_mth off opn mk m = 0))))) (kw_model K a0 a1 a2 a3 a4 a5 a6 a7 a8 a9 a10 a11 a12 a13 TO PL KS VS MV Y LI MY TR KY VY FK FV rn us kn vn fkn fvn mk off opn fnd wh af (km_mth off opn mk m))) := by
  refine ks_M.of 0 (by decide) (Nat.le_of_ble_eq_true rfl) ?_
  intro E C Z
  refine ks_aload_n rfl rfl C d_Model_isMark_0 ?_
  refine ks_aload_n rfl rfl C d_Model_isMark_1 ?_
  refine ks_get (k := 20) C 0 9 in_Model rfl (by decide) fk_Model_65 rfl rfl rfl d_Model_isMark_2 ?_
  refine ks_ifB_ne (tgt := 15) C (by decide) d_Model_isMark_5 (fun u1 => ?_) (fun u1 => ?_)
  · refine ks_iconst (a := 1) rfl C d_Model_isMark_15 ?_
    refine ks_goto (tgt := 37) C (by decide) d_Model_isMark_16 ?_
    refine ks_put (k := 25) (ws' := (kw_model K a0 a1 a2 a3 a4 a5 a6 a7 a8 a9 a10 a11 a12 a13 _ _ _ _ _ _ _ _ _ _ _ _ _ _ _ _ _ _ _ _ _ _ _ _ _ _)) C 0 9 t_Model ty_Model nm_Model in_Model rfl (by decide) fk_Model_56 rfl rfl rfl rfl rfl (Nat.le_of_ble_eq_true rfl) rfl d_Model_isMark_37 ?_
    refine ks_aload_n rfl rfl C d_Model_isMark_40 ?_
    refine ks_get (k := 25) C 0 9 in_Model rfl (by decide) fk_Model_56 rfl rfl rfl d_Model_isMark_41 ?_
    refine ks_if_ne (tgt := 51) C (by omega) (by decide) d_Model_isMark_44 (fun _ => ?_) (fun h => absurd h (by decide))
    refine ks_iconstB false rfl C d_Model_isMark_51 ?_
    exact ks_iret C Z rfl (ks_nb1 _) d_Model_isMark_52 rfl rfl (by rw [show km_mth off opn mk m = 1 by rw [km_mth, if_pos (Or.inl u1)]]; exact ⟨rfl, rfl⟩)
  · refine ks_aload_n rfl rfl C d_Model_isMark_8 ?_
    refine ks_get (k := 21) C 0 9 in_Model rfl (by decide) fk_Model_101 rfl rfl rfl d_Model_isMark_9 ?_
    refine ks_ifB_ne (tgt := 19) C (by decide) d_Model_isMark_12 (fun u3 => ?_) (fun u3 => ?_)
    · refine ks_iload_n rfl rfl C d_Model_isMark_19 ?_
      refine ks_iconst (a := 1) rfl C d_Model_isMark_20 ?_
      refine ks_icmpR_lt (tgt := 32) C (by omega) (by omega) (by decide) d_Model_isMark_21 (fun u4 => ?_) (fun u4 => ?_)
      · refine ks_iconst (a := 2) rfl C d_Model_isMark_32 ?_
        refine ks_goto (tgt := 37) C (by decide) d_Model_isMark_33 ?_
        refine ks_put (k := 25) (ws' := (kw_model K a0 a1 a2 a3 a4 a5 a6 a7 a8 a9 a10 a11 a12 a13 _ _ _ _ _ _ _ _ _ _ _ _ _ _ _ _ _ _ _ _ _ _ _ _ _ _)) C 0 9 t_Model ty_Model nm_Model in_Model rfl (by decide) fk_Model_56 rfl rfl rfl rfl rfl (Nat.le_of_ble_eq_true rfl) rfl d_Model_isMark_37 ?_
        refine ks_aload_n rfl rfl C d_Model_isMark_40 ?_
        refine ks_get (k := 25) C 0 9 in_Model rfl (by decide) fk_Model_56 rfl rfl rfl d_Model_isMark_41 ?_
        refine ks_if_ne (tgt := 51) C (by omega) (by decide) d_Model_isMark_44 (fun _ => ?_) (fun h => absurd h (by decide))
        refine ks_iconstB false rfl C d_Model_isMark_51 ?_
        exact ks_iret C Z rfl (ks_nb1 _) d_Model_isMark_52 rfl rfl (by rw [show km_mth off opn mk m = 2 by rw [km_mth, if_neg (fun z => z.elim (fun y => by rw [u1] at y; cases y) (fun y => by rw [u3] at y; cases y)), if_pos (by omega)]]; exact ⟨rfl, rfl⟩)
      · refine ks_iload_n rfl rfl C d_Model_isMark_24 ?_
        refine ks_aload_n rfl rfl C d_Model_isMark_25 ?_
        refine ks_get (k := 19) C 0 9 in_Model rfl (by decide) fk_Model_88 rfl rfl rfl d_Model_isMark_26 ?_
        refine ks_icmpR_le (tgt := 36) C (by omega) (by omega) (by decide) d_Model_isMark_29 (fun u6 => ?_) (fun u6 => ?_)
        · refine ks_iconst (a := 0) rfl C d_Model_isMark_36 ?_
          refine ks_put (k := 25) (ws' := (kw_model K a0 a1 a2 a3 a4 a5 a6 a7 a8 a9 a10 a11 a12 a13 _ _ _ _ _ _ _ _ _ _ _ _ _ _ _ _ _ _ _ _ _ _ _ _ _ _)) C 0 9 t_Model ty_Model nm_Model in_Model rfl (by decide) fk_Model_56 rfl rfl rfl rfl rfl (Nat.le_of_ble_eq_true rfl) rfl d_Model_isMark_37 ?_
          refine ks_aload_n rfl rfl C d_Model_isMark_40 ?_
          refine ks_get (k := 25) C 0 9 in_Model rfl (by decide) fk_Model_56 rfl rfl rfl d_Model_isMark_41 ?_
          refine ks_if_ne (tgt := 51) C (by omega) (by decide) d_Model_isMark_44 (fun h => absurd h (by decide)) (fun _ => ?_)
          refine ks_iconstB true rfl C d_Model_isMark_47 ?_
          refine ks_goto (tgt := 52) C (by decide) d_Model_isMark_48 ?_
          exact ks_iret C Z rfl (ks_nb1 _) d_Model_isMark_52 rfl rfl (by rw [show km_mth off opn mk m = 0 by rw [km_mth, if_neg (fun z => z.elim (fun y => by rw [u1] at y; cases y) (fun y => by rw [u3] at y; cases y)), if_neg (by omega)]]; exact ⟨rfl, rfl⟩)
        · refine ks_iconst (a := 2) rfl C d_Model_isMark_32 ?_
          refine ks_goto (tgt := 37) C (by decide) d_Model_isMark_33 ?_
          refine ks_put (k := 25) (ws' := (kw_model K a0 a1 a2 a3 a4 a5 a6 a7 a8 a9 a10 a11 a12 a13 _ _ _ _ _ _ _ _ _ _ _ _ _ _ _ _ _ _ _ _ _ _ _ _ _ _)) C 0 9 t_Model ty_Model nm_Model in_Model rfl (by decide) fk_Model_56 rfl rfl rfl rfl rfl (Nat.le_of_ble_eq_true rfl) rfl d_Model_isMark_37 ?_
          refine ks_aload_n rfl rfl C d_Model_isMark_40 ?_
          refine ks_get (k := 25) C 0 9 in_Model rfl (by decide) fk_Model_56 rfl rfl rfl d_Model_isMark_41 ?_
          refine ks_if_ne (tgt := 51) C (by omega) (by decide) d_Model_isMark_44 (fun _ => ?_) (fun h => absurd h (by decide))
          refine ks_iconstB false rfl C d_Model_isMark_51 ?_
          exact ks_iret C Z rfl (ks_nb1 _) d_Model_isMark_52 rfl rfl (by rw [show km_mth off opn mk m = 2 by rw [km_mth, if_neg (fun z => z.elim (fun y => by rw [u1] at y; cases y) (fun y => by rw [u3] at y; cases y)), if_pos (by omega)]]; exact ⟨rfl, rfl⟩)
    · refine ks_iconst (a := 1) rfl C d_Model_isMark_15 ?_
      refine ks_goto (tgt := 37) C (by decide) d_Model_isMark_16 ?_
      refine ks_put (k := 25) (ws' := (kw_model K a0 a1 a2 a3 a4 a5 a6 a7 a8 a9 a10 a11 a12 a13 _ _ _ _ _ _ _ _ _ _ _ _ _ _ _ _ _ _ _ _ _ _ _ _ _ _)) C 0 9 t_Model ty_Model nm_Model in_Model rfl (by decide) fk_Model_56 rfl rfl rfl rfl rfl (Nat.le_of_ble_eq_true rfl) rfl d_Model_isMark_37 ?_
      refine ks_aload_n rfl rfl C d_Model_isMark_40 ?_
      refine ks_get (k := 25) C 0 9 in_Model rfl (by decide) fk_Model_56 rfl rfl rfl d_Model_isMark_41 ?_
      refine ks_if_ne (tgt := 51) C (by omega) (by decide) d_Model_isMark_44 (fun _ => ?_) (fun h => absurd h (by decide))
      refine ks_iconstB false rfl C d_Model_isMark_51 ?_
      exact ks_iret C Z rfl (ks_nb1 _) d_Model_isMark_52 rfl rfl (by rw [show km_mth off opn mk m = 1 by rw [km_mth, if_pos (Or.inr u3)]]; exact ⟨rfl, rfl⟩)
set_option maxRecDepth 100000 in
set_option maxHeartbeats 4000000 in
theorem c_Model_check (l : Launch) (D : va_G) (K : Nat → ClassId) (a0 a1 a2 a3 a4 a5 a6 a7 a8 a9 a10 a11 a12 a13 : Nat) (TO PL KS VS MV : Nat → Nat) (Y : Nat → UInt8) (LI MY : Nat → Nat) (TR : Nat → Int64) (KY VY FK FV : Nat → UInt8) (rn us kn vn fkn fvn mk : Nat) (off opn fnd : Bool) (wh af th : Nat) : ks_M l D (ks_T K) (ks_R 0) y_Model_check b_Model_check 1 (some .int) [.ref a0] (kw_model K a0 a1 a2 a3 a4 a5 a6 a7 a8 a9 a10 a11 a12 a13 TO PL KS VS MV Y LI MY TR KY VY FK FV rn us kn vn fkn fvn mk off opn fnd wh af th) (ks_f (some (.int (nI 0))) (kw_model K a0 a1 a2 a3 a4 a5 a6 a7 a8 a9 a10 a11 a12 a13 TO PL KS VS MV Y LI MY TR KY VY FK FV rn us kn vn fkn fvn mk off opn fnd wh af (if off = true then 1 else 0))) := by
  refine ks_M.of 0 (by decide) (Nat.le_of_ble_eq_true rfl) ?_
  intro E C Z
  refine ks_aload_n rfl rfl C d_Model_check_0 ?_
  refine ks_aload_n rfl rfl C d_Model_check_1 ?_
  refine ks_get (k := 20) C 0 9 in_Model rfl (by decide) fk_Model_65 rfl rfl rfl d_Model_check_2 ?_
  refine ks_ifB_eq (tgt := 12) C (by decide) d_Model_check_5 (fun u1 => ?_) (fun u1 => ?_)
  · refine ks_iconst (a := 0) rfl C d_Model_check_12 ?_
    refine ks_put (k := 25) (ws' := (kw_model K a0 a1 a2 a3 a4 a5 a6 a7 a8 a9 a10 a11 a12 a13 _ _ _ _ _ _ _ _ _ _ _ _ _ _ _ _ _ _ _ _ _ _ _ _ _ _)) C 0 9 t_Model ty_Model nm_Model in_Model rfl (by decide) fk_Model_56 rfl rfl rfl rfl rfl (Nat.le_of_ble_eq_true rfl) rfl d_Model_check_13 ?_
    refine ks_iconst (a := 0) rfl C d_Model_check_16 ?_
    exact ks_iret C Z rfl rfl d_Model_check_17 rfl rfl ⟨rfl, by rw [if_neg (by rw [u1]; decide)]⟩
  · refine ks_iconst (a := 1) rfl C d_Model_check_8 ?_
    refine ks_goto (tgt := 13) C (by decide) d_Model_check_9 ?_
    refine ks_put (k := 25) (ws' := (kw_model K a0 a1 a2 a3 a4 a5 a6 a7 a8 a9 a10 a11 a12 a13 _ _ _ _ _ _ _ _ _ _ _ _ _ _ _ _ _ _ _ _ _ _ _ _ _ _)) C 0 9 t_Model ty_Model nm_Model in_Model rfl (by decide) fk_Model_56 rfl rfl rfl rfl rfl (Nat.le_of_ble_eq_true rfl) rfl d_Model_check_13 ?_
    refine ks_iconst (a := 0) rfl C d_Model_check_16 ?_
    exact ks_iret C Z rfl rfl d_Model_check_17 rfl rfl ⟨rfl, by rw [if_pos u1]⟩
