/-! the reference: world and mirror -/
abbrev kw_model (K : Nat → ClassId) (a0 a1 a2 a3 a4 a5 a6 a7 a8 a9 a10 a11 a12 a13 : Nat) (TO PL KS VS MV : Nat → Nat) (Y : Nat → UInt8) (LI MY : Nat → Nat) (TR : Nat → Int64) (KY VY FK FV : Nat → UInt8) (rn us kn vn fkn fvn mk : Nat) (off opn fnd : Bool) (wh af th : Nat) : va_W :=
  [(a0, .inr (9, [.ref a1, .ref a2, .ref a3, .ref a4, .ref a5, .ref a6, .int (nI rn), .int (nI us), .ref a7, .ref a8, .ref a9, .ref a10, .ref a11, .ref a12, .ref a13, .int (nI kn), .int (nI vn), .int (nI fkn), .int (nI fvn), .int (nI mk), .int (ks_b off), .int (ks_b opn), .int (ks_b fnd), .int (nI wh), .int (nI af), .int (nI th)])), (a1, .inl (K 2, 20600, .inl (ks_in TO))), (a2, .inl (K 2, 20600, .inl (ks_in PL))), (a3, .inl (K 2, 20600, .inl (ks_in KS))), (a4, .inl (K 2, 20600, .inl (ks_in VS))), (a5, .inl (K 2, 20600, .inl (ks_in MV))), (a6, .inl (K 0, 400000, .inl (ks_by Y))), (a7, .inl (K 2, 20300, .inl (ks_in LI))), (a8, .inl (K 2, 7, .inl (ks_in MY))), (a9, .inl (K 3, 7, .inr (.inl TR))), (a10, .inl (K 0, 8448, .inl (ks_by KY))), (a11, .inl (K 0, 8448, .inl (ks_by VY))), (a12, .inl (K 0, 8448, .inl (ks_by FK))), (a13, .inl (K 0, 8448, .inl (ks_by FV)))]
def km_room (off : Bool) (now n most : Nat) : Nat := if most < n then 1 else if off = true ∨ 8448 < now + n then 2 else 0
def km_szL (LI KS VS : Nat → Nat) : Nat → Nat → Nat → Nat
  | 0, _, n => n
  | f + 1, i, n => km_szL LI KS VS f (i + 1) (n + (16 + KS (LI i) + VS (LI i)))
def km_size (LI KS VS : Nat → Nat) (m : Nat) : Nat := km_szL LI KS VS m 0 0
def km_enL (LI TO : Nat → Nat) (t : Nat) : Nat → Nat → Nat → Nat
  | 0, _, n => n
  | f + 1, i, n => km_enL LI TO t f (i + 1) (if TO (LI i) = t then n + 1 else n)
def km_ents (LI TO : Nat → Nat) (t m : Nat) : Nat := km_enL LI TO t m 0 0
def km_cmpL (Y KY : Nat → UInt8) (p : Nat) (z : Int) : Nat → Nat → Int
  | 0, _ => z
  | f + 1, i => if ((Y (p + i)).toNat : Int) - (KY i).toNat = 0 then km_cmpL Y KY p z f (i + 1) else ((Y (p + i)).toNat : Int) - (KY i).toNat
def km_cmp (Y KY : Nat → UInt8) (p k kn : Nat) : Int := km_cmpL Y KY p ((k : Int) - kn) (min k kn) 0
theorem km_cmpL_in (Y KY : Nat → UInt8) (p : Nat) {z : Int} (h1 : -10000 < z) (h2 : z < 10000) : ∀ f i : Nat, -10000 < km_cmpL Y KY p z f i ∧ km_cmpL Y KY p z f i < 10000
  | 0, _ => ⟨h1, h2⟩
  | f + 1, i => by
    rw [km_cmpL]
    split
    · exact km_cmpL_in Y KY p h1 h2 f (i + 1)
    · have := (Y (p + i)).toNat_lt
      have := (KY i).toNat_lt
      omega
theorem km_cmp_in (Y KY : Nat → UInt8) (p : Nat) {k kn : Nat} (h1 : k ≤ 8448) (h2 : kn ≤ 8448) : -10000 < km_cmp Y KY p k kn ∧ km_cmp Y KY p k kn < 10000 := km_cmpL_in Y KY p (by omega) (by omega) _ _
abbrev km_bef (TO PL KS : Nat → Nat) (Y KY : Nat → UInt8) (LI : Nat → Nat) (kn t k : Nat) : Prop := TO (LI k) < t ∨ (TO (LI k) = t ∧ km_cmp Y KY (PL (LI k)) (KS (LI k)) kn < 0)
def km_fiL (TO PL KS : Nat → Nat) (Y KY : Nat → UInt8) (LI : Nat → Nat) (kn t : Nat) : Nat → Nat → Nat
  | 0, k => k
  | f + 1, k => if km_bef TO PL KS Y KY LI kn t k then km_fiL TO PL KS Y KY LI kn t f (k + 1) else k
def km_find (TO PL KS : Nat → Nat) (Y KY : Nat → UInt8) (LI : Nat → Nat) (kn t m : Nat) : Nat := km_fiL TO PL KS Y KY LI kn t m 0
theorem km_fiL_le (TO PL KS : Nat → Nat) (Y KY : Nat → UInt8) (LI : Nat → Nat) (kn t : Nat) : ∀ f k : Nat, km_fiL TO PL KS Y KY LI kn t f k ≤ k + f
  | 0, _ => Nat.le_refl _
  | f + 1, k => by
    rw [km_fiL]
    split
    · exact Nat.le_trans (km_fiL_le TO PL KS Y KY LI kn t f (k + 1)) (by omega)
    · omega
theorem km_find_le (TO PL KS : Nat → Nat) (Y KY : Nat → UInt8) (LI : Nat → Nat) (kn t m : Nat) : km_find TO PL KS Y KY LI kn t m ≤ m := by
  have := km_fiL_le TO PL KS Y KY LI kn t m 0
  unfold km_find; omega
def km_is (TO PL KS : Nat → Nat) (Y KY : Nat → UInt8) (LI : Nat → Nat) (kn m k t : Nat) : Bool := decide (k < m ∧ TO (LI k) = t ∧ km_cmp Y KY (PL (LI k)) (KS (LI k)) kn = 0)
/-- what a state's list keeps to, so that no index leaves its array -/
def km_g (TO PL KS VS LI : Nat → Nat) (n : Nat) : Prop := n ≤ 2900 ∧ ∀ k, k < n → LI k < 20600 ∧ TO (LI k) < 64 ∧ PL (LI k) + (KS (LI k) + VS (LI k)) ≤ 400000 ∧ KS (LI k) ≤ 8448 ∧ VS (LI k) ≤ 8448
theorem km_cpy_s {α : Type} (F : Nat → α) {p u i : Nat} (h : ∀ j, u ≤ j → j < u + i → j ≠ p + i) : va_up (va_cpy F F p u i) (u + i) (va_cpy F F p u i (p + i)) = va_cpy F F p u (i + 1) := by
  funext j
  unfold va_up va_cpy
  by_cases h1 : j = u + i
  · subst h1
    rw [if_pos rfl, if_neg (fun z => h (p + i) z.1 z.2 rfl), if_pos (by omega)]
    congr 1; omega
  · rw [if_neg h1]
    by_cases h2 : u ≤ j ∧ j < u + i
    · rw [if_pos h2, if_pos (by omega)]
    · rw [if_neg h2, if_neg (by omega)]
theorem km_cpy_0 {α : Type} (F G : Nat → α) (p u : Nat) : va_cpy F G p u 0 = G := by
  funext j; unfold va_cpy; rw [if_neg (by omega)]
theorem km_cpy_t {α : Type} (F G : Nat → α) (p u i : Nat) : va_up (va_cpy F G p u i) (u + i) (F (p + i)) = va_cpy F G p u (i + 1) := by
  funext j
  unfold va_up va_cpy
  by_cases h1 : j = u + i
  · subst h1
    rw [if_pos rfl, if_pos (by omega)]
    congr 1; omega
  · rw [if_neg h1]
    by_cases h2 : u ≤ j ∧ j < u + i
    · rw [if_pos h2, if_pos (by omega)]
    · rw [if_neg h2, if_neg (by omega)]
abbrev km_bit (w : Int64) (t : Nat) : Prop := (w >>> ((nI t).toInt64 &&& 63)) &&& 1 = 1
def km_tree (w : Int64) (t : Nat) : Bool := decide (t < 64 ∧ km_bit w t)
def km_fail (s b : Bool) : Nat := if s = true then 1 else if b = true then 0 else 2
theorem km_fail_0 {s b : Bool} : km_fail s b = 0 ↔ s = false ∧ b = true := by cases s <;> cases b <;> decide
def km_firstL (w : Int64) : Nat → Nat → Nat
  | 0, t => t
  | f + 1, t => if km_tree w t = true then km_firstL w f (t + 1) else t
def km_first (w : Int64) : Nat := km_firstL w 64 0
theorem km_firstL_le (w : Int64) : ∀ f t : Nat, km_firstL w f t ≤ t + f
  | 0, _ => Nat.le_refl _
  | f + 1, t => by
    rw [km_firstL]
    split
    · exact Nat.le_trans (km_firstL_le w f (t + 1)) (by omega)
    · omega
def km_dropL (TO : Nat → Nat) (t : Nat) : Nat → Nat → (Nat → Nat) → Nat → (Nat → Nat) × Nat
  | 0, _, LI, to => (LI, to)
  | f + 1, k, LI, to => if TO (LI k) = t then km_dropL TO t f (k + 1) LI to else km_dropL TO t f (k + 1) (va_up LI to (LI k)) (to + 1)
def km_out (LI : Nat → Nat) (at_ n : Nat) : Nat → Nat := fun j => if at_ ≤ j ∧ j < n then LI (j + 1) else LI j
def km_shift (LI : Nat → Nat) (at_ n : Nat) : Nat → Nat := fun j => if at_ < j ∧ j ≤ n then LI (j - 1) else LI j
def km_ctL (w : Int64) : Nat → Nat → Nat → Nat
  | 0, _, n => n
  | f + 1, t, n => km_ctL w f (t + 1) (if km_tree w t = true then n + 1 else n)
def km_count (w : Int64) : Nat := km_ctL w 64 0 0
theorem ks_nbb (B : Nat → UInt8) (i : Nat) : vp_nar .byte (ks_by B i) = sb_b (B i).toNat := by
  show vp_nar .byte (sb_b (B i).toNat) = _
  rw [ks_sbi]
  rw [vp_nar_byte]; simp
theorem ks_b255 (w : Int64) {i : Nat} (h : i < 8) : (w >>> ((nI (8 * i)).toInt64 &&& 63)).toInt32 &&& nI 255 = nI (kv_byte w i).toNat := by
  apply Int32.toBitVec_inj.mp
  rw [Int32.toBitVec_and, Int64.toBitVec_toInt32]
  have e0 : (w >>> ((nI (8 * i)).toInt64 &&& 63)).toBitVec = w.toBitVec.sshiftRight (8 * i) := by
    show w.toBitVec.sshiftRight (((nI (8 * i)).toInt64 &&& 63).toBitVec.smod 64).toNat = _
    have : ∀ k : Fin 8, (((nI (8 * k.val)).toInt64 &&& 63).toBitVec.smod 64).toNat = 8 * k.val := by decide +kernel
    rw [this ⟨i, h⟩]
  rw [e0]
  apply BitVec.eq_of_getLsbD_eq
  intro j hj
  have hn : (nI (kv_byte w i).toNat).toBitVec = BitVec.ofNat 32 (kv_byte w i).toNat := rfl
  have hm : (nI 255).toBitVec = BitVec.ofNat 32 255 := rfl
  rw [hn, hm, BitVec.getLsbD_and, BitVec.getLsbD_signExtend, BitVec.getLsbD_sshiftRight, BitVec.getLsbD_ofNat, BitVec.getLsbD_ofNat]
  unfold kv_byte
  rw [UInt8.toNat_ofNat', Nat.testBit_mod_two_pow, show (255 : Nat) = 2 ^ 8 - 1 from rfl, Nat.testBit_two_pow_sub_one]
  have hd : (w.toBitVec.toNat / 256 ^ i).testBit j = w.toBitVec.toNat.testBit (8 * i + j) := by
    rw [show (256 : Nat) ^ i = 2 ^ (8 * i) from (Nat.pow_mul 2 8 i).symm, Nat.testBit_div_two_pow, Nat.add_comm]
  rw [hd]
  by_cases h8 : j < 8
  · simp [h8, show j < 32 by omega, show ¬ 64 ≤ j by omega, show 8 * i + j < 64 by omega]
    rw [if_pos (by omega)]
    rfl
  · simp [h8]
section KSO
variable {E : ks_E} {D : va_G} {nL : Nat} {ws : va_W} {lo : List (Option Value)} {cs ss pc : Nat} {st : List Value}
theorem ks_top_kcmp {Y KY : Nat → UInt8} {p k kn : Nat} (h1 : k ≤ 8448) (h2 : kn ≤ 8448) (k' : (-10000 < km_cmp Y KY p k kn ∧ km_cmp Y KY p k kn < 10000) → ks_w E D nL ws lo cs ss pc (.int (Int32.ofInt (km_cmp Y KY p k kn)) :: st)) : ks_w E D nL ws lo cs ss pc (.int (Int32.ofInt (km_cmp Y KY p k kn)) :: st) := k' (km_cmp_in Y KY p h1 h2)
theorem ks_top_kfind {TO PL KS : Nat → Nat} {Y KY : Nat → UInt8} {LI : Nat → Nat} {kn t m : Nat} (k' : km_find TO PL KS Y KY LI kn t m ≤ m → ks_w E D nL ws lo cs ss pc (.int (nI (km_find TO PL KS Y KY LI kn t m)) :: st)) : ks_w E D nL ws lo cs ss pc (.int (nI (km_find TO PL KS Y KY LI kn t m)) :: st) := k' (km_find_le TO PL KS Y KY LI kn t m)
end KSO
