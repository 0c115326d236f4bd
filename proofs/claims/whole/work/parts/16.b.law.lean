/-! the law's own rows: the script, the choice of the call, where the reference's object stands -/
def kl_X (E : ks_E) (b L : Nat) (xs : Nat → Int32) : Prop := match E with
  | (_, _, _, _, s, _, _, _, _, _, _, A) => va_X b L xs s s.heap ∧ b < s.heap.size ∧ ¬ A b
def kl_H (E : ks_E) : Prop := match E with
  | (_, _, _, _, s, _, _, _, _, _, _, A) => kt_S s ∧ ∀ (q : Nat) (cell : Cell), q < s.heap.size → A q → s.heap[q]? = some cell → cell.vm.isStatics = false
theorem nI_bv (x : Int32) : nI x.toBitVec.toNat = x := by
  apply Int32.toBitVec_inj.mp
  show BitVec.ofNat 32 x.toBitVec.toNat = x.toBitVec
  exact BitVec.eq_of_toNat_eq (by simp)
theorem nI_and31 (a : Nat) : nI a &&& nI 31 = nI (a % 32) := by
  apply Int32.toBitVec_inj.mp
  rw [Int32.toBitVec_and]
  show BitVec.ofNat 32 a &&& BitVec.ofNat 32 31 = BitVec.ofNat 32 (a % 32)
  apply BitVec.eq_of_getLsbD_eq
  intro j hj
  rw [BitVec.getLsbD_and, BitVec.getLsbD_ofNat, BitVec.getLsbD_ofNat, BitVec.getLsbD_ofNat, show (32 : Nat) = 2 ^ 5 from rfl, Nat.testBit_mod_two_pow, show (31 : Nat) = 2 ^ 5 - 1 from rfl, Nat.testBit_two_pow_sub_one]
  cases decide (j < 2 ^ 5) <;> cases decide (j < 5) <;> cases a.testBit j <;> simp
section KSL
variable {E : ks_E} {l0 : Launch} {D : va_G} {tys : List (ClassId × FieldType)} {R0 : Room} {cc : ByteArray} {nL : Nat} {own : String} {ws : va_W} {lo : List (Option Value)} {cs ss pc : Nat} {st : List Value}
theorem ks_sld {b L a : Nat} {sc : Nat → Nat} (C : ks_ok E l0 D tys R0 cc nL own) (X : kl_X E b L (fun j => nI (sc j))) (ha : a < L) (hL : L ≤ 2048) (hd : decode cc pc = .ok (.iaload, 1)) (k : ks_w E D nL ws lo cs ss (pc + 1) (.int (nI (sc a)) :: st)) : ks_w E D nL ws lo cs ss pc (.int (nI a) :: .ref b :: st) := by
  obtain ⟨p, l, e, R, s, m, args, below, meth, c, Q, A⟩ := E
  obtain ⟨-, -, hx, hb, hml, hown, hts, hK, hA, hlocks, hNw⟩ := C
  intro H locs ls hP hD hS hl
  have hc : (nI a).toNatClampNeg = a := nI_clamp (by omega)
  have hi : (nI a).toInt = (a : Int) := nI_toInt (by omega)
  refine va_sld hx hb X.1 X.2.1 X.2.2 hS (i := nI a) ?_ hd ?_
  · rintro (z | z)
    · have := Int32.lt_iff_toInt_lt.mp z
      rw [hi] at this
      have h0 : (0 : Int32).toInt = 0 := rfl
      omega
    · rw [hc] at z; omega
  · rw [hc]; exact k H locs ls hP hD hS hl
theorem ks_slen {b L : Nat} {xs : Nat → Int32} (C : ks_ok E l0 D tys R0 cc nL own) (X : kl_X E b L xs) (hd : decode cc pc = .ok (.arraylength, 1)) (k : ks_w E D nL ws lo cs ss (pc + 1) (.int (nI L) :: st)) : ks_w E D nL ws lo cs ss pc (.ref b :: st) := by
  obtain ⟨p, l, e, R, s, m, args, below, meth, c, Q, A⟩ := E
  obtain ⟨-, -, hx, hb, hml, hown, hts, hK, hA, hlocks, hNw⟩ := C
  intro H locs ls hP hD hS hl
  exact va_slen hx hb X.1 X.2.1 X.2.2 hS hd (k H locs ls hP hD hS hl)
theorem ks_and31 {a : Nat} (C : ks_ok E l0 D tys R0 cc nL own) (hd : decode cc pc = .ok (.iand, 1)) (k : ks_w E D nL ws lo cs ss (pc + 1) (.int (nI (a % 32)) :: st)) : ks_w E D nL ws lo cs ss pc (.int (nI 31) :: .int (nI a) :: st) := by
  refine ks_iandI C hd ?_
  rw [nI_and31]; exact k
end KSL
theorem kz_V_0 (K : Nat → ClassId) (a0 a1 a2 a3 a4 a5 a6 a7 a8 a9 a10 a11 a12 a13 : Nat) (e : kz_E) : ∃ fs, (kz_V K a0 a1 a2 a3 a4 a5 a6 a7 a8 a9 a10 a11 a12 a13 e)[0]? = some (a0, .inr (9, fs)) := by
  obtain ⟨⟨⟨TO, PL⟩, ⟨KS, VS⟩, ⟨MV, Y⟩, LI, rn, us⟩, ⟨MY, TR⟩, ⟨⟨KY, kn⟩, ⟨VY, vn⟩, ⟨FK, fkn⟩, FV, fvn⟩, mq, ⟨off, opn, fnd⟩, wh, af, th⟩ := e
  exact ⟨_, rfl⟩
