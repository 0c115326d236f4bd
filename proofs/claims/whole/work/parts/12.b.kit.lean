/-! rows that were wanting: raw ints, longs -/
theorem nI_R {a : Nat} (h : a < 4294967296) : (nI a).toInt = if a < 2147483648 then (a : Int) else (a : Int) - 4294967296 := by
  by_cases h1 : a < 2147483648
  · rw [if_pos h1]; exact nI_toInt h1
  · rw [if_neg h1]
    show (Int32.ofNat a).toInt = _
    rw [Int32.toInt_ofNat']
    simp [Int.bmod]
    omega
theorem ks_vupL (f : Nat → Int64) (k : Nat) (x : Int64) : vp_updL f k x = va_up f k x := rfl
def ks_lc (x y : Int64) : Int32 := if y < x then 1 else if x = y then 0 else -1
section KSL
variable {p : Program} {l : Launch} {e : Env} {R : Room} {s : State} {m : MethodId} {args : Array Value} {below : List Frame} {meth : Method} {c : Code} {H : Heap} {locs : List Loc} {cells slots : Nat} {Q : State → Prop} {cc : ByteArray} {pc : Nat} {ls : Array Slot} {rest : List Value}
theorem kz_lcmp (hexec : p.tables.exec = Jvm.exec) (hb : c.code = cc) {x y : Int64} (hdg : decode cc pc = .ok (.lcmp, 1))
    (k : W p l e R s m args below meth c H locs cells slots Q (F0 m (pc + 1) ls (.int (ks_lc x y) :: rest))) : W p l e R s m args below meth c H locs cells slots Q (F0 m pc ls (.long y :: .long x :: rest)) := by
  intro T hT X
  obtain ⟨t, a, b⟩ := k T hT X
  refine ⟨t, ?_, b⟩
  unfold ks_lc at a
  by_cases h1 : y < x
  · rw [if_pos h1] at a
    jvm_step X.here [X.here.top, hexec, hb, hdg, h1]
    exact a
  · rw [if_neg h1] at a
    by_cases h2 : x = y
    · rw [if_pos h2] at a
      subst h2
      jvm_step X.here [X.here.top, hexec, hb, hdg, h1]
      exact a
    · rw [if_neg h2] at a
      jvm_step X.here [X.here.top, hexec, hb, hdg, h1, h2]
      exact a
end KSL
section KSM
variable {E : ks_E} {l0 : Launch} {D : va_G} {tys : List (ClassId × FieldType)} {R0 : Room} {cc : ByteArray} {nL : Nat} {own : String} {ws : va_W} {lo : List (Option Value)} {cs ss pc : Nat} {st : List Value}
theorem ks_lald {a i : Nat} {cA : ClassId} {n : Nat} {F : Nat → Int64} (C : ks_ok E l0 D tys R0 cc nL own) (q0 t0 : Nat) (ht : tys[t0]? = some (cA, .long)) (ha : ws[q0]? = some (a, .inl (cA, n, .inr (.inl F)))) (hi : i < n) (hN : n < 2 ^ 31) (hd : decode cc pc = .ok (.laload, 1)) (k : ks_w E D nL ws lo cs ss (pc + 1) (.long (F i) :: st)) : ks_w E D nL ws lo cs ss pc (.int (nI i) :: .ref a :: st) := by
  obtain ⟨p, l, e, R, s, m, args, below, meth, c, Q, A⟩ := E
  obtain ⟨-, -, hx, hb, hml, hown, hts, hK, hA, hlocks, hNw⟩ := C
  intro H locs ls hP hD hS hl
  refine va_lald hx hb hK hP q0 t0 ha ht (vp_in_nI hi hN) hd ?_
  rw [nI_clamp (by omega)]
  exact k H locs ls hP hD hS hl
theorem ks_last {a i : Nat} {cA : ClassId} {n : Nat} {F : Nat → Int64} {x : Int64} {ws' : va_W} (C : ks_ok E l0 D tys R0 cc nL own) (q0 t0 : Nat) (ht : tys[t0]? = some (cA, .long)) (ha : ws[q0]? = some (a, .inl (cA, n, .inr (.inl F)))) (hi : i < n) (hN : n < 2 ^ 31) (hw : ws.set q0 (a, .inl (cA, n, .inr (.inl (va_up F i x)))) = ws') (hd : decode cc pc = .ok (.lastore, 1)) (k : ks_w E D nL ws' lo cs ss (pc + 1) st) : ks_w E D nL ws lo cs ss pc (.long x :: .int (nI i) :: .ref a :: st) := by
  obtain ⟨p, l, e, R, s, m, args, below, meth, c, Q, A⟩ := E
  obtain ⟨-, -, hx, hb, hml, hown, hts, hK, hA, hlocks, hNw⟩ := C
  intro H locs ls hP hD hS hl
  subst hw
  refine va_last hx hb hK hP hD hS q0 t0 ha ht (vp_in_nI hi hN) hd (fun H1 locs1 hP hD hS => ?_)
  rw [nI_clamp (by omega), ks_vupL] at hP hD
  exact k H1 locs1 ls hP hD hS hl
theorem ks_lcmp {x y : Int64} (C : ks_ok E l0 D tys R0 cc nL own) (hd : decode cc pc = .ok (.lcmp, 1)) (k : ks_w E D nL ws lo cs ss (pc + 1) (.int (ks_lc x y) :: st)) : ks_w E D nL ws lo cs ss pc (.long y :: .long x :: st) := by
  obtain ⟨p, l, e, R, s, m, args, below, meth, c, Q, A⟩ := E
  obtain ⟨-, -, hx, hb, hml, hown, hts, hK, hA, hlocks, hNw⟩ := C
  intro H locs ls hP hD hS hl
  exact kz_lcmp hx hb hd (k H locs ls hP hD hS hl)
theorem ks_lc0 (x y : Int64) : ks_lc x y = 0 ↔ x = y := by
  unfold ks_lc
  constructor
  · intro h
    split at h
    · exact absurd h (by decide)
    · split at h
      · assumption
      · exact absurd h (by decide)
  · intro h
    subst h
    rw [if_neg (fun z => by have := Int64.lt_iff_toInt_lt.mp z; omega), if_pos rfl]
theorem ks_ifC_eq {x y : Int64} {off : Int} {tgt : Nat} (C : ks_ok E l0 D tys R0 cc nL own) (ht : (pc : Int) + off = (tgt : Int)) (hd : decode cc pc = .ok (.ifCond .eq off, 3)) (kt : x = y → ks_w E D nL ws lo cs ss tgt st) (kf : ¬ x = y → ks_w E D nL ws lo cs ss (pc + 3) st) : ks_w E D nL ws lo cs ss pc (.int (ks_lc x y) :: st) := ks_ifI_eq C ht hd (fun h => kt ((ks_lc0 x y).mp h)) (fun h => kf (fun z => h ((ks_lc0 x y).mpr z)))
theorem ks_ifC_ne {x y : Int64} {off : Int} {tgt : Nat} (C : ks_ok E l0 D tys R0 cc nL own) (ht : (pc : Int) + off = (tgt : Int)) (hd : decode cc pc = .ok (.ifCond .ne off, 3)) (kt : ¬ x = y → ks_w E D nL ws lo cs ss tgt st) (kf : x = y → ks_w E D nL ws lo cs ss (pc + 3) st) : ks_w E D nL ws lo cs ss pc (.int (ks_lc x y) :: st) := ks_ifI_ne C ht hd (fun h => kt (fun z => h ((ks_lc0 x y).mpr z))) (fun h => kf ((ks_lc0 x y).mp h))
theorem ks_icmpR_lt {a b : Nat} {off : Int} {tgt : Nat} (C : ks_ok E l0 D tys R0 cc nL own) (ha : a < 4294967296) (hb2 : b < 2147483648) (ht : (pc : Int) + off = (tgt : Int)) (hd : decode cc pc = .ok (.if_icmp .lt off, 3)) (kt : a < b ∨ 2147483648 ≤ a → ks_w E D nL ws lo cs ss tgt st) (kf : b ≤ a ∧ a < 2147483648 → ks_w E D nL ws lo cs ss (pc + 3) st) : ks_w E D nL ws lo cs ss pc (.int (nI b) :: .int (nI a) :: st) := by
  have ea := nI_R ha
  have eb := nI_R (a := b) (by omega)
  rw [if_pos (by omega)] at eb
  have ec : (nI a).toInt = (a : Int) ∧ a < 2147483648 ∨ (nI a).toInt = (a : Int) - 4294967296 ∧ 2147483648 ≤ a := by
    split at ea <;> omega
  refine ks_icmpI_lt C ht hd (fun h => kt ?_) (fun h => kf ?_)
  · have h1 := Int32.lt_iff_toInt_lt.mp h
    rw [eb] at h1
    omega
  · have h1 := mt Int32.lt_iff_toInt_lt.mpr h
    rw [eb] at h1
    omega
theorem ks_ifR_lt {a : Nat} {off : Int} {tgt : Nat} (C : ks_ok E l0 D tys R0 cc nL own) (ha : a < 4294967296) (ht : (pc : Int) + off = (tgt : Int)) (hd : decode cc pc = .ok (.ifCond .lt off, 3)) (kt : 2147483648 ≤ a → ks_w E D nL ws lo cs ss tgt st) (kf : a < 2147483648 → ks_w E D nL ws lo cs ss (pc + 3) st) : ks_w E D nL ws lo cs ss pc (.int (nI a) :: st) := by
  have ea := nI_R ha
  have ec : (nI a).toInt = (a : Int) ∧ a < 2147483648 ∨ (nI a).toInt = (a : Int) - 4294967296 ∧ 2147483648 ≤ a := by
    split at ea <;> omega
  refine ks_ifI_lt C ht hd (fun h => kt ?_) (fun h => kf ?_)
  · have h1 := Int32.lt_iff_toInt_lt.mp h
    rw [ks_z0I] at h1
    omega
  · have h1 := mt Int32.lt_iff_toInt_lt.mpr h
    rw [ks_z0I] at h1
    omega
theorem ks_icmpR_ge {a b : Nat} {off : Int} {tgt : Nat} (C : ks_ok E l0 D tys R0 cc nL own) (ha : a < 4294967296) (hb2 : b < 2147483648) (ht : (pc : Int) + off = (tgt : Int)) (hd : decode cc pc = .ok (.if_icmp .ge off, 3)) (kt : b ≤ a ∧ a < 2147483648 → ks_w E D nL ws lo cs ss tgt st) (kf : a < b ∨ 2147483648 ≤ a → ks_w E D nL ws lo cs ss (pc + 3) st) : ks_w E D nL ws lo cs ss pc (.int (nI b) :: .int (nI a) :: st) := by
  have ea := nI_R ha
  have eb := nI_R (a := b) (by omega)
  rw [if_pos (by omega)] at eb
  have ec : (nI a).toInt = (a : Int) ∧ a < 2147483648 ∨ (nI a).toInt = (a : Int) - 4294967296 ∧ 2147483648 ≤ a := by
    split at ea <;> omega
  refine ks_icmpI_ge C ht hd (fun h => kt ?_) (fun h => kf ?_)
  · have h1 := Int32.le_iff_toInt_le.mp h
    rw [eb] at h1
    omega
  · have h1 := mt Int32.le_iff_toInt_le.mpr h
    rw [eb] at h1
    omega
theorem ks_ifR_ge {a : Nat} {off : Int} {tgt : Nat} (C : ks_ok E l0 D tys R0 cc nL own) (ha : a < 4294967296) (ht : (pc : Int) + off = (tgt : Int)) (hd : decode cc pc = .ok (.ifCond .ge off, 3)) (kt : a < 2147483648 → ks_w E D nL ws lo cs ss tgt st) (kf : 2147483648 ≤ a → ks_w E D nL ws lo cs ss (pc + 3) st) : ks_w E D nL ws lo cs ss pc (.int (nI a) :: st) := by
  have ea := nI_R ha
  have ec : (nI a).toInt = (a : Int) ∧ a < 2147483648 ∨ (nI a).toInt = (a : Int) - 4294967296 ∧ 2147483648 ≤ a := by
    split at ea <;> omega
  refine ks_ifI_ge C ht hd (fun h => kt ?_) (fun h => kf ?_)
  · have h1 := Int32.le_iff_toInt_le.mp h
    rw [ks_z0I] at h1
    omega
  · have h1 := mt Int32.le_iff_toInt_le.mpr h
    rw [ks_z0I] at h1
    omega
theorem ks_icmpR_gt {a b : Nat} {off : Int} {tgt : Nat} (C : ks_ok E l0 D tys R0 cc nL own) (ha : a < 4294967296) (hb2 : b < 2147483648) (ht : (pc : Int) + off = (tgt : Int)) (hd : decode cc pc = .ok (.if_icmp .gt off, 3)) (kt : b < a ∧ a < 2147483648 → ks_w E D nL ws lo cs ss tgt st) (kf : a ≤ b ∨ 2147483648 ≤ a → ks_w E D nL ws lo cs ss (pc + 3) st) : ks_w E D nL ws lo cs ss pc (.int (nI b) :: .int (nI a) :: st) := by
  have ea := nI_R ha
  have eb := nI_R (a := b) (by omega)
  rw [if_pos (by omega)] at eb
  have ec : (nI a).toInt = (a : Int) ∧ a < 2147483648 ∨ (nI a).toInt = (a : Int) - 4294967296 ∧ 2147483648 ≤ a := by
    split at ea <;> omega
  refine ks_icmpI_gt C ht hd (fun h => kt ?_) (fun h => kf ?_)
  · have h1 := Int32.lt_iff_toInt_lt.mp h
    rw [eb] at h1
    omega
  · have h1 := mt Int32.lt_iff_toInt_lt.mpr h
    rw [eb] at h1
    omega
theorem ks_ifR_gt {a : Nat} {off : Int} {tgt : Nat} (C : ks_ok E l0 D tys R0 cc nL own) (ha : a < 4294967296) (ht : (pc : Int) + off = (tgt : Int)) (hd : decode cc pc = .ok (.ifCond .gt off, 3)) (kt : 0 < a ∧ a < 2147483648 → ks_w E D nL ws lo cs ss tgt st) (kf : a = 0 ∨ 2147483648 ≤ a → ks_w E D nL ws lo cs ss (pc + 3) st) : ks_w E D nL ws lo cs ss pc (.int (nI a) :: st) := by
  have ea := nI_R ha
  have ec : (nI a).toInt = (a : Int) ∧ a < 2147483648 ∨ (nI a).toInt = (a : Int) - 4294967296 ∧ 2147483648 ≤ a := by
    split at ea <;> omega
  refine ks_ifI_gt C ht hd (fun h => kt ?_) (fun h => kf ?_)
  · have h1 := Int32.lt_iff_toInt_lt.mp h
    rw [ks_z0I] at h1
    omega
  · have h1 := mt Int32.lt_iff_toInt_lt.mpr h
    rw [ks_z0I] at h1
    omega
theorem ks_icmpR_le {a b : Nat} {off : Int} {tgt : Nat} (C : ks_ok E l0 D tys R0 cc nL own) (ha : a < 4294967296) (hb2 : b < 2147483648) (ht : (pc : Int) + off = (tgt : Int)) (hd : decode cc pc = .ok (.if_icmp .le off, 3)) (kt : a ≤ b ∨ 2147483648 ≤ a → ks_w E D nL ws lo cs ss tgt st) (kf : b < a ∧ a < 2147483648 → ks_w E D nL ws lo cs ss (pc + 3) st) : ks_w E D nL ws lo cs ss pc (.int (nI b) :: .int (nI a) :: st) := by
  have ea := nI_R ha
  have eb := nI_R (a := b) (by omega)
  rw [if_pos (by omega)] at eb
  have ec : (nI a).toInt = (a : Int) ∧ a < 2147483648 ∨ (nI a).toInt = (a : Int) - 4294967296 ∧ 2147483648 ≤ a := by
    split at ea <;> omega
  refine ks_icmpI_le C ht hd (fun h => kt ?_) (fun h => kf ?_)
  · have h1 := Int32.le_iff_toInt_le.mp h
    rw [eb] at h1
    omega
  · have h1 := mt Int32.le_iff_toInt_le.mpr h
    rw [eb] at h1
    omega
theorem ks_ifR_le {a : Nat} {off : Int} {tgt : Nat} (C : ks_ok E l0 D tys R0 cc nL own) (ha : a < 4294967296) (ht : (pc : Int) + off = (tgt : Int)) (hd : decode cc pc = .ok (.ifCond .le off, 3)) (kt : a = 0 ∨ 2147483648 ≤ a → ks_w E D nL ws lo cs ss tgt st) (kf : 0 < a ∧ a < 2147483648 → ks_w E D nL ws lo cs ss (pc + 3) st) : ks_w E D nL ws lo cs ss pc (.int (nI a) :: st) := by
  have ea := nI_R ha
  have ec : (nI a).toInt = (a : Int) ∧ a < 2147483648 ∨ (nI a).toInt = (a : Int) - 4294967296 ∧ 2147483648 ≤ a := by
    split at ea <;> omega
  refine ks_ifI_le C ht hd (fun h => kt ?_) (fun h => kf ?_)
  · have h1 := Int32.le_iff_toInt_le.mp h
    rw [ks_z0I] at h1
    omega
  · have h1 := mt Int32.le_iff_toInt_le.mpr h
    rw [ks_z0I] at h1
    omega
theorem ks_icmpR_eq {a b : Nat} {off : Int} {tgt : Nat} (C : ks_ok E l0 D tys R0 cc nL own) (ha : a < 4294967296) (hb2 : b < 2147483648) (ht : (pc : Int) + off = (tgt : Int)) (hd : decode cc pc = .ok (.if_icmp .eq off, 3)) (kt : a = b → ks_w E D nL ws lo cs ss tgt st) (kf : a ≠ b → ks_w E D nL ws lo cs ss (pc + 3) st) : ks_w E D nL ws lo cs ss pc (.int (nI b) :: .int (nI a) :: st) := by
  have ea := nI_R ha
  have eb := nI_R (a := b) (by omega)
  rw [if_pos (by omega)] at eb
  have ec : (nI a).toInt = (a : Int) ∧ a < 2147483648 ∨ (nI a).toInt = (a : Int) - 4294967296 ∧ 2147483648 ≤ a := by
    split at ea <;> omega
  refine ks_icmpI_eq C ht hd (fun h => kt ?_) (fun h => kf (fun z => h (by rw [z])))
  · have h1 := congrArg Int32.toInt h
    rw [eb] at h1
    omega
theorem ks_ifR_eq {a : Nat} {off : Int} {tgt : Nat} (C : ks_ok E l0 D tys R0 cc nL own) (ha : a < 4294967296) (ht : (pc : Int) + off = (tgt : Int)) (hd : decode cc pc = .ok (.ifCond .eq off, 3)) (kt : a = 0 → ks_w E D nL ws lo cs ss tgt st) (kf : a ≠ 0 → ks_w E D nL ws lo cs ss (pc + 3) st) : ks_w E D nL ws lo cs ss pc (.int (nI a) :: st) := by
  have ea := nI_R ha
  have ec : (nI a).toInt = (a : Int) ∧ a < 2147483648 ∨ (nI a).toInt = (a : Int) - 4294967296 ∧ 2147483648 ≤ a := by
    split at ea <;> omega
  refine ks_ifI_eq C ht hd (fun h => kt ?_) (fun h => kf (fun z => h (by rw [z]; rfl)))
  · have h1 := congrArg Int32.toInt h
    rw [ks_z0I] at h1
    omega
theorem ks_icmpR_ne {a b : Nat} {off : Int} {tgt : Nat} (C : ks_ok E l0 D tys R0 cc nL own) (ha : a < 4294967296) (hb2 : b < 2147483648) (ht : (pc : Int) + off = (tgt : Int)) (hd : decode cc pc = .ok (.if_icmp .ne off, 3)) (kt : a ≠ b → ks_w E D nL ws lo cs ss tgt st) (kf : a = b → ks_w E D nL ws lo cs ss (pc + 3) st) : ks_w E D nL ws lo cs ss pc (.int (nI b) :: .int (nI a) :: st) := by
  have ea := nI_R ha
  have eb := nI_R (a := b) (by omega)
  rw [if_pos (by omega)] at eb
  have ec : (nI a).toInt = (a : Int) ∧ a < 2147483648 ∨ (nI a).toInt = (a : Int) - 4294967296 ∧ 2147483648 ≤ a := by
    split at ea <;> omega
  refine ks_icmpI_ne C ht hd (fun h => kt (fun z => h (by rw [z]))) (fun h => kf ?_)
  · have h1 := congrArg Int32.toInt h
    rw [eb] at h1
    omega
theorem ks_ifR_ne {a : Nat} {off : Int} {tgt : Nat} (C : ks_ok E l0 D tys R0 cc nL own) (ha : a < 4294967296) (ht : (pc : Int) + off = (tgt : Int)) (hd : decode cc pc = .ok (.ifCond .ne off, 3)) (kt : a ≠ 0 → ks_w E D nL ws lo cs ss tgt st) (kf : a = 0 → ks_w E D nL ws lo cs ss (pc + 3) st) : ks_w E D nL ws lo cs ss pc (.int (nI a) :: st) := by
  have ea := nI_R ha
  have ec : (nI a).toInt = (a : Int) ∧ a < 2147483648 ∨ (nI a).toInt = (a : Int) - 4294967296 ∧ 2147483648 ≤ a := by
    split at ea <;> omega
  refine ks_ifI_ne C ht hd (fun h => kt (fun z => h (by rw [z]; rfl))) (fun h => kf ?_)
  · have h1 := congrArg Int32.toInt h
    rw [ks_z0I] at h1
    omega
end KSM
