/-! contracts of methods that throw, in the walker's words -/
def kt_Q (D : va_G) (tys : List (ClassId × FieldType)) (cls : String) (w1 : va_W) (A : Nat → Prop) : State → Addr → State → Prop := fun st q t => ∃ ce : Cell, t.heap[q]? = some ce ∧ ce.vm = .none ∧ st.vm.findClass cls = some ce.cls ∧ (va_P D vwCl w1 t.heap ∧ va_K D vwCl tys t ∧ va_D A w1) ∧ va_F A st t
def kt_pc (D : va_G) (tys : List (ClassId × FieldType)) (wc : va_W) (sz : Nat) (U : State) : Prop := (U.heap.size = sz ∧ va_P D vwCl wc U.heap ∧ va_K D vwCl tys U ∧ ks_Nw U ∧ va_D (fun _ => True) wc) ∧ kt_S U
def kt_M (l : Launch) (D : va_G) (tys : List (ClassId × FieldType)) (rm : Room) (y : MethodName) (cc : ByteArray) (nL : Nat) (ret : Option FieldType) (args : List Value) (wc : va_W) (cls : String) (w1 : va_W) : Prop :=
  ∀ sz : Nat, kt_Met l y (.code y cc nL ret :: ks_tbl) rm (va_Pc args (kt_pc D tys wc sz)) (kt_Q D tys cls w1 (va_A wc sz)) rm.cells rm.slots (va_A wc sz)
/-- what the rows that throw ask of the walk -/
def kt_C (E : ks_E) : Prop := match E with
  | (_, l, _, _, s, _, _, _, _, c, _, A) => kt_S s ∧ l.stackTraces = false ∧ (∀ pc : Nat, ∀ x ∈ c.exceptionTable.toList, covers x pc = false) ∧ ∀ (q : Nat) (cell : Cell), q < s.heap.size → A q → s.heap[q]? = some cell → cell.vm.isStatics = false
def kt_z (E : ks_E) (D : va_G) (tys : List (ClassId × FieldType)) (rm : Room) (wc : va_W) (cls : String) (w1 : va_W) : Prop :=
  match E with
  | (_, _, _, _, s, _, _, below, _, _, Q, A) => A = va_A wc s.heap.size ∧ Q = kt_MQ below (kt_Q D tys cls w1 (va_A wc s.heap.size)) s rm.cells rm.slots (va_A wc s.heap.size)
theorem kt_apart {D : va_G} {wc : va_W} {H : Heap} (hP : va_P D vwCl wc H) {q : Nat} {cell : Cell} (hq : q < H.size) (hA : va_A wc H.size q) (hc : H[q]? = some cell) : cell.vm.isStatics = false := by
  rcases hA with ⟨k, e, hk⟩ | h
  · have h1 := hP k _ hk
    revert h1
    cases e with
    | inl x =>
      obtain ⟨cA, n, f⟩ := x
      intro h1
      rcases f with f | f | f | f | f <;> (have h2 := hc.symm.trans h1; cases h2; rfl)
    | inr x =>
      intro h1
      obtain ⟨r, -, cell2, g1, -, g3, -⟩ := h1
      cases Option.some.inj (hc.symm.trans g1)
      rw [g3]; rfl
  · omega
theorem kt_M.of {l : Launch} {D : va_G} {tys : List (ClassId × FieldType)} {rm : Room} {y : MethodName} {cc : ByteArray} {nL : Nat} {ret : Option FieldType} {vs : List Value} {wc : va_W} {cls : String} {w1 : va_W} (hl : l.stackTraces = false) (n : Nat) (hy : plainName y.cls = true) (hlen : (lg_sl vs).length ≤ nL) (body : ∀ E : ks_E, ks_ok E l D tys rm cc nL y.cls → kt_C E → kt_z E D tys rm wc cls w1 → ks_w E D nL wc (ks_ar vs ++ List.replicate n none) 0 0 0 []) : kt_M l D tys rm y cc nL ret vs wc cls w1 := by
  intro sz
  refine kt_ofW (cc := cc) (maxL := nL) (ret := ret) hy rfl ?_
  intro p e s m args below meth c s₁ B hml hv
  obtain ⟨rfl, ⟨hsz, hP, hK, hNw, hD0⟩, hSt⟩ := hv
  subst hsz
  have hts := atoms_spec (ws := .code y cc nL ret :: ks_tbl) B.pre
  have hown : s.vm.findClass y.cls = some m.cls := findClass_of_methodNamed B.named
  have hl2 := lv_entry vs (n := nL) hlen
  have hnh := B.noHandlers (hts (.code y cc nL ret) List.mem_cons_self)
  have h := body (p, l, e, rm, s, m, vs.toArray, below, meth, c, kt_MQ below (kt_Q D tys cls w1 (va_A wc s.heap.size)) s rm.cells rm.slots (va_A wc s.heap.size), va_A wc s.heap.size)
    ⟨rfl, rfl, B.exec, B.bytes, hml, hown, fun w hw => hts w (List.mem_cons_of_mem _ hw), hK, fun q h => Or.inr h, B.notSynchronized, hNw⟩ ⟨hSt, hl, fun pc => covers_of_empty hnh pc, fun q cell hq hA hc => kt_apart hP hq hA hc⟩ ⟨rfl, rfl⟩
  rw [lg_entry_eq]
  exact h s.heap [] _ hP (hD0.self (sz := s.heap.size)) va_S.rf (ks_lo_args hl2)
section KTR
variable {E : ks_E} {l0 : Launch} {D : va_G} {tys : List (ClassId × FieldType)} {R0 : Room} {cc : ByteArray} {nL : Nat} {own : String} {ws : va_W} {lo : List (Option Value)} {cs ss pc : Nat} {st : List Value}
theorem kt_hold {s : State} {A : Nat → Prop} {H : Heap} {locs : List Loc} (hap : ∀ (q : Nat) (cell : Cell), q < s.heap.size → A q → s.heap[q]? = some cell → cell.vm.isStatics = false) (hS : va_S A s.heap H locs) (q : Nat) (cell : Cell) (hc : s.heap[q]? = some cell) (hs : cell.vm.isStatics = true) : H[q]? = some cell := by
  have hlt := (Array.getElem?_eq_some_iff.mp hc).1
  rw [hS.2.1 q hlt (fun hA => by rw [hap q cell hlt hA hc] at hs; cases hs)]
  exact hc
/-- throw new E("text"), with no handler in the method -/
theorem ks_throw {rm : Room} {wc w1 : va_W} {cls text : String} {names : List String} {ik is ic : Nat} (C : ks_ok E l0 D tys R0 cc nL own) (K : kt_C E) (Z : kt_z E D tys rm wc cls w1) (hcls : Bundle.fit cls = true) (hnames : ∀ n ∈ names, Bundle.fit n = true)
    (hw : ∀ w ∈ Cond.classLink own ik cls :: Cond.initialized cls :: Cond.stringRef own is text :: Bundle.ownAtoms own ic cls names, (w ∈ lw_tbl ∧ kt_ok w = true) ∨ w ∈ kt_sp)
    (d0 : decode cc pc = .ok (.new ik, 3)) (d3 : decode cc (pc + 3) = .ok (.dup, 1)) (d4 : decode cc (pc + 4) = .ok (.ldc is, 2)) (d6 : decode cc (pc + 6) = .ok (.invokespecial ic, 3)) (d9 : decode cc (pc + 9) = .ok (.athrow, 1))
    (hRf : names.length + 3 < R0.frames) (hRl : (st.map fun v => v.category).sum + (13 * (names.length + 1) + 43) ≤ R0.locals) (hRc : cs + 1 ≤ R0.cells) (hRs : ss + 6 ≤ R0.slots) (hc : cs + 1 = rm.cells) (hs : ss + 6 = rm.slots) (hp : ws = w1) : ks_w E D nL ws lo cs ss pc st := by
  obtain ⟨p, l, e, R, s, m, args, below, meth, c, Q, A⟩ := E
  obtain ⟨rfl, rfl, hx, hb, hml, hown, hts, hK, hA, hlocks, hNw⟩ := C
  obtain ⟨hSt, hl, hno, hap⟩ := K
  obtain ⟨rfl, rfl⟩ := Z
  subst hp
  intro H locs ls hP hD hS hlv
  rw [← hc, ← hs]
  refine kz_throw hx hb hl hown hcls hnames hw hSt (kt_hold hap hS) (hlv.1.trans hml.symm) d0 d3 d4 d6 d9 (hno _) hRf hRl hRc hRs hlocks (fun t ce h1 h2 h3 h4 h5 h6 => ?_) hS.2.2
  refine ⟨ce, h1, h2, h3, ⟨?_, va_K.moved h6.alike hK, hD⟩, Nat.le_trans hS.1 h4, fun q hq hA9 => by rw [h5 q (Nat.lt_of_lt_of_le hq hS.1)]; exact hS.2.1 q hq hA9⟩
  exact hP.kept (fun k q hk => h5 q.1 (hP k q hk).lt)
/-- the same, the text by a wide index -/
theorem ks_throwW {rm : Room} {wc w1 : va_W} {cls text : String} {names : List String} {ik is ic : Nat} (C : ks_ok E l0 D tys R0 cc nL own) (K : kt_C E) (Z : kt_z E D tys rm wc cls w1) (hcls : Bundle.fit cls = true) (hnames : ∀ n ∈ names, Bundle.fit n = true)
    (hw : ∀ w ∈ Cond.classLink own ik cls :: Cond.initialized cls :: Cond.stringRef own is text :: Bundle.ownAtoms own ic cls names, (w ∈ lw_tbl ∧ kt_ok w = true) ∨ w ∈ kt_sp)
    (d0 : decode cc pc = .ok (.new ik, 3)) (d3 : decode cc (pc + 3) = .ok (.dup, 1)) (d4 : decode cc (pc + 4) = .ok (.ldc_w is, 3)) (d6 : decode cc (pc + 7) = .ok (.invokespecial ic, 3)) (d9 : decode cc (pc + 10) = .ok (.athrow, 1))
    (hRf : names.length + 3 < R0.frames) (hRl : (st.map fun v => v.category).sum + (13 * (names.length + 1) + 43) ≤ R0.locals) (hRc : cs + 1 ≤ R0.cells) (hRs : ss + 6 ≤ R0.slots) (hc : cs + 1 = rm.cells) (hs : ss + 6 = rm.slots) (hp : ws = w1) : ks_w E D nL ws lo cs ss pc st := by
  obtain ⟨p, l, e, R, s, m, args, below, meth, c, Q, A⟩ := E
  obtain ⟨rfl, rfl, hx, hb, hml, hown, hts, hK, hA, hlocks, hNw⟩ := C
  obtain ⟨hSt, hl, hno, hap⟩ := K
  obtain ⟨rfl, rfl⟩ := Z
  subst hp
  intro H locs ls hP hD hS hlv
  rw [← hc, ← hs]
  refine kz_throwW hx hb hl hown hcls hnames hw hSt (kt_hold hap hS) (hlv.1.trans hml.symm) d0 d3 d4 d6 d9 (hno _) hRf hRl hRc hRs hlocks (fun t ce h1 h2 h3 h4 h5 h6 => ?_) hS.2.2
  refine ⟨ce, h1, h2, h3, ⟨?_, va_K.moved h6.alike hK, hD⟩, Nat.le_trans hS.1 h4, fun q hq hA9 => by rw [h5 q (Nat.lt_of_lt_of_le hq hS.1)]; exact hS.2.1 q hq hA9⟩
  exact hP.kept (fun k q hk => h5 q.1 (hP k q hk).lt)
/-- the same, where the class's constructor has another link -/
theorem ks_throwXW {ix : Nat} {rx : ByteArray} (x0 : decode rx 0 = .ok (.aload_n 0, 1)) (x1 : decode rx 1 = .ok (.aload_n 1, 1)) (x2 : decode rx 2 = .ok (.invokespecial ix, 3)) (x5 : decode rx 5 = .ok (.return_, 1)) {rm : Room} {wc w1 : va_W} {cls text : String} {names : List String} {ik is ic : Nat} (C : ks_ok E l0 D tys R0 cc nL own) (K : kt_C E) (Z : kt_z E D tys rm wc cls w1) (hcls : Bundle.fit cls = true) (hnames : ∀ n ∈ names, Bundle.fit n = true)
    (hw : ∀ w ∈ Cond.classLink own ik cls :: Cond.initialized cls :: Cond.stringRef own is text :: Bundle.ownAtomsX own ic cls ix rx names, (w ∈ lw_tbl ∧ kt_ok w = true) ∨ w ∈ kt_sp)
    (d0 : decode cc pc = .ok (.new ik, 3)) (d3 : decode cc (pc + 3) = .ok (.dup, 1)) (d4 : decode cc (pc + 4) = .ok (.ldc_w is, 3)) (d6 : decode cc (pc + 7) = .ok (.invokespecial ic, 3)) (d9 : decode cc (pc + 10) = .ok (.athrow, 1))
    (hRf : names.length + 3 < R0.frames) (hRl : (st.map fun v => v.category).sum + (13 * (names.length + 1) + 43) ≤ R0.locals) (hRc : cs + 1 ≤ R0.cells) (hRs : ss + 6 ≤ R0.slots) (hc : cs + 1 = rm.cells) (hs : ss + 6 = rm.slots) (hp : ws = w1) : ks_w E D nL ws lo cs ss pc st := by
  obtain ⟨p, l, e, R, s, m, args, below, meth, c, Q, A⟩ := E
  obtain ⟨rfl, rfl, hx, hb, hml, hown, hts, hK, hA, hlocks, hNw⟩ := C
  obtain ⟨hSt, hl, hno, hap⟩ := K
  obtain ⟨rfl, rfl⟩ := Z
  subst hp
  intro H locs ls hP hD hS hlv
  rw [← hc, ← hs]
  refine kz_throwXW x0 x1 x2 x5 hx hb hl hown hcls hnames hw hSt (kt_hold hap hS) (hlv.1.trans hml.symm) d0 d3 d4 d6 d9 (hno _) hRf hRl hRc hRs hlocks (fun t ce h1 h2 h3 h4 h5 h6 => ?_) hS.2.2
  refine ⟨ce, h1, h2, h3, ⟨?_, va_K.moved h6.alike hK, hD⟩, Nat.le_trans hS.1 h4, fun q hq hA9 => by rw [h5 q (Nat.lt_of_lt_of_le hq hS.1)]; exact hS.2.1 q hq hA9⟩
  exact hP.kept (fun k q hk => h5 q.1 (hP k q hk).lt)
end KTR
