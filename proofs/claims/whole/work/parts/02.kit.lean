/-! links across the nest: no words of the tables' list, so they come with the start of each method -/
def ks_Nw (U : State) : Prop := va_Nw (.fieldLinkNest "KeyStore$Pages" 50 "KeyStore$Row" "bytes" "[B" "KeyStore") U ∧ va_Nw (.methodLinkNest "KeyStore" 11 y_Row_init "KeyStore") U ∧ va_Nw (.methodLinkNest "KeyStore" 27 y_Disk_init "KeyStore") U ∧ va_Nw (.methodLinkNest "KeyStore" 34 y_Pages_init "KeyStore") U ∧ va_Nw (.methodLinkNest "KeyStore" 41 y_Marks_init "KeyStore") U ∧ va_Nw (.methodLinkNest "KeyStore$Checker" 17 y_Row_init "KeyStore") U
theorem ks_Nw.warm {s U : State} (hW : s.WarmedH U.vm) (h : ks_Nw s) : ks_Nw U := ⟨va_Nw.warmF hW h.1, va_Nw.warmM hW h.2.1, va_Nw.warmM hW h.2.2.1, va_Nw.warmM hW h.2.2.2.1, va_Nw.warmM hW h.2.2.2.2.1, va_Nw.warmM hW h.2.2.2.2.2⟩
theorem ks_Nw.same {u U : State} (e : u.vm = U.vm) (h : ks_Nw u) : ks_Nw U := ⟨va_Nw.same rfl e h.1, va_Nw.same rfl e h.2.1, va_Nw.same rfl e h.2.2.1, va_Nw.same rfl e h.2.2.2.1, va_Nw.same rfl e h.2.2.2.2.1, va_Nw.same rfl e h.2.2.2.2.2⟩
/-! a walk's judgement: world, locals by their places, pc, stack; all else is in E -/
abbrev ks_E : Type := Program × Launch × Env × Room × State × MethodId × Array Value × List Frame × Method × Code × (State → Prop) × (Nat → Prop)
def ks_lv (lo : List (Option Value)) : List (Nat × Value) := (List.range lo.length).filterMap (fun i => (lo[i]?.join).map (fun v => (i, v)))
theorem ks_lv_mem {lo : List (Option Value)} {q : Nat × Value} : q ∈ ks_lv lo ↔ lo[q.1]? = some (some q.2) := by
  unfold ks_lv
  rw [List.mem_filterMap]
  constructor
  · rintro ⟨i, hi, h⟩
    cases h1 : lo[i]? with
    | none => rw [h1] at h; simp at h
    | some o =>
      cases o with
      | none => rw [h1] at h; simp at h
      | some v =>
        rw [h1] at h
        simp at h
        subst h
        exact h1
  · intro h
    refine ⟨q.1, List.mem_range.mpr ?_, ?_⟩
    · exact (List.getElem?_eq_some_iff.mp h).1
    · rw [h]; rfl
theorem ks_lv_at {ls : Array Slot} {nL : Nat} {lo : List (Option Value)} (h : lv_has ls nL (ks_lv lo)) {i : Nat} {v : Value} (hi : lo[i]? = some (some v)) : ls[i]? = some (.val v) := h.2.2 (i, v) (ks_lv_mem.mpr hi)
theorem ks_lv_sub {ls : Array Slot} {nL : Nat} {l l' : List (Nat × Value)} (h : lv_has ls nL l) (hs : ∀ q ∈ l', q ∈ l) : lv_has ls nL l' := ⟨h.1, h.2.1, fun q hq => h.2.2 q (hs q hq)⟩
/-- the place before i holds no long -/
def ks_ok1 (lo : List (Option Value)) (i : Nat) : Bool := match i with
  | 0 => true
  | j + 1 => match lo[j]? with
    | some (some w) => w.category == 1
    | _ => true
theorem ks_set1 {lo : List (Option Value)} {i : Nat} {v : Value} (hk : ks_ok1 lo i = true) : ∀ q ∈ ks_lv (lo.set i (some v)), q ∈ (i, v) :: (ks_lv lo).filter (fun q => !(q.1 == i) && !(q.1 + 1 == i && q.2.category == 2)) := by
  intro q hq
  have h := ks_lv_mem.mp hq
  rw [List.getElem?_set] at h
  by_cases e : i = q.1
  · rw [if_pos e] at h
    subst e
    split at h
    · have : v = q.2 := by simpa using h
      rw [this]
      exact List.mem_cons_self
    · cases h
  · rw [if_neg e] at h
    refine List.mem_cons_of_mem _ (List.mem_filter.mpr ⟨ks_lv_mem.mpr h, ?_⟩)
    have e1 : (q.1 == i) = false := by simp; exact fun z => e z.symm
    rw [e1]
    cases i with
    | zero => simp
    | succ j =>
      by_cases e2 : q.1 = j
      · have hk' : (match lo[j]? with | some (some w) => w.category == 1 | _ => true) = true := hk
        rw [← e2, h] at hk'
        have : q.2.category = 1 := by simpa using hk'
        simp [this]
      · have : (q.1 + 1 == j + 1) = false := by simp; exact e2
        simp [this]
theorem ks_set2 {lo : List (Option Value)} {i : Nat} {v : Value} (hk : ks_ok1 lo i = true) : ∀ q ∈ ks_lv ((lo.set (i + 1) none).set i (some v)), q ∈ (i, v) :: (ks_lv lo).filter (fun q => !(q.1 == i) && (!(q.1 == i + 1) && !(q.1 + 1 == i && q.2.category == 2))) := by
  intro q hq
  have h := ks_lv_mem.mp hq
  rw [List.getElem?_set] at h
  by_cases e : i = q.1
  · rw [if_pos e] at h
    subst e
    split at h
    · have : v = q.2 := by simpa using h
      rw [this]
      exact List.mem_cons_self
    · cases h
  · rw [if_neg e, List.getElem?_set] at h
    by_cases e3 : i + 1 = q.1
    · rw [if_pos e3] at h
      split at h <;> cases h
    · rw [if_neg e3] at h
      refine List.mem_cons_of_mem _ (List.mem_filter.mpr ⟨ks_lv_mem.mpr h, ?_⟩)
      have e1 : (q.1 == i) = false := by simp; exact fun z => e z.symm
      have e4 : (q.1 == i + 1) = false := by simp; exact fun z => e3 z.symm
      rw [e1, e4]
      cases i with
      | zero => simp
      | succ j =>
        by_cases e2 : q.1 = j
        · have hk' : (match lo[j]? with | some (some w) => w.category == 1 | _ => true) = true := hk
          rw [← e2, h] at hk'
          have : q.2.category = 1 := by simpa using hk'
          simp [this]
        · have : (q.1 + 1 == j + 1) = false := by simp; exact e2
          simp [this]
def ks_w (E : ks_E) (D : va_G) (nL : Nat) (ws : va_W) (lo : List (Option Value)) (cs ss pc : Nat) (st : List Value) : Prop :=
  match E with
  | (p, l, e, R, s, m, args, below, meth, c, Q, A) => ∀ (H : Heap) (locs : List Loc) (ls : Array Slot), va_P D vwCl ws H → va_D A ws → va_S A s.heap H locs → lv_has ls nL (ks_lv lo) → W p l e R s m args below meth c H locs cs ss Q (F0 m pc ls st)
def ks_ok (E : ks_E) (l0 : Launch) (D : va_G) (tys : List (ClassId × FieldType)) (R0 : Room) (cc : ByteArray) (nL : Nat) (own : String) : Prop :=
  match E with
  | (p, l, _, R, s, m, args, _, meth, c, _, A) => l = l0 ∧ R = R0 ∧ p.tables.exec = Jvm.exec ∧ c.code = cc ∧ c.maxLocals = nL ∧ s.vm.findClass own = some m.cls ∧ (∀ w ∈ ks_tbl, w.before args s = true) ∧ va_K D vwCl tys s ∧ (∀ q, s.heap.size ≤ q → A q) ∧ meth.locks = false ∧ ks_Nw s
section KSR
variable {E : ks_E} {l0 : Launch} {D : va_G} {tys : List (ClassId × FieldType)} {R0 : Room} {cc : ByteArray} {nL : Nat} {own : String} {ws : va_W} {lo : List (Option Value)} {cs ss pc : Nat} {st : List Value}
/-- the world said anew -/
theorem ks_ws {ws' : va_W} (h : ws = ws') (k : ks_w E D nL ws' lo cs ss pc st) : ks_w E D nL ws lo cs ss pc st := h ▸ k
theorem ks_st {st' : List Value} (h : st = st') (k : ks_w E D nL ws lo cs ss pc st') : ks_w E D nL ws lo cs ss pc st := h ▸ k
theorem ks_lo {lo' : List (Option Value)} (h : ∀ (i : Nat) (v : Value), lo'[i]? = some (some v) → lo[i]? = some (some v)) (k : ks_w E D nL ws lo' cs ss pc st) : ks_w E D nL ws lo cs ss pc st := by
  obtain ⟨p, l, e, R, s, m, args, below, meth, c, Q, A⟩ := E
  intro H locs ls hP hD hS hl
  exact k H locs ls hP hD hS (ks_lv_sub hl (fun q hq => ks_lv_mem.mpr (h _ _ (ks_lv_mem.mp hq))))
theorem ks_forget (j : Nat) (k : ks_w E D nL ws (lo.set j none) cs ss pc st) : ks_w E D nL ws lo cs ss pc st := ks_lo (lo' := lo.set j none) (fun i v h => by
  rw [List.getElem?_set] at h
  by_cases e : j = i
  · rw [if_pos e] at h; split at h <;> cases h
  · rw [if_neg e] at h; exact h) k
theorem ks_pc {pc' : Nat} (h : pc = pc') (k : ks_w E D nL ws lo cs ss pc' st) : ks_w E D nL ws lo cs ss pc st := h ▸ k
theorem ks_iload_n {n : Fin 4} {i : Nat} {x : Int32} (hi : (n : Nat) = i) (hv : lo[i]? = some (some (.int x))) (C : ks_ok E l0 D tys R0 cc nL own) (hd : decode cc pc = .ok (.iload_n n, 1)) (k : ks_w E D nL ws lo cs ss (pc + 1) (.int x :: st)) : ks_w E D nL ws lo cs ss pc st := by
  obtain ⟨p, l, e, R, s, m, args, below, meth, c, Q, A⟩ := E
  obtain ⟨-, -, hx, hb, hml, hown, hts, hK, hA, hlocks, hNw⟩ := C
  intro H locs ls hP hD hS hl
  refine lv_iload_n hx hb hd hi (ks_lv_at hl hv) ?_
  exact k H locs ls hP hD hS hl
theorem ks_iload {i : Nat} {x : Int32} (hv : lo[i]? = some (some (.int x))) (C : ks_ok E l0 D tys R0 cc nL own) (hd : decode cc pc = .ok (.iload i, 2)) (k : ks_w E D nL ws lo cs ss (pc + 2) (.int x :: st)) : ks_w E D nL ws lo cs ss pc st := by
  obtain ⟨p, l, e, R, s, m, args, below, meth, c, Q, A⟩ := E
  obtain ⟨-, -, hx, hb, hml, hown, hts, hK, hA, hlocks, hNw⟩ := C
  intro H locs ls hP hD hS hl
  refine lv_iload hx hb hd (ks_lv_at hl hv) ?_
  exact k H locs ls hP hD hS hl
theorem ks_lload_n {n : Fin 4} {i : Nat} {x : Int64} (hi : (n : Nat) = i) (hv : lo[i]? = some (some (.long x))) (C : ks_ok E l0 D tys R0 cc nL own) (hd : decode cc pc = .ok (.lload_n n, 1)) (k : ks_w E D nL ws lo cs ss (pc + 1) (.long x :: st)) : ks_w E D nL ws lo cs ss pc st := by
  obtain ⟨p, l, e, R, s, m, args, below, meth, c, Q, A⟩ := E
  obtain ⟨-, -, hx, hb, hml, hown, hts, hK, hA, hlocks, hNw⟩ := C
  intro H locs ls hP hD hS hl
  refine lv_lload_n hx hb hd hi (ks_lv_at hl hv) ?_
  exact k H locs ls hP hD hS hl
theorem ks_lload {i : Nat} {x : Int64} (hv : lo[i]? = some (some (.long x))) (C : ks_ok E l0 D tys R0 cc nL own) (hd : decode cc pc = .ok (.lload i, 2)) (k : ks_w E D nL ws lo cs ss (pc + 2) (.long x :: st)) : ks_w E D nL ws lo cs ss pc st := by
  obtain ⟨p, l, e, R, s, m, args, below, meth, c, Q, A⟩ := E
  obtain ⟨-, -, hx, hb, hml, hown, hts, hK, hA, hlocks, hNw⟩ := C
  intro H locs ls hP hD hS hl
  refine lv_lload hx hb hd (ks_lv_at hl hv) ?_
  exact k H locs ls hP hD hS hl
theorem ks_aload_n {n : Fin 4} {i : Nat} {x : Nat} (hi : (n : Nat) = i) (hv : lo[i]? = some (some (.ref x))) (C : ks_ok E l0 D tys R0 cc nL own) (hd : decode cc pc = .ok (.aload_n n, 1)) (k : ks_w E D nL ws lo cs ss (pc + 1) (.ref x :: st)) : ks_w E D nL ws lo cs ss pc st := by
  obtain ⟨p, l, e, R, s, m, args, below, meth, c, Q, A⟩ := E
  obtain ⟨-, -, hx, hb, hml, hown, hts, hK, hA, hlocks, hNw⟩ := C
  intro H locs ls hP hD hS hl
  refine lv_aload_n hx hb hd hi (ks_lv_at hl hv) ?_
  exact k H locs ls hP hD hS hl
theorem ks_aload {i : Nat} {x : Nat} (hv : lo[i]? = some (some (.ref x))) (C : ks_ok E l0 D tys R0 cc nL own) (hd : decode cc pc = .ok (.aload i, 2)) (k : ks_w E D nL ws lo cs ss (pc + 2) (.ref x :: st)) : ks_w E D nL ws lo cs ss pc st := by
  obtain ⟨p, l, e, R, s, m, args, below, meth, c, Q, A⟩ := E
  obtain ⟨-, -, hx, hb, hml, hown, hts, hK, hA, hlocks, hNw⟩ := C
  intro H locs ls hP hD hS hl
  refine lv_aload hx hb hd (ks_lv_at hl hv) ?_
  exact k H locs ls hP hD hS hl
theorem ks_istore_n {n : Fin 4} {i : Nat} {x : Int32} (C : ks_ok E l0 D tys R0 cc nL own) (hi : (n : Nat) = i) (hn : i < nL) (hk : ks_ok1 lo i = true) (hd : decode cc pc = .ok (.istore_n n, 1)) (k : ks_w E D nL ws (lo.set i (some (.int x))) cs ss (pc + 1) st) : ks_w E D nL ws lo cs ss pc (.int x :: st) := by
  obtain ⟨p, l, e, R, s, m, args, below, meth, c, Q, A⟩ := E
  obtain ⟨-, -, hx, hb, hml, hown, hts, hK, hA, hlocks, hNw⟩ := C
  intro H locs ls hP hD hS hl
  exact lv_istore_n hx hb hd hi hl hn rfl (fun ls' hl' => k H locs ls' hP hD hS (ks_lv_sub hl' (ks_set1 hk)))
theorem ks_istore {i : Nat} {x : Int32} (C : ks_ok E l0 D tys R0 cc nL own) (hn : i < nL) (hk : ks_ok1 lo i = true) (hd : decode cc pc = .ok (.istore i, 2)) (k : ks_w E D nL ws (lo.set i (some (.int x))) cs ss (pc + 2) st) : ks_w E D nL ws lo cs ss pc (.int x :: st) := by
  obtain ⟨p, l, e, R, s, m, args, below, meth, c, Q, A⟩ := E
  obtain ⟨-, -, hx, hb, hml, hown, hts, hK, hA, hlocks, hNw⟩ := C
  intro H locs ls hP hD hS hl
  exact lv_istore hx hb hd hl hn rfl (fun ls' hl' => k H locs ls' hP hD hS (ks_lv_sub hl' (ks_set1 hk)))
theorem ks_astore_n {n : Fin 4} {i : Nat} {x : Nat} (C : ks_ok E l0 D tys R0 cc nL own) (hi : (n : Nat) = i) (hn : i < nL) (hk : ks_ok1 lo i = true) (hd : decode cc pc = .ok (.astore_n n, 1)) (k : ks_w E D nL ws (lo.set i (some (.ref x))) cs ss (pc + 1) st) : ks_w E D nL ws lo cs ss pc (.ref x :: st) := by
  obtain ⟨p, l, e, R, s, m, args, below, meth, c, Q, A⟩ := E
  obtain ⟨-, -, hx, hb, hml, hown, hts, hK, hA, hlocks, hNw⟩ := C
  intro H locs ls hP hD hS hl
  exact lv_astore_n hx hb hd hi hl hn rfl (fun ls' hl' => k H locs ls' hP hD hS (ks_lv_sub hl' (ks_set1 hk)))
theorem ks_astore {i : Nat} {x : Nat} (C : ks_ok E l0 D tys R0 cc nL own) (hn : i < nL) (hk : ks_ok1 lo i = true) (hd : decode cc pc = .ok (.astore i, 2)) (k : ks_w E D nL ws (lo.set i (some (.ref x))) cs ss (pc + 2) st) : ks_w E D nL ws lo cs ss pc (.ref x :: st) := by
  obtain ⟨p, l, e, R, s, m, args, below, meth, c, Q, A⟩ := E
  obtain ⟨-, -, hx, hb, hml, hown, hts, hK, hA, hlocks, hNw⟩ := C
  intro H locs ls hP hD hS hl
  exact lv_astore hx hb hd hl hn rfl (fun ls' hl' => k H locs ls' hP hD hS (ks_lv_sub hl' (ks_set1 hk)))
theorem ks_lstore_n {n : Fin 4} {i : Nat} {x : Int64} (C : ks_ok E l0 D tys R0 cc nL own) (hi : (n : Nat) = i) (hn : i + 1 < nL) (hk : ks_ok1 lo i = true) (hd : decode cc pc = .ok (.lstore_n n, 1)) (k : ks_w E D nL ws ((lo.set (i + 1) none).set i (some (.long x))) cs ss (pc + 1) st) : ks_w E D nL ws lo cs ss pc (.long x :: st) := by
  obtain ⟨p, l, e, R, s, m, args, below, meth, c, Q, A⟩ := E
  obtain ⟨-, -, hx, hb, hml, hown, hts, hK, hA, hlocks, hNw⟩ := C
  intro H locs ls hP hD hS hl
  exact lv_lstore_n hx hb hd hi hl hn rfl (fun ls' hl' => k H locs ls' hP hD hS (ks_lv_sub hl' (ks_set2 hk)))
theorem ks_lstore {i : Nat} {x : Int64} (C : ks_ok E l0 D tys R0 cc nL own) (hn : i + 1 < nL) (hk : ks_ok1 lo i = true) (hd : decode cc pc = .ok (.lstore i, 2)) (k : ks_w E D nL ws ((lo.set (i + 1) none).set i (some (.long x))) cs ss (pc + 2) st) : ks_w E D nL ws lo cs ss pc (.long x :: st) := by
  obtain ⟨p, l, e, R, s, m, args, below, meth, c, Q, A⟩ := E
  obtain ⟨-, -, hx, hb, hml, hown, hts, hK, hA, hlocks, hNw⟩ := C
  intro H locs ls hP hD hS hl
  exact lv_lstore hx hb hd hl hn rfl (fun ls' hl' => k H locs ls' hP hD hS (ks_lv_sub hl' (ks_set2 hk)))
theorem ks_iinc {i a z : Nat} {n : Int} (C : ks_ok E l0 D tys R0 cc nL own) (hv : lo[i]? = some (some (.int (nI a)))) (hz : Int32.ofInt n = nI z) (hn : i < nL) (hk : ks_ok1 lo i = true) (hd : decode cc pc = .ok (.iinc i n, 3)) (k : ks_w E D nL ws (lo.set i (some (.int (nI (a + z))))) cs ss (pc + 3) st) : ks_w E D nL ws lo cs ss pc st := by
  obtain ⟨p, l, e, R, s, m, args, below, meth, c, Q, A⟩ := E
  obtain ⟨-, -, hx, hb, hml, hown, hts, hK, hA, hlocks, hNw⟩ := C
  intro H locs ls hP hD hS hl
  obtain ⟨j, hj⟩ := List.getElem?_of_mem (ks_lv_mem.mpr hv : (i, Value.int (nI a)) ∈ ks_lv lo)
  exact lv_iinc (v := nI (a + z)) hx hb hd hl hj (by rw [hz, nI_add]) hn rfl (fun ls' hl' => k H locs ls' hP hD hS (ks_lv_sub hl' (ks_set1 hk)))
theorem ks_idec {i a : Nat} (C : ks_ok E l0 D tys R0 cc nL own) (hv : lo[i]? = some (some (.int (nI (a + 1))))) (hn : i < nL) (hk : ks_ok1 lo i = true) (hd : decode cc pc = .ok (.iinc i (-1), 3)) (k : ks_w E D nL ws (lo.set i (some (.int (nI a)))) cs ss (pc + 3) st) : ks_w E D nL ws lo cs ss pc st := by
  obtain ⟨p, l, e, R, s, m, args, below, meth, c, Q, A⟩ := E
  obtain ⟨-, -, hx, hb, hml, hown, hts, hK, hA, hlocks, hNw⟩ := C
  intro H locs ls hP hD hS hl
  obtain ⟨j, hj⟩ := List.getElem?_of_mem (ks_lv_mem.mpr hv : (i, Value.int (nI (a + 1))) ∈ ks_lv lo)
  exact lv_iinc (v := nI a) hx hb hd hl hj (by rw [← pk_m1 a]; rfl) hn rfl (fun ls' hl' => k H locs ls' hP hD hS (ks_lv_sub hl' (ks_set1 hk)))
theorem ks_iincI {i : Nat} {n : Int} {x : Int32} (C : ks_ok E l0 D tys R0 cc nL own) (hv : lo[i]? = some (some (.int x))) (hn : i < nL) (hk : ks_ok1 lo i = true) (hd : decode cc pc = .ok (.iinc i n, 3)) (k : ks_w E D nL ws (lo.set i (some (.int (x + Int32.ofInt n)))) cs ss (pc + 3) st) : ks_w E D nL ws lo cs ss pc st := by
  obtain ⟨p, l, e, R, s, m, args, below, meth, c, Q, A⟩ := E
  obtain ⟨-, -, hx, hb, hml, hown, hts, hK, hA, hlocks, hNw⟩ := C
  intro H locs ls hP hD hS hl
  obtain ⟨j, hj⟩ := List.getElem?_of_mem (ks_lv_mem.mpr hv : (i, Value.int x) ∈ ks_lv lo)
  exact lv_iinc (v := x + Int32.ofInt n) hx hb hd hl hj rfl hn rfl (fun ls' hl' => k H locs ls' hP hD hS (ks_lv_sub hl' (ks_set1 hk)))
theorem ks_iconst {n : Int} {a : Nat} (hv : Int32.ofInt n = nI a) (C : ks_ok E l0 D tys R0 cc nL own) (hd : decode cc pc = .ok (.iconst n, 1)) (k : ks_w E D nL ws lo cs ss (pc + 1) (.int (nI a) :: st)) : ks_w E D nL ws lo cs ss pc st := by
  obtain ⟨p, l, e, R, s, m, args, below, meth, c, Q, A⟩ := E
  obtain ⟨-, -, hx, hb, hml, hown, hts, hK, hA, hlocks, hNw⟩ := C
  intro H locs ls hP hD hS hl
  refine lv_iconst hx hb hd hv ?_
  exact k H locs ls hP hD hS hl
theorem ks_bipush {n : Int} {a : Nat} (hv : (Int8.ofInt n).toInt32 = nI a) (C : ks_ok E l0 D tys R0 cc nL own) (hd : decode cc pc = .ok (.bipush n, 2)) (k : ks_w E D nL ws lo cs ss (pc + 2) (.int (nI a) :: st)) : ks_w E D nL ws lo cs ss pc st := by
  obtain ⟨p, l, e, R, s, m, args, below, meth, c, Q, A⟩ := E
  obtain ⟨-, -, hx, hb, hml, hown, hts, hK, hA, hlocks, hNw⟩ := C
  intro H locs ls hP hD hS hl
  refine lv_bipush hx hb hd hv ?_
  exact k H locs ls hP hD hS hl
theorem ks_sipush {n : Int} {a : Nat} (hv : (Int16.ofInt n).toInt32 = nI a) (C : ks_ok E l0 D tys R0 cc nL own) (hd : decode cc pc = .ok (.sipush n, 3)) (k : ks_w E D nL ws lo cs ss (pc + 3) (.int (nI a) :: st)) : ks_w E D nL ws lo cs ss pc st := by
  obtain ⟨p, l, e, R, s, m, args, below, meth, c, Q, A⟩ := E
  obtain ⟨-, -, hx, hb, hml, hown, hts, hK, hA, hlocks, hNw⟩ := C
  intro H locs ls hP hD hS hl
  refine lv_sipush hx hb hd hv ?_
  exact k H locs ls hP hD hS hl
theorem ks_iconstI {n : Int} {x : Int32} (hv : Int32.ofInt n = x) (C : ks_ok E l0 D tys R0 cc nL own) (hd : decode cc pc = .ok (.iconst n, 1)) (k : ks_w E D nL ws lo cs ss (pc + 1) (.int x :: st)) : ks_w E D nL ws lo cs ss pc st := by
  obtain ⟨p, l, e, R, s, m, args, below, meth, c, Q, A⟩ := E
  obtain ⟨-, -, hx, hb, hml, hown, hts, hK, hA, hlocks, hNw⟩ := C
  intro H locs ls hP hD hS hl
  refine lv_iconst hx hb hd hv ?_
  exact k H locs ls hP hD hS hl
theorem ks_lconst {n : Fin 2} {x : Int64} (hv : Int64.ofNat (n : Nat) = x) (C : ks_ok E l0 D tys R0 cc nL own) (hd : decode cc pc = .ok (.lconst n, 1)) (k : ks_w E D nL ws lo cs ss (pc + 1) (.long x :: st)) : ks_w E D nL ws lo cs ss pc st := by
  obtain ⟨p, l, e, R, s, m, args, below, meth, c, Q, A⟩ := E
  obtain ⟨-, -, hx, hb, hml, hown, hts, hK, hA, hlocks, hNw⟩ := C
  intro H locs ls hP hD hS hl
  refine lv_lconst hx hb hd hv ?_
  exact k H locs ls hP hD hS hl
theorem ks_ldc {i a : Nat} (hc : Jvm.Cond.constant own i (nI a) ∈ ks_tbl) (C : ks_ok E l0 D tys R0 cc nL own) (hd : decode cc pc = .ok (.ldc i, 2)) (k : ks_w E D nL ws lo cs ss (pc + 2) (.int (nI a) :: st)) : ks_w E D nL ws lo cs ss pc st := by
  obtain ⟨p, l, e, R, s, m, args, below, meth, c, Q, A⟩ := E
  obtain ⟨-, -, hx, hb, hml, hown, hts, hK, hA, hlocks, hNw⟩ := C
  intro H locs ls hP hD hS hl
  refine lv_ldc hx hb hown (hts _ hc) hd ?_
  exact k H locs ls hP hD hS hl
theorem ks_ldc2 {i : Nat} {x : Int64} (hc : Jvm.Cond.constantLong own i x ∈ ks_tbl) (C : ks_ok E l0 D tys R0 cc nL own) (hd : decode cc pc = .ok (.ldc2_w i, 3)) (k : ks_w E D nL ws lo cs ss (pc + 3) (.long x :: st)) : ks_w E D nL ws lo cs ss pc st := by
  obtain ⟨p, l, e, R, s, m, args, below, meth, c, Q, A⟩ := E
  obtain ⟨-, -, hx, hb, hml, hown, hts, hK, hA, hlocks, hNw⟩ := C
  intro H locs ls hP hD hS hl
  refine lv_ldc2 hx hb hown (hts _ hc) hd ?_
  exact k H locs ls hP hD hS hl
theorem ks_iadd {a b : Nat} (C : ks_ok E l0 D tys R0 cc nL own) (hd : decode cc pc = .ok (.iadd, 1)) (k : ks_w E D nL ws lo cs ss (pc + 1) (.int (nI (a + b)) :: st)) : ks_w E D nL ws lo cs ss pc (.int (nI b) :: .int (nI a) :: st) := by
  obtain ⟨p, l, e, R, s, m, args, below, meth, c, Q, A⟩ := E
  obtain ⟨-, -, hx, hb, hml, hown, hts, hK, hA, hlocks, hNw⟩ := C
  intro H locs ls hP hD hS hl
  refine lv_iadd hx hb hd ?_
  rw [nI_add]
  exact k H locs ls hP hD hS hl
theorem ks_imul {a b : Nat} (C : ks_ok E l0 D tys R0 cc nL own) (hd : decode cc pc = .ok (.imul, 1)) (k : ks_w E D nL ws lo cs ss (pc + 1) (.int (nI (a * b)) :: st)) : ks_w E D nL ws lo cs ss pc (.int (nI b) :: .int (nI a) :: st) := by
  obtain ⟨p, l, e, R, s, m, args, below, meth, c, Q, A⟩ := E
  obtain ⟨-, -, hx, hb, hml, hown, hts, hK, hA, hlocks, hNw⟩ := C
  intro H locs ls hP hD hS hl
  refine lv_imul hx hb hd ?_
  rw [pk_mul]
  exact k H locs ls hP hD hS hl
theorem ks_isub {a b : Nat} (h : b ≤ a) (C : ks_ok E l0 D tys R0 cc nL own) (hd : decode cc pc = .ok (.isub, 1)) (k : ks_w E D nL ws lo cs ss (pc + 1) (.int (nI (a - b)) :: st)) : ks_w E D nL ws lo cs ss pc (.int (nI b) :: .int (nI a) :: st) := by
  obtain ⟨p, l, e, R, s, m, args, below, meth, c, Q, A⟩ := E
  obtain ⟨-, -, hx, hb, hml, hown, hts, hK, hA, hlocks, hNw⟩ := C
  intro H locs ls hP hD hS hl
  refine lv_isub hx hb hd ?_
  rw [pk_sub h]
  exact k H locs ls hP hD hS hl
theorem ks_idiv {a b : Nat} (ha : a < 2 ^ 31) (h0 : 0 < b) (hb2 : b < 2 ^ 31) (C : ks_ok E l0 D tys R0 cc nL own) (hd : decode cc pc = .ok (.idiv, 1)) (k : ks_w E D nL ws lo cs ss (pc + 1) (.int (nI (a / b)) :: st)) : ks_w E D nL ws lo cs ss pc (.int (nI b) :: .int (nI a) :: st) := by
  obtain ⟨p, l, e, R, s, m, args, below, meth, c, Q, A⟩ := E
  obtain ⟨-, -, hx, hb, hml, hown, hts, hK, hA, hlocks, hNw⟩ := C
  intro H locs ls hP hD hS hl
  refine lv_idiv hx hb hd (nI_ne0 h0 hb2) ?_
  rw [pk_div ha h0 hb2]
  exact k H locs ls hP hD hS hl
theorem ks_iaddI {x y : Int32} (C : ks_ok E l0 D tys R0 cc nL own) (hd : decode cc pc = .ok (.iadd, 1)) (k : ks_w E D nL ws lo cs ss (pc + 1) (.int (x + y) :: st)) : ks_w E D nL ws lo cs ss pc (.int y :: .int x :: st) := by
  obtain ⟨p, l, e, R, s, m, args, below, meth, c, Q, A⟩ := E
  obtain ⟨-, -, hx, hb, hml, hown, hts, hK, hA, hlocks, hNw⟩ := C
  intro H locs ls hP hD hS hl
  refine lv_iadd hx hb hd ?_
  exact k H locs ls hP hD hS hl
theorem ks_isubI {x y : Int32} (C : ks_ok E l0 D tys R0 cc nL own) (hd : decode cc pc = .ok (.isub, 1)) (k : ks_w E D nL ws lo cs ss (pc + 1) (.int (x - y) :: st)) : ks_w E D nL ws lo cs ss pc (.int y :: .int x :: st) := by
  obtain ⟨p, l, e, R, s, m, args, below, meth, c, Q, A⟩ := E
  obtain ⟨-, -, hx, hb, hml, hown, hts, hK, hA, hlocks, hNw⟩ := C
  intro H locs ls hP hD hS hl
  refine lv_isub hx hb hd ?_
  exact k H locs ls hP hD hS hl
theorem ks_imulI {x y : Int32} (C : ks_ok E l0 D tys R0 cc nL own) (hd : decode cc pc = .ok (.imul, 1)) (k : ks_w E D nL ws lo cs ss (pc + 1) (.int (x * y) :: st)) : ks_w E D nL ws lo cs ss pc (.int y :: .int x :: st) := by
  obtain ⟨p, l, e, R, s, m, args, below, meth, c, Q, A⟩ := E
  obtain ⟨-, -, hx, hb, hml, hown, hts, hK, hA, hlocks, hNw⟩ := C
  intro H locs ls hP hD hS hl
  refine lv_imul hx hb hd ?_
  exact k H locs ls hP hD hS hl
theorem ks_iandI {x y : Int32} (C : ks_ok E l0 D tys R0 cc nL own) (hd : decode cc pc = .ok (.iand, 1)) (k : ks_w E D nL ws lo cs ss (pc + 1) (.int (x &&& y) :: st)) : ks_w E D nL ws lo cs ss pc (.int y :: .int x :: st) := by
  obtain ⟨p, l, e, R, s, m, args, below, meth, c, Q, A⟩ := E
  obtain ⟨-, -, hx, hb, hml, hown, hts, hK, hA, hlocks, hNw⟩ := C
  intro H locs ls hP hD hS hl
  refine lv_iand hx hb hd ?_
  exact k H locs ls hP hD hS hl
theorem ks_iorI {x y : Int32} (C : ks_ok E l0 D tys R0 cc nL own) (hd : decode cc pc = .ok (.ior, 1)) (k : ks_w E D nL ws lo cs ss (pc + 1) (.int (x ||| y) :: st)) : ks_w E D nL ws lo cs ss pc (.int y :: .int x :: st) := by
  obtain ⟨p, l, e, R, s, m, args, below, meth, c, Q, A⟩ := E
  obtain ⟨-, -, hx, hb, hml, hown, hts, hK, hA, hlocks, hNw⟩ := C
  intro H locs ls hP hD hS hl
  refine lv_ior hx hb hd ?_
  exact k H locs ls hP hD hS hl
theorem ks_ishlI {x y : Int32} (C : ks_ok E l0 D tys R0 cc nL own) (hd : decode cc pc = .ok (.ishl, 1)) (k : ks_w E D nL ws lo cs ss (pc + 1) (.int (x <<< (y &&& 31)) :: st)) : ks_w E D nL ws lo cs ss pc (.int y :: .int x :: st) := by
  obtain ⟨p, l, e, R, s, m, args, below, meth, c, Q, A⟩ := E
  obtain ⟨-, -, hx, hb, hml, hown, hts, hK, hA, hlocks, hNw⟩ := C
  intro H locs ls hP hD hS hl
  refine lv_ishl hx hb hd ?_
  exact k H locs ls hP hD hS hl
theorem ks_ishrI {x y : Int32} (C : ks_ok E l0 D tys R0 cc nL own) (hd : decode cc pc = .ok (.ishr, 1)) (k : ks_w E D nL ws lo cs ss (pc + 1) (.int (x >>> (y &&& 31)) :: st)) : ks_w E D nL ws lo cs ss pc (.int y :: .int x :: st) := by
  obtain ⟨p, l, e, R, s, m, args, below, meth, c, Q, A⟩ := E
  obtain ⟨-, -, hx, hb, hml, hown, hts, hK, hA, hlocks, hNw⟩ := C
  intro H locs ls hP hD hS hl
  refine lv_ishr hx hb hd ?_
  exact k H locs ls hP hD hS hl
theorem ks_ineg {x : Int32} (C : ks_ok E l0 D tys R0 cc nL own) (hd : decode cc pc = .ok (.ineg, 1)) (k : ks_w E D nL ws lo cs ss (pc + 1) (.int (-x) :: st)) : ks_w E D nL ws lo cs ss pc (.int x :: st) := by
  obtain ⟨p, l, e, R, s, m, args, below, meth, c, Q, A⟩ := E
  obtain ⟨-, -, hx, hb, hml, hown, hts, hK, hA, hlocks, hNw⟩ := C
  intro H locs ls hP hD hS hl
  refine lv_ineg hx hb hd ?_
  exact k H locs ls hP hD hS hl
theorem ks_i2b {x : Int32} (C : ks_ok E l0 D tys R0 cc nL own) (hd : decode cc pc = .ok (.i2b, 1)) (k : ks_w E D nL ws lo cs ss (pc + 1) (.int x.toInt8.toInt32 :: st)) : ks_w E D nL ws lo cs ss pc (.int x :: st) := by
  obtain ⟨p, l, e, R, s, m, args, below, meth, c, Q, A⟩ := E
  obtain ⟨-, -, hx, hb, hml, hown, hts, hK, hA, hlocks, hNw⟩ := C
  intro H locs ls hP hD hS hl
  refine lv_i2b hx hb hd rfl ?_
  exact k H locs ls hP hD hS hl
theorem ks_i2l {x : Int32} (C : ks_ok E l0 D tys R0 cc nL own) (hd : decode cc pc = .ok (.i2l, 1)) (k : ks_w E D nL ws lo cs ss (pc + 1) (.long x.toInt64 :: st)) : ks_w E D nL ws lo cs ss pc (.int x :: st) := by
  obtain ⟨p, l, e, R, s, m, args, below, meth, c, Q, A⟩ := E
  obtain ⟨-, -, hx, hb, hml, hown, hts, hK, hA, hlocks, hNw⟩ := C
  intro H locs ls hP hD hS hl
  refine lv_i2l hx hb hd rfl ?_
  exact k H locs ls hP hD hS hl
theorem ks_l2i {x : Int64} (C : ks_ok E l0 D tys R0 cc nL own) (hd : decode cc pc = .ok (.l2i, 1)) (k : ks_w E D nL ws lo cs ss (pc + 1) (.int x.toInt32 :: st)) : ks_w E D nL ws lo cs ss pc (.long x :: st) := by
  obtain ⟨p, l, e, R, s, m, args, below, meth, c, Q, A⟩ := E
  obtain ⟨-, -, hx, hb, hml, hown, hts, hK, hA, hlocks, hNw⟩ := C
  intro H locs ls hP hD hS hl
  refine lv_l2i hx hb hd rfl ?_
  exact k H locs ls hP hD hS hl
theorem ks_lshr {x : Int64} {y : Int32} (C : ks_ok E l0 D tys R0 cc nL own) (hd : decode cc pc = .ok (.lshr, 1)) (k : ks_w E D nL ws lo cs ss (pc + 1) (.long (x >>> (y.toInt64 &&& 63)) :: st)) : ks_w E D nL ws lo cs ss pc (.int y :: .long x :: st) := by
  obtain ⟨p, l, e, R, s, m, args, below, meth, c, Q, A⟩ := E
  obtain ⟨-, -, hx, hb, hml, hown, hts, hK, hA, hlocks, hNw⟩ := C
  intro H locs ls hP hD hS hl
  refine lv_lshr hx hb hd rfl ?_
  exact k H locs ls hP hD hS hl
theorem ks_lshl {x : Int64} {y : Int32} (C : ks_ok E l0 D tys R0 cc nL own) (hd : decode cc pc = .ok (.lshl, 1)) (k : ks_w E D nL ws lo cs ss (pc + 1) (.long (x <<< (y.toInt64 &&& 63)) :: st)) : ks_w E D nL ws lo cs ss pc (.int y :: .long x :: st) := by
  obtain ⟨p, l, e, R, s, m, args, below, meth, c, Q, A⟩ := E
  obtain ⟨-, -, hx, hb, hml, hown, hts, hK, hA, hlocks, hNw⟩ := C
  intro H locs ls hP hD hS hl
  refine lv_lshl hx hb hd rfl ?_
  exact k H locs ls hP hD hS hl
theorem ks_lor {x y : Int64} (C : ks_ok E l0 D tys R0 cc nL own) (hd : decode cc pc = .ok (.lor, 1)) (k : ks_w E D nL ws lo cs ss (pc + 1) (.long (x ||| y) :: st)) : ks_w E D nL ws lo cs ss pc (.long y :: .long x :: st) := by
  obtain ⟨p, l, e, R, s, m, args, below, meth, c, Q, A⟩ := E
  obtain ⟨-, -, hx, hb, hml, hown, hts, hK, hA, hlocks, hNw⟩ := C
  intro H locs ls hP hD hS hl
  refine lv_lor hx hb hd ?_
  exact k H locs ls hP hD hS hl
theorem ks_land {x y : Int64} (C : ks_ok E l0 D tys R0 cc nL own) (hd : decode cc pc = .ok (.land, 1)) (k : ks_w E D nL ws lo cs ss (pc + 1) (.long (x &&& y) :: st)) : ks_w E D nL ws lo cs ss pc (.long y :: .long x :: st) := by
  obtain ⟨p, l, e, R, s, m, args, below, meth, c, Q, A⟩ := E
  obtain ⟨-, -, hx, hb, hml, hown, hts, hK, hA, hlocks, hNw⟩ := C
  intro H locs ls hP hD hS hl
  refine lv_land hx hb hd ?_
  exact k H locs ls hP hD hS hl
theorem ks_lxor {x y : Int64} (C : ks_ok E l0 D tys R0 cc nL own) (hd : decode cc pc = .ok (.lxor, 1)) (k : ks_w E D nL ws lo cs ss (pc + 1) (.long (x ^^^ y) :: st)) : ks_w E D nL ws lo cs ss pc (.long y :: .long x :: st) := by
  obtain ⟨p, l, e, R, s, m, args, below, meth, c, Q, A⟩ := E
  obtain ⟨-, -, hx, hb, hml, hown, hts, hK, hA, hlocks, hNw⟩ := C
  intro H locs ls hP hD hS hl
  refine lv_lxor hx hb hd ?_
  exact k H locs ls hP hD hS hl
theorem ks_dup {v : Value} (hv : v.category = 1) (C : ks_ok E l0 D tys R0 cc nL own) (hd : decode cc pc = .ok (.dup, 1)) (k : ks_w E D nL ws lo cs ss (pc + 1) (v :: v :: st)) : ks_w E D nL ws lo cs ss pc (v :: st) := by
  obtain ⟨p, l, e, R, s, m, args, below, meth, c, Q, A⟩ := E
  obtain ⟨-, -, hx, hb, hml, hown, hts, hK, hA, hlocks, hNw⟩ := C
  intro H locs ls hP hD hS hl
  refine lv_dup hx hb hd hv ?_
  exact k H locs ls hP hD hS hl
theorem ks_pop {v : Value} (hv : v.category = 1) (C : ks_ok E l0 D tys R0 cc nL own) (hd : decode cc pc = .ok (.pop, 1)) (k : ks_w E D nL ws lo cs ss (pc + 1) st) : ks_w E D nL ws lo cs ss pc (v :: st) := by
  obtain ⟨p, l, e, R, s, m, args, below, meth, c, Q, A⟩ := E
  obtain ⟨-, -, hx, hb, hml, hown, hts, hK, hA, hlocks, hNw⟩ := C
  intro H locs ls hP hD hS hl
  refine lv_pop hx hb hd hv ?_
  exact k H locs ls hP hD hS hl
theorem ks_dup2 {v u : Value} (hv : v.category = 1) (hu : u.category = 1) (C : ks_ok E l0 D tys R0 cc nL own) (hd : decode cc pc = .ok (.dup2, 1)) (k : ks_w E D nL ws lo cs ss (pc + 1) (v :: u :: v :: u :: st)) : ks_w E D nL ws lo cs ss pc (v :: u :: st) := by
  obtain ⟨p, l, e, R, s, m, args, below, meth, c, Q, A⟩ := E
  obtain ⟨-, -, hx, hb, hml, hown, hts, hK, hA, hlocks, hNw⟩ := C
  intro H locs ls hP hD hS hl
  refine lv_dup2_11 hx hb hd hv hu ?_
  exact k H locs ls hP hD hS hl
theorem ks_dup_x1 {v u : Value} (hv : v.category = 1) (hu : u.category = 1) (C : ks_ok E l0 D tys R0 cc nL own) (hd : decode cc pc = .ok (.dup_x1, 1)) (k : ks_w E D nL ws lo cs ss (pc + 1) (v :: u :: v :: st)) : ks_w E D nL ws lo cs ss pc (v :: u :: st) := by
  obtain ⟨p, l, e, R, s, m, args, below, meth, c, Q, A⟩ := E
  obtain ⟨-, -, hx, hb, hml, hown, hts, hK, hA, hlocks, hNw⟩ := C
  intro H locs ls hP hD hS hl
  refine lv_dup_x1 hx hb hd hv hu ?_
  exact k H locs ls hP hD hS hl
theorem ks_goto {off : Int} {tgt : Nat} (C : ks_ok E l0 D tys R0 cc nL own) (ht : (pc : Int) + off = (tgt : Int)) (hd : decode cc pc = .ok (.goto off, 3)) (k : ks_w E D nL ws lo cs ss tgt st) : ks_w E D nL ws lo cs ss pc st := by
  obtain ⟨p, l, e, R, s, m, args, below, meth, c, Q, A⟩ := E
  obtain ⟨-, -, hx, hb, hml, hown, hts, hK, hA, hlocks, hNw⟩ := C
  intro H locs ls hP hD hS hl
  exact lv_goto hx hb hd ht (k H locs ls hP hD hS hl)
theorem ks_icmp_eq {a b : Nat} {off : Int} {tgt : Nat} (C : ks_ok E l0 D tys R0 cc nL own) (ha : a < 2 ^ 31) (hb2 : b < 2 ^ 31) (ht : (pc : Int) + off = (tgt : Int)) (hd : decode cc pc = .ok (.if_icmp .eq off, 3)) (kt : a = b → ks_w E D nL ws lo cs ss tgt st) (kf : ¬ (a = b) → ks_w E D nL ws lo cs ss (pc + 3) st) : ks_w E D nL ws lo cs ss pc (.int (nI b) :: .int (nI a) :: st) := by
  obtain ⟨p, l, e, R, s, m, args, below, meth, c, Q, A⟩ := E
  obtain ⟨-, -, hx, hb, hml, hown, hts, hK, hA, hlocks, hNw⟩ := C
  intro H locs ls hP hD hS hl
  exact lv_icmp_eq hx hb hd ht (fun h => kt ((nI_eq ha hb2).mp h) H locs ls hP hD hS hl) (fun h => kf (fun z => h ((nI_eq ha hb2).mpr z)) H locs ls hP hD hS hl)
theorem ks_if_eq {a : Nat} {off : Int} {tgt : Nat} (C : ks_ok E l0 D tys R0 cc nL own) (ha : a < 2 ^ 31) (ht : (pc : Int) + off = (tgt : Int)) (hd : decode cc pc = .ok (.ifCond .eq off, 3)) (kt : a = 0 → ks_w E D nL ws lo cs ss tgt st) (kf : ¬ (a = 0) → ks_w E D nL ws lo cs ss (pc + 3) st) : ks_w E D nL ws lo cs ss pc (.int (nI a) :: st) := by
  obtain ⟨p, l, e, R, s, m, args, below, meth, c, Q, A⟩ := E
  obtain ⟨-, -, hx, hb, hml, hown, hts, hK, hA, hlocks, hNw⟩ := C
  intro H locs ls hP hD hS hl
  exact lv_if_eq hx hb hd ht (fun h => kt ((nI_eq ha (by decide)).mp h) H locs ls hP hD hS hl) (fun h => kf (fun z => h (by rw [z]; rfl)) H locs ls hP hD hS hl)
theorem ks_icmpI_eq {x y : Int32} {off : Int} {tgt : Nat} (C : ks_ok E l0 D tys R0 cc nL own) (ht : (pc : Int) + off = (tgt : Int)) (hd : decode cc pc = .ok (.if_icmp .eq off, 3)) (kt : x = y → ks_w E D nL ws lo cs ss tgt st) (kf : ¬ x = y → ks_w E D nL ws lo cs ss (pc + 3) st) : ks_w E D nL ws lo cs ss pc (.int y :: .int x :: st) := by
  obtain ⟨p, l, e, R, s, m, args, below, meth, c, Q, A⟩ := E
  obtain ⟨-, -, hx, hb, hml, hown, hts, hK, hA, hlocks, hNw⟩ := C
  intro H locs ls hP hD hS hl
  exact lv_icmp_eq hx hb hd ht (fun h => kt h H locs ls hP hD hS hl) (fun h => kf h H locs ls hP hD hS hl)
theorem ks_ifI_eq {x : Int32} {off : Int} {tgt : Nat} (C : ks_ok E l0 D tys R0 cc nL own) (ht : (pc : Int) + off = (tgt : Int)) (hd : decode cc pc = .ok (.ifCond .eq off, 3)) (kt : x = 0 → ks_w E D nL ws lo cs ss tgt st) (kf : ¬ x = 0 → ks_w E D nL ws lo cs ss (pc + 3) st) : ks_w E D nL ws lo cs ss pc (.int x :: st) := by
  obtain ⟨p, l, e, R, s, m, args, below, meth, c, Q, A⟩ := E
  obtain ⟨-, -, hx, hb, hml, hown, hts, hK, hA, hlocks, hNw⟩ := C
  intro H locs ls hP hD hS hl
  exact lv_if_eq hx hb hd ht (fun h => kt h H locs ls hP hD hS hl) (fun h => kf h H locs ls hP hD hS hl)
theorem ks_icmp_ne {a b : Nat} {off : Int} {tgt : Nat} (C : ks_ok E l0 D tys R0 cc nL own) (ha : a < 2 ^ 31) (hb2 : b < 2 ^ 31) (ht : (pc : Int) + off = (tgt : Int)) (hd : decode cc pc = .ok (.if_icmp .ne off, 3)) (kt : a ≠ b → ks_w E D nL ws lo cs ss tgt st) (kf : ¬ (a ≠ b) → ks_w E D nL ws lo cs ss (pc + 3) st) : ks_w E D nL ws lo cs ss pc (.int (nI b) :: .int (nI a) :: st) := by
  obtain ⟨p, l, e, R, s, m, args, below, meth, c, Q, A⟩ := E
  obtain ⟨-, -, hx, hb, hml, hown, hts, hK, hA, hlocks, hNw⟩ := C
  intro H locs ls hP hD hS hl
  exact lv_icmp_ne hx hb hd ht (fun h => kt (fun z => h (by rw [z])) H locs ls hP hD hS hl) (fun h => kf (fun z => z ((nI_eq ha hb2).mp h)) H locs ls hP hD hS hl)
theorem ks_if_ne {a : Nat} {off : Int} {tgt : Nat} (C : ks_ok E l0 D tys R0 cc nL own) (ha : a < 2 ^ 31) (ht : (pc : Int) + off = (tgt : Int)) (hd : decode cc pc = .ok (.ifCond .ne off, 3)) (kt : a ≠ 0 → ks_w E D nL ws lo cs ss tgt st) (kf : ¬ (a ≠ 0) → ks_w E D nL ws lo cs ss (pc + 3) st) : ks_w E D nL ws lo cs ss pc (.int (nI a) :: st) := by
  obtain ⟨p, l, e, R, s, m, args, below, meth, c, Q, A⟩ := E
  obtain ⟨-, -, hx, hb, hml, hown, hts, hK, hA, hlocks, hNw⟩ := C
  intro H locs ls hP hD hS hl
  exact lv_if_ne hx hb hd ht (fun h => kt (fun z => h (by rw [z]; rfl)) H locs ls hP hD hS hl) (fun h => kf (fun z => z ((nI_eq ha (by decide)).mp h)) H locs ls hP hD hS hl)
theorem ks_icmpI_ne {x y : Int32} {off : Int} {tgt : Nat} (C : ks_ok E l0 D tys R0 cc nL own) (ht : (pc : Int) + off = (tgt : Int)) (hd : decode cc pc = .ok (.if_icmp .ne off, 3)) (kt : ¬ x = y → ks_w E D nL ws lo cs ss tgt st) (kf : x = y → ks_w E D nL ws lo cs ss (pc + 3) st) : ks_w E D nL ws lo cs ss pc (.int y :: .int x :: st) := by
  obtain ⟨p, l, e, R, s, m, args, below, meth, c, Q, A⟩ := E
  obtain ⟨-, -, hx, hb, hml, hown, hts, hK, hA, hlocks, hNw⟩ := C
  intro H locs ls hP hD hS hl
  exact lv_icmp_ne hx hb hd ht (fun h => kt h H locs ls hP hD hS hl) (fun h => kf h H locs ls hP hD hS hl)
theorem ks_ifI_ne {x : Int32} {off : Int} {tgt : Nat} (C : ks_ok E l0 D tys R0 cc nL own) (ht : (pc : Int) + off = (tgt : Int)) (hd : decode cc pc = .ok (.ifCond .ne off, 3)) (kt : ¬ x = 0 → ks_w E D nL ws lo cs ss tgt st) (kf : x = 0 → ks_w E D nL ws lo cs ss (pc + 3) st) : ks_w E D nL ws lo cs ss pc (.int x :: st) := by
  obtain ⟨p, l, e, R, s, m, args, below, meth, c, Q, A⟩ := E
  obtain ⟨-, -, hx, hb, hml, hown, hts, hK, hA, hlocks, hNw⟩ := C
  intro H locs ls hP hD hS hl
  exact lv_if_ne hx hb hd ht (fun h => kt h H locs ls hP hD hS hl) (fun h => kf h H locs ls hP hD hS hl)
theorem ks_icmp_lt {a b : Nat} {off : Int} {tgt : Nat} (C : ks_ok E l0 D tys R0 cc nL own) (ha : a < 2 ^ 31) (hb2 : b < 2 ^ 31) (ht : (pc : Int) + off = (tgt : Int)) (hd : decode cc pc = .ok (.if_icmp .lt off, 3)) (kt : a < b → ks_w E D nL ws lo cs ss tgt st) (kf : ¬ (a < b) → ks_w E D nL ws lo cs ss (pc + 3) st) : ks_w E D nL ws lo cs ss pc (.int (nI b) :: .int (nI a) :: st) := by
  obtain ⟨p, l, e, R, s, m, args, below, meth, c, Q, A⟩ := E
  obtain ⟨-, -, hx, hb, hml, hown, hts, hK, hA, hlocks, hNw⟩ := C
  intro H locs ls hP hD hS hl
  exact lv_icmp_lt hx hb hd ht (fun h => kt ((nI_ltI ha hb2).mp h) H locs ls hP hD hS hl) (fun h => kf (fun z => h ((nI_ltI ha hb2).mpr z)) H locs ls hP hD hS hl)
theorem ks_if_lt {a : Nat} {off : Int} {tgt : Nat} (C : ks_ok E l0 D tys R0 cc nL own) (ha : a < 2 ^ 31) (ht : (pc : Int) + off = (tgt : Int)) (hd : decode cc pc = .ok (.ifCond .lt off, 3)) (kt : False → ks_w E D nL ws lo cs ss tgt st) (kf : ¬ (False) → ks_w E D nL ws lo cs ss (pc + 3) st) : ks_w E D nL ws lo cs ss pc (.int (nI a) :: st) := by
  obtain ⟨p, l, e, R, s, m, args, below, meth, c, Q, A⟩ := E
  obtain ⟨-, -, hx, hb, hml, hown, hts, hK, hA, hlocks, hNw⟩ := C
  intro H locs ls hP hD hS hl
  exact lv_if_lt hx hb hd ht (fun h => absurd h (nI_pos ha)) (fun h => kf (fun z => z) H locs ls hP hD hS hl)
theorem ks_icmpI_lt {x y : Int32} {off : Int} {tgt : Nat} (C : ks_ok E l0 D tys R0 cc nL own) (ht : (pc : Int) + off = (tgt : Int)) (hd : decode cc pc = .ok (.if_icmp .lt off, 3)) (kt : x < y → ks_w E D nL ws lo cs ss tgt st) (kf : ¬ x < y → ks_w E D nL ws lo cs ss (pc + 3) st) : ks_w E D nL ws lo cs ss pc (.int y :: .int x :: st) := by
  obtain ⟨p, l, e, R, s, m, args, below, meth, c, Q, A⟩ := E
  obtain ⟨-, -, hx, hb, hml, hown, hts, hK, hA, hlocks, hNw⟩ := C
  intro H locs ls hP hD hS hl
  exact lv_icmp_lt hx hb hd ht (fun h => kt h H locs ls hP hD hS hl) (fun h => kf h H locs ls hP hD hS hl)
theorem ks_ifI_lt {x : Int32} {off : Int} {tgt : Nat} (C : ks_ok E l0 D tys R0 cc nL own) (ht : (pc : Int) + off = (tgt : Int)) (hd : decode cc pc = .ok (.ifCond .lt off, 3)) (kt : x < 0 → ks_w E D nL ws lo cs ss tgt st) (kf : ¬ x < 0 → ks_w E D nL ws lo cs ss (pc + 3) st) : ks_w E D nL ws lo cs ss pc (.int x :: st) := by
  obtain ⟨p, l, e, R, s, m, args, below, meth, c, Q, A⟩ := E
  obtain ⟨-, -, hx, hb, hml, hown, hts, hK, hA, hlocks, hNw⟩ := C
  intro H locs ls hP hD hS hl
  exact lv_if_lt hx hb hd ht (fun h => kt h H locs ls hP hD hS hl) (fun h => kf h H locs ls hP hD hS hl)
theorem ks_icmp_ge {a b : Nat} {off : Int} {tgt : Nat} (C : ks_ok E l0 D tys R0 cc nL own) (ha : a < 2 ^ 31) (hb2 : b < 2 ^ 31) (ht : (pc : Int) + off = (tgt : Int)) (hd : decode cc pc = .ok (.if_icmp .ge off, 3)) (kt : b ≤ a → ks_w E D nL ws lo cs ss tgt st) (kf : ¬ (b ≤ a) → ks_w E D nL ws lo cs ss (pc + 3) st) : ks_w E D nL ws lo cs ss pc (.int (nI b) :: .int (nI a) :: st) := by
  obtain ⟨p, l, e, R, s, m, args, below, meth, c, Q, A⟩ := E
  obtain ⟨-, -, hx, hb, hml, hown, hts, hK, hA, hlocks, hNw⟩ := C
  intro H locs ls hP hD hS hl
  exact lv_icmp_ge hx hb hd ht (fun h => kt ((nI_leI hb2 ha).mp h) H locs ls hP hD hS hl) (fun h => kf (fun z => h ((nI_leI hb2 ha).mpr z)) H locs ls hP hD hS hl)
theorem ks_if_ge {a : Nat} {off : Int} {tgt : Nat} (C : ks_ok E l0 D tys R0 cc nL own) (ha : a < 2 ^ 31) (ht : (pc : Int) + off = (tgt : Int)) (hd : decode cc pc = .ok (.ifCond .ge off, 3)) (kt : True → ks_w E D nL ws lo cs ss tgt st) (kf : ¬ (True) → ks_w E D nL ws lo cs ss (pc + 3) st) : ks_w E D nL ws lo cs ss pc (.int (nI a) :: st) := by
  obtain ⟨p, l, e, R, s, m, args, below, meth, c, Q, A⟩ := E
  obtain ⟨-, -, hx, hb, hml, hown, hts, hK, hA, hlocks, hNw⟩ := C
  intro H locs ls hP hD hS hl
  exact lv_if_ge hx hb hd ht (fun h => kt trivial H locs ls hP hD hS hl) (fun h => absurd (nI_pos' ha) h)
theorem ks_icmpI_ge {x y : Int32} {off : Int} {tgt : Nat} (C : ks_ok E l0 D tys R0 cc nL own) (ht : (pc : Int) + off = (tgt : Int)) (hd : decode cc pc = .ok (.if_icmp .ge off, 3)) (kt : y ≤ x → ks_w E D nL ws lo cs ss tgt st) (kf : ¬ y ≤ x → ks_w E D nL ws lo cs ss (pc + 3) st) : ks_w E D nL ws lo cs ss pc (.int y :: .int x :: st) := by
  obtain ⟨p, l, e, R, s, m, args, below, meth, c, Q, A⟩ := E
  obtain ⟨-, -, hx, hb, hml, hown, hts, hK, hA, hlocks, hNw⟩ := C
  intro H locs ls hP hD hS hl
  exact lv_icmp_ge hx hb hd ht (fun h => kt h H locs ls hP hD hS hl) (fun h => kf h H locs ls hP hD hS hl)
theorem ks_ifI_ge {x : Int32} {off : Int} {tgt : Nat} (C : ks_ok E l0 D tys R0 cc nL own) (ht : (pc : Int) + off = (tgt : Int)) (hd : decode cc pc = .ok (.ifCond .ge off, 3)) (kt : 0 ≤ x → ks_w E D nL ws lo cs ss tgt st) (kf : ¬ 0 ≤ x → ks_w E D nL ws lo cs ss (pc + 3) st) : ks_w E D nL ws lo cs ss pc (.int x :: st) := by
  obtain ⟨p, l, e, R, s, m, args, below, meth, c, Q, A⟩ := E
  obtain ⟨-, -, hx, hb, hml, hown, hts, hK, hA, hlocks, hNw⟩ := C
  intro H locs ls hP hD hS hl
  exact lv_if_ge hx hb hd ht (fun h => kt h H locs ls hP hD hS hl) (fun h => kf h H locs ls hP hD hS hl)
theorem ks_icmp_gt {a b : Nat} {off : Int} {tgt : Nat} (C : ks_ok E l0 D tys R0 cc nL own) (ha : a < 2 ^ 31) (hb2 : b < 2 ^ 31) (ht : (pc : Int) + off = (tgt : Int)) (hd : decode cc pc = .ok (.if_icmp .gt off, 3)) (kt : b < a → ks_w E D nL ws lo cs ss tgt st) (kf : ¬ (b < a) → ks_w E D nL ws lo cs ss (pc + 3) st) : ks_w E D nL ws lo cs ss pc (.int (nI b) :: .int (nI a) :: st) := by
  obtain ⟨p, l, e, R, s, m, args, below, meth, c, Q, A⟩ := E
  obtain ⟨-, -, hx, hb, hml, hown, hts, hK, hA, hlocks, hNw⟩ := C
  intro H locs ls hP hD hS hl
  exact lv_icmp_gt hx hb hd ht (fun h => kt ((nI_ltI hb2 ha).mp h) H locs ls hP hD hS hl) (fun h => kf (fun z => h ((nI_ltI hb2 ha).mpr z)) H locs ls hP hD hS hl)
theorem ks_if_gt {a : Nat} {off : Int} {tgt : Nat} (C : ks_ok E l0 D tys R0 cc nL own) (ha : a < 2 ^ 31) (ht : (pc : Int) + off = (tgt : Int)) (hd : decode cc pc = .ok (.ifCond .gt off, 3)) (kt : 0 < a → ks_w E D nL ws lo cs ss tgt st) (kf : ¬ (0 < a) → ks_w E D nL ws lo cs ss (pc + 3) st) : ks_w E D nL ws lo cs ss pc (.int (nI a) :: st) := by
  obtain ⟨p, l, e, R, s, m, args, below, meth, c, Q, A⟩ := E
  obtain ⟨-, -, hx, hb, hml, hown, hts, hK, hA, hlocks, hNw⟩ := C
  intro H locs ls hP hD hS hl
  exact lv_if_gt hx hb hd ht (fun h => kt ((nI_ltI (a := 0) (by decide) ha).mp h) H locs ls hP hD hS hl) (fun h => kf (fun z => h ((nI_ltI (a := 0) (by decide) ha).mpr z)) H locs ls hP hD hS hl)
theorem ks_icmpI_gt {x y : Int32} {off : Int} {tgt : Nat} (C : ks_ok E l0 D tys R0 cc nL own) (ht : (pc : Int) + off = (tgt : Int)) (hd : decode cc pc = .ok (.if_icmp .gt off, 3)) (kt : y < x → ks_w E D nL ws lo cs ss tgt st) (kf : ¬ y < x → ks_w E D nL ws lo cs ss (pc + 3) st) : ks_w E D nL ws lo cs ss pc (.int y :: .int x :: st) := by
  obtain ⟨p, l, e, R, s, m, args, below, meth, c, Q, A⟩ := E
  obtain ⟨-, -, hx, hb, hml, hown, hts, hK, hA, hlocks, hNw⟩ := C
  intro H locs ls hP hD hS hl
  exact lv_icmp_gt hx hb hd ht (fun h => kt h H locs ls hP hD hS hl) (fun h => kf h H locs ls hP hD hS hl)
theorem ks_ifI_gt {x : Int32} {off : Int} {tgt : Nat} (C : ks_ok E l0 D tys R0 cc nL own) (ht : (pc : Int) + off = (tgt : Int)) (hd : decode cc pc = .ok (.ifCond .gt off, 3)) (kt : 0 < x → ks_w E D nL ws lo cs ss tgt st) (kf : ¬ 0 < x → ks_w E D nL ws lo cs ss (pc + 3) st) : ks_w E D nL ws lo cs ss pc (.int x :: st) := by
  obtain ⟨p, l, e, R, s, m, args, below, meth, c, Q, A⟩ := E
  obtain ⟨-, -, hx, hb, hml, hown, hts, hK, hA, hlocks, hNw⟩ := C
  intro H locs ls hP hD hS hl
  exact lv_if_gt hx hb hd ht (fun h => kt h H locs ls hP hD hS hl) (fun h => kf h H locs ls hP hD hS hl)
theorem ks_icmp_le {a b : Nat} {off : Int} {tgt : Nat} (C : ks_ok E l0 D tys R0 cc nL own) (ha : a < 2 ^ 31) (hb2 : b < 2 ^ 31) (ht : (pc : Int) + off = (tgt : Int)) (hd : decode cc pc = .ok (.if_icmp .le off, 3)) (kt : a ≤ b → ks_w E D nL ws lo cs ss tgt st) (kf : ¬ (a ≤ b) → ks_w E D nL ws lo cs ss (pc + 3) st) : ks_w E D nL ws lo cs ss pc (.int (nI b) :: .int (nI a) :: st) := by
  obtain ⟨p, l, e, R, s, m, args, below, meth, c, Q, A⟩ := E
  obtain ⟨-, -, hx, hb, hml, hown, hts, hK, hA, hlocks, hNw⟩ := C
  intro H locs ls hP hD hS hl
  exact lv_icmp_le hx hb hd ht (fun h => kt ((nI_leI ha hb2).mp h) H locs ls hP hD hS hl) (fun h => kf (fun z => h ((nI_leI ha hb2).mpr z)) H locs ls hP hD hS hl)
theorem ks_if_le {a : Nat} {off : Int} {tgt : Nat} (C : ks_ok E l0 D tys R0 cc nL own) (ha : a < 2 ^ 31) (ht : (pc : Int) + off = (tgt : Int)) (hd : decode cc pc = .ok (.ifCond .le off, 3)) (kt : a = 0 → ks_w E D nL ws lo cs ss tgt st) (kf : ¬ (a = 0) → ks_w E D nL ws lo cs ss (pc + 3) st) : ks_w E D nL ws lo cs ss pc (.int (nI a) :: st) := by
  obtain ⟨p, l, e, R, s, m, args, below, meth, c, Q, A⟩ := E
  obtain ⟨-, -, hx, hb, hml, hown, hts, hK, hA, hlocks, hNw⟩ := C
  intro H locs ls hP hD hS hl
  exact lv_if_le hx hb hd ht (fun h => kt (Nat.le_zero.mp ((nI_leI (b := 0) ha (by decide)).mp h)) H locs ls hP hD hS hl) (fun h => kf (fun z => h ((nI_leI (b := 0) ha (by decide)).mpr (Nat.le_of_eq z))) H locs ls hP hD hS hl)
theorem ks_icmpI_le {x y : Int32} {off : Int} {tgt : Nat} (C : ks_ok E l0 D tys R0 cc nL own) (ht : (pc : Int) + off = (tgt : Int)) (hd : decode cc pc = .ok (.if_icmp .le off, 3)) (kt : x ≤ y → ks_w E D nL ws lo cs ss tgt st) (kf : ¬ x ≤ y → ks_w E D nL ws lo cs ss (pc + 3) st) : ks_w E D nL ws lo cs ss pc (.int y :: .int x :: st) := by
  obtain ⟨p, l, e, R, s, m, args, below, meth, c, Q, A⟩ := E
  obtain ⟨-, -, hx, hb, hml, hown, hts, hK, hA, hlocks, hNw⟩ := C
  intro H locs ls hP hD hS hl
  exact lv_icmp_le hx hb hd ht (fun h => kt h H locs ls hP hD hS hl) (fun h => kf h H locs ls hP hD hS hl)
theorem ks_ifI_le {x : Int32} {off : Int} {tgt : Nat} (C : ks_ok E l0 D tys R0 cc nL own) (ht : (pc : Int) + off = (tgt : Int)) (hd : decode cc pc = .ok (.ifCond .le off, 3)) (kt : x ≤ 0 → ks_w E D nL ws lo cs ss tgt st) (kf : ¬ x ≤ 0 → ks_w E D nL ws lo cs ss (pc + 3) st) : ks_w E D nL ws lo cs ss pc (.int x :: st) := by
  obtain ⟨p, l, e, R, s, m, args, below, meth, c, Q, A⟩ := E
  obtain ⟨-, -, hx, hb, hml, hown, hts, hK, hA, hlocks, hNw⟩ := C
  intro H locs ls hP hD hS hl
  exact lv_if_le hx hb hd ht (fun h => kt h H locs ls hP hD hS hl) (fun h => kf h H locs ls hP hD hS hl)
/-- a truth value as the machine has it -/
def ks_b (t : Bool) : Int32 := if t then 1 else 0
theorem ks_ifB_eq {t : Bool} {off : Int} {tgt : Nat} (C : ks_ok E l0 D tys R0 cc nL own) (ht : (pc : Int) + off = (tgt : Int)) (hd : decode cc pc = .ok (.ifCond .eq off, 3)) (kt : t = false → ks_w E D nL ws lo cs ss tgt st) (kf : t = true → ks_w E D nL ws lo cs ss (pc + 3) st) : ks_w E D nL ws lo cs ss pc (.int (ks_b t) :: st) := by
  obtain ⟨p, l, e, R, s, m, args, below, meth, c, Q, A⟩ := E
  obtain ⟨-, -, hx, hb, hml, hown, hts, hK, hA, hlocks, hNw⟩ := C
  intro H locs ls hP hD hS hl
  exact lv_if_eq hx hb hd ht (fun h => kt (by cases t with | false => rfl | true => exact absurd h (by decide)) H locs ls hP hD hS hl) (fun h => kf (by cases t with | true => rfl | false => exact absurd rfl h) H locs ls hP hD hS hl)
theorem ks_ifB_ne {t : Bool} {off : Int} {tgt : Nat} (C : ks_ok E l0 D tys R0 cc nL own) (ht : (pc : Int) + off = (tgt : Int)) (hd : decode cc pc = .ok (.ifCond .ne off, 3)) (kt : t = true → ks_w E D nL ws lo cs ss tgt st) (kf : t = false → ks_w E D nL ws lo cs ss (pc + 3) st) : ks_w E D nL ws lo cs ss pc (.int (ks_b t) :: st) := by
  obtain ⟨p, l, e, R, s, m, args, below, meth, c, Q, A⟩ := E
  obtain ⟨-, -, hx, hb, hml, hown, hts, hK, hA, hlocks, hNw⟩ := C
  intro H locs ls hP hD hS hl
  exact lv_if_ne hx hb hd ht (fun h => kt (by cases t with | true => rfl | false => exact absurd rfl h) H locs ls hP hD hS hl) (fun h => kf (by cases t with | false => rfl | true => exact absurd h (by decide)) H locs ls hP hD hS hl)
theorem ks_get {a k idx : Nat} {fs : List Value} {Cn ref : String} {T : u_T} {N : Nat} {v : Value} (C : ks_ok E l0 D tys R0 cc nL own) (q0 ci : Nat) (hin : ∀ w ∈ u_ws Cn T N, w ∈ ks_tbl) (hc : vwCl[ci]? = some (Cn, T, N)) (hk : k < N) (hlink : Cond.fieldLink own idx ref (T k).2.1 (T k).2.2.1 ∈ ks_tbl) (hsame : (T k).1 = ref) (he : ws[q0]? = some (a, .inr (ci, fs))) (hv : fs[k]? = some v) (hd : decode cc pc = .ok (.getfield idx, 3)) (kk : ks_w E D nL ws lo cs ss (pc + 3) (v :: st)) : ks_w E D nL ws lo cs ss pc (.ref a :: st) := by
  obtain ⟨p, l, e, R, s, m, args, below, meth, c, Q, A⟩ := E
  obtain ⟨-, -, hx, hb, hml, hown, hts, hK, hA, hlocks, hNw⟩ := C
  intro H locs ls hP hD hS hl
  exact va_get hx hb hts hin hown hK hP q0 he hc k hk (hts _ hlink) (fun x h => by rw [← hsame]; exact h) hv hd (kk H locs ls hP hD hS hl)
theorem ks_getN {a k idx : Nat} {fs : List Value} {Cn ref host : String} {T : u_T} {N : Nat} {v : Value} (C : ks_ok E l0 D tys R0 cc nL own) (q0 ci : Nat) (hin : ∀ w ∈ u_ws Cn T N, w ∈ ks_tbl) (hc : vwCl[ci]? = some (Cn, T, N)) (hk : k < N) (hlink : ∀ U, ks_Nw U → va_Nw (.fieldLinkNest own idx ref (T k).2.1 (T k).2.2.1 host) U) (hsame : (T k).1 = ref) (he : ws[q0]? = some (a, .inr (ci, fs))) (hv : fs[k]? = some v) (hd : decode cc pc = .ok (.getfield idx, 3)) (kk : ks_w E D nL ws lo cs ss (pc + 3) (v :: st)) : ks_w E D nL ws lo cs ss pc (.ref a :: st) := by
  obtain ⟨p, l, e, R, s, m, args, below, meth, c, Q, A⟩ := E
  obtain ⟨-, -, hx, hb, hml, hown, hts, hK, hA, hlocks, hNw⟩ := C
  intro H locs ls hP hD hS hl
  exact va_getN hx hb hts hin hown hK hP q0 he hc k hk (va_Nw.use rfl (hlink _ hNw)) (fun x h => by rw [← hsame]; exact h) hv hd (kk H locs ls hP hD hS hl)
theorem ks_put {a k idx : Nat} {fs : List Value} {Cn ref : String} {T : u_T} {N : Nat} {v : Value} {ws' : va_W} (C : ks_ok E l0 D tys R0 cc nL own) (q0 ci : Nat) (t0 : Nat → FieldType) (ht0 : ∀ k, k < N → parseFieldDescriptor (T k).2.2.1 = some (t0 k)) (hnm : ∀ a, a < N → ∀ b, b < N → a ≠ b → (T a).2.1 ≠ (T b).2.1) (hin : ∀ w ∈ u_ws Cn T N, w ∈ ks_tbl) (hc : vwCl[ci]? = some (Cn, T, N)) (hk : k < N) (hlink : Cond.fieldLink own idx ref (T k).2.1 (T k).2.2.1 ∈ ks_tbl) (hsame : (T k).1 = ref) (hfin : (T k).2.2.2 = false) (hn : narrow (t0 k) v = v) (hfit : fits (t0 k) v = true) (he : ws[q0]? = some (a, .inr (ci, fs))) (hl0 : k < fs.length) (hw : ws.set q0 (a, .inr (ci, fs.set k v)) = ws') (hd : decode cc pc = .ok (.putfield idx, 3)) (kk : ks_w E D nL ws' lo cs ss (pc + 3) st) : ks_w E D nL ws lo cs ss pc (v :: .ref a :: st) := by
  obtain ⟨p, l, e, R, s, m, args, below, meth, c, Q, A⟩ := E
  obtain ⟨-, -, hx, hb, hml, hown, hts, hK, hA, hlocks, hNw⟩ := C
  intro H locs ls hP hD hS hl
  subst hw
  exact va_put hx hb hts hin t0 ht0 hnm hown hK hP hD hS q0 he hc k hk (hts _ hlink) (fun x h => by rw [← hsame]; exact h) hfin (ht0 k hk) hn hfit hl0 hd (fun H1 locs1 hP hD hS => kk H1 locs1 ls hP hD hS hl)
/-! contents of arrays -/
def ks_by (B : Nat → UInt8) : Nat → Int32 := fun j => sb_b (B j).toNat
def ks_in (P : Nat → Nat) : Nat → Int32 := fun j => nI (P j)
def ks_bo (P : Nat → Bool) : Nat → Int32 := fun j => ks_b (P j)
theorem ks_by_up (B : Nat → UInt8) (i : Nat) (c : UInt8) : upd (ks_by B) i (sb_b c.toNat) = ks_by (va_up B i c) := by
  funext j
  by_cases h : j = i
  · subst h; rw [pk_us]; simp [ks_by, va_up]
  · rw [pk_un h]; simp [ks_by, va_up, h]
theorem ks_in_up (P : Nat → Nat) (i c : Nat) : upd (ks_in P) i (nI c) = ks_in (va_up P i c) := by
  funext j
  by_cases h : j = i
  · subst h; rw [pk_us]; simp [ks_in, va_up]
  · rw [pk_un h]; simp [ks_in, va_up, h]
theorem ks_bo_up (P : Nat → Bool) (i : Nat) (c : Bool) : upd (ks_bo P) i (ks_b c) = ks_bo (va_up P i c) := by
  funext j
  by_cases h : j = i
  · subst h; rw [pk_us]; simp [ks_bo, va_up]
  · rw [pk_un h]; simp [ks_bo, va_up, h]
theorem ks_by_cpy (F G : Nat → UInt8) (a b n : Nat) : va_cpy (ks_by F) (ks_by G) a b n = ks_by (va_cpy F G a b n) := by
  funext j
  by_cases h : b ≤ j ∧ j < b + n
  · simp [va_cpy, ks_by, h]
  · simp [va_cpy, ks_by, h]
theorem ks_by255 (B : Nat → UInt8) (i : Nat) : ks_by B i &&& 255 = nI (B i).toNat := (sb_byte _ (B i).toNat_lt).1
/-- bytes[i] & 255 -/
theorem ks_bald {a i : Nat} {cA : ClassId} {n : Nat} {B : Nat → UInt8} (C : ks_ok E l0 D tys R0 cc nL own) (q0 t0 : Nat) (ht : tys[t0]? = some (cA, .byte)) (ha : ws[q0]? = some (a, .inl (cA, n, .inl (ks_by B)))) (hi : i < n) (hN : n < 2 ^ 31) (hd : decode cc pc = .ok (.baload, 1)) (hd2 : decode cc (pc + 1) = .ok (.sipush 255, 3)) (hd3 : decode cc (pc + 4) = .ok (.iand, 1)) (k : ks_w E D nL ws lo cs ss (pc + 5) (.int (nI (B i).toNat) :: st)) : ks_w E D nL ws lo cs ss pc (.int (nI i) :: .ref a :: st) := by
  obtain ⟨p, l, e, R, s, m, args, below, meth, c, Q, A⟩ := E
  obtain ⟨-, -, hx, hb, hml, hown, hts, hK, hA, hlocks, hNw⟩ := C
  intro H locs ls hP hD hS hl
  refine va_bald hx hb hK hP q0 t0 ha ht (vp_in_nI hi hN) hd ?_
  refine lv_sipush (v := 255) hx hb hd2 (by decide) ?_
  refine lv_iand hx hb hd3 ?_
  rw [nI_clamp (by omega), ks_by255]
  exact k H locs ls hP hD hS hl
/-- a byte as it is -/
theorem ks_bald0 {a i : Nat} {cA : ClassId} {n : Nat} {B : Nat → UInt8} (C : ks_ok E l0 D tys R0 cc nL own) (q0 t0 : Nat) (ht : tys[t0]? = some (cA, .byte)) (ha : ws[q0]? = some (a, .inl (cA, n, .inl (ks_by B)))) (hi : i < n) (hN : n < 2 ^ 31) (hd : decode cc pc = .ok (.baload, 1)) (k : ks_w E D nL ws lo cs ss (pc + 1) (.int (sb_b (B i).toNat) :: st)) : ks_w E D nL ws lo cs ss pc (.int (nI i) :: .ref a :: st) := by
  obtain ⟨p, l, e, R, s, m, args, below, meth, c, Q, A⟩ := E
  obtain ⟨-, -, hx, hb, hml, hown, hts, hK, hA, hlocks, hNw⟩ := C
  intro H locs ls hP hD hS hl
  refine va_bald hx hb hK hP q0 t0 ha ht (vp_in_nI hi hN) hd ?_
  rw [nI_clamp (by omega)]
  exact k H locs ls hP hD hS hl
theorem ks_iald {a i : Nat} {cA : ClassId} {n : Nat} {B : Nat → Nat} (C : ks_ok E l0 D tys R0 cc nL own) (q0 t0 : Nat) (ht : tys[t0]? = some (cA, .int)) (ha : ws[q0]? = some (a, .inl (cA, n, .inl (ks_in B)))) (hi : i < n) (hN : n < 2 ^ 31) (hd : decode cc pc = .ok (.iaload, 1)) (k : ks_w E D nL ws lo cs ss (pc + 1) (.int (nI (B i)) :: st)) : ks_w E D nL ws lo cs ss pc (.int (nI i) :: .ref a :: st) := by
  obtain ⟨p, l, e, R, s, m, args, below, meth, c, Q, A⟩ := E
  obtain ⟨-, -, hx, hb, hml, hown, hts, hK, hA, hlocks, hNw⟩ := C
  intro H locs ls hP hD hS hl
  refine va_iald hx hb hK hP q0 t0 ha ht (vp_in_nI hi hN) hd ?_
  rw [nI_clamp (by omega)]
  exact k H locs ls hP hD hS hl
theorem ks_zald {a i : Nat} {cA : ClassId} {n : Nat} {B : Nat → Bool} (C : ks_ok E l0 D tys R0 cc nL own) (q0 t0 : Nat) (ht : tys[t0]? = some (cA, .boolean)) (ha : ws[q0]? = some (a, .inl (cA, n, .inl (ks_bo B)))) (hi : i < n) (hN : n < 2 ^ 31) (hd : decode cc pc = .ok (.baload, 1)) (k : ks_w E D nL ws lo cs ss (pc + 1) (.int (ks_b (B i)) :: st)) : ks_w E D nL ws lo cs ss pc (.int (nI i) :: .ref a :: st) := by
  obtain ⟨p, l, e, R, s, m, args, below, meth, c, Q, A⟩ := E
  obtain ⟨-, -, hx, hb, hml, hown, hts, hK, hA, hlocks, hNw⟩ := C
  intro H locs ls hP hD hS hl
  refine va_zald hx hb hK hP q0 t0 ha ht (vp_in_nI hi hN) hd ?_
  rw [nI_clamp (by omega)]
  exact k H locs ls hP hD hS hl
theorem ks_bast {a i : Nat} {cA : ClassId} {n : Nat} {B : Nat → UInt8} {x : Int32} {c : UInt8} {ws' : va_W} (C : ks_ok E l0 D tys R0 cc nL own) (q0 t0 : Nat) (ht : tys[t0]? = some (cA, .byte)) (ha : ws[q0]? = some (a, .inl (cA, n, .inl (ks_by B)))) (hi : i < n) (hN : n < 2 ^ 31) (hx8 : vp_nar .byte x = sb_b c.toNat) (hw : ws.set q0 (a, .inl (cA, n, .inl (ks_by (va_up B i c)))) = ws') (hd : decode cc pc = .ok (.bastore, 1)) (k : ks_w E D nL ws' lo cs ss (pc + 1) st) : ks_w E D nL ws lo cs ss pc (.int x :: .int (nI i) :: .ref a :: st) := by
  obtain ⟨p, l, e, R, s, m, args, below, meth, c, Q, A⟩ := E
  obtain ⟨-, -, hx, hb, hml, hown, hts, hK, hA, hlocks, hNw⟩ := C
  intro H locs ls hP hD hS hl
  subst hw
  refine va_bast hx hb hK hP hD hS q0 t0 ha ht (vp_in_nI hi hN) hd (fun H1 locs1 hP hD hS => ?_)
  rw [nI_clamp (by omega), hx8, ks_by_up] at hP hD
  exact k H1 locs1 ls hP hD hS hl
theorem ks_iast {a i : Nat} {cA : ClassId} {n : Nat} {B : Nat → Nat} {c : Nat} {ws' : va_W} (C : ks_ok E l0 D tys R0 cc nL own) (q0 t0 : Nat) (ht : tys[t0]? = some (cA, .int)) (ha : ws[q0]? = some (a, .inl (cA, n, .inl (ks_in B)))) (hi : i < n) (hN : n < 2 ^ 31) (hw : ws.set q0 (a, .inl (cA, n, .inl (ks_in (va_up B i c)))) = ws') (hd : decode cc pc = .ok (.iastore, 1)) (k : ks_w E D nL ws' lo cs ss (pc + 1) st) : ks_w E D nL ws lo cs ss pc (.int (nI c) :: .int (nI i) :: .ref a :: st) := by
  obtain ⟨p, l, e, R, s, m, args, below, meth, c, Q, A⟩ := E
  obtain ⟨-, -, hx, hb, hml, hown, hts, hK, hA, hlocks, hNw⟩ := C
  intro H locs ls hP hD hS hl
  subst hw
  refine va_iast hx hb hK hP hD hS q0 t0 ha ht (vp_in_nI hi hN) hd (fun H1 locs1 hP hD hS => ?_)
  rw [nI_clamp (by omega), ks_in_up] at hP hD
  exact k H1 locs1 ls hP hD hS hl
theorem ks_zast {a i : Nat} {cA : ClassId} {n : Nat} {B : Nat → Bool} {x : Int32} {c : Bool} {ws' : va_W} (C : ks_ok E l0 D tys R0 cc nL own) (q0 t0 : Nat) (ht : tys[t0]? = some (cA, .boolean)) (ha : ws[q0]? = some (a, .inl (cA, n, .inl (ks_bo B)))) (hi : i < n) (hN : n < 2 ^ 31) (hx8 : vp_nar .boolean x = ks_b c) (hw : ws.set q0 (a, .inl (cA, n, .inl (ks_bo (va_up B i c)))) = ws') (hd : decode cc pc = .ok (.bastore, 1)) (k : ks_w E D nL ws' lo cs ss (pc + 1) st) : ks_w E D nL ws lo cs ss pc (.int x :: .int (nI i) :: .ref a :: st) := by
  obtain ⟨p, l, e, R, s, m, args, below, meth, c, Q, A⟩ := E
  obtain ⟨-, -, hx, hb, hml, hown, hts, hK, hA, hlocks, hNw⟩ := C
  intro H locs ls hP hD hS hl
  subst hw
  refine va_zast hx hb hK hP hD hS q0 t0 ha ht (vp_in_nI hi hN) hd (fun H1 locs1 hP hD hS => ?_)
  rw [nI_clamp (by omega), hx8, ks_bo_up] at hP hD
  exact k H1 locs1 ls hP hD hS hl
theorem ks_alen {a : Nat} {cA : ClassId} {n : Nat} {x} {ty : FieldType} (C : ks_ok E l0 D tys R0 cc nL own) (q0 t0 : Nat) (ht : tys[t0]? = some (cA, ty)) (ha : ws[q0]? = some (a, .inl (cA, n, x))) (hd : decode cc pc = .ok (.arraylength, 1)) (k : ks_w E D nL ws lo cs ss (pc + 1) (.int (nI n) :: st)) : ks_w E D nL ws lo cs ss pc (.ref a :: st) := by
  obtain ⟨p, l, e, R, s, m, args, below, meth, c, Q, A⟩ := E
  obtain ⟨-, -, hx, hb, hml, hown, hts, hK, hA, hlocks, hNw⟩ := C
  intro H locs ls hP hD hS hl
  exact va_alen hx hb hK hP q0 t0 ha ht (v := nI n) rfl hd (k H locs ls hP hD hS hl)
theorem ks_nI_min {a b : Nat} (ha : a < 2 ^ 31) (hb : b < 2 ^ 31) : (if nI b < nI a then nI b else nI a) = nI (min a b) := by
  by_cases h : b < a
  · rw [if_pos (nI_lt h ha), Nat.min_eq_right (Nat.le_of_lt h)]
  · rw [if_neg (nI_nlt (Nat.le_of_not_lt h) hb), Nat.min_eq_left (Nat.le_of_not_lt h)]
theorem ks_nI_max {a b : Nat} (ha : a < 2 ^ 31) (hb : b < 2 ^ 31) : (if nI a < nI b then nI b else nI a) = nI (max a b) := by
  by_cases h : a < b
  · rw [if_pos (nI_lt h hb), Nat.max_eq_right (Nat.le_of_lt h)]
  · rw [if_neg (nI_nlt (Nat.le_of_not_lt h) ha), Nat.max_eq_left (Nat.le_of_not_lt h)]
theorem ks_min {a b idx : Nat} (C : ks_ok E l0 D tys R0 cc nL own) (hlink : Cond.methodLink own idx Lib.Math.min.name ∈ ks_tbl) (hwm : Cond.static Lib.Math.min.name ∈ ks_tbl ∧ Cond.initialized "java/lang/Math" ∈ ks_tbl ∧ Cond.code Lib.Math.min.name Lib.Math.min.code 2 (some .int) ∈ ks_tbl) (ha : a < 2 ^ 31) (hb2 : b < 2 ^ 31) (hfr : 1 ≤ R0.frames) (hlo : (st.map fun v => v.category).sum + 13 ≤ R0.locals) (hc : cs ≤ R0.cells) (hs : ss ≤ R0.slots) (hd : decode cc pc = .ok (.invokestatic idx, 3)) (k : ks_w E D nL ws lo cs ss (pc + 3) (.int (nI (min a b)) :: st)) : ks_w E D nL ws lo cs ss pc (.int (nI b) :: .int (nI a) :: st) := by
  obtain ⟨p, l, e, R, s, m, args, below, meth, c, Q, A⟩ := E
  obtain ⟨-, rfl, hx, hb, hml, hown, hts, hK, hA, hlocks, hNw⟩ := C
  intro H locs ls hP hD hS hl
  refine va_mmin hx hb (hml.trans hl.1.symm) hown (hts _ hlink) (hts _ hwm.1) (hts _ hwm.2.1) (hts _ hwm.2.2) hfr hlo hc hs hd ?_
  rw [ks_nI_min ha hb2]
  exact k H locs ls hP hD hS hl
theorem ks_max {a b idx : Nat} (C : ks_ok E l0 D tys R0 cc nL own) (hlink : Cond.methodLink own idx Lib.Math.max.name ∈ ks_tbl) (hwm : Cond.static Lib.Math.max.name ∈ ks_tbl ∧ Cond.initialized "java/lang/Math" ∈ ks_tbl ∧ Cond.code Lib.Math.max.name Lib.Math.max.code 2 (some .int) ∈ ks_tbl) (ha : a < 2 ^ 31) (hb2 : b < 2 ^ 31) (hfr : 1 ≤ R0.frames) (hlo : (st.map fun v => v.category).sum + 13 ≤ R0.locals) (hc : cs ≤ R0.cells) (hs : ss ≤ R0.slots) (hd : decode cc pc = .ok (.invokestatic idx, 3)) (k : ks_w E D nL ws lo cs ss (pc + 3) (.int (nI (max a b)) :: st)) : ks_w E D nL ws lo cs ss pc (.int (nI b) :: .int (nI a) :: st) := by
  obtain ⟨p, l, e, R, s, m, args, below, meth, c, Q, A⟩ := E
  obtain ⟨-, rfl, hx, hb, hml, hown, hts, hK, hA, hlocks, hNw⟩ := C
  intro H locs ls hP hD hS hl
  refine va_mmax hx hb (hml.trans hl.1.symm) hown (hts _ hlink) (hts _ hwm.1) (hts _ hwm.2.1) (hts _ hwm.2.2) hfr hlo hc hs hd ?_
  rw [ks_nI_max ha hb2]
  exact k H locs ls hP hD hS hl
/-- System.arraycopy between two arrays of bytes -/
theorem ks_copy {a a0 sp dp n idx : Nat} {c0 : ClassId} {n0 n1 : Nat} {F G : Nat → UInt8} {ws' : va_W} (C : ks_ok E l0 D tys R0 cc nL own) (q0 q1 t0 : Nat) (ht : tys[t0]? = some (c0, .byte)) (hlink : Cond.methodLink own idx arraycopyName ∈ ks_tbl) (hwc : Cond.native arraycopyName ∈ ks_tbl ∧ Cond.static arraycopyName ∈ ks_tbl ∧ Cond.initialized "java/lang/System" ∈ ks_tbl) (ha0 : ws[q0]? = some (a0, .inl (c0, n0, .inl (ks_by F)))) (ha1 : ws[q1]? = some (a, .inl (c0, n1, .inl (ks_by G)))) (h4 : sp + n ≤ n0) (h5 : dp + n ≤ n1) (hn0 : n0 < 2 ^ 31) (hn1 : n1 < 2 ^ 31) (hfr : 1 ≤ R0.frames) (hlo : (st.map fun v => v.category).sum + (nativeFrameWords "java/lang/System" "arraycopy" 5 + 11) ≤ R0.locals) (hw : ws.set q1 (a, .inl (c0, n1, .inl (ks_by (va_cpy F G sp dp n)))) = ws') (hd : decode cc pc = .ok (.invokestatic idx, 3)) (k : ks_w E D nL ws' lo cs ss (pc + 3) st) : ks_w E D nL ws lo cs ss pc (.int (nI n) :: .int (nI dp) :: .ref a :: .int (nI sp) :: .ref a0 :: st) := by
  obtain ⟨p, l, e, R, s, m, args, below, meth, c, Q, A⟩ := E
  obtain ⟨-, rfl, hx, hb, hml, hown, hts, hK, hA, hlocks, hNw⟩ := C
  intro H locs ls hP hD hS hl
  subst hw
  have e1 : (nI sp).toNatClampNeg = sp := nI_clamp (by omega)
  have e2 : (nI dp).toNatClampNeg = dp := nI_clamp (by omega)
  have e3 : (nI n).toNatClampNeg = n := nI_clamp (by omega)
  refine va_copyi hx hb (hml.trans hl.1.symm) hown (hts _ hlink) (hts _ hwc.1) (hts _ hwc.2.1) (hts _ hwc.2.2) hK hP hD hS q0 q1 t0 t0 ha0 ha1 ht ht rfl (nI_pos (by omega)) (nI_pos (by omega)) (nI_pos (by omega)) (by rw [e1, e3]; exact h4) (by rw [e2, e3]; exact h5) (fun i _ => sb_fitB _) hfr hlo hd (fun H1 locs1 hP hD hS => ?_)
  rw [e1, e2, e3, ks_by_cpy] at hP hD
  exact k H1 locs1 ls hP hD hS hl
/-! contracts: the answer and the world behind the method, by 'post' -/
def ks_Q (D : va_G) (tys : List (ClassId × FieldType)) (post : Option Value → va_W → Prop) (A : Nat → Prop) : Array Value → State → Outcome → State → Prop := fun _ st o t => ∃ (v : Option Value) (w1 : va_W), post v w1 ∧ o = .returned v ∧ (va_P D vwCl w1 t.heap ∧ va_K D vwCl tys t ∧ va_D A w1) ∧ va_F A st t
def ks_M (l : Launch) (D : va_G) (tys : List (ClassId × FieldType)) (rm : Room) (y : MethodName) (cc : ByteArray) (nL : Nat) (ret : Option FieldType) (args : List Value) (wc : va_W) (post : Option Value → va_W → Prop) : Prop :=
  ∀ sz : Nat, Met l y (.code y cc nL ret :: ks_tbl) rm (va_Pc args (fun U => U.heap.size = sz ∧ va_P D vwCl wc U.heap ∧ va_K D vwCl tys U ∧ ks_Nw U ∧ va_D (fun _ => True) wc)) (ks_Q D tys post (va_A wc sz)) rm.cells rm.slots (va_A wc sz)
/-- one answer, one world -/
def ks_f (v : Option Value) (w1 : va_W) : Option Value → va_W → Prop := fun v' w' => v' = v ∧ w' = w1
def ks_z (E : ks_E) (D : va_G) (tys : List (ClassId × FieldType)) (rm : Room) (ret : Option FieldType) (wc : va_W) (post : Option Value → va_W → Prop) : Prop :=
  match E with
  | (_, _, _, _, s, _, args, below, meth, _, Q, A) => meth.sig.returnType = ret ∧ A = va_A wc s.heap.size ∧ Q = MQ below (ks_Q D tys post (va_A wc s.heap.size)) args s rm.cells rm.slots (va_A wc s.heap.size)
def ks_ar : List Value → List (Option Value)
  | [] => []
  | v :: vs => if v.category = 2 then some v :: none :: ks_ar vs else some v :: ks_ar vs
theorem ks_ar_mem : ∀ (vs : List Value) (k i : Nat) (v : Value), (ks_ar vs)[i]? = some (some v) → (k + i, v) ∈ lv_args k vs
  | [], k, i, v, h => by simp [ks_ar] at h
  | u :: vs, k, i, v, h => by
    unfold ks_ar at h
    unfold lv_args
    by_cases hc : u.category = 2
    · rw [if_pos hc] at h ⊢
      match i, h with
      | 0, h =>
        have : u = v := by simpa using h
        subst this
        exact List.mem_cons_self
      | 1, h => simp at h
      | i + 2, h =>
        have h2 := ks_ar_mem vs (k + 2) i v (by simpa using h)
        rw [show k + (i + 2) = k + 2 + i by omega]
        exact List.mem_cons_of_mem _ h2
    · rw [if_neg hc] at h ⊢
      match i, h with
      | 0, h =>
        have : u = v := by simpa using h
        subst this
        exact List.mem_cons_self
      | i + 1, h =>
        have h2 := ks_ar_mem vs (k + 1) i v (by simpa using h)
        rw [show k + (i + 1) = k + 1 + i by omega]
        exact List.mem_cons_of_mem _ h2
theorem ks_lo_args {vs : List Value} {n : Nat} {ls : Array Slot} {nL : Nat} (h : lv_has ls nL (lv_args 0 vs)) : lv_has ls nL (ks_lv (ks_ar vs ++ List.replicate n none)) := by
  refine ks_lv_sub h (fun q hq => ?_)
  have h1 := ks_lv_mem.mp hq
  rw [List.getElem?_append] at h1
  split at h1
  · have h2 := ks_ar_mem vs 0 q.1 q.2 h1
    rw [Nat.zero_add] at h2
    exact h2
  · rw [List.getElem?_replicate] at h1
    split at h1 <;> cases h1
theorem ks_M.of {l : Launch} {rm : Room} {y : MethodName} {ret : Option FieldType} {vs : List Value} {wc : va_W} {post : Option Value → va_W → Prop} (n : Nat) (hy : plainName y.cls = true) (hlen : (lg_sl vs).length ≤ nL) (body : ∀ E : ks_E, ks_ok E l D tys rm cc nL y.cls → ks_z E D tys rm ret wc post → ks_w E D nL wc (ks_ar vs ++ List.replicate n none) 0 0 0 []) : ks_M l D tys rm y cc nL ret vs wc post := by
  intro sz
  refine Met.ofW (cc := cc) (maxL := nL) (ret := ret) hy rfl ?_
  intro p e s m args below meth c s₁ B hml hv
  obtain ⟨rfl, hsz, hP, hK, hNw, hD0⟩ := hv
  subst hsz
  have hts := atoms_spec (ws := .code y cc nL ret :: ks_tbl) B.pre
  have hown : s.vm.findClass y.cls = some m.cls := findClass_of_methodNamed B.named
  have hl := lv_entry vs (n := nL) hlen
  have h := body (p, l, e, rm, s, m, vs.toArray, below, meth, c, MQ below (ks_Q D tys post (va_A wc s.heap.size)) vs.toArray s rm.cells rm.slots (va_A wc s.heap.size), va_A wc s.heap.size)
    ⟨rfl, rfl, B.exec, B.bytes, hml, hown, fun w hw => hts w (List.mem_cons_of_mem _ hw), hK, fun q h => Or.inr h, B.notSynchronized, hNw⟩ ⟨B.returns, rfl, rfl⟩
  rw [lg_entry_eq]
  exact h s.heap [] _ hP (hD0.self (sz := s.heap.size)) va_S.rf (ks_lo_args hl)
/-! ends -/
theorem ks_iret {rm : Room} {ret : Option FieldType} {wc : va_W} {post : Option Value → va_W → Prop} {x : Int32} {ty : FieldType} (C : ks_ok E l0 D tys R0 cc nL own) (Z : ks_z E D tys rm ret wc post) (hret : ret = some ty) (hn : narrow ty (.int x) = .int x) (hd : decode cc pc = .ok (.ireturn, 1)) (hc : cs = rm.cells) (hs : ss = rm.slots) (hp : post (some (.int x)) ws) : ks_w E D nL ws lo cs ss pc [.int x] := by
  obtain ⟨p, l, e, R, s, m, args, below, meth, c, Q, A⟩ := E
  obtain ⟨-, -, hx, hb, hml, hown, hts, hK, hA, hlocks, hNw⟩ := C
  intro H locs ls hP hD hS hl
  obtain ⟨hr, rfl, rfl⟩ := Z
  subst hc
  subst hs
  exact W.zret hx hb (hr.trans hret) hn (fun t ht hW => ⟨_, _, hp, rfl, ⟨by rw [ht]; exact hP, va_K.moved hW.alike hK, hD⟩, hS.F ht⟩) hS.2.2 hd
theorem ks_lret {rm : Room} {ret : Option FieldType} {wc : va_W} {post : Option Value → va_W → Prop} {x : Int64} (C : ks_ok E l0 D tys R0 cc nL own) (Z : ks_z E D tys rm ret wc post) (hret : ret = some .long) (hd : decode cc pc = .ok (.lreturn, 1)) (hc : cs = rm.cells) (hs : ss = rm.slots) (hp : post (some (.long x)) ws) : ks_w E D nL ws lo cs ss pc [.long x] := by
  obtain ⟨p, l, e, R, s, m, args, below, meth, c, Q, A⟩ := E
  obtain ⟨-, -, hx, hb, hml, hown, hts, hK, hA, hlocks, hNw⟩ := C
  intro H locs ls hP hD hS hl
  obtain ⟨hr, rfl, rfl⟩ := Z
  subst hc
  subst hs
  exact W.lret hx hb (hr.trans hret) (fun t ht hW => ⟨_, _, hp, rfl, ⟨by rw [ht]; exact hP, va_K.moved hW.alike hK, hD⟩, hS.F ht⟩) hS.2.2 hd
theorem ks_vret {rm : Room} {ret : Option FieldType} {wc : va_W} {post : Option Value → va_W → Prop} (C : ks_ok E l0 D tys R0 cc nL own) (Z : ks_z E D tys rm ret wc post) (hret : ret = none) (hd : decode cc pc = .ok (.return_, 1)) (hc : cs = rm.cells) (hs : ss = rm.slots) (hp : post none ws) : ks_w E D nL ws lo cs ss pc [] := by
  obtain ⟨p, l, e, R, s, m, args, below, meth, c, Q, A⟩ := E
  obtain ⟨-, -, hx, hb, hml, hown, hts, hK, hA, hlocks, hNw⟩ := C
  intro H locs ls hP hD hS hl
  obtain ⟨hr, rfl, rfl⟩ := Z
  subst hc
  subst hs
  exact W.vret hx hb (hr.trans hret) (fun t ht hW => ⟨_, _, hp, rfl, ⟨by rw [ht]; exact hP, va_K.moved hW.alike hK, hD⟩, hS.F ht⟩) hS.2.2 hd
/-! calls -/
theorem ks_fm {α : Type} {f : Nat → Option α} : ∀ {is : List Nat} {l : List α}, is.map f = l.map some → is.filterMap f = l
  | [], [], _ => rfl
  | [], _ :: _, h => by cases h
  | _ :: _, [], h => by cases h
  | i :: is, x :: l, h => by
    simp only [List.map_cons, List.cons.injEq] at h
    rw [List.filterMap_cons, h.1, ks_fm h.2]
/-- the words of a method that is called -/
def ks_y (y : MethodName) (bytes : ByteArray) (maxL : Nat) (ret : Option FieldType) (n : Nat) : Prop := Cond.code y bytes maxL ret ∈ ks_tbl ∧ Cond.instanceMethod y ∈ ks_tbl ∧ Cond.initialized y.cls ∈ ks_tbl ∧ y.cls ≠ "java/lang/invoke/MethodHandle" ∧ y.cls ≠ "java/lang/invoke/VarHandle" ∧ (parseMethodDescriptor y.desc).map (fun d => d.parameters.length) = some n
theorem ks_good {y : MethodName} {bytes : ByteArray} {maxL : Nat} {ret : Option FieldType} (h : Cond.code y bytes maxL ret ∈ ks_tbl) : GoodIn ks_tbl (Cond.code y bytes maxL ret :: ks_tbl) := by
  intro w hw
  rcases List.mem_cons.mp hw with e | e
  · subst e; exact ⟨h, ks_tblGood _ h⟩
  · exact ⟨e, ks_tblGood _ e⟩
theorem ks_run {l : Launch} {p : Program} {e : Env} {R : Room} {s : State} {m : MethodId} {args : Array Value} {below : List Frame} {meth : Method} {c : Code} {Q : State → Prop} {A : Nat → Prop} {mc ms : Nat} {rest : List Value} {post : Option Value → va_W → Prop} {wc wr : va_W} {a : Array Value} {H : Heap} {locs : List Loc} {ls : Array Slot} (isC isR : List Nat)
    (hC : isC.map (fun i => ws[i]?) = wc.map some) (hR : isR.map (fun i => ws[i]?) = wr.map some) (hnR : va_nd isR = true) (hdis : ∀ i ∈ isR, i ∉ isC) (hA : ∀ q, s.heap.size ≤ q → A q)
    (hP : va_P D vwCl ws H) (hD : va_D A ws) (hS : va_S A s.heap H locs) (hl : lv_has ls nL (ks_lv lo)) (hr : va_Run p l e R s m args below meth c H locs cs ss mc ms (F0 m pc ls st) rest (ks_Q D tys post (va_A wc H.size) a) (va_A wc H.size))
    (k : ∀ (v : Option Value) (w1 : va_W), post v w1 → ks_w (p, l, e, R, s, m, args, below, meth, c, Q, A) D nL (wr ++ w1) lo (cs + mc) (ss + ms) (pc + 3) (v.toList ++ rest)) : W p l e R s m args below meth c H locs cs ss Q (F0 m pc ls st) := by
  have hFc := va_free (wc := wc) hD hS hA isC hC
  intro T hT X
  obtain ⟨v, st₀, t, T', L, h0, X', hL, e1, e2, ⟨v', w1, hp, ho, ⟨hP1, hK1, hD1⟩, hz, hk⟩, stp⟩ := hr T hT X
  cases ho
  rw [h0] at hz hk
  rw [← e1] at hz hk hP1
  obtain ⟨hPn, hDn⟩ := va_join (wr := wr) (w1 := w1) hP hD isC isR hC hR hnR hdis (fun q h1 h2 => hk q h1 h2) hFc hP1 hD1
  obtain ⟨t2, a1, b1⟩ := k v w1 hp T'.heap (locs ++ L) ls hPn hDn
    ⟨Nat.le_trans hS.1 hz, fun q h1 h2 => by rw [hk q (Nat.lt_of_lt_of_le h1 hS.1) (fun z => h2 (hFc q z))]; exact hS.2.1 q h1 h2, fun q hq => by
      rcases List.mem_append.mp hq with h | h
      · exact hS.2.2 q h
      · exact hFc _ (hL q h)⟩ hl T' rfl X'
  exact ⟨t2, stp t2 a1, b1⟩
theorem ks_pre {wc : va_W} {vs : List Value} {s : State} {H : Heap} {A : Nat → Prop} (hK : va_K D vwCl tys s) (hNw : ks_Nw s) (hPc : va_P D vwCl wc H) (hDc : va_D A wc) : FrameBlind (va_Pc vs (fun U => U.heap.size = H.size ∧ va_P D vwCl wc U.heap ∧ va_K D vwCl tys U ∧ ks_Nw U ∧ va_D (fun _ => True) wc)) ∧ ∀ U : State, U.heap = H → s.WarmedH U.vm → va_Pc vs (fun U => U.heap.size = H.size ∧ va_P D vwCl wc U.heap ∧ va_K D vwCl tys U ∧ ks_Nw U ∧ va_D (fun _ => True) wc) vs.toArray U :=
  ⟨fun a U g mk q => by obtain ⟨q0, q1, qP, qK, qN, qD⟩ := q; exact ⟨q0, q1, qP, va_K.moved (u := U) (U := U.calling g mk a) (Vm.Alike.refl U.vm) qK, ks_Nw.same (u := U) (U := U.calling g mk a) rfl qN, qD⟩, fun U hU hW => ⟨rfl, by rw [hU], by rw [hU]; exact hPc, va_K.moved hW.alike hK, hNw.warm hW, hDc.weaken (fun _ _ _ _ => trivial)⟩⟩
theorem ks_callVr {y : MethodName} {bytes : ByteArray} {maxL : Nat} {ret : Option FieldType} {rm : Room} {n idx b : Nat} {As rest : List Value} {wc wr : va_W} {post : Option Value → va_W → Prop} {q0 ci : Nat} {fs : List Value} {qc : vw_C} (C : ks_ok E l0 D tys R0 cc nL own) (M : ks_M l0 D tys rm y bytes maxL ret (.ref b :: As) wc post) (Y : ks_y y bytes maxL ret n) (hsel : Cond.selects y.cls y y ∈ ks_tbl) (hlink : Cond.methodLink own idx y ∈ ks_tbl) (hci : vwCl[ci]? = some qc) (hqc : qc.1 = y.cls) (hrecv : wc[q0]? = some (b, .inr (ci, fs))) (isC isR : List Nat) (hC : isC.map (fun i => ws[i]?) = wc.map some) (hR : isR.map (fun i => ws[i]?) = wr.map some) (hnC : va_nd isC = true) (hnR : va_nd isR = true) (hdis : ∀ i ∈ isR, i ∉ isC) (hroom : rm.frames + 1 ≤ R0.frames ∧ 8 + (maxL + 11) + rm.locals ≤ R0.locals) (hcell : cs + rm.cells ≤ R0.cells ∧ ss + rm.slots ≤ R0.slots) (hst : st = As.reverse ++ .ref b :: rest) (hAs : As.length = n) (hcat : (rest.map fun v => v.category).sum ≤ 8) (hd : decode cc pc = .ok (.invokevirtual idx, 3)) (k : ∀ (v : Option Value) (w1 : va_W), post v w1 → ks_w E D nL (wr ++ w1) lo (cs + rm.cells) (ss + rm.slots) (pc + 3) (v.toList ++ rest)) : ks_w E D nL ws lo cs ss pc st := by
  obtain ⟨p, l, e, R, s, m, args, below, meth, c, Q, A⟩ := E
  obtain ⟨rfl, rfl, hx, hb, hml, hown, hts, hK, hA, hlocks, hNw⟩ := C
  intro H locs ls hP hD hS hl
  subst hst
  have hPc := hP.sub (ws' := wc) isC (ks_fm hC)
  have hDc := hD.sub (ws' := wc) isC hnC hC
  have hpre := ks_pre (vs := .ref b :: As) hK hNw hPc hDc
  have cw : CallW R s args own y.cls idx y bytes maxL ret (.code y bytes maxL ret :: ks_tbl) rm rm.cells rm.slots n := ⟨callB_of n hts (ks_good Y.1) rfl rfl rfl (hts _ Y.2.2.1) (hts _ hlink) Y.2.2.2 hroom, hts _ Y.2.1, hts _ hsel⟩
  refine ks_run isC isR hC hR hnR hdis hA hP hD hS hl (va_runV (As := As) (rest := rest) ⟨hx, hb, hml, hown, hts⟩ (M H.size) cw ⟨hpre.1, by rw [← hqc]; exact va_recv hK hPc hci hrecv, hpre.2⟩ rfl hAs hl.1 rfl (lv_room hcat) hd hcell) k
theorem ks_callVv {y : MethodName} {bytes : ByteArray} {maxL : Nat} {ret : Option FieldType} {rm : Room} {n idx b : Nat} {As rest : List Value} {wc wr : va_W} {w1 ws' : va_W} {q0 ci : Nat} {fs : List Value} {qc : vw_C} (C : ks_ok E l0 D tys R0 cc nL own) (M : ks_M l0 D tys rm y bytes maxL ret (.ref b :: As) wc (ks_f none w1)) (Y : ks_y y bytes maxL ret n) (hsel : Cond.selects y.cls y y ∈ ks_tbl) (hlink : Cond.methodLink own idx y ∈ ks_tbl) (hci : vwCl[ci]? = some qc) (hqc : qc.1 = y.cls) (hrecv : wc[q0]? = some (b, .inr (ci, fs))) (isC isR : List Nat) (hC : isC.map (fun i => ws[i]?) = wc.map some) (hR : isR.map (fun i => ws[i]?) = wr.map some) (hnC : va_nd isC = true) (hnR : va_nd isR = true) (hdis : ∀ i ∈ isR, i ∉ isC) (is3 : List Nat) (hn3 : va_nd is3 = true) (hw3 : is3.map (fun i => (wr ++ w1)[i]?) = ws'.map some) (hc0 : rm.cells = 0) (hs0 : rm.slots = 0) (hroom : rm.frames + 1 ≤ R0.frames ∧ 8 + (maxL + 11) + rm.locals ≤ R0.locals) (hcell : cs + rm.cells ≤ R0.cells ∧ ss + rm.slots ≤ R0.slots) (hst : st = As.reverse ++ .ref b :: rest) (hAs : As.length = n) (hcat : (rest.map fun v => v.category).sum ≤ 8) (hd : decode cc pc = .ok (.invokevirtual idx, 3)) (k : ks_w E D nL ws' lo cs ss (pc + 3) rest) : ks_w E D nL ws lo cs ss pc st := by
  refine ks_callVr C M Y hsel hlink hci hqc hrecv isC isR hC hR hnC hnR hdis hroom hcell hst hAs hcat hd (fun v w1' h => ?_)
  obtain ⟨rfl, rfl⟩ := h
  rw [hc0, hs0]
  obtain ⟨p, l, e, R, s, m, args, below, meth, c, Q, A⟩ := E
  intro H locs ls hP hD hS hl
  exact k H locs ls (hP.sub is3 (ks_fm hw3)) (hD.sub is3 hn3 hw3) hS hl
theorem ks_callVx {y : MethodName} {bytes : ByteArray} {maxL : Nat} {ret : Option FieldType} {rm : Room} {n idx b : Nat} {As rest : List Value} {wc wr : va_W} {w1 ws' : va_W} {x : Value} {q0 ci : Nat} {fs : List Value} {qc : vw_C} (C : ks_ok E l0 D tys R0 cc nL own) (M : ks_M l0 D tys rm y bytes maxL ret (.ref b :: As) wc (ks_f (some x) w1)) (Y : ks_y y bytes maxL ret n) (hsel : Cond.selects y.cls y y ∈ ks_tbl) (hlink : Cond.methodLink own idx y ∈ ks_tbl) (hci : vwCl[ci]? = some qc) (hqc : qc.1 = y.cls) (hrecv : wc[q0]? = some (b, .inr (ci, fs))) (isC isR : List Nat) (hC : isC.map (fun i => ws[i]?) = wc.map some) (hR : isR.map (fun i => ws[i]?) = wr.map some) (hnC : va_nd isC = true) (hnR : va_nd isR = true) (hdis : ∀ i ∈ isR, i ∉ isC) (is3 : List Nat) (hn3 : va_nd is3 = true) (hw3 : is3.map (fun i => (wr ++ w1)[i]?) = ws'.map some) (hc0 : rm.cells = 0) (hs0 : rm.slots = 0) (hroom : rm.frames + 1 ≤ R0.frames ∧ 8 + (maxL + 11) + rm.locals ≤ R0.locals) (hcell : cs + rm.cells ≤ R0.cells ∧ ss + rm.slots ≤ R0.slots) (hst : st = As.reverse ++ .ref b :: rest) (hAs : As.length = n) (hcat : (rest.map fun v => v.category).sum ≤ 8) (hd : decode cc pc = .ok (.invokevirtual idx, 3)) (k : ks_w E D nL ws' lo cs ss (pc + 3) (x :: rest)) : ks_w E D nL ws lo cs ss pc st := by
  refine ks_callVr C M Y hsel hlink hci hqc hrecv isC isR hC hR hnC hnR hdis hroom hcell hst hAs hcat hd (fun v w1' h => ?_)
  obtain ⟨rfl, rfl⟩ := h
  rw [hc0, hs0]
  obtain ⟨p, l, e, R, s, m, args, below, meth, c, Q, A⟩ := E
  intro H locs ls hP hD hS hl
  exact k H locs ls (hP.sub is3 (ks_fm hw3)) (hD.sub is3 hn3 hw3) hS hl
end KSR
