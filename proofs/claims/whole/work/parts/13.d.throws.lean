/-! methods with handlers: contracts, catching; static calls of them -/
def kh_tb (hh : List (Nat × Nat × Nat × Nat)) : List ExceptionTableEntry := hh.map (fun h => ⟨h.1, h.2.1, h.2.2.1, h.2.2.2⟩)
theorem kh_tb_of : ∀ {T : List ExceptionTableEntry} {hh : List (Nat × Nat × Nat × Nat)}, T.map (fun h => (h.startPc, h.endPc, h.handlerPc, h.catchType)) = hh → T = kh_tb hh := by
  intro T hh h
  subst h
  unfold kh_tb
  rw [List.map_map]
  exact (List.map_id' T).symm
def kh_M (l : Launch) (D : va_G) (tys : List (ClassId × FieldType)) (rm : Room) (y : MethodName) (cc : ByteArray) (nL : Nat) (ret : Option FieldType) (hh : List (Nat × Nat × Nat × Nat)) (args : List Value) (wc : va_W) (post : Option Value → va_W → Prop) : Prop :=
  ∀ sz : Nat, Met l y (.codeWith y cc nL ret hh :: ks_tbl) rm (va_Pc args (kt_pc D tys wc sz)) (ks_Q D tys post (va_A wc sz)) rm.cells rm.slots (va_A wc sz)
def kh_C (E : ks_E) (hh : List (Nat × Nat × Nat × Nat)) : Prop := match E with
  | (_, _, _, _, s, _, _, _, _, c, _, A) => kt_S s ∧ c.exceptionTable.toList = kh_tb hh ∧ ∀ (q : Nat) (cell : Cell), q < s.heap.size → A q → s.heap[q]? = some cell → cell.vm.isStatics = false
theorem kh_M.of {l : Launch} {D : va_G} {tys : List (ClassId × FieldType)} {rm : Room} {y : MethodName} {cc : ByteArray} {nL : Nat} {ret : Option FieldType} {hh : List (Nat × Nat × Nat × Nat)} {vs : List Value} {wc : va_W} {post : Option Value → va_W → Prop} (n : Nat) (hy : plainName y.cls = true) (hlen : (lg_sl vs).length ≤ nL) (body : ∀ E : ks_E, ks_ok E l D tys rm cc nL y.cls → kh_C E hh → ks_z E D tys rm ret wc post → ks_w E D nL wc (ks_ar vs ++ List.replicate n none) 0 0 0 []) : kh_M l D tys rm y cc nL ret hh vs wc post := by
  intro sz
  refine va_MetW (cc := cc) (maxL := nL) (ret := ret) (hh := hh) hy rfl ?_
  intro p e s m args below meth c s₁ B hml hv
  obtain ⟨rfl, ⟨hsz, hP, hK, hNw, hD0⟩, hSt⟩ := hv
  subst hsz
  have hts := atoms_spec (ws := .codeWith y cc nL ret hh :: ks_tbl) B.pre
  have hown : s.vm.findClass y.cls = some m.cls := findClass_of_methodNamed B.named
  have hl2 := lv_entry vs (n := nL) hlen
  have htab : c.exceptionTable.toList = kh_tb hh := by
    obtain ⟨m9, meth9, c9, h1, h2, h3, -, -, h6, -⟩ := Cond.codeWith_spec (hts (.codeWith y cc nL ret hh) List.mem_cons_self)
    have X := Stand.of_body B
    cases B.named.symm.trans h1
    cases Option.some.inj (X.method.symm.trans h2)
    cases Option.some.inj (X.code.symm.trans h3)
    exact kh_tb_of h6
  have h := body (p, l, e, rm, s, m, vs.toArray, below, meth, c, MQ below (ks_Q D tys post (va_A wc s.heap.size)) vs.toArray s rm.cells rm.slots (va_A wc s.heap.size), va_A wc s.heap.size)
    ⟨rfl, rfl, B.exec, B.bytes, hml, hown, fun w hw => hts w (List.mem_cons_of_mem _ hw), hK, fun q h => Or.inr h, B.notSynchronized, hNw⟩ ⟨hSt, htab, fun q cell hq hA hc => kt_apart hP hq hA hc⟩ ⟨B.returns, rfl, rfl⟩
  rw [lg_entry_eq]
  exact h s.heap [] _ hP (hD0.self (sz := s.heap.size)) va_S.rf (ks_lo_args hl2)
section KTF
variable {E : ks_E} {l0 : Launch} {D : va_G} {tys : List (ClassId × FieldType)} {R0 : Room} {cc : ByteArray} {nL : Nat} {own : String} {ws : va_W} {lo : List (Option Value)} {cs ss pc : Nat} {st : List Value}
/-- a callee that throws what one of the method's handlers takes -/
theorem ks_callC {y : MethodName} {bytes : ByteArray} {maxL : Nat} {ret : Option FieldType} {rm : Room} {n idx b : Nat} {As rest : List Value} {wc w1 : va_W} {cls : String} {q0 ci : Nat} {fs : List Value} {qc : vw_C} {hh : List (Nat × Nat × Nat × Nat)} (ws' : va_W) (C : ks_ok E l0 D tys R0 cc nL own) (K : kh_C E hh) (M : kt_M l0 D tys rm y bytes maxL ret (.ref b :: As) wc cls w1) (Y : ks_y y bytes maxL ret n) (hsel : Cond.selects y.cls y y ∈ ks_tbl) (hlink : Cond.methodLink own idx y ∈ ks_tbl) (hd : decode cc pc = .ok (.invokevirtual idx, 3)) (hci : vwCl[ci]? = some qc) (hqc : qc.1 = y.cls) (hrecv : wc[q0]? = some (b, .inr (ci, fs))) (isC isR is3 : List Nat) (hC : isC.map (fun i => ws[i]?) = wc.map some) (hR : isR.map (fun i => ws[i]?) = (isR.filterMap (fun i => ws[i]?)).map some) (hnC : va_nd isC = true) (hnR : va_nd isR = true) (hdis : ∀ i ∈ isR, i ∉ isC) (hn3 : va_nd is3 = true) (hw3 : is3.map (fun i => (isR.filterMap (fun i => ws[i]?) ++ w1)[i]?) = ws'.map some) (hst : st = As.reverse ++ .ref b :: rest) (hAs : As.length = n) (hroom : rm.frames + 1 ≤ R0.frames ∧ 8 + (maxL + 11) + rm.locals ≤ R0.locals) (hcell : cs + rm.cells ≤ R0.cells ∧ ss + rm.slots ≤ R0.slots) (hcat : (rest.map fun v => v.category).sum ≤ 8)
    (pre : List (Nat × Nat × Nat × Nat)) (x : Nat × Nat × Nat × Nat) (suf : List (Nat × Nat × Nat × Nat)) (hhh : hh = pre ++ x :: suf) (hpre : ∀ z ∈ pre, z.2.2.2 ≠ 0 ∧ ∃ nm ∈ kt_E5, cls ≠ nm ∧ Cond.classLink own z.2.2.2 nm ∈ ks_tbl) (hcov : (decide (x.1 ≤ pc) && decide (pc < x.2.1)) = true) (hct : x.2.2.2 ≠ 0) (hcl : Cond.classLink own x.2.2.2 cls ∈ ks_tbl) (hca : Cond.castable cls cls ∈ lw_tbl) (hE : cls ∈ kt_E5)
    (k : ∀ q : Nat, ks_w E D nL ws' lo (cs + rm.cells) (ss + rm.slots) x.2.2.1 [.ref q]) : ks_w E D nL ws lo cs ss pc st := by
  obtain ⟨p, l, e, R, s, m, args, below, meth, c, Q, A⟩ := E
  obtain ⟨hSt, htab, hap⟩ := K
  have C' := C
  obtain ⟨rfl, rfl, hx, hb, hml, hown, hts, hK, hA, hlocks, hNw⟩ := C'
  intro H locs ls hP hD hS hl
  refine kt_run C hSt hap M Y hsel hlink hci hqc hrecv isC isR hC hR hnC hnR hdis hroom hcell hst hAs hcat hd hP hD hS hl (fun q ce H' locs' g1 g2 g3 hP' hD' hS' => ?_)
  intro T hT X
  have hpl : e.platform.magicAccessors = ({} : Platform).magicAccessors := by rw [X.admits.platform]
  obtain ⟨c3, c4, hc3, hc4, hasg⟩ := Cond.castable_spec (hSt.1 args _ hca rfl)
  cases Option.some.inj (hc3.symm.trans g3)
  obtain ⟨c5, hc5, hcl5⟩ := Cond.classLink_spec hown (hts _ hcl) e.platform hpl
  cases Option.some.inj (hc4.symm.trans hc5)
  obtain ⟨vm', X', stc⟩ := X.thenCaughtThrough q (g := F0 m pc ls rest) rfl (Steps.refl _) (by rw [hT]; exact g1) (by rw [g2]; rfl) (by obtain ⟨k9, h9, -⟩ := Vm.findClass_spec g3; exact ⟨k9, h9⟩) (kh_tb pre) ⟨x.1, x.2.1, x.2.2.1, x.2.2.2⟩ (kh_tb suf) (by rw [htab, hhh]; simp [kh_tb])
    (fun z hz => by
      obtain ⟨z0, hz0, rfl⟩ := List.mem_map.mp hz
      obtain ⟨h1, nm, hnm, hne, hlk⟩ := hpre z0 hz0
      obtain ⟨c6, hc6, hcl6⟩ := Cond.classLink_spec hown (hts _ hlk) e.platform hpl
      obtain ⟨a8, b8, f1, f2, f3⟩ := hSt.2.2.2 cls hE nm hnm hne
      cases Option.some.inj (f1.symm.trans g3)
      cases Option.some.inj (f2.symm.trans hc6)
      exact Or.inr ⟨h1, _, hcl6, f3⟩) hcov (Or.inr ⟨hct, c4, hcl5, hasg⟩)
  obtain ⟨t, a1, b1⟩ := k q H' locs' ls (hP'.sub is3 (ks_fm hw3)) (hD'.sub is3 hn3 hw3) hS' hl (T.setVm vm') hT X'
  exact ⟨t, stc.trans a1, b1⟩
def kh_y (y : MethodName) (bytes : ByteArray) (maxL : Nat) (ret : Option FieldType) (hh : List (Nat × Nat × Nat × Nat)) (n : Nat) : Prop := Cond.codeWith y bytes maxL ret hh ∈ ks_tbl ∧ Cond.static y ∈ ks_tbl ∧ Cond.initialized y.cls ∈ ks_tbl ∧ y.cls ≠ "java/lang/invoke/MethodHandle" ∧ y.cls ≠ "java/lang/invoke/VarHandle" ∧ (parseMethodDescriptor y.desc).map (fun d => d.parameters.length) = some n
/-- invokestatic of a method with handlers -/
theorem ks_callS {y : MethodName} {bytes : ByteArray} {maxL : Nat} {ret : Option FieldType} {hh : List (Nat × Nat × Nat × Nat)} {rm : Room} {n idx : Nat} {As rest : List Value} {wc w1 : va_W} {x : Value} (ws' : va_W) (C : ks_ok E l0 D tys R0 cc nL own) (K : match E with | (_, _, _, _, s, _, _, _, _, _, _, A) => kt_S s ∧ ∀ (q : Nat) (cell : Cell), q < s.heap.size → A q → s.heap[q]? = some cell → cell.vm.isStatics = false) (M : kh_M l0 D tys rm y bytes maxL ret hh As wc (ks_f (some x) w1)) (Y : kh_y y bytes maxL ret hh n) (hlink : Cond.methodLink own idx y ∈ ks_tbl) (hd : decode cc pc = .ok (.invokestatic idx, 3)) (isC isR is3 : List Nat) (hC : isC.map (fun i => ws[i]?) = wc.map some) (hR : isR.map (fun i => ws[i]?) = (isR.filterMap (fun i => ws[i]?)).map some) (hnC : va_nd isC = true) (hnR : va_nd isR = true) (hdis : ∀ i ∈ isR, i ∉ isC) (hn3 : va_nd is3 = true) (hw3 : is3.map (fun i => (isR.filterMap (fun i => ws[i]?) ++ w1)[i]?) = ws'.map some) (hst : st = As.reverse ++ rest) (hAs : As.length = n) (hroom : rm.frames + 1 ≤ R0.frames ∧ 8 + (maxL + 11) + rm.locals ≤ R0.locals) (hcell : cs + rm.cells ≤ R0.cells ∧ ss + rm.slots ≤ R0.slots) (hcat : (rest.map fun v => v.category).sum ≤ 8) (k : ks_w E D nL ws' lo (cs + rm.cells) (ss + rm.slots) (pc + 3) (x :: rest)) : ks_w E D nL ws lo cs ss pc st := by
  obtain ⟨p, l, e, R, s, m, args, below, meth, c, Q, A⟩ := E
  obtain ⟨hSt, hap⟩ := K
  obtain ⟨rfl, rfl, hx, hb, hml, hown, hts, hK, hA, hlocks, hNw⟩ := C
  intro H locs ls hP hD hS hl
  subst hst
  have hPc := hP.sub (ws' := wc) isC (ks_fm hC)
  have hDc := hD.sub (ws' := wc) isC hnC hC
  have hpre := kt_pre (vs := As) hK hNw hSt (kt_hold hap hS) hPc hDc
  have hgood : GoodIn ks_tbl (Cond.codeWith y bytes maxL ret hh :: ks_tbl) := by
    intro w hw
    rcases List.mem_cons.mp hw with e | e
    · subst e; exact ⟨Y.1, ks_tblGood _ Y.1⟩
    · exact ⟨e, ks_tblGood _ e⟩
  have hcode := hts _ Y.1
  have hKb : Back l R p e below s args y 3 8 (PreOf R rm.cells rm.slots (va_Pc As (kt_pc D tys wc H.size))) (PostOf (ks_Q D tys (ks_f (some x) w1) (va_A wc H.size)) rm.cells rm.slots (va_A wc H.size)) :=
    va_backW (hh := hh) (bytes := bytes) (maxL := maxL) (ret := ret) (M H.size) hpre.1 rfl rfl hroom.1 hroom.2 (pay_in hts hgood) List.mem_cons_self (fun a' U hW => word_at hW (Or.inl (by first | rfl | simp [Cond.onTables, Cond.keeps, Cond.steady])) (hts _ Y.2.2.1))
  refine ks_run (tys := tys) (post := ks_f (some x) w1) (a := As.toArray) (mc := rm.cells) (ms := rm.slots) (rest := rest) isC isR hC hR hnR hdis hA hP hD hS hl ?_ (fun v w1' h => ?_)
  · intro T hT X
    obtain ⟨mk, methM, cM, hnamed, hmethM, -, -, -, -, -, -, hsigM⟩ := Cond.codeWith_spec hcode
    have hstatic : methM.isStatic = true := Cond.static_spec hnamed hmethM (hts _ Y.2.1)
    obtain ⟨kP, hkP, -⟩ := className_of_methodNamed hnamed
    have hinitP : kP.init = .initialized := Cond.initialized_spec (findClass_of_methodNamed hnamed) hkP (hts _ Y.2.2.1)
    have hlen : As.length = methM.sig.parameters.length := by
      have h2 := Y.2.2.2.2.2
      rw [hsigM] at h2
      exact hAs.trans (Option.some.inj h2).symm
    obtain ⟨vm₁, X₁, hstep₁⟩ := X.invokestatic hx hown (hts _ hlink) hnamed hmethM hstatic hkP hinitP ⟨Y.2.2.2.1, Y.2.2.2.2.1⟩ (g := F0 m pc ls (As.reverse ++ rest)) rfl (argsL := As) (rest := rest) hlen rfl (by rw [hb]; exact hd)
    obtain ⟨v, ⟨U', l2, c2, s2⟩, X', ⟨g', mk', t, L, e1, e2, hq, h1, hL, h2, h3⟩, hsteps⟩ := hKb m meth c ⟨T.setVm vm₁, locs, cs, ss⟩ { F0 m pc ls (As.reverse ++ rest) with stack := rest } (.invokestatic idx) mk As.toArray X₁ rfl (hl.1.trans hml.symm) (by rw [hb]; exact hd) (lv_room hcat) (X₁.named hnamed) ⟨hcell.1, hcell.2, hpre.2 (T.setVm vm₁) hT X₁.warmed⟩
    dsimp only [Pt.U, Pt.locs, Pt.cells, Pt.slots] at X' e1 e2 h1 h2 h3 hsteps
    subst h1; subst h2; subst h3
    exact ⟨v, (T.setVm vm₁).calling g' mk' As.toArray, t, U', L, hT, X', hL, e1, e2, hq, fun target h => hstep₁ _ fun acts => by rw [doInvoke_state]; exact hsteps.trans h⟩
  · obtain ⟨rfl, rfl⟩ := h
    intro H locs ls hP hD hS hl
    exact k H locs ls (hP.sub is3 (ks_fm hw3)) (hD.sub is3 hn3 hw3) hS hl
end KTF
