/-! calls of methods that throw -/
def kt_Post (Qt : State → Addr → State → Prop) (mc ms : Nat) (free : Addr → Prop) : Pt → Array Value → Addr → Pt → Prop := fun A a q B =>
  ∃ (g : JFrame) (mk : MethodId) (t : State) (L : List Loc), B.U.heap = t.heap ∧ B.U.vm = t.vm ∧ Qt (A.U.calling g mk a) q t ∧ B.locs = A.locs ++ L ∧ (∀ z ∈ L, free z.base) ∧ B.cells = A.cells + mc ∧ B.slots = A.slots + ms
section KTD
variable {p : Program} {l : Launch} {e : Env} {R : Room} {s : State} {m : MethodId} {args : Array Value} {below : List Frame} {meth : Method} {c : Code} {H : Heap} {locs : List Loc} {cells slots : Nat} {Q : State → Prop}
theorem kt_back {y : MethodName} {ws : List Cond} {rm : Room} {Pc : Array Value → State → Prop} {Qt : State → Addr → State → Prop} {mc ms len W9 : Nat} {free : Addr → Prop} {bytes : ByteArray} {maxL : Nat} {ret : Option FieldType}
    (hM : kt_Met l y ws rm Pc Qt mc ms free) (hblind : FrameBlind Pc) (hrc : rm.cells = mc) (hrs : rm.slots = ms) (hframes : rm.frames + 1 ≤ R.frames) (hlocals : W9 + (maxL + 11) + rm.locals ≤ R.locals)
    (hws : ∀ w ∈ ws, ∀ a' U, s.WarmedH U.vm → w.before a' U = true) (hcode : Cond.code y bytes maxL ret ∈ ws) (hinit : ∀ a' U, s.WarmedH U.vm → (Cond.initialized y.cls).before a' U = true) :
    BackT l R p e below s args y len W9 (PreOf R mc ms Pc) (kt_Post Qt mc ms free) := by
  refine BackT.of_free (S := headSpec ws rm) (P := Pc) (K := fun _ _ _ _ _ => True) (Q := fun _ st o t => ∃ q, o = .threw q ∧ Qt st q t ∧ ∃ L, FrameEndT st o t L mc ms ∧ ∀ z ∈ L, free z.base) (bytes := bytes) (maxL := maxL) (ret := ret)
    (E := fun _ _ _ _ L k n => k = mc ∧ n = ms ∧ ∀ q ∈ L, free q.base) hM hframes hlocals ?_ ?_ (fun _ _ _ _ _ _ _ _ _ => trivial) ?_ ?_
  · intro m meth c A a X hp
    exact ⟨atoms_intro fun w hw => hws w hw _ _ X.warmed, hws _ hcode _ _ X.warmed, hinit _ _ X.warmed, by rw [show (headSpec ws rm).room.cells = mc from hrc]; exact hp.1, by rw [show (headSpec ws rm).room.slots = ms from hrs]; exact hp.2.1⟩
  · intro m meth c A a g mk X hp
    exact hblind _ _ _ _ hp.2.2
  · intro a st o t hq
    obtain ⟨q, -, -, L, hF, hL⟩ := hq
    exact ⟨L, mc, ms, hF, rfl, rfl, hL⟩
  · intro m meth c A a g mk v t L k n X hp hq hF hE
    obtain ⟨e1, e2, hL⟩ := hE
    subst e1; subst e2
    obtain ⟨q, hq1, hq2, -⟩ := hq
    cases hq1
    exact ⟨g, mk, t, L, rfl, rfl, hq2, rfl, hL, rfl, rfl⟩
theorem kz_callV {T : State} (X : Stand p l e R s m args below meth c T locs cells slots) (hexec : p.tables.exec = Jvm.exec) {own C : String} {index : Nat} {y : MethodName} {bytes : ByteArray} {maxL : Nat} {ret : Option FieldType}
    (hown : s.vm.findClass own = some m.cls) (hlink : (Cond.methodLink own index y).before args s = true) (hinst : (Cond.instanceMethod y).before args s = true) (hsel : (Cond.selects C y y).before args s = true)
    (hcode : (Cond.code y bytes maxL ret).before args s = true) (hy : y.cls ≠ "java/lang/invoke/MethodHandle" ∧ y.cls ≠ "java/lang/invoke/VarHandle")
    {W9 : Nat} {Pre : Pt → Array Value → Prop} {Post : Pt → Array Value → Addr → Pt → Prop} (hK : BackT l R p e below s args y 3 W9 Pre Post)
    {b : Addr} {cellB : Cell} (hcell : T.heap[b]? = some cellB) (hobj : cellB.vm.isStatics = false) (hcls : s.vm.findClass C = some cellB.cls)
    {g : JFrame} (hg : g.method = m) (hsize : g.locals.size = c.maxLocals) {argsL rest : List Value} (hlen : ∀ sig, parseMethodDescriptor y.desc = some sig → argsL.length = sig.parameters.length)
    (hstack : g.stack = argsL.reverse ++ .ref b :: rest) (hW : 2 * g.monitorRoom + (rest.map fun v => v.category).sum ≤ W9) (hdg : decode c.code g.pc = .ok (.invokevirtual index, 3))
    (hpre : ∀ vm₁, s.WarmedH vm₁ → Pre ⟨T.setVm vm₁, locs, cells, slots⟩ (Value.ref b :: argsL).toArray) :
    ∃ (q : Addr) (vm₁ : Vm) (B : Pt), s.WarmedH vm₁ ∧ Stand p l e R s m args below meth c B.U B.locs B.cells B.slots ∧ Post ⟨T.setVm vm₁, locs, cells, slots⟩ (Value.ref b :: argsL).toArray q B ∧
      ∀ target, Steps p.tables e below ((B.U.setTop { g with stack := rest }).pushFrame (.throwing q)) target → Steps p.tables e below (T.setTop g) target := by
  obtain ⟨mk, methM, hnamed, hmethM, hstM, habM⟩ := Cond.instanceMethod_spec hinst
  obtain ⟨methM', cM, hmethM', -, -, -, -, -, -, hsigM⟩ := Cond.code_spec hnamed hcode
  cases hmethM.symm.trans hmethM'
  obtain ⟨c2, r2, m2, q1, q2, q3, q4, kP, hkP, hkPi⟩ := Cond.selects_spec hsel
  cases hcls.symm.trans q1
  cases (State.methodFound?_of_named hnamed hy).symm.trans q2
  cases hnamed.symm.trans q3
  have hselP : selectMethod e.platform s.vm cellB.cls mk = .method mk := by rw [Launch.admits_selectMethod X.admits]; exact q4
  obtain ⟨vm₁, X₁, hstep₁⟩ := X.invokevirtual hexec hown hlink hnamed hmethM hstM hkP hkPi hy (a := b) (cell := cellB) hcell
    (fun z h => by rw [h] at hobj; cases hobj) hselP hmethM habM hkP hkPi (g := g) hg (argsL := argsL) (rest := rest) (hlen _ hsigM) hstack hdg
  obtain ⟨q, B, X', hpost, hsteps⟩ := hK m meth c ⟨T.setVm vm₁, locs, cells, slots⟩ { g with stack := rest } (.invokevirtual index) mk (Value.ref b :: argsL).toArray X₁ hg hsize hdg hW (X₁.named hnamed) (hpre vm₁ X₁.warmed)
  exact ⟨q, vm₁, B, X₁.warmed, X', hpost, fun target h => hstep₁ _ fun acts => by rw [doInvoke_state]; exact hsteps.trans h⟩
/-- the walk stands with q thrown in the frame g -/
def kz_X (p : Program) (l : Launch) (e : Env) (R : Room) (s : State) (m : MethodId) (args : Array Value) (below : List Frame) (meth : Method) (c : Code) (H : Heap) (locs : List Loc) (cells slots : Nat) (Q : State → Prop) (g : JFrame) (q : Addr) : Prop :=
  ∀ T : State, T.heap = H → Stand p l e R s m args below meth c T locs cells slots → ∃ t, Steps p.tables e below ((T.setTop g).pushFrame (.throwing q)) t ∧ Q t
end KTD
section KTE
variable {E : ks_E} {l0 : Launch} {D : va_G} {tys : List (ClassId × FieldType)} {R0 : Room} {cc : ByteArray} {nL : Nat} {own : String} {ws : va_W} {lo : List (Option Value)} {cs ss pc : Nat} {st : List Value}
theorem kt_pre {wc : va_W} {vs : List Value} {s : State} {H : Heap} {A : Nat → Prop} (hK : va_K D vwCl tys s) (hNw : ks_Nw s) (hSt : kt_S s) (hold : ∀ (q : Nat) (cell : Cell), s.heap[q]? = some cell → cell.vm.isStatics = true → H[q]? = some cell) (hPc : va_P D vwCl wc H) (hDc : va_D A wc) : FrameBlind (va_Pc vs (kt_pc D tys wc H.size)) ∧ ∀ U : State, U.heap = H → s.WarmedH U.vm → va_Pc vs (kt_pc D tys wc H.size) vs.toArray U :=
  ⟨fun a U g mk q => by obtain ⟨q0, ⟨q1, qP, qK, qN, qD⟩, qS⟩ := q; exact ⟨q0, ⟨q1, qP, va_K.moved (u := U) (U := U.calling g mk a) (Vm.Alike.refl U.vm) qK, ks_Nw.same (u := U) (U := U.calling g mk a) rfl qN, qD⟩, qS.go (U := U.calling g mk a) (State.WarmedH.refl U) (fun _ _ h _ => h)⟩, fun U hU hW => ⟨rfl, ⟨by rw [hU], by rw [hU]; exact hPc, va_K.moved hW.alike hK, hNw.warm hW, hDc.weaken (fun _ _ _ _ => trivial)⟩, hSt.go hW (by rw [hU]; exact hold)⟩⟩
theorem kt_run {y : MethodName} {bytes : ByteArray} {maxL : Nat} {ret : Option FieldType} {rm : Room} {n idx b : Nat} {As rest : List Value} {wc wr w1 : va_W} {cls : String} {q0 ci : Nat} {fs : List Value} {qc : vw_C} {p : Program} {l : Launch} {e : Env} {R : Room} {s : State} {m : MethodId} {args : Array Value} {below : List Frame} {meth : Method} {c : Code} {Q : State → Prop} {A : Nat → Prop} {H : Heap} {locs : List Loc} {ls : Array Slot}
    (C : ks_ok (p, l, e, R, s, m, args, below, meth, c, Q, A) l D tys R cc nL own) (hSt : kt_S s) (hap : ∀ (q : Nat) (cell : Cell), q < s.heap.size → A q → s.heap[q]? = some cell → cell.vm.isStatics = false) (M : kt_M l D tys rm y bytes maxL ret (.ref b :: As) wc cls w1) (Y : ks_y y bytes maxL ret n) (hsel : Cond.selects y.cls y y ∈ ks_tbl) (hlink : Cond.methodLink own idx y ∈ ks_tbl) (hci : vwCl[ci]? = some qc) (hqc : qc.1 = y.cls) (hrecv : wc[q0]? = some (b, .inr (ci, fs))) (isC isR : List Nat) (hC : isC.map (fun i => ws[i]?) = wc.map some) (hR : isR.map (fun i => ws[i]?) = wr.map some) (hnC : va_nd isC = true) (hnR : va_nd isR = true) (hdis : ∀ i ∈ isR, i ∉ isC) (hroom : rm.frames + 1 ≤ R.frames ∧ 8 + (maxL + 11) + rm.locals ≤ R.locals) (hcell : cs + rm.cells ≤ R.cells ∧ ss + rm.slots ≤ R.slots) (hst : st = As.reverse ++ .ref b :: rest) (hAs : As.length = n) (hcat : (rest.map fun v => v.category).sum ≤ 8) (hd : decode cc pc = .ok (.invokevirtual idx, 3))
    (hP : va_P D vwCl ws H) (hD : va_D A ws) (hS : va_S A s.heap H locs) (hl : lv_has ls nL (ks_lv lo))
    (k : ∀ (q : Addr) (ce : Cell) (H' : Heap) (locs' : List Loc), H'[q]? = some ce → ce.vm = .none → s.vm.findClass cls = some ce.cls → va_P D vwCl (wr ++ w1) H' → va_D A (wr ++ w1) → va_S A s.heap H' locs' → kz_X p l e R s m args below meth c H' locs' (cs + rm.cells) (ss + rm.slots) Q (F0 m pc ls rest) q) : W p l e R s m args below meth c H locs cs ss Q (F0 m pc ls st) := by
  obtain ⟨-, -, hx, hb, hml, hown, hts, hK, hA, hlocks, hNw⟩ := C
  subst hst
  have hPc := hP.sub (ws' := wc) isC (ks_fm hC)
  have hDc := hD.sub (ws' := wc) isC hnC hC
  have hpre := kt_pre (vs := .ref b :: As) hK hNw hSt (kt_hold hap hS) hPc hDc
  have hFc := va_free (wc := wc) hD hS hA isC hC
  have cw : CallW R s args own y.cls idx y bytes maxL ret (.code y bytes maxL ret :: ks_tbl) rm rm.cells rm.slots n := ⟨callB_of n hts (ks_good Y.1) rfl rfl rfl (hts _ Y.2.2.1) (hts _ hlink) Y.2.2.2 hroom, hts _ Y.2.1, hts _ hsel⟩
  obtain ⟨⟨hrc, hrs, hfr, hlo, hws, hcw, hcode, hini, hy, hlen, hlk⟩, hin, hse⟩ := cw
  have hKb : BackT l R p e below s args y 3 8 (PreOf R rm.cells rm.slots (va_Pc (.ref b :: As) (kt_pc D tys wc H.size))) (kt_Post (kt_Q D tys cls w1 (va_A wc H.size)) rm.cells rm.slots (va_A wc H.size)) :=
    kt_back (bytes := bytes) (maxL := maxL) (ret := ret) (M H.size) hpre.1 hrc hrs hfr hlo hws hcw (fun a' U hW => word_at hW (Or.inl (by first | rfl | simp [Cond.onTables, Cond.keeps, Cond.steady])) hini)
  obtain ⟨cellB, hcB, hoB, hclB⟩ := va_recv hK hPc hci hrecv
  intro T hT X
  obtain ⟨q, vm₁, ⟨U', l2, c2, s2⟩, hW₁, X', ⟨g', mk, t, L, e1, e2, hq, h1, hL, h2, h3⟩, stp⟩ := kz_callV X hx (C := y.cls) (bytes := bytes) (maxL := maxL) (ret := ret) hown hlk hin hse hcode hy hKb (by rw [hT]; exact hcB) hoB (by rw [← hqc]; exact hclB) (g := F0 m pc ls (As.reverse ++ .ref b :: rest)) rfl (hl.1.trans hml.symm) (argsL := As) (rest := rest) (fun sig h => hAs.trans (hlen sig h)) rfl (lv_room hcat) (by rw [hb]; exact hd)
    (fun vm₁ hW₁ => ⟨hcell.1, hcell.2, hpre.2 (T.setVm vm₁) hT hW₁⟩)
  dsimp only [Pt.U, Pt.locs, Pt.cells, Pt.slots] at X' e1 e2 h1 h2 h3 stp
  subst h1; subst h2; subst h3
  obtain ⟨ce, g1, g2, g3, ⟨hP1, hK1, hD1⟩, hz, hk⟩ := hq
  have h0 : ((T.setVm vm₁).calling g' mk (Value.ref b :: As).toArray).heap = H := hT
  have g4 : s.vm.findClass cls = some ce.cls := by
    have g5 : vm₁.findClass cls = some ce.cls := g3
    rwa [hW₁.alike.findClass] at g5
  rw [h0] at hz hk
  rw [← e1] at hz hk hP1 g1
  obtain ⟨hPn, hDn⟩ := va_join (wr := wr) (w1 := w1) hP hD isC isR hC hR hnR hdis (fun q h1 h2 => hk q h1 h2) hFc hP1 hD1
  obtain ⟨t2, a1, b1⟩ := k q ce U'.heap (locs ++ L) g1 g2 g4 hPn hDn
    ⟨Nat.le_trans hS.1 hz, fun q h1 h2 => by rw [hk q (Nat.lt_of_lt_of_le h1 hS.1) (fun z => h2 (hFc q z))]; exact hS.2.1 q h1 h2, fun q hq => by
      rcases List.mem_append.mp hq with h | h
      · exact hS.2.2 q h
      · exact hFc _ (hL q h)⟩ U' rfl X'
  exact ⟨t2, stp t2 a1, b1⟩
/-- a callee that throws, in a method without handlers: it goes on to the caller -/
theorem ks_callT {y : MethodName} {bytes : ByteArray} {maxL : Nat} {ret : Option FieldType} {rm rm0 : Room} {n idx b : Nat} {As rest : List Value} {wc w1 w0 wT : va_W} {cls : String} {q0 ci : Nat} {fs : List Value} {qc : vw_C} (C : ks_ok E l0 D tys R0 cc nL own) (K : kt_C E) (Z : kt_z E D tys rm0 w0 cls wT) (M : kt_M l0 D tys rm y bytes maxL ret (.ref b :: As) wc cls w1) (Y : ks_y y bytes maxL ret n) (hsel : Cond.selects y.cls y y ∈ ks_tbl) (hlink : Cond.methodLink own idx y ∈ ks_tbl) (hd : decode cc pc = .ok (.invokevirtual idx, 3)) (hci : vwCl[ci]? = some qc) (hqc : qc.1 = y.cls) (hrecv : wc[q0]? = some (b, .inr (ci, fs))) (isC isR is3 : List Nat) (hC : isC.map (fun i => ws[i]?) = wc.map some) (hR : isR.map (fun i => ws[i]?) = (isR.filterMap (fun i => ws[i]?)).map some) (hnC : va_nd isC = true) (hnR : va_nd isR = true) (hdis : ∀ i ∈ isR, i ∉ isC) (hn3 : va_nd is3 = true) (hw3 : is3.map (fun i => (isR.filterMap (fun i => ws[i]?) ++ w1)[i]?) = wT.map some) (hst : st = As.reverse ++ .ref b :: rest) (hAs : As.length = n) (hroom : rm.frames + 1 ≤ R0.frames ∧ 8 + (maxL + 11) + rm.locals ≤ R0.locals) (hcell : cs + rm.cells ≤ R0.cells ∧ ss + rm.slots ≤ R0.slots) (hcat : (rest.map fun v => v.category).sum ≤ 8) (hrc : cs + rm.cells = rm0.cells) (hrs : ss + rm.slots = rm0.slots) : ks_w E D nL ws lo cs ss pc st := by
  obtain ⟨p, l, e, R, s, m, args, below, meth, c, Q, A⟩ := E
  obtain ⟨hSt, hl9, hno, hap⟩ := K
  obtain ⟨rfl, rfl⟩ := Z
  have C' := C
  obtain ⟨rfl, rfl, hx, hb, hml, hown, hts, hK, hA, hlocks, hNw⟩ := C'
  intro H locs ls hP hD hS hl
  refine kt_run C hSt hap M Y hsel hlink hci hqc hrecv isC isR hC hR hnC hnR hdis hroom hcell hst hAs hcat hd hP hD hS hl (fun q ce H' locs' g1 g2 g3 hP' hD' hS' => ?_)
  intro T hT X
  obtain ⟨st1, hrun, hend, hW, hsm⟩ := X.leaveThrown q (g := F0 m pc ls rest) rfl rfl rfl (hno _) hlocks
  refine ⟨_, st1, q, hrun, hend, ⟨ce, ?_, g2, g3, ⟨?_, va_K.moved hW.alike hK, hD'.sub is3 hn3 hw3⟩, ?_⟩, locs', ⟨⟨_, rfl⟩, hW, by rw [← hrc, ← hrs]; exact hsm⟩, hS'.2.2⟩
  · show T.heap[q]? = some ce
    rw [hT]; exact g1
  · show va_P D vwCl wT T.heap
    rw [hT]; exact hP'.sub is3 (ks_fm hw3)
  · exact hS'.F hT
end KTE
