/-! calls with the world of the rest given; calls with any post -/
section KTG
variable {E : ks_E} {l0 : Launch} {D : va_G} {tys : List (ClassId × FieldType)} {R0 : Room} {cc : ByteArray} {nL : Nat} {own : String} {ws : va_W} {lo : List (Option Value)} {cs ss pc : Nat} {st : List Value}
theorem ks_cvW {y : MethodName} {bytes : ByteArray} {maxL : Nat} {ret : Option FieldType} {rm : Room} {n idx b : Nat} {As rest : List Value} {wc w1 : va_W} {q0 ci : Nat} {fs : List Value} {qc : vw_C} (ws' wr : va_W) (C : ks_ok E l0 D tys R0 cc nL own) (M : ks_M l0 D tys rm y bytes maxL ret (.ref b :: As) wc (ks_f none w1)) (Y : ks_y y bytes maxL ret n) (hsel : Cond.selects y.cls y y ∈ ks_tbl) (hlink : Cond.methodLink own idx y ∈ ks_tbl) (hd : decode cc pc = .ok (.invokevirtual idx, 3)) (hst : st = As.reverse ++ .ref b :: rest) (hci : vwCl[ci]? = some qc) (hqc : qc.1 = y.cls) (isC isR is3 : List Nat) (hC : isC.map (fun i => ws[i]?) = wc.map some) (hR : isR.map (fun i => ws[i]?) = wr.map some) (hnC : va_nd isC = true) (hnR : va_nd isR = true) (hdis : ∀ i ∈ isR, i ∉ isC) (hn3 : va_nd is3 = true) (hw3 : is3.map (fun i => (wr ++ w1)[i]?) = ws'.map some) (hrecv : wc[q0]? = some (b, .inr (ci, fs))) (hc0 : rm.cells = 0) (hs0 : rm.slots = 0) (hroom : rm.frames + 1 ≤ R0.frames ∧ 8 + (maxL + 11) + rm.locals ≤ R0.locals) (hcell : cs + rm.cells ≤ R0.cells ∧ ss + rm.slots ≤ R0.slots) (hAs : As.length = n) (hcat : (rest.map fun v => v.category).sum ≤ 8) (k : ks_w E D nL ws' lo cs ss (pc + 3) rest) : ks_w E D nL ws lo cs ss pc st :=
  ks_callVv C M Y hsel hlink hci hqc hrecv isC isR hC hR hnC hnR hdis is3 hn3 hw3 hc0 hs0 hroom hcell hst hAs hcat hd k
theorem ks_cxW {y : MethodName} {bytes : ByteArray} {maxL : Nat} {ret : Option FieldType} {rm : Room} {n idx b : Nat} {As rest : List Value} {wc w1 : va_W} {x : Value} {q0 ci : Nat} {fs : List Value} {qc : vw_C} (ws' wr : va_W) (C : ks_ok E l0 D tys R0 cc nL own) (M : ks_M l0 D tys rm y bytes maxL ret (.ref b :: As) wc (ks_f (some x) w1)) (Y : ks_y y bytes maxL ret n) (hsel : Cond.selects y.cls y y ∈ ks_tbl) (hlink : Cond.methodLink own idx y ∈ ks_tbl) (hd : decode cc pc = .ok (.invokevirtual idx, 3)) (hst : st = As.reverse ++ .ref b :: rest) (hci : vwCl[ci]? = some qc) (hqc : qc.1 = y.cls) (isC isR is3 : List Nat) (hC : isC.map (fun i => ws[i]?) = wc.map some) (hR : isR.map (fun i => ws[i]?) = wr.map some) (hnC : va_nd isC = true) (hnR : va_nd isR = true) (hdis : ∀ i ∈ isR, i ∉ isC) (hn3 : va_nd is3 = true) (hw3 : is3.map (fun i => (wr ++ w1)[i]?) = ws'.map some) (hrecv : wc[q0]? = some (b, .inr (ci, fs))) (hc0 : rm.cells = 0) (hs0 : rm.slots = 0) (hroom : rm.frames + 1 ≤ R0.frames ∧ 8 + (maxL + 11) + rm.locals ≤ R0.locals) (hcell : cs + rm.cells ≤ R0.cells ∧ ss + rm.slots ≤ R0.slots) (hAs : As.length = n) (hcat : (rest.map fun v => v.category).sum ≤ 8) (k : ks_w E D nL ws' lo cs ss (pc + 3) (x :: rest)) : ks_w E D nL ws lo cs ss pc st :=
  ks_callVx C M Y hsel hlink hci hqc hrecv isC isR hC hR hnC hnR hdis is3 hn3 hw3 hc0 hs0 hroom hcell hst hAs hcat hd k
theorem ks_callTW {y : MethodName} {bytes : ByteArray} {maxL : Nat} {ret : Option FieldType} {rm rm0 : Room} {n idx b : Nat} {As rest : List Value} {wc w1 w0 wT : va_W} {cls : String} {q0 ci : Nat} {fs : List Value} {qc : vw_C} (wr : va_W) (C : ks_ok E l0 D tys R0 cc nL own) (K : kt_C E) (Z : kt_z E D tys rm0 w0 cls wT) (M : kt_M l0 D tys rm y bytes maxL ret (.ref b :: As) wc cls w1) (Y : ks_y y bytes maxL ret n) (hsel : Cond.selects y.cls y y ∈ ks_tbl) (hlink : Cond.methodLink own idx y ∈ ks_tbl) (hd : decode cc pc = .ok (.invokevirtual idx, 3)) (hci : vwCl[ci]? = some qc) (hqc : qc.1 = y.cls) (hrecv : wc[q0]? = some (b, .inr (ci, fs))) (isC isR is3 : List Nat) (hC : isC.map (fun i => ws[i]?) = wc.map some) (hR : isR.map (fun i => ws[i]?) = wr.map some) (hnC : va_nd isC = true) (hnR : va_nd isR = true) (hdis : ∀ i ∈ isR, i ∉ isC) (hn3 : va_nd is3 = true) (hw3 : is3.map (fun i => (wr ++ w1)[i]?) = wT.map some) (hst : st = As.reverse ++ .ref b :: rest) (hAs : As.length = n) (hroom : rm.frames + 1 ≤ R0.frames ∧ 8 + (maxL + 11) + rm.locals ≤ R0.locals) (hcell : cs + rm.cells ≤ R0.cells ∧ ss + rm.slots ≤ R0.slots) (hcat : (rest.map fun v => v.category).sum ≤ 8) (hrc : cs + rm.cells = rm0.cells) (hrs : ss + rm.slots = rm0.slots) : ks_w E D nL ws lo cs ss pc st := by
  obtain ⟨p, l, e, R, s, m, args, below, meth, c, Q, A⟩ := E
  obtain ⟨hSt, hl9, hno, hap⟩ := K
  obtain ⟨rfl, rfl⟩ := Z
  have C' := C
  obtain ⟨rfl, rfl, hx, hb, hml, hown, hts, hK, hA, hlocks, hNw⟩ := C'
  intro H locs ls hP hD hS hl
  refine kt_run C hSt hap M Y hsel hlink hci hqc hrecv isC isR hC hR hnC hnR hdis hroom hcell hst hAs hcat hd hP hD hS hl (fun q ce H' locs' g1 g2 g3 hP' hD' hS' => ?_)
  intro T hT X
  obtain ⟨st1, hrun, hend, hW, hsm⟩ := X.leaveThrown q (g := F0 m pc ls rest) rfl rfl rfl (hno _) hlocks
  refine ⟨_, st1, q, hrun, hend, ⟨ce, ?_, g2, g3, ⟨?_, va_K.moved hW.alike hK, hD'.sub is3 hn3 hw3⟩, ?_⟩, locs', ⟨⟨_, rfl⟩, hW, by rw [← hrc, ← hrs]; exact hsm⟩, hS'.2.2⟩
  · show T.heap[q]? = some ce
    rw [hT]; exact g1
  · show va_P D vwCl wT T.heap
    rw [hT]; exact hP'.sub is3 (ks_fm hw3)
  · exact hS'.F hT
theorem ks_callCW {y : MethodName} {bytes : ByteArray} {maxL : Nat} {ret : Option FieldType} {rm : Room} {n idx b : Nat} {As rest : List Value} {wc w1 : va_W} {cls : String} {q0 ci : Nat} {fs : List Value} {qc : vw_C} {hh : List (Nat × Nat × Nat × Nat)} (ws' wr : va_W) (C : ks_ok E l0 D tys R0 cc nL own) (K : kh_C E hh) (M : kt_M l0 D tys rm y bytes maxL ret (.ref b :: As) wc cls w1) (Y : ks_y y bytes maxL ret n) (hsel : Cond.selects y.cls y y ∈ ks_tbl) (hlink : Cond.methodLink own idx y ∈ ks_tbl) (hd : decode cc pc = .ok (.invokevirtual idx, 3)) (hci : vwCl[ci]? = some qc) (hqc : qc.1 = y.cls) (hrecv : wc[q0]? = some (b, .inr (ci, fs))) (isC isR is3 : List Nat) (hC : isC.map (fun i => ws[i]?) = wc.map some) (hR : isR.map (fun i => ws[i]?) = wr.map some) (hnC : va_nd isC = true) (hnR : va_nd isR = true) (hdis : ∀ i ∈ isR, i ∉ isC) (hn3 : va_nd is3 = true) (hw3 : is3.map (fun i => (wr ++ w1)[i]?) = ws'.map some) (hst : st = As.reverse ++ .ref b :: rest) (hAs : As.length = n) (hroom : rm.frames + 1 ≤ R0.frames ∧ 8 + (maxL + 11) + rm.locals ≤ R0.locals) (hcell : cs + rm.cells ≤ R0.cells ∧ ss + rm.slots ≤ R0.slots) (hcat : (rest.map fun v => v.category).sum ≤ 8)
    (pre : List (Nat × Nat × Nat × Nat)) (x : Nat × Nat × Nat × Nat) (suf : List (Nat × Nat × Nat × Nat)) (hhh : hh = pre ++ x :: suf) (hpre : ∀ z ∈ pre, z.2.2.2 ≠ 0 ∧ ∃ nm ∈ kt_E5, cls ≠ nm ∧ Cond.classLink own z.2.2.2 nm ∈ ks_tbl) (hcov : (decide (x.1 ≤ pc) && decide (pc < x.2.1)) = true) (hct : x.2.2.2 ≠ 0) (hcl : Cond.classLink own x.2.2.2 cls ∈ ks_tbl) (hca : Cond.castable cls cls ∈ lw_tbl) (hE : cls ∈ kt_E5)
    (k : ∀ q : Nat, ks_w E D nL ws' lo (cs + rm.cells) (ss + rm.slots) x.2.2.1 [.ref q]) : ks_w E D nL ws lo cs ss pc st := by
  obtain ⟨p, l, e, R, s, m, args, below, meth, c, Q, A⟩ := E
  obtain ⟨hSt, htab, hap⟩ := K
  have C' := C
  obtain ⟨rfl, rfl, hx, hb, hml, hown, hts, hK, hA, hlocks, hNw⟩ := C'
  intro H locs ls hP hD hS hl
  refine kt_run C hSt hap M Y hsel hlink hci hqc hrecv isC isR hC hR hnC hnR hdis hroom hcell hst hAs hcat hd hP hD hS hl (fun q ce H' locs' g1 g2 g3 hP' hD' hS' => ?_)
  intro T hT X
  have hpl : e.platform.magicAccessors = ({} : Platform).magicAccessors := by rw [X.admits.platform]
  obtain ⟨c3, c4, hc3, hc4, hasg⟩ := Cond.castable_spec (hSt.1 args _ hca rfl)
  cases Option.some.inj (hc3.symm.trans g3)
  obtain ⟨c5, hc5, hcl5⟩ := Cond.classLink_spec hown (hts _ hcl) e.platform hpl
  cases Option.some.inj (hc4.symm.trans hc5)
  obtain ⟨vm', X', stc⟩ := X.thenCaughtThrough q (g := F0 m pc ls rest) rfl (Steps.refl _) (by rw [hT]; exact g1) (by rw [g2]; rfl) (by obtain ⟨k9, h9, -⟩ := Vm.findClass_spec g3; exact ⟨k9, h9⟩) (kh_tb pre) ⟨x.1, x.2.1, x.2.2.1, x.2.2.2⟩ (kh_tb suf) (by rw [htab, hhh]; simp [kh_tb])
    (fun z hz => by
      obtain ⟨z0, hz0, rfl⟩ := List.mem_map.mp hz
      obtain ⟨h1, nm, hnm, hne, hlk⟩ := hpre z0 hz0
      obtain ⟨c6, hc6, hcl6⟩ := Cond.classLink_spec hown (hts _ hlk) e.platform hpl
      obtain ⟨a8, b8, f1, f2, f3⟩ := hSt.2.2.2 cls hE nm hnm hne
      cases Option.some.inj (f1.symm.trans g3)
      cases Option.some.inj (f2.symm.trans hc6)
      exact Or.inr ⟨h1, _, hcl6, f3⟩) hcov (Or.inr ⟨hct, c4, hcl5, hasg⟩)
  obtain ⟨t, a1, b1⟩ := k q H' locs' ls (hP'.sub is3 (ks_fm hw3)) (hD'.sub is3 hn3 hw3) hS' hl (T.setVm vm') hT X'
  exact ⟨t, stc.trans a1, b1⟩
theorem ks_callSg {y : MethodName} {bytes : ByteArray} {maxL : Nat} {ret : Option FieldType} {hh : List (Nat × Nat × Nat × Nat)} {rm : Room} {n idx : Nat} {As rest : List Value} {wc : va_W} {post : Option Value → va_W → Prop} (wr : va_W) (C : ks_ok E l0 D tys R0 cc nL own) (K : match E with | (_, _, _, _, s, _, _, _, _, _, _, A) => kt_S s ∧ ∀ (q : Nat) (cell : Cell), q < s.heap.size → A q → s.heap[q]? = some cell → cell.vm.isStatics = false) (M : kh_M l0 D tys rm y bytes maxL ret hh As wc post) (Y : kh_y y bytes maxL ret hh n) (hlink : Cond.methodLink own idx y ∈ ks_tbl) (hd : decode cc pc = .ok (.invokestatic idx, 3)) (isC isR : List Nat) (hC : isC.map (fun i => ws[i]?) = wc.map some) (hR : isR.map (fun i => ws[i]?) = wr.map some) (hnC : va_nd isC = true) (hnR : va_nd isR = true) (hdis : ∀ i ∈ isR, i ∉ isC) (hst : st = As.reverse ++ rest) (hAs : As.length = n) (hroom : rm.frames + 1 ≤ R0.frames ∧ 8 + (maxL + 11) + rm.locals ≤ R0.locals) (hcell : cs + rm.cells ≤ R0.cells ∧ ss + rm.slots ≤ R0.slots) (hcat : (rest.map fun v => v.category).sum ≤ 8) (k : ∀ (v : Option Value) (w1 : va_W), post v w1 → ks_w E D nL (wr ++ w1) lo (cs + rm.cells) (ss + rm.slots) (pc + 3) (v.toList ++ rest)) : ks_w E D nL ws lo cs ss pc st := by
  obtain ⟨p, l, e, R, s, m, args, below, meth, c, Q, A⟩ := E
  obtain ⟨hSt, hap⟩ := K
  obtain ⟨rfl, rfl, hx, hb, hml, hown, hts, hK, hA, hlocks, hNw⟩ := C
  intro H locs ls hP hD hS hl
  subst hst
  have hPc := hP.sub (ws' := wc) isC (ks_fm hC)
  have hDc := hD.sub (ws' := wc) isC hnC hC
  have hpre := kt_pre (vs := As) hK hNw hSt (kt_hold hap hS) hPc hDc
  have hgood : GoodIn ks_tbl (Cond.codeWith y bytes maxL ret hh :: ks_tbl) := by
    intro w hw
    rcases List.mem_cons.mp hw with e | e
    · subst e; exact ⟨Y.1, ks_tblGood _ Y.1⟩
    · exact ⟨e, ks_tblGood _ e⟩
  have hcode := hts _ Y.1
  have hKb : Back l R p e below s args y 3 8 (PreOf R rm.cells rm.slots (va_Pc As (kt_pc D tys wc H.size))) (PostOf (ks_Q D tys post (va_A wc H.size)) rm.cells rm.slots (va_A wc H.size)) :=
    va_backW (hh := hh) (bytes := bytes) (maxL := maxL) (ret := ret) (M H.size) hpre.1 rfl rfl hroom.1 hroom.2 (pay_in hts hgood) List.mem_cons_self (fun a' U hW => word_at hW (Or.inl (by first | rfl | simp [Cond.onTables, Cond.keeps, Cond.steady])) (hts _ Y.2.2.1))
  refine ks_run (tys := tys) (post := post) (a := As.toArray) (mc := rm.cells) (ms := rm.slots) (rest := rest) isC isR hC hR hnR hdis hA hP hD hS hl ?_ (fun v w1' h => ?_)
  · intro T hT X
    obtain ⟨mk, methM, cM, hnamed, hmethM, -, -, -, -, -, -, hsigM⟩ := Cond.codeWith_spec hcode
    have hstatic : methM.isStatic = true := Cond.static_spec hnamed hmethM (hts _ Y.2.1)
    obtain ⟨kP, hkP, -⟩ := className_of_methodNamed hnamed
    have hinitP : kP.init = .initialized := Cond.initialized_spec (findClass_of_methodNamed hnamed) hkP (hts _ Y.2.2.1)
    have hlen : As.length = methM.sig.parameters.length := by
      have h2 := Y.2.2.2.2.2
      rw [hsigM] at h2
      exact hAs.trans (Option.some.inj h2).symm
    obtain ⟨vm₁, X₁, hstep₁⟩ := X.invokestatic hx hown (hts _ hlink) hnamed hmethM hstatic hkP hinitP ⟨Y.2.2.2.1, Y.2.2.2.2.1⟩ (g := F0 m pc ls (As.reverse ++ rest)) rfl (argsL := As) (rest := rest) hlen rfl (by rw [hb]; exact hd)
    obtain ⟨v, ⟨U', l2, c2, s2⟩, X', ⟨g', mk', t, L, e1, e2, hq, h1, hL, h2, h3⟩, hsteps⟩ := hKb m meth c ⟨T.setVm vm₁, locs, cs, ss⟩ { F0 m pc ls (As.reverse ++ rest) with stack := rest } (.invokestatic idx) mk As.toArray X₁ rfl (hl.1.trans hml.symm) (by rw [hb]; exact hd) (lv_room hcat) (X₁.named hnamed) ⟨hcell.1, hcell.2, hpre.2 (T.setVm vm₁) hT X₁.warmed⟩
    dsimp only [Pt.U, Pt.locs, Pt.cells, Pt.slots] at X' e1 e2 h1 h2 h3 hsteps
    subst h1; subst h2; subst h3
    exact ⟨v, (T.setVm vm₁).calling g' mk' As.toArray, t, U', L, hT, X', hL, e1, e2, hq, fun target h => hstep₁ _ fun acts => by rw [doInvoke_state]; exact hsteps.trans h⟩
  · exact k v w1' h
/-- the same cells in another order -/
theorem ks_ord {ws ws' : va_W} (is3 : List Nat) (hn3 : va_nd is3 = true) (hw3 : is3.map (fun i => ws[i]?) = ws'.map some) (k : ks_w E D nL ws' lo cs ss pc st) : ks_w E D nL ws lo cs ss pc st := by
  obtain ⟨p, l, e, R, s, m, args, below, meth, c, Q, A⟩ := E
  intro H locs ls hP hD hS hl
  exact k H locs ls (hP.sub is3 (ks_fm hw3)) (hD.sub is3 hn3 hw3) hS hl
end KTG
