/-! constructors: rows for new, newarray, multianewarray, final fields, invokespecial -/
def kc_X (U : State) : Prop := (Cond.arrayOver (.array .byte)).before #[] U = true
theorem kc_X.moved {u U : State} (h : u.vm.Alike U.vm) (x : kc_X u) : kc_X U := over_moved h x
def kc_Y (E : ks_E) : Prop := match E with
  | (_, _, _, _, s, _, _, _, _, _, _, _) => kc_X s
def kc_I (E : ks_E) : Prop := match E with
  | (_, _, _, _, _, _, _, _, meth, _, _, _) => meth.name = "<init>"
def kc_M (l : Launch) (D : va_G) (tys : List (ClassId × FieldType)) (rm : Room) (y : MethodName) (cc : ByteArray) (nL : Nat) (args : List Value) (wc : va_W) (post : va_W → Prop) : Prop :=
  ∀ sz : Nat, Met l y (.code y cc nL none :: ks_tbl) rm (va_Pc args (fun U => U.heap.size = sz ∧ va_P D vwCl wc U.heap ∧ va_K D vwCl tys U ∧ ks_Nw U ∧ kc_X U ∧ va_D (fun _ => True) wc)) (ks_Q D tys (fun v w => v = none ∧ post w) (va_A wc sz)) rm.cells rm.slots (va_A wc sz)
section KCR
variable {E : ks_E} {l0 : Launch} {D : va_G} {tys : List (ClassId × FieldType)} {R0 : Room} {cc : ByteArray} {nL : Nat} {own : String} {ws : va_W} {lo : List (Option Value)} {cs ss pc : Nat} {st : List Value}
theorem kc_M.of {l : Launch} {rm : Room} {y : MethodName} {vs : List Value} {wc : va_W} {post : va_W → Prop} (n : Nat) (hy : plainName y.cls = true) (hyn : y.name = "<init>") (hlen : (lg_sl vs).length ≤ nL) (body : ∀ E : ks_E, ks_ok E l D tys rm cc nL y.cls → kc_I E → kc_Y E → ks_z E D tys rm none wc (fun v w => v = none ∧ post w) → ks_w E D nL wc (ks_ar vs ++ List.replicate n none) 0 0 0 []) : kc_M l D tys rm y cc nL vs wc post := by
  intro sz
  refine Met.ofW (cc := cc) (maxL := nL) (ret := none) hy rfl ?_
  intro p e s m args below meth c s₁ B hml hv
  obtain ⟨rfl, hsz, hP, hK, hNw, hX, hD0⟩ := hv
  subst hsz
  have hts := atoms_spec (ws := .code y cc nL none :: ks_tbl) B.pre
  have hown : s.vm.findClass y.cls = some m.cls := findClass_of_methodNamed B.named
  have hin : meth.name = "<init>" := (name_of_methodNamed B.named B.method).1.trans hyn
  have hl := lv_entry vs (n := nL) hlen
  have h := body (p, l, e, rm, s, m, vs.toArray, below, meth, c, MQ below (ks_Q D tys (fun v w => v = none ∧ post w) (va_A wc s.heap.size)) vs.toArray s rm.cells rm.slots (va_A wc s.heap.size), va_A wc s.heap.size)
    ⟨rfl, rfl, B.exec, B.bytes, hml, hown, fun w hw => hts w (List.mem_cons_of_mem _ hw), hK, fun q h => Or.inr h, B.notSynchronized, hNw⟩ hin hX ⟨B.returns, rfl, rfl⟩
  rw [lg_entry_eq]
  exact h s.heap [] _ hP (hD0.self (sz := s.heap.size)) va_S.rf (ks_lo_args hl)
theorem kc_new {ci N idx : Nat} {Cn : String} {T : u_T} {fs : List Value} (C : ks_ok E l0 D tys R0 cc nL own) (t0 : Nat → FieldType) (ht0 : ∀ k, k < N → parseFieldDescriptor (T k).2.2.1 = some (t0 k)) (hin : ∀ w ∈ u_ws Cn T N, w ∈ ks_tbl) (hc : vwCl[ci]? = some (Cn, T, N)) (hcl : Cond.classLink own idx Cn ∈ ks_tbl) (hinst : Cond.instantiable Cn N ∈ ks_tbl) (hini : Cond.initialized Cn ∈ ks_tbl) (hfs : ∀ j, j < N → defaultValue (t0 j) = vp_V fs j) (hcells : cs + 1 ≤ R0.cells ∧ ss + N ≤ R0.slots) (hd : decode cc pc = .ok (.new idx, 3)) (k : ∀ q : Nat, ks_w E D nL (ws ++ [(q, .inr (ci, fs))]) lo (cs + 1) (ss + N) (pc + 3) (.ref q :: st)) : ks_w E D nL ws lo cs ss pc st := by
  obtain ⟨p, l, e, R, s, m, args, below, meth, c, Q, A⟩ := E
  obtain ⟨-, rfl, hx, hb, hml, hown, hts, hK, hA, hlocks, hNw⟩ := C
  intro H locs ls hP hD hS hl
  exact va_new hx hb hts hin t0 ht0 hown (hts _ hcl) (hts _ hinst) (hts _ hini) hK hP hD hS hA hc hfs hcells.1 hcells.2 hd (fun q H1 hP1 hD1 hS1 => k q H1 locs ls hP1 hD1 hS1 hl)
theorem kc_newa {atype : ArrayType} {ty : FieldType} {n : Nat} {a0 : vp_A} {cA : ClassId} (C : ks_ok E l0 D tys R0 cc nL own) (t0 : Nat) (htt : tys[t0]? = some (cA, ty)) (hty : newarray.typeOf atype = ty) (hra : ∀ (U : State) (c : ClassId), va_RA U c ty → U.vm.findClass ("[" ++ ty.toString) = some c) (harr : Cond.arrayClass (newarray.typeOf atype) ∈ ks_tbl) (ha : ∀ c : ClassId, vp_cell c a0 = arrV c n (fun _ => defaultValue ty)) (hn : n < 2 ^ 31) (hbytes : n * componentBytes ty ≤ 536870912) (hcells : cs + 1 ≤ R0.cells ∧ ss + n ≤ R0.slots) (hd : decode cc pc = .ok (.newarray atype, 2)) (k : ∀ q : Nat, ks_w E D nL (ws ++ [(q, .inl (cA, a0))]) lo (cs + 1) (ss + n) (pc + 2) (.ref q :: st)) : ks_w E D nL ws lo cs ss pc (.int (nI n) :: st) := by
  obtain ⟨p, l, e, R, s, m, args, below, meth, c, Q, A⟩ := E
  obtain ⟨-, rfl, hx, hb, hml, hown, hts, hK, hA, hlocks, hNw⟩ := C
  intro H locs ls hP hD hS hl
  have hi : (nI n).toInt = (n : Int) := nI_toInt hn
  refine va_newa hx hb (hts _ harr) hty hK hP hD hS hA ha (fun z => ?_) (nI_clamp hn) hbytes hcells.1 hcells.2 hd (fun q c1 H1 hK1 hP1 hD1 hS1 => ?_)
  · have := Int32.lt_iff_toInt_lt.mp z
    rw [hi] at this
    have h0 : (0 : Int32).toInt = 0 := rfl
    omega
  · have e1 := hra _ _ (hK.2 t0 _ htt).2
    have e2 := hra _ _ (hK1.2 tys.length (c1, ty) (by simp)).2
    have e3 : c1 = cA := Option.some.inj (e2.symm.trans e1)
    subst e3
    exact k q H1 locs ls hP1 hD1 hS1 hl
theorem kc_obj {a idx : Nat} (C : ks_ok E l0 D tys R0 cc nL own) (hlink : Cond.methodLink own idx Lib.objectInit ∈ ks_tbl) (h1 : Cond.instanceMethod Lib.objectInit ∈ ks_tbl) (h2 : Cond.code Lib.objectInit ⟨#[0xb1]⟩ 1 none ∈ ks_tbl) (hR : 1 ≤ R0.frames ∧ 12 ≤ R0.locals) (hd : decode cc pc = .ok (.invokespecial idx, 3)) (k : ks_w E D nL ws lo cs ss (pc + 3) []) : ks_w E D nL ws lo cs ss pc [.ref a] := by
  obtain ⟨p, l, e, R, s, m, args, below, meth, c, Q, A⟩ := E
  obtain ⟨-, rfl, hx, hb, hml, hown, hts, hK, hA, hlocks, hNw⟩ := C
  intro H locs ls hP hD hS hl
  exact W.objInit hx hb hown (hts _ hlink) (hts _ h1) (hts _ h2) rfl (by rw [hml]; exact hl.1) rfl hd hR.1 hR.2 (k H locs ls hP hD hS hl)
theorem kc_putF {a k idx : Nat} {fs : List Value} {Cn ref : String} {T : u_T} {N : Nat} {v : Value} {ws' : va_W} (C : ks_ok E l0 D tys R0 cc nL own) (I : kc_I E) (q0 ci : Nat) (t0 : Nat → FieldType) (ht0 : ∀ k, k < N → parseFieldDescriptor (T k).2.2.1 = some (t0 k)) (hnm : ∀ a, a < N → ∀ b, b < N → a ≠ b → (T a).2.1 ≠ (T b).2.1) (hin : ∀ w ∈ u_ws Cn T N, w ∈ ks_tbl) (hc : vwCl[ci]? = some (Cn, T, N)) (hk : k < N) (hlink : Cond.fieldLink own idx ref (T k).2.1 (T k).2.2.1 ∈ ks_tbl) (hsame : (T k).1 = ref) (hfin : (T k).2.2.2 = true) (hdecl : (T k).1 = own) (hn : narrow (t0 k) v = v) (hfit : fits (t0 k) v = true) (he : ws[q0]? = some (a, .inr (ci, fs))) (hl0 : k < fs.length) (hw : ws.set q0 (a, .inr (ci, fs.set k v)) = ws') (hd : decode cc pc = .ok (.putfield idx, 3)) (kk : ks_w E D nL ws' lo cs ss (pc + 3) st) : ks_w E D nL ws lo cs ss pc (v :: .ref a :: st) := by
  obtain ⟨p, l, e, R, s, m, args, below, meth, c, Q, A⟩ := E
  obtain ⟨-, -, hx, hb, hml, hown, hts, hK, hA, hlocks, hNw⟩ := C
  intro H locs ls hP hD hS hl
  subst hw
  exact va_putF hx hb hts hin t0 ht0 hnm hown hK hP hD hS q0 he hc k hk (hts _ hlink) (fun x h => by rw [← hsame]; exact h) hfin I hdecl (ht0 k hk) hn hfit hl0 hd (fun H1 locs1 hP hD hS => kk H1 locs1 ls hP hD hS hl)
theorem kc_pre {wc : va_W} {vs : List Value} {s : State} {H : Heap} {A : Nat → Prop} (hK : va_K D vwCl tys s) (hNw : ks_Nw s) (hX : kc_X s) (hPc : va_P D vwCl wc H) (hDc : va_D A wc) : FrameBlind (va_Pc vs (fun U => U.heap.size = H.size ∧ va_P D vwCl wc U.heap ∧ va_K D vwCl tys U ∧ ks_Nw U ∧ kc_X U ∧ va_D (fun _ => True) wc)) ∧ ∀ U : State, U.heap = H → s.WarmedH U.vm → va_Pc vs (fun U => U.heap.size = H.size ∧ va_P D vwCl wc U.heap ∧ va_K D vwCl tys U ∧ ks_Nw U ∧ kc_X U ∧ va_D (fun _ => True) wc) vs.toArray U :=
  ⟨fun a U g mk q => by obtain ⟨q0, q1, qP, qK, qN, qX, qD⟩ := q; exact ⟨q0, q1, qP, va_K.moved (u := U) (U := U.calling g mk a) (Vm.Alike.refl U.vm) qK, ks_Nw.same (u := U) (U := U.calling g mk a) rfl qN, kc_X.moved (u := U) (U := U.calling g mk a) (Vm.Alike.refl U.vm) qX, qD⟩, fun U hU hW => ⟨rfl, by rw [hU], by rw [hU]; exact hPc, va_K.moved hW.alike hK, hNw.warm hW, hX.moved hW.alike, hDc.weaken (fun _ _ _ _ => trivial)⟩⟩
theorem kc_call {y : MethodName} {bytes : ByteArray} {maxL : Nat} {rm : Room} {n idx b : Nat} {As rest : List Value} {wc wr : va_W} {post : va_W → Prop} (C : ks_ok E l0 D tys R0 cc nL own) (X : kc_Y E) (M : kc_M l0 D tys rm y bytes maxL (.ref b :: As) wc post) (Y : ks_y y bytes maxL none n) (hyn : y.name = "<init>") (hlink : Cond.methodLink own idx y ∈ ks_tbl) (isC isR : List Nat) (hC : isC.map (fun i => ws[i]?) = wc.map some) (hR : isR.map (fun i => ws[i]?) = wr.map some) (hnC : va_nd isC = true) (hnR : va_nd isR = true) (hdis : ∀ i ∈ isR, i ∉ isC) (hroom : rm.frames + 1 ≤ R0.frames ∧ 8 + (maxL + 11) + rm.locals ≤ R0.locals) (hcell : cs + rm.cells ≤ R0.cells ∧ ss + rm.slots ≤ R0.slots) (hst : st = As.reverse ++ .ref b :: rest) (hAs : As.length = n) (hcat : (rest.map fun v => v.category).sum ≤ 8) (hd : decode cc pc = .ok (.invokespecial idx, 3)) (k : ∀ (w1 : va_W), post w1 → ks_w E D nL (wr ++ w1) lo (cs + rm.cells) (ss + rm.slots) (pc + 3) rest) : ks_w E D nL ws lo cs ss pc st := by
  obtain ⟨p, l, e, R, s, m, args, below, meth, c, Q, A⟩ := E
  obtain ⟨rfl, rfl, hx, hb, hml, hown, hts, hK, hA, hlocks, hNw⟩ := C
  intro H locs ls hP hD hS hl
  subst hst
  have hPc := hP.sub (ws' := wc) isC (ks_fm hC)
  have hDc := hD.sub (ws' := wc) isC hnC hC
  have hpre := kc_pre (vs := .ref b :: As) hK hNw X hPc hDc
  refine ks_run isC isR hC hR hnR hdis hA hP hD hS hl (va_runI (As := As) (rest := rest) ⟨hx, hb, hml, hown, hts⟩ (M H.size) (cwI n hts (ks_good Y.1) rfl rfl rfl (hts _ Y.2.2.1) (hts _ hlink) (hts _ Y.2.1) hyn Y.2.2.2 hroom) hpre rfl hAs hl.1 rfl (lv_room hcat) hd hcell) (fun v w1 h => ?_)
  obtain ⟨rfl, h⟩ := h
  exact k w1 h
theorem kc_callN {y : MethodName} {bytes : ByteArray} {maxL : Nat} {rm : Room} {n idx b : Nat} {host : String} {As rest : List Value} {wc wr : va_W} {post : va_W → Prop} (C : ks_ok E l0 D tys R0 cc nL own) (X : kc_Y E) (M : kc_M l0 D tys rm y bytes maxL (.ref b :: As) wc post) (Y : ks_y y bytes maxL none n) (hyn : y.name = "<init>") (hlink : ∀ U, ks_Nw U → va_Nw (.methodLinkNest own idx y host) U) (isC isR : List Nat) (hC : isC.map (fun i => ws[i]?) = wc.map some) (hR : isR.map (fun i => ws[i]?) = wr.map some) (hnC : va_nd isC = true) (hnR : va_nd isR = true) (hdis : ∀ i ∈ isR, i ∉ isC) (hroom : rm.frames + 1 ≤ R0.frames ∧ 8 + (maxL + 11) + rm.locals ≤ R0.locals) (hcell : cs + rm.cells ≤ R0.cells ∧ ss + rm.slots ≤ R0.slots) (hst : st = As.reverse ++ .ref b :: rest) (hAs : As.length = n) (hcat : (rest.map fun v => v.category).sum ≤ 8) (hd : decode cc pc = .ok (.invokespecial idx, 3)) (k : ∀ (w1 : va_W), post w1 → ks_w E D nL (wr ++ w1) lo (cs + rm.cells) (ss + rm.slots) (pc + 3) rest) : ks_w E D nL ws lo cs ss pc st := by
  obtain ⟨p, l, e, R, s, m, args, below, meth, c, Q, A⟩ := E
  obtain ⟨rfl, rfl, hx, hb, hml, hown, hts, hK, hA, hlocks, hNw⟩ := C
  intro H locs ls hP hD hS hl
  subst hst
  have hPc := hP.sub (ws' := wc) isC (ks_fm hC)
  have hDc := hD.sub (ws' := wc) isC hnC hC
  have hpre := kc_pre (vs := .ref b :: As) hK hNw X hPc hDc
  refine ks_run isC isR hC hR hnR hdis hA hP hD hS hl (va_runIN (As := As) (rest := rest) ⟨hx, hb, hml, hown, hts⟩ (M H.size) ⟨va_cnB n hts (ks_good Y.1) rfl rfl rfl (hlink _ hNw) (hts _ Y.2.2.1) Y.2.2.2 hroom, hyn, hts _ Y.2.1⟩ hpre rfl hAs hl.1 rfl (lv_room hcat) hd hcell) (fun v w1 h => ?_)
  obtain ⟨rfl, h⟩ := h
  exact k w1 h
end KCR
