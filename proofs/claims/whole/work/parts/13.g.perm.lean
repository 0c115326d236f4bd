/-! worlds in another order; a callee's world at the front; more room than is used -/
theorem wn_iff {l : List Nat} : l.Nodup ↔ ∀ i j a : Nat, i < j → l[i]? = some a → l[j]? = some a → False := by
  unfold List.Nodup
  rw [List.pairwise_iff_getElem]
  constructor
  · intro h i j a hij hi hj
    have h1 := List.getElem?_eq_some_iff.mp hi
    have h2 := List.getElem?_eq_some_iff.mp hj
    exact h i j h1.1 h2.1 hij (h1.2.trans h2.2.symm)
  · intro h i j hi hj hij e
    exact h i j l[i] hij (List.getElem?_eq_getElem hi) (by rw [List.getElem?_eq_getElem hj, e])
theorem wp_iff {D : va_G} {cl : List vw_C} {ws : va_W} {H : Heap} : va_P D cl ws H ↔ ∀ q ∈ ws, va_at D cl q H :=
  ⟨fun h q hq => by obtain ⟨k, hk⟩ := List.getElem?_of_mem hq; exact h k q hk, fun h k q hk => h q (List.mem_of_getElem? hk)⟩
theorem wp_perm {D : va_G} {cl : List vw_C} {ws ws' : va_W} {H : Heap} (p : ws.Perm ws') (h : va_P D cl ws H) : va_P D cl ws' H := wp_iff.mpr (fun q hq => wp_iff.mp h q (p.mem_iff.mpr hq))
theorem wd_iff {A : Nat → Prop} {ws : va_W} : va_D A ws ↔ (ws.map (·.1)).Nodup ∧ ∀ q ∈ ws, A q.1 := by
  constructor
  · intro ⟨h1, h2⟩
    refine ⟨wn_iff.mpr (fun i j a hij hi hj => ?_), fun q hq => by obtain ⟨k, hk⟩ := List.getElem?_of_mem hq; exact h2 k q hk⟩
    rw [List.getElem?_map] at hi hj
    cases ei : ws[i]? with
    | none => rw [ei] at hi; simp at hi
    | some p =>
      cases ej : ws[j]? with
      | none => rw [ej] at hj; simp at hj
      | some q =>
        rw [ei] at hi
        rw [ej] at hj
        have e1 : p.1 = a := by simpa using hi
        have e2 : q.1 = a := by simpa using hj
        have := h1 i j p q ei ej (by rw [e1, e2])
        omega
  · intro ⟨h1, h2⟩
    refine ⟨fun i j p q hi hj e => ?_, fun k q hk => h2 q (List.mem_of_getElem? hk)⟩
    have li := (List.getElem?_eq_some_iff.mp hi).1
    have lj := (List.getElem?_eq_some_iff.mp hj).1
    have ei : (ws.map (·.1))[i]? = some p.1 := by rw [List.getElem?_map, hi]; rfl
    have ej : (ws.map (·.1))[j]? = some q.1 := by rw [List.getElem?_map, hj]; rfl
    rcases Nat.lt_trichotomy i j with y | y | y
    · exact (wn_iff.mp h1 i j q.1 y (by rw [ei, e]) ej).elim
    · exact y
    · exact (wn_iff.mp h1 j i q.1 y ej (by rw [ei, e])).elim
theorem wd_perm {A : Nat → Prop} {ws ws' : va_W} (p : ws.Perm ws') (h : va_D A ws) : va_D A ws' := by
  obtain ⟨h1, h2⟩ := wd_iff.mp h
  exact wd_iff.mpr ⟨(p.map _).nodup_iff.mp h1, fun q hq => h2 q (p.mem_iff.mpr hq)⟩
theorem wa_iff {ws : va_W} {sz q : Nat} : va_A ws sz q ↔ (∃ e, (q, e) ∈ ws) ∨ sz ≤ q := by
  constructor
  · rintro (⟨k, e, h⟩ | h)
    · exact .inl ⟨e, List.mem_of_getElem? h⟩
    · exact .inr h
  · rintro (⟨e, h⟩ | h)
    · obtain ⟨k, hk⟩ := List.getElem?_of_mem h
      exact .inl ⟨k, e, hk⟩
    · exact .inr h
/-- the places of two worlds, one behind the other -/
theorem wi_C (wc wr : va_W) : (List.range wc.length).map (fun i => (wc ++ wr)[i]?) = wc.map some := by
  apply List.ext_getElem?
  intro k
  rw [List.getElem?_map, List.getElem?_map]
  by_cases z : k < wc.length
  · rw [List.getElem?_range z, List.getElem?_eq_getElem z]
    show some (wc ++ wr)[k]? = _
    rw [List.getElem?_append_left z, List.getElem?_eq_getElem z]; rfl
  · rw [List.getElem?_eq_none (by simpa using z), List.getElem?_eq_none (by omega)]; rfl
theorem wi_R (wc wr : va_W) : ((List.range wr.length).map (· + wc.length)).map (fun i => (wc ++ wr)[i]?) = wr.map some := by
  apply List.ext_getElem?
  intro k
  rw [List.getElem?_map, List.getElem?_map, List.getElem?_map]
  by_cases z : k < wr.length
  · rw [List.getElem?_range z, List.getElem?_eq_getElem z]
    show some (wc ++ wr)[k + wc.length]? = _
    rw [List.getElem?_append_right (by omega), Nat.add_sub_cancel, List.getElem?_eq_getElem z]; rfl
  · rw [List.getElem?_eq_none (by simpa using z), List.getElem?_eq_none (by omega)]; rfl
theorem wi_nd : ∀ l : List Nat, l.Nodup → va_nd l = true
  | [], _ => rfl
  | a :: l, h => by
    rw [va_nd, decide_eq_true (List.nodup_cons.mp h).1, Bool.true_and]
    exact wi_nd l (List.nodup_cons.mp h).2
theorem wi_ndR (n m : Nat) : va_nd ((List.range n).map (· + m)) = true := wi_nd _ (wn_iff.mpr (fun i j a hij hi hj => by
  have li := (List.getElem?_eq_some_iff.mp hi).1
  have lj := (List.getElem?_eq_some_iff.mp hj).1
  rw [List.length_map, List.length_range] at li lj
  rw [List.getElem?_map, List.getElem?_range li] at hi
  rw [List.getElem?_map, List.getElem?_range lj] at hj
  simp at hi hj
  omega))
theorem wi_dis (n m : Nat) : ∀ i ∈ (List.range n).map (· + m), i ∉ List.range m := by
  intro i hi
  obtain ⟨k, -, rfl⟩ := List.mem_map.mp hi
  simp
/-- a contract, with cells beside its own -/
theorem kh_frame {l : Launch} {D : va_G} {tys : List (ClassId × FieldType)} {rm : Room} {y : MethodName} {cc : ByteArray} {nL : Nat} {ret : Option FieldType} {hh : List (Nat × Nat × Nat × Nat)} {vs : List Value} {wc w1 wr full full' : va_W} {x : Option Value} (M : kh_M l D tys rm y cc nL ret hh vs wc (ks_f x w1)) (h1 : full.Perm (wc ++ wr)) (h2 : full'.Perm (w1 ++ wr)) : kh_M l D tys rm y cc nL ret hh vs full (ks_f x full') := fun sz => by
  intro p e ha hc hk s m args below hf happ hP hK
  obtain ⟨rfl, ⟨hsz, hPf, hKk, hNw, hDf⟩, hSt⟩ := hP
  have hPn := wp_perm h1 hPf
  have hDn := wd_perm h1 hDf
  have hPc : va_P D vwCl wc s.heap := wp_iff.mpr (fun q hq => wp_iff.mp hPn q (List.mem_append_left _ hq))
  have hDc : va_D (fun _ => True) wc := by
    have := (wd_iff.mp hDn).1
    rw [List.map_append] at this
    exact wd_iff.mpr ⟨(List.nodup_append.mp this).1, fun _ _ => trivial⟩
  have hsub : ∀ q, va_A wc sz q → va_A full sz q := fun q hq => by
    rcases wa_iff.mp hq with ⟨e, he⟩ | hq
    · exact wa_iff.mpr (.inl ⟨e, h1.mem_iff.mpr (List.mem_append_left _ he)⟩)
    · exact wa_iff.mpr (.inr hq)
  obtain ⟨n, o, g1, g2, g3, ⟨v, w1', ⟨rfl, rfl⟩, ho, ⟨hP1, hK1, hD1⟩, hF⟩, L, hE, hL⟩ := M sz p e ha hc hk s m _ below hf happ ⟨rfl, ⟨hsz, hPc, hKk, hNw, hDc⟩, hSt⟩ hK
  have hDA : va_D (va_A full sz) (wc ++ wr) := wd_iff.mpr ⟨(wd_iff.mp hDn).1, fun q hq => wa_iff.mpr (.inl ⟨q.2, h1.mem_iff.mpr hq⟩)⟩
  obtain ⟨j1, j2⟩ := va_join (A0 := va_A full sz) hPn hDA (List.range wc.length) ((List.range wr.length).map (· + wc.length)) (wi_C wc wr) (wi_R wc wr) (wi_ndR _ _) (wi_dis _ _) (fun q hq hn => hF.2 q hq (fun z => hn (by rw [hsz]; exact z))) (fun q hq => hsub q (by rw [hsz] at hq; exact hq)) hP1 (by rw [hsz]; exact hD1)
  have pp : (wr ++ w1').Perm full' := (List.perm_append_comm).trans h2.symm
  exact ⟨n, o, g1, g2, g3, ⟨v, full', ⟨rfl, rfl⟩, ho, ⟨wp_perm pp j1, hK1, wd_perm pp j2⟩, hF.1, fun q hq hn => hF.2 q hq (fun z => hn (hsub q z))⟩, L, hE, fun q hq => hsub _ (hL q hq)⟩
section KTH
variable {E : ks_E} {l0 : Launch} {D : va_G} {tys : List (ClassId × FieldType)} {R0 : Room} {cc : ByteArray} {nL : Nat} {own : String} {ws : va_W} {lo : List (Option Value)} {cs ss pc : Nat} {st : List Value}
theorem ks_perm {ws' : va_W} (p : ws.Perm ws') (k : ks_w E D nL ws' lo cs ss pc st) : ks_w E D nL ws lo cs ss pc st := by
  obtain ⟨p0, l, e, R, s, m, args, below, meth, c, Q, A⟩ := E
  intro H locs ls hP hD hS hl
  exact k H locs ls (wp_perm p hP) (wd_perm p hD) hS hl
theorem ks_more {cs' ss' : Nat} (h1 : cs ≤ cs') (h2 : ss ≤ ss') (k : ks_w E D nL ws lo cs' ss' pc st) : ks_w E D nL ws lo cs ss pc st := by
  obtain ⟨p0, l, e, R, s, m, args, below, meth, c, Q, A⟩ := E
  intro H locs ls hP hD hS hl T hT X
  exact k H locs ls hP hD hS hl T hT { X with same := X.same.mono h1 h2 }
/-- a static call: the callee's cells stand at the front -/
theorem ks_callSb {y : MethodName} {bytes : ByteArray} {maxL : Nat} {ret : Option FieldType} {hh : List (Nat × Nat × Nat × Nat)} {rm : Room} {n idx : Nat} {As rest : List Value} {wc wr : va_W} {post : Option Value → va_W → Prop} (C : ks_ok E l0 D tys R0 cc nL own) (K : match E with | (_, _, _, _, s, _, _, _, _, _, _, A) => kt_S s ∧ ∀ (q : Nat) (cell : Cell), q < s.heap.size → A q → s.heap[q]? = some cell → cell.vm.isStatics = false) (M : kh_M l0 D tys rm y bytes maxL ret hh As wc post) (Y : kh_y y bytes maxL ret hh n) (hlink : Cond.methodLink own idx y ∈ ks_tbl) (hd : decode cc pc = .ok (.invokestatic idx, 3)) (hst : st = As.reverse ++ rest) (hAs : As.length = n) (hroom : rm.frames + 1 ≤ R0.frames ∧ 8 + (maxL + 11) + rm.locals ≤ R0.locals) (hcell : cs + rm.cells ≤ R0.cells ∧ ss + rm.slots ≤ R0.slots) (hcat : (rest.map fun v => v.category).sum ≤ 8) (k : ∀ (v : Option Value) (w1 : va_W), post v w1 → ks_w E D nL (w1 ++ wr) lo (cs + rm.cells) (ss + rm.slots) (pc + 3) (v.toList ++ rest)) : ks_w E D nL (wc ++ wr) lo cs ss pc st :=
  ks_callSg wr C K M Y hlink hd (List.range wc.length) ((List.range wr.length).map (· + wc.length)) (wi_C wc wr) (wi_R wc wr) (by have := wi_ndR wc.length 0; simpa using this) (wi_ndR _ _) (wi_dis _ _) hst hAs hroom hcell hcat (fun v w1 h => ks_perm List.perm_append_comm (k v w1 h))
/-- a call of a method, its cells at the front -/
theorem ks_callVb {y : MethodName} {bytes : ByteArray} {maxL : Nat} {ret : Option FieldType} {rm : Room} {n idx b : Nat} {As rest : List Value} {wc wr : va_W} {post : Option Value → va_W → Prop} {q0 ci : Nat} {fs : List Value} {qc : vw_C} (C : ks_ok E l0 D tys R0 cc nL own) (M : ks_M l0 D tys rm y bytes maxL ret (.ref b :: As) wc post) (Y : ks_y y bytes maxL ret n) (hsel : Cond.selects y.cls y y ∈ ks_tbl) (hlink : Cond.methodLink own idx y ∈ ks_tbl) (hci : vwCl[ci]? = some qc) (hqc : qc.1 = y.cls) (hrecv : wc[q0]? = some (b, .inr (ci, fs))) (hroom : rm.frames + 1 ≤ R0.frames ∧ 8 + (maxL + 11) + rm.locals ≤ R0.locals) (hcell : cs + rm.cells ≤ R0.cells ∧ ss + rm.slots ≤ R0.slots) (hst : st = As.reverse ++ .ref b :: rest) (hAs : As.length = n) (hcat : (rest.map fun v => v.category).sum ≤ 8) (hd : decode cc pc = .ok (.invokevirtual idx, 3)) (k : ∀ (v : Option Value) (w1 : va_W), post v w1 → ks_w E D nL (w1 ++ wr) lo (cs + rm.cells) (ss + rm.slots) (pc + 3) (v.toList ++ rest)) : ks_w E D nL (wc ++ wr) lo cs ss pc st :=
  ks_callVr C M Y hsel hlink hci hqc hrecv (List.range wc.length) ((List.range wr.length).map (· + wc.length)) (wi_C wc wr) (wi_R wc wr) (by have := wi_ndR wc.length 0; simpa using this) (wi_ndR _ _) (wi_dis _ _) hroom hcell hst hAs hcat hd (fun v w1 h => ks_perm List.perm_append_comm (k v w1 h))
end KTH
