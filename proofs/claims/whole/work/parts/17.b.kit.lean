/-! new byte[n][k] -/
theorem kc_outer (c : ClassId) (N h0 : Nat) : ∀ i : Nat, Jvm.Free.Multi.outerC c N h0 i = arrV c N (fun j => va_rf (if j < i then some (h0 + 1 + j) else none))
  | 0 => by
    show ({ cls := c, slots := Array.replicate N .null, vm := .none } : Cell) = _
    rw [arrV_new]
    refine congrArg (arrV c N) (funext fun j => ?_)
    simp [va_rf]
  | i + 1 => by
    show (Jvm.Free.Multi.outerC c N h0 i).setSlot i (.ref (h0 + 1 + i)) = _
    rw [kc_outer c N h0 i, arrV_store]
    refine congrArg (arrV c N) (funext fun j => ?_)
    by_cases e : j = i
    · subst e
      simp [updV, va_rf]
    · by_cases h : j < i
      · simp [updV, e, h, Nat.lt_succ_of_lt h]
      · simp [updV, e, h, show ¬ j < i + 1 by omega]
/-- cells that come one behind another -/
theorem kc_pushes {A : Nat → Prop} {D : va_G} {H : Heap} {ws : va_W} (hD : va_D A ws) (hlt : ∀ (k : Nat) (x : Nat × va_E), ws[k]? = some x → x.1 < H.size) (hA : ∀ q, H.size ≤ q → A q) (f : Nat → va_E) (n b : Nat) (hb : H.size ≤ b) (hb2 : ∀ (k : Nat) (x : Nat × va_E), ws[k]? = some x → x.1 < b) : va_D A (ws ++ (List.range n).map (fun i => (b + i, f i))) := by
  have hr : ∀ (k : Nat) (x : Nat × va_E), ((List.range n).map (fun i => ((b + i, f i) : Nat × va_E)))[k]? = some x → x.1 = b + k := fun k x hx => by
    rw [List.getElem?_map] at hx
    by_cases h9 : k < n
    · rw [List.getElem?_range h9] at hx
      cases hx
      rfl
    · have hn0 : (List.range n)[k]? = none := List.getElem?_eq_none (by rw [List.length_range]; omega)
      rw [hn0] at hx
      cases hx
  refine ⟨fun i j x y hi hj hxy => ?_, fun k x hx => ?_⟩
  · by_cases h1 : i < ws.length <;> by_cases h2 : j < ws.length
    · rw [List.getElem?_append_left h1] at hi
      rw [List.getElem?_append_left h2] at hj
      exact hD.1 i j x y hi hj hxy
    · rw [List.getElem?_append_left h1] at hi
      rw [List.getElem?_append_right (by omega)] at hj
      have := hb2 _ _ hi
      have := hr _ _ hj
      omega
    · rw [List.getElem?_append_right (by omega)] at hi
      rw [List.getElem?_append_left h2] at hj
      have := hb2 _ _ hj
      have := hr _ _ hi
      omega
    · rw [List.getElem?_append_right (by omega)] at hi hj
      have := hr _ _ hi
      have := hr _ _ hj
      omega
  · by_cases h1 : k < ws.length
    · rw [List.getElem?_append_left h1] at hx
      exact hD.2 k x hx
    · rw [List.getElem?_append_right (by omega)] at hx
      have := hr _ _ hx
      exact hA _ (by omega)
section KCM
variable {E : ks_E} {l0 : Launch} {D : va_G} {tys : List (ClassId × FieldType)} {R0 : Room} {cc : ByteArray} {nL : Nat} {own : String} {ws : va_W} {lo : List (Option Value)} {cs ss pc : Nat} {st : List Value}
theorem kc_mna {idx n k : Nat} {cA cy : ClassId} {z : vp_A} (C : ks_ok E l0 D tys R0 cc nL own) (X : kc_Y E) (t0 t1 : Nat) (htA : tys[t0]? = some (cA, .array .byte)) (htB : tys[t1]? = some (cy, .byte)) (hclink : Cond.classLink own idx "[[B" ∈ ks_tbl) (harr : Cond.arrayClass .byte ∈ ks_tbl) (hn : n < 2 ^ 27) (hk : k < 2 ^ 29) (hz : ∀ c : ClassId, Jvm.Free.Multi.innerC c k (defaultValue .byte) = vp_cell c z) (hcells : cs + (1 + n) ≤ R0.cells ∧ ss + (n + n * k) ≤ R0.slots) (hd : decode cc pc = .ok (.multianewarray idx 2, 4))
    (kk : ∀ q : Nat, ks_w E D nL ((ws ++ [(q, .inl (cA, n, .inr (.inr (.inr (.inr (fun i => if i < n then some (q + 1 + i) else none))))))]) ++ (List.range n).map (fun i => (q + 1 + i, .inl (cy, z)))) lo (cs + 1 + n) (ss + n + n * k) (pc + 4) (.ref q :: st)) : ks_w E D nL ws lo cs ss pc (.int (nI k) :: .int (nI n) :: st) := by
  obtain ⟨p, l, e, R, s, m, args, below, meth, c, Q, A⟩ := E
  obtain ⟨-, rfl, hx, hb, hml, hown, hts, hK, hA, hlocks, hNw⟩ := C
  intro H locs ls hP hD hS hl T hT Xs
  have hneg : ∀ {a : Nat}, a < 2 ^ 31 → ¬ nI a < 0 := fun {a} ha z => by
    have := Int32.lt_iff_toInt_lt.mp z
    rw [nI_toInt ha] at this
    have h0 : (0 : Int32).toInt = 0 := rfl
    omega
  have cn : (nI n).toNatClampNeg = n := nI_clamp (by omega)
  have ck : (nI k).toNatClampNeg = k := nI_clamp (by omega)
  obtain ⟨vm₁, cA', comp, -, fA, fC, hO, -, X', step⟩ := Xs.multianewarray2F (ty := .byte) hx hown (hts _ hclink) (show (Cond.arrayOver (.array .byte)).before args s = true from X) (hts _ harr) (g := F0 m pc ls (.int (nI k) :: .int (nI n) :: st)) rfl (by rw [hb]; exact hd) rfl (hneg (by omega)) (hneg (by omega)) (by rw [cn]; omega) (by rw [ck]; show k * 1 ≤ _; omega) (by rw [ck]; omega) rfl rfl (by rw [cn]; exact hcells.1) (by rw [cn, ck]; exact hcells.2)
  rw [cn, ck] at X' step
  have ec : comp = cy := Option.some.inj (fC.symm.trans (hK.2 t1 _ htB).2)
  have eA : cA' = cA := Option.some.inj (fA.symm.trans (hK.2 t0 _ htA).2)
  subst ec
  subst eA
  generalize hF : Jvm.Free.Multi.fill (T.setVm vm₁) cA' comp n k (defaultValue .byte) n = F at X' step
  have hTh : (T.setVm vm₁).heap = H := hT
  obtain ⟨f1, f2, -, -⟩ := Jvm.Free.Multi.fill_facts (T.setVm vm₁) cA' comp n k (defaultValue .byte) n
  rw [hF, hTh] at f1 f2
  have hold : ∀ x : Nat, x < H.size → F.heap[x]? = H[x]? := fun x hx => by
    have := Jvm.Free.Multi.fill_old (T.setVm vm₁) cA' comp n k (defaultValue .byte) (a := x) (by rw [hTh]; exact hx) n
    rw [hF, hTh] at this
    exact this
  have hrow : ∀ j : Nat, j < n → F.heap[H.size + 1 + j]? = some (vp_cell comp z) := fun j hj => by
    have := Jvm.Free.Multi.fill_inner (T.setVm vm₁) cA' comp n k (defaultValue .byte) n j hj
    rw [hF, hTh, hz] at this
    exact this
  have hout : Jvm.Free.Multi.outerC cA' n H.size n = vp_cell cA' (n, .inr (.inr (.inr (.inr (fun i => if i < n then some (H.size + 1 + i) else none))))) := by
    rw [vp_cell_q]
    exact kc_outer cA' n H.size n
  rw [hout] at f2
  have hP0 : va_P D vwCl ws F.heap := hP.kept (fun k9 x hx => hold x.1 ((hP k9 x hx).lt))
  have hP1 : va_P D vwCl (ws ++ [(H.size, .inl (cA', n, .inr (.inr (.inr (.inr (fun i => if i < n then some (H.size + 1 + i) else none))))))]) F.heap := hP0.app (fun k9 x hx => by
    have h0 : k9 < 1 := (List.getElem?_eq_some_iff.mp hx).1
    rw [show k9 = 0 by omega] at hx
    cases hx
    exact f2)
  have hP2 := hP1.app (w2 := (List.range n).map (fun i => (H.size + 1 + i, .inl (comp, z)))) (fun k9 x hx => by
    obtain ⟨i, hi, rfl⟩ := List.mem_map.mp (List.mem_of_getElem? hx)
    exact hrow i (List.mem_range.mp hi))
  have hD1 := hD.push (e := .inl (cA', n, .inr (.inr (.inr (.inr (fun i => if i < n then some (H.size + 1 + i) else none)))))) hP rfl (hA _ hS.1)
  have hlt1 : ∀ (k : Nat) (x : Nat × va_E), (ws ++ [(H.size, .inl (cA', n, .inr (.inr (.inr (.inr (fun i => if i < n then some (H.size + 1 + i) else none))))))])[k]? = some x → x.1 < H.size + 1 := fun k9 x hx => by
    rcases List.mem_append.mp (List.mem_of_getElem? hx) with h | h
    · obtain ⟨i, hi⟩ := List.getElem?_of_mem h
      exact Nat.lt_succ_of_lt ((hP i x hi).lt)
    · rw [List.mem_singleton.mp h]; exact Nat.lt_succ_self _
  have hD2 := kc_pushes (D := D) (H := H.push default) hD1 (by rw [Array.size_push]; exact hlt1) (fun q hq => hA q (Nat.le_trans hS.1 (by rw [Array.size_push] at hq; omega))) (fun _ => .inl (comp, z)) n (H.size + 1) (by rw [Array.size_push]; exact Nat.le_refl _) hlt1
  obtain ⟨t, a1, b1⟩ := kk H.size F.heap locs ls hP2 hD2 ⟨by rw [f1]; have := hS.1; omega, fun x h1 h2 => (hold x (Nat.lt_of_lt_of_le h1 hS.1)).trans (hS.2.1 x h1 h2), hS.2.2⟩ hl F rfl X'
  refine ⟨t, step t ?_, b1⟩
  have e : T.heap.size = H.size := by rw [hT]
  rw [e]
  exact a1
end KCM
