/-! PURE, the 26th: put, remove, tree and drop over all trees -/
theorem kp_szl_app (l m : List kp_KV) : kp_szl (l ++ m) = kp_szl l + kp_szl m := by unfold kp_szl; rw [List.map_append, List.sum_append]
theorem kp_szl_cons (e : kp_KV) (m : List kp_KV) : kp_szl (e :: m) = (16 + e.1.length + e.2.length) + kp_szl m := by unfold kp_szl; rw [List.map_cons, List.sum_cons]
theorem kp_szl_in (l : List kp_KV) (i : Nat) (e : kp_KV) : kp_szl (kp_in l i e) = kp_szl l + (16 + e.1.length + e.2.length) := by
  unfold kp_in
  rw [kp_szl_app, kp_szl_cons]
  have := kp_szl_app (l.take i) (l.drop i)
  rw [List.take_append_drop] at this
  omega
theorem kp_kv_dec {A C : List kp_KV} {K V : List UInt8} (h : kp_kv (A ++ C)) (h1 : ∀ e ∈ A, kp_c e.1 K < 0) (h2 : ∀ e ∈ C, kp_c K e.1 < 0) (hK : 1 ≤ K.length) (hK2 : K.length ≤ 8448) (hV : V.length ≤ 8448) : kp_kv (A ++ (K, V) :: C) := by
  obtain ⟨p, q⟩ := h
  rw [List.pairwise_append] at p
  refine ⟨?_, fun e he => ?_⟩
  · rw [List.pairwise_append]
    refine ⟨p.1, List.pairwise_cons.mpr ⟨h2, p.2.1⟩, fun a ha b hb => ?_⟩
    rcases List.mem_cons.mp hb with y | y
    · rw [y]; exact h1 a ha
    · exact p.2.2 a ha b y
  · rcases List.mem_append.mp he with y | y
    · exact q e (List.mem_append_left _ y)
    · rcases List.mem_cons.mp y with y | y
      · rw [y]; exact ⟨hK, hK2, hV⟩
      · exact q e (List.mem_append_right _ y)
theorem kp_kv_sub {A C : List kp_KV} {e : kp_KV} (h : kp_kv (A ++ e :: C)) : kp_kv (A ++ C) := by
  obtain ⟨p, q⟩ := h
  have hs : (A ++ C).Sublist (A ++ e :: C) := List.Sublist.append (List.Sublist.refl _) (List.sublist_cons_self _ _)
  exact ⟨p.sublist hs, fun x hx => q x (hs.mem hx)⟩
/-- cut at the KEY's place -/
theorem kp_cut {l : List kp_KV} {K : List UInt8} (h : kp_kv l) : ∃ A C, l = A ++ C ∧ A.length = kp_lo l K ∧ (∀ e ∈ A, kp_c e.1 K < 0) ∧ (kp_is l K = false → ∀ e ∈ C, kp_c K e.1 < 0) ∧ (kp_is l K = true → ∃ v C', C = (K, v) :: C' ∧ ∀ e ∈ C', kp_c K e.1 < 0) := by
  have hle := kp_lo_le l K
  refine ⟨l.take (kp_lo l K), l.drop (kp_lo l K), (List.take_append_drop _ _).symm, by simp; omega, fun e he => ?_, fun hi e he => ?_, fun hi => ?_⟩
  · obtain ⟨x, hx⟩ := List.getElem?_of_mem he
    have hxl := (List.getElem?_eq_some_iff.mp hx).1
    have : x < kp_lo l K := by simp at hxl; omega
    rw [List.getElem?_take_of_lt this] at hx
    exact kp_lo_bef this hx
  · obtain ⟨x, hx⟩ := List.getElem?_of_mem he
    rw [List.getElem?_drop] at hx
    have hl0 : kp_lo l K < l.length := by have := (List.getElem?_eq_some_iff.mp hx).1; omega
    obtain ⟨e0, h0⟩ : ∃ e0, l[kp_lo l K]? = some e0 := ⟨_, List.getElem?_eq_getElem hl0⟩
    have hn := kp_lo_at h0
    have hne : e0.1 ≠ K := fun y => by
      have : kp_is l K = true := kp_is_iff.mpr ⟨e0.2, by rw [h0]; obtain ⟨a, b⟩ := e0; simp only at y; rw [y]⟩
      rw [this] at hi; simp at hi
    have hlt : kp_c K e0.1 < 0 := by
      rcases kp_c_tri e0.1 K with y | y | y
      · exact absurd y hn
      · exact absurd y hne
      · exact y
    cases x with
    | zero =>
      rw [Nat.add_zero, h0] at hx
      rw [← Option.some.inj hx]; exact hlt
    | succ x => exact kp_c_trans hlt (kp_pw_at h.1 h0 hx (by omega))
  · obtain ⟨v, hv⟩ := kp_is_iff.mp hi
    have hl0 := (List.getElem?_eq_some_iff.mp hv).1
    refine ⟨v, l.drop (kp_lo l K + 1), ?_, fun e he => ?_⟩
    · rw [List.drop_eq_getElem_cons hl0, (List.getElem?_eq_some_iff.mp hv).2]
    · obtain ⟨x, hx⟩ := List.getElem?_of_mem he
      rw [List.getElem?_drop] at hx
      exact kp_pw_at h.1 hv hx (by omega)
theorem kp_in_cut {α : Type} {l A C : List α} {i : Nat} (e : α) (h : l = A ++ C) (hi : A.length = i) : kp_in l i e = A ++ e :: C := by rw [h, ← hi]; exact kp_in_dec _ _ _
theorem kp_E3 {t : Nat} : ∀ a ∈ [32 + 4 * t, 32 + 4 * t + 2, 8], a = 32 + 4 * t ∨ a = 32 + 4 * t + 2 ∨ a < 32 := by simp
/-- an ENTRY that was not there comes in -/
theorem kp_putNew {M : kv_M} {A : kp_A} (h : kp_inv M.1 A) {t : Nat} (ht : t < 64) {l : List kp_KV} (hA : A t = some l) {R V : Nat → UInt8} {len vl : Nat} {K v : List UInt8} (hR : kp_row R len K) (hV : kp_row V vl v) (hK1 : 1 ≤ K.length) (hK2 : K.length ≤ 8448) (hv : v.length ≤ 8448) (hn : kp_is l K = false) (hsz : kp_sizeA A + (16 + K.length + v.length) ≤ 36864) (pn ps P : Nat → Nat) (hP : ∀ j, P j < 65536) :
    kp_inv (kv_insH M P t (kv_level M.1 (kv_root M.1 t)) (kv_desc M.1 R len t pn ps).1 (kv_desc M.1 R len t pn ps).2 R len V vl).1.1.1 (va_up A t (some (kp_in l (kp_lo l K) (K, v)))) ∧ ∀ j, (kv_insH M P t (kv_level M.1 (kv_root M.1 t)) (kv_desc M.1 R len t pn ps).1 (kv_desc M.1 R len t pn ps).2 R len V vl).1.2 j < 65536 := by
  have hlen : len ≤ 8448 := by rw [hR.1]; exact hK2
  obtain ⟨tp, SS, cc, fl, u, nu, xs, ⟨f1, f2, f3, f4, f5, f6, f7, f8, f9, f10, f11, f12, f13, f14, f15, f16, f17, f18, f19, f20⟩, -, -⟩ := kp_findT h ht hA hR hlen pn ps
  have hkv := f16.1 t l ht hA
  obtain ⟨q1, q2, q3, q4⟩ := kp_one_17 f20 hkv
  have hpf := kp_pf_17 (n := K.length + v.length) (by omega)
  have hu := f2.1.1.2.2.2.2.1
  rw [f6]
  obtain ⟨top', S', fl', u', c, pgs, r1, r2, r3, r4, r5, r6⟩ := kp_insH ht f5 f2 f7 f8 f9 f10 hR hV hK2 hv (by omega) hP
  refine ⟨?_, r5⟩
  obtain ⟨A1, C1, e1, e2, e3, e4, -⟩ := kp_cut (K := K) hkv
  have ein := kp_in_cut (K, v) e1 e2
  have hmap : (kp_in (cc t) (kp_lo l K) (c, pgs, K, v)).map (·.2.2) = kp_in l (kp_lo l K) (K, v) := by rw [kp_in_map, f3]
  have hrest := kp_rest_frame f1 r2 kp_E3 f19
  have hkv' : kp_kv (kp_in l (kp_lo l K) (K, v)) := by rw [ein]; exact kp_kv_dec (e1 ▸ hkv) e3 (e4 hn) hK1 hK2 hv
  have hszl := kp_szl_in l (kp_lo l K) (K, v)
  have hsA : kp_sizeA (va_up A t (some (kp_in l (kp_lo l K) (K, v)))) = kp_sizeA A + (16 + K.length + v.length) := by
    rw [kp_sizeA_up ht]
    show kp_szl _ + _ = _
    simp only at hszl
    omega
  have hln : (kp_in l (kp_lo l K) (K, v)).length = l.length + 1 := kp_in_len _ _ _
  have hl17 : l.length = (cc t).length := by rw [← f3]; simp
  refine kp_close ht hrest ⟨⟨r1.1.2.2.1, r1.1.2.2.2, r1.2.1, r1.2.2.1, r1.2.2.2⟩, hmap, ?_⟩ r1.1.1 r1.1.2.1 ?_ ?_ (kp_okA_up f16 (fun l' hl' => by rw [← Option.some.inj hl']; exact hkv') (by omega))
  · rw [r4, f4, hln]; omega
  · rw [r2.2 6 rfl (by omega) (by omega) (by simp; omega), f14, kp_cntA_up ht, kp_cntA_x ht, hA]; rfl
  · rw [r3, f15, hsA]; omega
/-- an ENTRY that was there has another VALUE -/
theorem kp_putOld {M : kv_M} {A : kp_A} (h : kp_inv M.1 A) {t : Nat} (ht : t < 64) {l : List kp_KV} (hA : A t = some l) {R V : Nat → UInt8} {len vl : Nat} {K v w : List UInt8} (hR : kp_row R len K) (hV : kp_row V vl v) (hK1 : 1 ≤ K.length) (hK2 : K.length ≤ 8448) (hv : v.length ≤ 8448) (hn : l[kp_lo l K]? = some (K, w)) (hsz : kp_sizeA A + v.length ≤ 36864 + w.length) (pn ps : Nat → Nat) :
    kp_inv (kv_repl M ((kv_desc M.1 R len t pn ps).1 0) ((kv_desc M.1 R len t pn ps).2 0) R len V vl).1.1 (va_up A t (some (l.set (kp_lo l K) (K, v)))) := by
  have hlen : len ≤ 8448 := by rw [hR.1]; exact hK2
  obtain ⟨tp, SS, cc, fl, u, nu, xs, ⟨f1, f2, f3, f4, f5, f6, f7, f8, f9, f10, f11, f12, f13, f14, f15, f16, f17, f18, f19, f20⟩, -, -⟩ := kp_findT h ht hA hR hlen pn ps
  have hkv := f16.1 t l ht hA
  have his := kp_is_iff.mpr ⟨w, hn⟩
  obtain ⟨A1, C1, e1, e2, e3, -, e5⟩ := kp_cut (K := K) hkv
  obtain ⟨w', C2, e6, e7⟩ := e5 his
  have ew : w' = w := by
    have : l[kp_lo l K]? = some (K, w') := by rw [← e2, e1, e6, List.getElem?_append_right (Nat.le_refl _), Nat.sub_self]; rfl
    rw [hn] at this
    exact (Prod.mk.inj (Option.some.inj this)).2.symm
  subst ew
  have hl0 := (List.getElem?_eq_some_iff.mp hn).1
  have hl17 : l.length = (cc t).length := by rw [← f3]; simp
  obtain ⟨Ac, Cc, g1, g2⟩ := kp_dec (List.getElem?_eq_getElem (show kp_lo l K < (cc t).length by omega))
  generalize hc : (cc t)[kp_lo l K]'(by omega) = c at *
  have emap : Ac.map (·.2.2) = A1 ∧ c.2.2 = (K, w') ∧ Cc.map (·.2.2) = C2 := by
    have := f3
    rw [g1, List.map_append, List.map_cons, e1, e6] at this
    have e := List.append_inj this (by rw [List.length_map, g2, e2])
    have e' := List.cons.inj e.2
    exact ⟨e.1, e'.1, e'.2⟩
  have cK : c.2.2.1 = K := by rw [emap.2.1]
  have cW : c.2.2.2 = w' := by rw [emap.2.1]
  rw [g1] at f2
  have hch := f2.1.2.2.2 c (by simp)
  have hpl : c.2.1.length = kp_pf (K.length + w'.length) := by rw [hch.2.1, cK, cW]
  have hu := f2.1.1.2.2.2.2.1
  -- the other ENTRIES
  have hkv2 : kp_kv (A1 ++ C2) := kp_kv_sub (e := (K, w')) (by rw [← e6, ← e1]; exact hkv)
  have h17 := kp_flat_17 (cs := Ac ++ Cc) (fun x hx => ⟨(f2.1.2.2.2 x (by
      rcases List.mem_append.mp hx with y | y
      · exact List.mem_append_left _ y
      · exact List.mem_append_right _ (List.mem_cons_of_mem _ y))).2.1, (hkv2.2 x.2.2 (by rw [← emap.1, ← emap.2.2, ← List.map_append]; exact List.mem_map.mpr ⟨x, hx, rfl⟩)).1⟩)
  have hszr : kp_szs (Ac ++ Cc) + (16 + K.length + w'.length) = kp_szl l := by
    rw [kp_szs_szl, List.map_append, emap.1, emap.2.2, e1, e6, kp_szl_app, kp_szl_app, kp_szl_cons]; simp only; omega
  have hfl : ((cc t).flatMap (·.2.1)).length = ((Ac ++ Cc).flatMap (·.2.1)).length + c.2.1.length := by
    rw [g1, List.flatMap_append, List.flatMap_append, List.flatMap_cons, List.length_append, List.length_append, List.length_append]; omega
  have hcl : (cc t).length = (Ac ++ Cc).length + 1 := by rw [g1, List.length_append, List.length_append, List.length_cons]; omega
  have hpf := kp_pf_17 (n := K.length + v.length) (by omega)
  have hf9 := f16.2
  obtain ⟨S', fl', u', c', pgs, r1, r2, r3⟩ := kp_repl (i := (kv_desc M.1 R len t pn ps).2 0) (p := (kv_desc M.1 R len t pn ps).1 0) ht f2 f8 (f11 his) (by rw [g2]; exact f10) hR hV hK2 hv (by omega)
  have hrest := kp_rest_frame f1 r2 (by simp) f19
  have eset : l.set (kp_lo l K) (K, v) = A1 ++ (K, v) :: C2 := by rw [← e2, e1, e6, List.set_append_right _ _ (Nat.le_refl _), Nat.sub_self]; rfl
  have hszl : kp_szl (l.set (kp_lo l K) (K, v)) + w'.length = kp_szl l + v.length := by
    rw [eset, e1, e6, kp_szl_app, kp_szl_app, kp_szl_cons, kp_szl_cons]; simp only; omega
  have hsA : kp_sizeA (va_up A t (some (l.set (kp_lo l K) (K, v)))) + w'.length = kp_sizeA A + v.length := by
    rw [kp_sizeA_up ht]
    show kp_szl _ + _ + _ = _
    omega
  refine kp_close ht hrest ⟨⟨r1.1.2.2.1, r1.1.2.2.2, r1.2.1, r1.2.2.1, r1.2.2.2⟩, ?_, ?_⟩ r1.1.1 r1.1.2.1 ?_ ?_ (kp_okA_up f16 (fun l' hl' => by
      rw [← Option.some.inj hl', eset]
      exact kp_kv_dec hkv2 e3 e7 hK1 hK2 hv) (by omega))
  · rw [eset, List.map_append, List.map_cons, emap.1, emap.2.2]
  · have : kv_ents (kv_repl M ((kv_desc M.1 R len t pn ps).1 0) ((kv_desc M.1 R len t pn ps).2 0) R len V vl).1.1 t = kv_ents M.1 t := r2.2 _ (by omega) (by omega) (by omega) (by simp; omega)
    rw [this, f4, List.length_set]
  · rw [r2.2 6 rfl (by omega) (by omega) (by simp), f14, kp_cntA_up ht, kp_cntA_x ht, hA]; rfl
  · rw [r3, f15, cK, cW]
    omega
/-- an ENTRY goes -/
theorem kp_rem {M : kv_M} {A : kp_A} (h : kp_inv M.1 A) {t : Nat} (ht : t < 64) {l : List kp_KV} (hA : A t = some l) {R : Nat → UInt8} {len : Nat} {K w : List UInt8} (hR : kp_row R len K) (hlen : len ≤ 8448) (hn : l[kp_lo l K]? = some (K, w)) (pn ps P : Nat → Nat) (hP : ∀ j, P j < 65536) :
    kp_inv (kv_delH M P t (kv_level M.1 (kv_root M.1 t)) (kv_desc M.1 R len t pn ps).1 (kv_desc M.1 R len t pn ps).2).1.1 (va_up A t (some (l.take (kp_lo l K) ++ l.drop (kp_lo l K + 1)))) ∧ ∀ j, (kv_delH M P t (kv_level M.1 (kv_root M.1 t)) (kv_desc M.1 R len t pn ps).1 (kv_desc M.1 R len t pn ps).2).2 j < 65536 := by
  obtain ⟨tp, SS, cc, fl, u, nu, xs, ⟨f1, f2, f3, f4, f5, f6, f7, f8, f9, f10, f11, f12, f13, f14, f15, f16, f17, f18, f19, f20⟩, -, -⟩ := kp_findT h ht hA hR hlen pn ps
  have hkv := f16.1 t l ht hA
  have his := kp_is_iff.mpr ⟨w, hn⟩
  obtain ⟨q1, q2, q3, q4⟩ := kp_one_17 f20 hkv
  have hl0 := (List.getElem?_eq_some_iff.mp hn).1
  have hl17 : l.length = (cc t).length := by rw [← f3]; simp
  obtain ⟨Ac, Cc, g1, g2⟩ := kp_dec (List.getElem?_eq_getElem (show kp_lo l K < (cc t).length by omega))
  generalize hc : (cc t)[kp_lo l K]'(by omega) = c at *
  have emap : l = Ac.map (·.2.2) ++ c.2.2 :: Cc.map (·.2.2) := by rw [← f3, g1, List.map_append, List.map_cons]
  have lA : (Ac.map (·.2.2)).length = kp_lo l K := by rw [List.length_map, g2]
  have ec : c.2.2 = (K, w) := by
    have : l[kp_lo l K]? = some c.2.2 := by
      rw [← lA, emap, List.getElem?_append_right (Nat.le_refl _), Nat.sub_self]; rfl
    rw [hn] at this
    exact (Option.some.inj this).symm
  have cK : c.2.2.1 = K := by rw [ec]
  have cW : c.2.2.2 = w := by rw [ec]
  rw [g1] at f2
  rw [f6]
  obtain ⟨top', S', fl', r1, r2, r3, r4, r5, r6⟩ := kp_delH ht (show tp t ≤ 4 by omega) f2 f7 f8 (f11 his) (by rw [g2]; exact f10) hP
  refine ⟨?_, r5⟩
  have hrest := kp_rest_frame f1 r2 kp_E3 f19
  have eer : l.take (kp_lo l K) ++ l.drop (kp_lo l K + 1) = Ac.map (·.2.2) ++ Cc.map (·.2.2) := by
    rw [← lA, emap]; exact kp_erase_dec _ _ _
  have hszl : kp_szl (l.take (kp_lo l K) ++ l.drop (kp_lo l K + 1)) + (16 + K.length + w.length) = kp_szl l := by
    rw [eer, emap, kp_szl_app, kp_szl_app, kp_szl_cons, cK, cW]; omega
  have hsA : kp_sizeA (va_up A t (some (l.take (kp_lo l K) ++ l.drop (kp_lo l K + 1)))) + (16 + K.length + w.length) = kp_sizeA A := by
    rw [kp_sizeA_up ht]
    show kp_szl _ + _ + _ = _
    omega
  have hf9 := f16.2
  refine kp_close ht hrest ⟨⟨r1.1.2.2.1, r1.1.2.2.2, r1.2.1, r1.2.2.1, r1.2.2.2⟩, ?_, ?_⟩ r1.1.1 r1.1.2.1 ?_ ?_ (kp_okA_up f16 (fun l' hl' => by
      rw [← Option.some.inj hl', eer]
      exact kp_kv_sub (e := c.2.2) (emap ▸ hkv)) (by omega))
  · rw [eer, List.map_append]
  · rw [r4, f4, List.length_append, List.length_take, List.length_drop]; omega
  · rw [r2.2 6 rfl (by omega) (by omega) (by simp; omega), f14, kp_cntA_up ht, kp_cntA_x ht, hA]; rfl
  · rw [r3, f15, cK, cW]
    omega
/-- a TREE comes -/
theorem kp_treeA {M : kv_M} {A : kp_A} (h : kp_inv M.1 A) {t : Nat} (ht : t < 64) (hA : A t = none) : kp_inv (kv_addTree M t).1 (va_up A t (some [])) := by
  obtain ⟨tp, SS, cc, fl, u, h1, h2, h3, h4, h5, h6, h7, h8, h9, h10⟩ := kp_open h ht
  rw [hA] at h2 h10
  obtain ⟨o1, o2, o3, o4, o5⟩ := h2
  rw [o3, o4, o5] at h4 h5
  have hln : kp_ln 0 (fun _ => []) [] = 0 := rfl
  have hu := h3.2.2.2.2.1
  have hf9 := h9.2
  obtain ⟨S', fl', u', r1, r2, r3⟩ := kp_addTree (S := fun _ => []) ht ⟨h3, h4, fun j hj n hn => by simp at hn, fun c hc => by simp at hc⟩ rfl (by omega)
  have hrest := kp_rest_frame h1 r2 (by simp) (fun q hq => by
    have := h4 q
    exact (kp_ind_in (u := u) (q := q) (by omega)).1)
  have hsA : kp_sizeA (va_up A t (some [])) = kp_sizeA A := by
    rw [kp_sizeA_up ht, h10]; rfl
  have hcA : kp_cntA (va_up A t (some [])) = kp_cntA A + 1 := by
    rw [kp_cntA_up ht, kp_cntA_x ht, hA]
    show 1 + _ = 0 + _ + 1
    omega
  have hc64 := kp_cntA_le A
  refine kp_close ht hrest ⟨⟨r1.1.2.2.1, r1.1.2.2.2, r1.2.1, r1.2.2.1, r1.2.2.2⟩, rfl, ?_⟩ r1.1.1 r1.1.2.1 ?_ ?_ (kp_okA_up h9 (fun l' hl' => by
      rw [← Option.some.inj hl']
      exact ⟨List.Pairwise.nil, fun e he => by simp at he⟩) (by omega))
  · have : kv_ents (kv_addTree M t).1 t = kv_ents M.1 t := r2.2 _ (by omega) (by omega) (by omega) (by simp; omega)
    rw [this, o2]; rfl
  · rw [r3, h7, hcA]; omega
  · rw [r2.2 8 rfl (by omega) (by omega) (by simp; omega), h8, hsA]
/-- a TREE goes -/
theorem kp_dropA {M : kv_M} {A : kp_A} (h : kp_inv M.1 A) {t : Nat} (ht : t < 64) {l : List kp_KV} (hA : A t = some l) : kp_inv (kv_drop M t).1 (va_up A t none) ∧ kv_ents M.1 t = l.length := by
  obtain ⟨tp, SS, cc, fl, u, h1, h2, h3, h4, h5, h6, h7, h8, h9, h10⟩ := kp_open h ht
  rw [hA] at h2 h10
  have hkv := h9.1 t l ht hA
  obtain ⟨q1, q2, q3, q4⟩ := kp_one_17 h2 hkv
  obtain ⟨⟨a1, a2, a3, ⟨ys, a4, a5⟩, a6⟩, b, c⟩ := id h2
  have hf9 := h9.2
  have e10 : kp_szO (some l) = kp_szl l := rfl
  have htop := kp_deep a3 a6 a4 a5 (by omega)
  obtain ⟨fl', r1, r2, r3, r4, r5, r6⟩ := kp_drop (cs := cc t) ht (show tp t ≤ 4 by omega) ⟨⟨h3, h4, a1, a2⟩, a3, ⟨ys, a4, a5⟩, a6⟩ (fun x hx => by have := q4 x hx; omega)
  have hrest := kp_rest_frame h1 r2 (by simp) (fun q hq => by
    have := h4 q
    exact (kp_ind_in (u := u) (q := q) (by omega)).1)
  have hsA : kp_sizeA (va_up A t none) + kp_szl l = kp_sizeA A := by
    rw [kp_sizeA_up ht, h10, e10]
    show 0 + _ + _ = _
    omega
  have hcA : kp_cntA (va_up A t none) + 1 = kp_cntA A := by
    rw [kp_cntA_up ht, kp_cntA_x ht, hA]
    show 0 + _ + 1 = 1 + _
    omega
  have hc64 := kp_cntA_le A
  refine ⟨kp_close ht hrest ⟨r3, r4, rfl, rfl, rfl⟩ r1.1 r1.2.1 ?_ ?_ (kp_okA_up h9 (fun l' hl' => by simp at hl') (by omega)), c⟩
  · rw [r6, h7]; omega
  · rw [kp_szs_szl, b] at r5
    rw [h8] at r5
    have := kv_num_lt (kv_drop M t).1 8
    omega
