/-! PURE, the 22nd: replaceHere, addTree, dropTree on one tree -/
theorem kp_repl {M : kv_M} {t top : Nat} {S : Nat → List kp_N} {A C : List kp_C} {c : kp_C} {fl : List Nat} {u : Nat} {ex : Nat → Nat} {p i v : Nat} {xs : List Nat} {K V : Nat → UInt8} {kl vl : Nat} {key val : List UInt8} (ht : t < 64) (h : kp_wh M.1 t top S (A ++ c :: C) fl u ex) (hx : (S 0)[v]? = some (p, xs)) (hi : i < xs.length) (hr : kp_off (S 0) v + i = A.length) (hK : kp_row K kl key) (hV : kp_row V vl val) (hk : key.length ≤ 8448) (hv : val.length ≤ 8448) (hroom : kp_pf (key.length + val.length) ≤ fl.length + c.2.1.length + (2711 - u)) :
    ∃ (S' : Nat → List kp_N) (fl' : List Nat) (u' c' : Nat) (pgs : List Nat), kp_wh (kv_repl M p i K kl V vl).1.1 t top S' (A ++ (c', pgs, key, val) :: C) fl' u' ex ∧ kp_kg M.1 (kv_repl M p i K kl V vl).1.1 ex [8] ∧ kv_num (kv_repl M p i K kl V vl).1.1 8 = (kv_num M.1 8 + (4294967296 - (16 + c.2.2.1.length + c.2.2.2.length)) + (16 + key.length + val.length)) % 65536 := by
  obtain ⟨hon, hlev, ⟨ys, y1, y2⟩, hfi⟩ := h
  have hm : (p, xs) ∈ S 0 := List.mem_of_getElem? hx
  have hn0 := hon.2.2.1 0 (Nat.zero_le _) _ hm
  have hp0 := kp_on_node hon (Nat.zero_le _) hm
  simp only at hn0 hp0
  have hu := hon.1.2.2.2.2.1
  have eslot : kv_slot M.1 p i = c.1 := by
    have e := kp_fl_at hx hi
    rw [hr, hlev 0 (Nat.zero_le _)] at e
    have e2 : ((A ++ c :: C).map (·.1))[A.length]? = xs[i]? := e
    rw [List.map_append, List.map_cons, List.getElem?_append_right (by simp), show A.length - (A.map (·.1)).length = 0 by simp] at e2
    exact kp_slot_eq hn0 e2.symm
  have hch := hon.2.2.2 c (by simp)
  have hc9 : 9 ≤ c.1 := (kp_on_page hon (kp_ct_chain (c := c) (by simp) (List.mem_of_getElem? hch.1))).1
  unfold kv_repl kv_replA
  rw [eslot, kp_ch_size hch (by omega)]
  obtain ⟨a1, a2, a3, a4⟩ := kp_addH (M := M) (a := 8) (n := 4294967296 - (16 + c.2.2.1.length + c.2.2.2.length)) rfl (by omega) (by omega)
  have on2 := kp_on_pg hon a1 a2
  have g1 : kp_kg M.1 (kv_addTo M 8 (4294967296 - (16 + c.2.2.1.length + c.2.2.2.length))).1 ex [8] := kp_addH_kg rfl (by omega) (by omega) (by simp)
  generalize hM2 : kv_addTo M 8 (4294967296 - (16 + c.2.2.1.length + c.2.2.2.length)) = M2 at *
  have ero2 : kv_root M2.1 t = kv_root M.1 t := a4 _ (by omega) (by omega)
  obtain ⟨d1, d2, d3⟩ := kp_on_dropC on2
  have kx1 : kp_kx M2.1 (kv_freeC M2 c.1).1 ex := ⟨c.2.1, d2, d3⟩
  generalize hM4 : kv_freeC M2 c.1 = M4 at *
  obtain ⟨pgs, f1, u1, o1, o2, o3, o4, o5, o6, o7⟩ := kp_on_addC d1 hK hV hk hv (by rw [List.length_append, List.length_reverse]; omega)
  have kx2 := kp_kx_trans kx1 o2
  have hch2 := o1.2.2.2 ((kv_store M4 K kl V vl).1, pgs, key, val) (by simp)
  simp only at hch2
  rw [kp_ch_size hch2 (by omega)]
  simp only
  generalize hc' : (kv_store M4 K kl V vl).1 = c' at *
  generalize hM5 : (kv_store M4 K kl V vl).2.1 = M5 at *
  obtain ⟨b1, b2, b3, b4⟩ := kp_addH (M := M5) (a := 8) (n := 16 + key.length + val.length) rfl (by omega) (by omega)
  have on6 := kp_on_pg o1 b1 b2
  have g2 : kp_kg M5.1 (kv_addTo M5 8 (16 + key.length + val.length)).1 ex [8] := kp_addH_kg rfl (by omega) (by omega) (by simp)
  generalize hM6 : kv_addTo M5 8 (16 + key.length + val.length) = M6 at *
  have hn6 := on6.2.2.1 0 (Nat.zero_le _) _ hm
  simp only at hn6
  have hx14 := hn6.2.2.1
  have hnew : kp_nd (kv_setSlot M6 p i c').1 p 0 (xs.set i c') := by
    refine ⟨?_, ?_, by simpa using hx14, fun j hj => ?_⟩
    · have := kp_hd_setSlot (M := M6) (p := p) (q := p) (i := i) (s := c') (k := 0) (by omega) (by omega) rfl
      simp only [Nat.add_zero] at this
      rw [this]; exact hn6.1
    · rw [kp_hd_setSlot (M := M6) (p := p) (q := p) (i := i) (s := c') (k := 2) (by omega) (by omega) rfl, List.length_set]; exact hn6.2.1
    · rw [List.length_set] at hj
      rw [kp_slot_setSlot (by omega) (by omega) (by omega) o7]
      by_cases z : j = i
      · subst z
        rw [if_pos ⟨rfl, rfl⟩, List.getElem?_set_self hj]
      · rw [if_neg (fun y => z y.2), List.getElem?_set_ne (fun y => z y.symm)]; exact hn6.2.2.2 j hj
  have k2 : kp_keep M6.1 (kv_setSlot M6 p i c').1 [p] := kp_keep_setSlot (by omega) (by omega)
  have on7 := kp_on_set on6 (Nat.zero_le _) hx k2 (kp_h6_setSlot (by omega)) hnew
  have kx3 : kp_kx M6.1 (kv_setSlot M6 p i c').1 ex := ⟨[p], k2, fun q hq => by rw [List.mem_singleton.mp hq]; exact ⟨hp0.1, hp0.2.2.2⟩⟩
  have ero7 : kv_root (kv_setSlot M6 p i c').1 t = kv_root M.1 t := by
    have e6 : kv_root M6.1 t = kv_root M5.1 t := b4 _ (by omega) (by omega)
    rw [kp_kx_root kx3 ht, e6, kp_kx_root kx2 ht, ero2]
  have emX : ((S 0).set v (p, xs.set i c')).map (·.1) = (S 0).map (·.1) := kp_map_set hx
  have efl : kp_fl ((S 0).set v (p, xs.set i c')) = (kp_fl (S 0)).set A.length c' := by
    rw [← hr]
    obtain ⟨D, E, e1, e2⟩ := kp_dec hx
    rw [e1, ← e2, kp_set_dec, kp_off_dec, kp_fl_app, kp_fl_app, kp_fl_cons, kp_fl_cons]
    simp only
    rw [List.set_append_right _ _ (by omega), show (kp_fl D).length + i - (kp_fl D).length = i by omega, List.set_append_left _ _ hi]
  refine ⟨va_up S 0 ((S 0).set v (p, xs.set i c')), f1, u1, c', pgs, ⟨on7, fun j hj => ?_, ?_, fun j hj n hn => ?_⟩, kp_kg_trans g1 (kp_kg_trans (kp_kx_kg kx2) (kp_kg_trans g2 (kp_kx_kg kx3))), ?_⟩
  · cases j with
    | zero =>
      rw [va_up_self, efl, hlev 0 (Nat.zero_le _)]
      show ((A ++ c :: C).map (·.1)).set A.length c' = (A ++ (c', pgs, key, val) :: C).map (·.1)
      rw [List.map_append, List.map_append, List.map_cons, List.map_cons, List.set_append_right _ _ (by simp), show A.length - (A.map (·.1)).length = 0 by simp]
      rfl
    | succ j =>
      rw [va_up_ne _ _ (by omega), hlev (j + 1) hj]
      show (S j).map (·.1) = (va_up S 0 _ j).map (·.1)
      by_cases z : j = 0
      · subst z; rw [va_up_self, emX]
      · rw [va_up_ne _ _ z]
  · rw [ero7]
    by_cases z : top = 0
    · subst z
      rw [va_up_self]
      have hv := hx
      rw [y1] at hv
      have v0 : v = 0 := by
        rcases v with _ | v
        · rfl
        · simp at hv
      subst v0
      have e := Prod.mk.inj (Option.some.inj hv)
      rw [y1, ← e.1]
      exact ⟨xs.set i c', rfl, fun h => by omega⟩
    · rw [va_up_ne _ _ z]
      exact ⟨ys, y1, y2⟩
  · by_cases z : j = 0
    · subst z
      rw [va_up_self] at hn
      rcases List.mem_or_eq_of_mem_set hn with w | w
      · exact hfi 0 hj n w
      · rw [w]
        have := hfi 0 hj _ hm
        simpa using this
    · rw [va_up_ne _ _ z] at hn; exact hfi j hj n hn
  · rw [(kp_kx_kg (E := []) kx3).2 8 rfl (by omega) (by omega) (by simp), b3, (kp_kx_kg (E := []) kx2).2 8 rfl (by omega) (by omega) (by simp), a3]
    omega
/-- Trees.addTree -/
theorem kp_addTree {M : kv_M} {t : Nat} {S : Nat → List kp_N} {fl : List Nat} {u : Nat} {ex : Nat → Nat} (ht : t < 64) (h : kp_on M.1 0 S [] fl u ex) (h0 : S 0 = []) (hr : 1 ≤ fl.length + (2711 - u)) :
    ∃ (S' : Nat → List kp_N) (fl' : List Nat) (u' : Nat), kp_wh (kv_addTree M t).1 t 0 S' [] fl' u' ex ∧ kp_kg M.1 (kv_addTree M t).1 ex [32 + 4 * t, 6] ∧ kv_num (kv_addTree M t).1 6 = (kv_num M.1 6 + 1) % 65536 := by
  obtain ⟨r, f1, u1, n1, n2, n3, n4, n5, n6, n7, n8, n9, n10, n11, n12⟩ := kp_make (l := 0) h.1 (kp_on_nd h) hr (by omega)
  have hu1 := n2.2.2.2.2.1
  have hxr : ex r = 0 := by
    have a1 := h.2.1 r
    have a2 := n8 r
    have a3 := kp_ind_le u1 r
    have a4 : [r].count r = 1 := by simp
    omega
  have kx : kp_kx M.1 (kv_make M 0).2.1 ex := ⟨[r], n7, fun q hq => by rw [List.mem_singleton.mp hq]; exact ⟨n3, hxr⟩⟩
  unfold kv_addTree
  rw [n1]
  generalize hM1 : (kv_make M 0).2 = M1 at *
  obtain ⟨s1, s2, s3, s4⟩ := kp_setroot (M := M1) (n := r) ht (by omega)
  have on1 : kp_on M1.1 0 (va_up S 0 [(r, [])]) [] f1 u1 ex := by
    refine ⟨n2, fun q => ?_, fun j hj n hn => ?_, fun c hc => by simp at hc⟩
    · have e1 := h.2.1 q
      have e2 := n8 q
      unfold kp_ct kp_cn kp_cn at e1 ⊢
      rw [h0] at e1
      rw [va_up_self]
      simp only [List.map_nil, List.map_cons, List.count_nil, List.flatMap_nil] at e1 ⊢
      omega
    · have : j = 0 := by omega
      subst this
      rw [va_up_self] at hn
      rw [List.mem_singleton.mp hn]; exact n12
  have on2 := kp_on_pg on1 s2 s3
  generalize hM2 : kv_setRoot M1 t r = M2 at *
  obtain ⟨b1, b2, b3, b4⟩ := kp_addH (M := M2) (a := 6) (n := 1) rfl (by omega) (by omega)
  have on3 := kp_on_pg on2 b1 b2
  refine ⟨va_up S 0 [(r, [])], f1, u1, ⟨on3, fun j hj => ?_, ⟨[], ?_, fun h => by omega⟩, fun j hj => by omega⟩, kp_kg_trans (kp_kx_kg kx) (kp_kg_trans (B' := M2.1) ⟨fun q hq _ => s2 q hq, fun a ha h6 _ hn => s4 a ha (fun z => hn (by rw [z]; simp))⟩ (kp_addH_kg rfl (by omega) (by omega) (by simp))), ?_⟩
  · have : j = 0 := by omega
    subst this
    rw [va_up_self]; rfl
  · have e : kv_root (kv_addTo M2 6 1).1 t = kv_root M2.1 t := b4 _ (by omega) (by omega)
    rw [va_up_self, e, s1]
  · rw [b3, s4 6 rfl (by omega), (kp_kx_kg (E := []) kx).2 6 rfl (by omega) (by omega) (by simp)]
/-! a tree goes, from its first chain and nodes on -/
def kp_szs (cs : List kp_C) : Nat := (cs.map (fun c => 16 + c.2.2.1.length + c.2.2.2.length)).sum
theorem kp_szs_app (A C : List kp_C) : kp_szs (A ++ C) = kp_szs A + kp_szs C := by unfold kp_szs; rw [List.map_append, List.sum_append]
theorem kp_szs_cons (c : kp_C) (C : List kp_C) : kp_szs (c :: C) = (16 + c.2.2.1.length + c.2.2.2.length) + kp_szs C := by unfold kp_szs; rw [List.map_cons, List.sum_cons]
/-- d j items of kind j are gone -/
def kp_gone (B : Nat → UInt8) (top : Nat) (S : Nat → List kp_N) (cs : List kp_C) (fl : List Nat) (u : Nat) (ex : Nat → Nat) (d : Nat → Nat) : Prop := kp_on B top (fun j => (S j).drop (d (j + 1))) (cs.drop (d 0)) fl u ex
def kp_al (S : Nat → List kp_N) (l : Nat) (d : Nat → Nat) : Prop := ∀ j, j ≤ l → d j = kp_off (S j) (d (j + 1))
/-- what a step of the freeing does -/
def kp_fst (top : Nat) (S : Nat → List kp_N) (cs : List kp_C) (u : Nat) (ex : Nat → Nat) (Z : Nat) (M : kv_M) (d : Nat → Nat) : Prop := ∃ fl, kp_gone M.1 top S cs fl u ex d ∧ (kv_num M.1 8 + kp_szs (cs.take (d 0))) % 65536 = Z
theorem kp_freeNode {top : Nat} {S : Nat → List kp_N} {cs : List kp_C} {u : Nat} {ex : Nat → Nat} {Z : Nat} {M : kv_M} {d : Nat → Nat} {l p : Nat} {xs : List Nat} (h : kp_fst top S cs u ex Z M d) (hl : l ≤ top) (hp : (S l)[d (l + 1)]? = some (p, xs)) : kp_fst top S cs u ex Z (kv_freeP M p) (va_up d (l + 1) (d (l + 1) + 1)) ∧ kp_kg M.1 (kv_freeP M p).1 ex [8] := by
  obtain ⟨fl, h1, h2⟩ := h
  have hv : ((S l).drop (d (l + 1)))[0]? = some (p, xs) := by rw [List.getElem?_drop]; exact hp
  have hpn := kp_on_node h1 hl (List.mem_of_getElem? hv)
  obtain ⟨k1, k2⟩ := kp_on_drop h1 hl hv
  have kx : kp_kx M.1 (kv_freeP M p).1 ex := ⟨[p], k2, fun q hq => by rw [List.mem_singleton.mp hq]; exact ⟨hpn.1, hpn.2.2.2⟩⟩
  refine ⟨⟨p :: fl, ?_, ?_⟩, kp_kx_kg kx⟩
  · have e : va_up (fun j => (S j).drop (d (j + 1))) l (List.take 0 ((S l).drop (d (l + 1))) ++ List.drop (0 + 1) ((S l).drop (d (l + 1)))) = fun j => (S j).drop (va_up d (l + 1) (d (l + 1) + 1) (j + 1)) := by
      funext j
      by_cases z : j = l
      · subst z
        rw [va_up_self, va_up_self, List.take_zero, List.nil_append, List.drop_drop]
      · rw [va_up_ne _ _ z, va_up_ne _ _ (by omega)]
    unfold kp_gone
    rw [← e, va_up_ne _ _ (by omega)]
    exact k1
  · rw [va_up_ne _ _ (by omega), (kp_kx_kg (E := []) kx).2 8 rfl (by omega) (by omega) (by simp)]; exact h2
theorem kp_freeChain {top : Nat} {S : Nat → List kp_N} {cs : List kp_C} {u : Nat} {ex : Nat → Nat} {Z : Nat} {M : kv_M} {d : Nat → Nat} {c : kp_C} (h : kp_fst top S cs u ex Z M d) (hc : cs[d 0]? = some c) (hs : 16 + c.2.2.1.length + c.2.2.2.length ≤ 65536) : kp_fst top S cs u ex Z (kv_replA M c.1) (va_up d 0 (d 0 + 1)) ∧ kp_kg M.1 (kv_replA M c.1).1 ex [8] := by
  obtain ⟨fl, h1, h2⟩ := h
  obtain ⟨A, C, eA, eL⟩ := kp_dec hc
  have ed : cs.drop (d 0) = [] ++ c :: C := by rw [eA, ← eL, List.drop_append_of_le_length (Nat.le_refl _), List.drop_length]
  unfold kp_gone at h1
  rw [ed] at h1
  have hch := h1.2.2.2 c (by simp)
  have hc9 : 9 ≤ c.1 := (kp_on_page h1 (kp_ct_chain (c := c) (by simp) (List.mem_of_getElem? hch.1))).1
  unfold kv_replA
  rw [kp_ch_size hch (by omega)]
  obtain ⟨a1, a2, a3, a4⟩ := kp_addH (M := M) (a := 8) (n := 4294967296 - (16 + c.2.2.1.length + c.2.2.2.length)) rfl (by omega) (by omega)
  have on2 := kp_on_pg h1 a1 a2
  have g1 : kp_kg M.1 (kv_addTo M 8 (4294967296 - (16 + c.2.2.1.length + c.2.2.2.length))).1 ex [8] := kp_addH_kg rfl (by omega) (by omega) (by simp)
  generalize hM2 : kv_addTo M 8 (4294967296 - (16 + c.2.2.1.length + c.2.2.2.length)) = M2 at *
  obtain ⟨d1, d2, d3⟩ := kp_on_dropC on2
  have kx1 : kp_kx M2.1 (kv_freeC M2 c.1).1 ex := ⟨c.2.1, d2, d3⟩
  refine ⟨⟨c.2.1.reverse ++ fl, ?_, ?_⟩, kp_kg_trans g1 (kp_kx_kg kx1)⟩
  · have e : (fun j => (S j).drop (va_up d 0 (d 0 + 1) (j + 1))) = fun j => (S j).drop (d (j + 1)) := by
      funext j; rw [va_up_ne _ _ (by omega)]
    have e2 : cs.drop (va_up d 0 (d 0 + 1) 0) = [] ++ C := by
      rw [va_up_self, eA, ← eL, List.drop_append, List.drop_of_length_le (by omega), show A.length + 1 - A.length = 1 by omega]; rfl
    unfold kp_gone
    rw [e, e2]
    exact d1
  · rw [va_up_self, (kp_kx_kg (E := []) kx1).2 8 rfl (by omega) (by omega) (by simp), a3]
    have e3 : kp_szs (cs.take (d 0 + 1)) = kp_szs (cs.take (d 0)) + (16 + c.2.2.1.length + c.2.2.2.length) := by
      rw [eA, ← eL, List.take_append, List.take_of_length_le (by omega), show A.length + 1 - A.length = 1 by omega, List.take_append_of_le_length (Nat.le_refl _), List.take_length, kp_szs_app]
      rfl
    rw [e3]
    omega
theorem kp_freeT {top : Nat} {S : Nat → List kp_N} {cs : List kp_C} {u : Nat} {ex : Nat → Nat} {Z : Nat} (hlev : kp_lev S cs top) (hs : ∀ c ∈ cs, 16 + c.2.2.1.length + c.2.2.2.length ≤ 65536) :
    ∀ (l : Nat) (M : kv_M) (d : Nat → Nat) (p : Nat) (xs : List Nat), l ≤ top → kp_fst top S cs u ex Z M d → kp_al S l d → (S l)[d (l + 1)]? = some (p, xs) →
      ∃ d', kp_fst top S cs u ex Z (kv_freeT l M p) d' ∧ kp_al S l d' ∧ d' (l + 1) = d (l + 1) + 1 ∧ (∀ j, l + 1 < j → d' j = d j) ∧ kp_kg M.1 (kv_freeT l M p).1 ex [8]
  | 0, M, d, p, xs, hl, h, ha, hp => by
    have cnt : ∀ M' d', kp_fst top S cs u ex Z M' d' → d' 1 = d 1 → kp_nd M'.1 p 0 xs := fun M' d' h' e => by
      obtain ⟨fl, h1, -⟩ := h'
      have := h1.2.2.1 0 hl (p, xs) (List.mem_of_getElem? (i := 0) (by rw [List.getElem?_drop, Nat.zero_add, e]; exact hp))
      exact this
    have loop : ∀ (k i : Nat) (M' : kv_M) (d' : Nat → Nat), i + k = xs.length → kp_fst top S cs u ex Z M' d' → (∀ j, 0 < j → d' j = d j) → d' 0 = d 0 + i →
        ∃ d'', kp_fst top S cs u ex Z (kv_frL kv_replA p k i M') d'' ∧ (∀ j, 0 < j → d'' j = d j) ∧ d'' 0 = d 0 + xs.length ∧ kp_kg M'.1 (kv_frL kv_replA p k i M').1 ex [8] := by
      intro k
      induction k with
      | zero => exact fun i M' d' h1 h2 h3 h4 => ⟨d', h2, h3, by omega, kp_kx_kg (kp_kx_refl _ _)⟩
      | succ k ih =>
        intro i M' d' h1 h2 h3 h4
        have hnd := cnt M' d' h2 (h3 1 (by omega))
        have e := kp_fl_at hp (t := i) (show i < xs.length by omega)
        rw [hlev 0 (Nat.zero_le _), ← ha 0 (Nat.le_refl _)] at e
        have e2 : (cs.map (·.1))[d 0 + i]? = xs[i]? := e
        rw [List.getElem?_map] at e2
        cases hc : cs[d 0 + i]? with
        | none => rw [hc] at e2; simp at e2; omega
        | some c =>
          rw [hc] at e2
          have es : kv_slot M'.1 p i = c.1 := kp_slot_eq hnd e2.symm
          obtain ⟨r1, r2⟩ := kp_freeChain h2 (by rw [h4]; exact hc) (hs c (List.mem_of_getElem? hc))
          obtain ⟨d'', q1, q2, q3, q4⟩ := ih (i + 1) (kv_replA M' c.1) (va_up d' 0 (d' 0 + 1)) (by omega) r1 (fun j hj => by rw [va_up_ne _ _ (by omega)]; exact h3 j hj) (by rw [va_up_self]; omega)
          rw [kv_frL, es]
          exact ⟨d'', q1, q2, q3, kp_kg_trans r2 q4⟩
    rw [kv_freeT, kp_nd_count (cnt M d h rfl)]
    obtain ⟨d1, r1, r2, r3, r4⟩ := loop xs.length 0 M d (by omega) h (fun j _ => rfl) (by omega)
    obtain ⟨r5, r6⟩ := kp_freeNode r1 hl (p := p) (xs := xs) (by rw [r2 1 (by omega)]; exact hp)
    refine ⟨va_up d1 (0 + 1) (d1 (0 + 1) + 1), r5, fun j hj => ?_, by rw [va_up_self, r2 (0 + 1) (by omega)], fun j hj => by rw [va_up_ne _ _ (by omega)]; exact r2 j (by omega), kp_kg_trans r4 r6⟩
    have : j = 0 := by omega
    subst this
    have e9 := kp_off_s hp
    simp only at e9
    rw [va_up_ne _ _ (by omega), va_up_self, r2 (0 + 1) (by omega), r3, e9, ← ha 0 (Nat.le_refl _)]
  | l + 1, M, d, p, xs, hl, h, ha, hp => by
    have cnt : ∀ M' d', kp_fst top S cs u ex Z M' d' → d' (l + 2) = d (l + 2) → kp_nd M'.1 p (l + 1) xs := fun M' d' h' e => by
      obtain ⟨fl, h1, -⟩ := h'
      have := h1.2.2.1 (l + 1) hl (p, xs) (List.mem_of_getElem? (i := 0) (by rw [List.getElem?_drop, Nat.add_zero, show d' (l + 1 + 1) = d (l + 1 + 1) from e]; exact hp))
      exact this
    have loop : ∀ (k i : Nat) (M' : kv_M) (d' : Nat → Nat), i + k = xs.length → kp_fst top S cs u ex Z M' d' → kp_al S l d' → (∀ j, l + 1 < j → d' j = d j) → d' (l + 1) = d (l + 1) + i →
        ∃ d'', kp_fst top S cs u ex Z (kv_frL (kv_freeT l) p k i M') d'' ∧ kp_al S l d'' ∧ (∀ j, l + 1 < j → d'' j = d j) ∧ d'' (l + 1) = d (l + 1) + xs.length ∧ kp_kg M'.1 (kv_frL (kv_freeT l) p k i M').1 ex [8] := by
      intro k
      induction k with
      | zero => exact fun i M' d' h1 h2 h2a h3 h4 => ⟨d', h2, h2a, h3, by omega, kp_kx_kg (kp_kx_refl _ _)⟩
      | succ k ih =>
        intro i M' d' h1 h2 h2a h3 h4
        have hnd := cnt M' d' h2 (h3 (l + 2) (by omega))
        have e := kp_fl_at hp (t := i) (show i < xs.length by omega)
        rw [hlev (l + 1) hl, ← ha (l + 1) (Nat.le_refl _)] at e
        have e2 : ((S l).map (·.1))[d (l + 1) + i]? = xs[i]? := e
        rw [List.getElem?_map] at e2
        cases hc : (S l)[d (l + 1) + i]? with
        | none => rw [hc] at e2; simp at e2; omega
        | some n =>
          rw [hc] at e2
          obtain ⟨n1, zs⟩ := n
          have es : kv_slot M'.1 p i = n1 := kp_slot_eq hnd e2.symm
          obtain ⟨d2, r1, r2, r3, r4, r5⟩ := kp_freeT hlev hs l M' d' n1 zs (by omega) h2 h2a (by rw [h4]; exact hc)
          obtain ⟨d'', q1, q2, q3, q4, q5⟩ := ih (i + 1) (kv_freeT l M' n1) d2 (by omega) r1 r2 (fun j hj => by rw [r4 j hj]; exact h3 j hj) (by rw [r3]; omega)
          rw [kv_frL, es]
          exact ⟨d'', q1, q2, q3, q4, kp_kg_trans r5 q5⟩
    rw [kv_freeT, kp_nd_count (cnt M d h rfl)]
    obtain ⟨d1, r1, r2, r3, r4, r5⟩ := loop xs.length 0 M d (by omega) h (fun j hj => ha j (by omega)) (fun j _ => rfl) (by omega)
    obtain ⟨r6, r7⟩ := kp_freeNode r1 hl (p := p) (xs := xs) (by rw [r3 (l + 1 + 1) (by omega)]; exact hp)
    refine ⟨va_up d1 (l + 1 + 1) (d1 (l + 1 + 1) + 1), r6, fun j hj => ?_, by rw [va_up_self, r3 (l + 1 + 1) (by omega)], fun j hj => by rw [va_up_ne _ _ (by omega)]; exact r3 j (by omega), kp_kg_trans r5 r7⟩
    by_cases z : j = l + 1
    · subst z
      have e9 := kp_off_s hp
      simp only at e9
      rw [va_up_ne _ _ (by omega), va_up_self, r3 (l + 1 + 1) (by omega), r4, e9, ← ha (l + 1) (Nat.le_refl _)]
    · rw [va_up_ne _ _ (by omega), va_up_ne _ _ (by omega)]
      exact r2 j (by omega)
