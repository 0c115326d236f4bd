/-! PURE, eighteenth: nodes that are too sparse -/
theorem kp_len_le : ∀ (u : Nat) (l : List Nat), l.Nodup → (∀ q ∈ l, 9 ≤ q ∧ q < 9 + u) → l.length ≤ u
  | 0, l, _, h => by
    cases l with
    | nil => simp
    | cons a as => have := h a List.mem_cons_self; omega
  | u + 1, l, hn, h => by
    by_cases z : 9 + u ∈ l
    · have e := kp_len_le u (l.erase (9 + u)) (hn.erase _) (fun q hq => by
        have h1 := h q (List.mem_of_mem_erase hq)
        have h2 : q ≠ 9 + u := fun y => by subst y; exact (List.Nodup.not_mem_erase hn) hq
        omega)
      rw [List.length_erase_of_mem z] at e
      omega
    · have e := kp_len_le u l hn (fun q hq => by
        have h1 := h q hq
        have h2 : q ≠ 9 + u := fun y => by subst y; exact z hq
        omega)
      omega
theorem kp_fl_erase {L : List kp_N} {v p i : Nat} {xs : List Nat} (h : L[v]? = some (p, xs)) (hi : i < xs.length) : kp_fl (L.set v (p, xs.take i ++ xs.drop (i + 1))) = (kp_fl L).take (kp_off L v + i) ++ (kp_fl L).drop (kp_off L v + i + 1) := by
  obtain ⟨A, C, rfl, rfl⟩ := kp_dec h
  rw [kp_set_dec, kp_off_dec, kp_fl_app, kp_fl_cons, kp_fl_app, kp_fl_cons]
  simp only
  have e1 : (kp_fl A ++ (xs ++ kp_fl C)).take ((kp_fl A).length + i) = kp_fl A ++ xs.take i := by
    rw [List.take_append, List.take_of_length_le (by omega), show (kp_fl A).length + i - (kp_fl A).length = i by omega, List.take_append_of_le_length (by omega)]
  have e2 : (kp_fl A ++ (xs ++ kp_fl C)).drop ((kp_fl A).length + i + 1) = xs.drop (i + 1) ++ kp_fl C := by
    rw [List.drop_append, List.drop_of_length_le (by omega), show (kp_fl A).length + i + 1 - (kp_fl A).length = i + 1 by omega, List.drop_append_of_le_length (by omega), List.nil_append]
  rw [e1, e2]
  simp
theorem kp_fl_two {L : List kp_N} {v p q : Nat} {xs ys xs' ys' : List Nat} (h : L[v]? = some (p, xs)) (h2 : L[v + 1]? = some (q, ys)) (he : xs' ++ ys' = xs ++ ys) : kp_fl ((L.set v (p, xs')).set (v + 1) (q, ys')) = kp_fl L := by
  obtain ⟨A, C, rfl, rfl⟩ := kp_dec h
  have h3 : C[0]? = some (q, ys) := by
    rw [List.getElem?_append_right (by omega), show A.length + 1 - A.length = 0 + 1 by omega, List.getElem?_cons_succ] at h2
    exact h2
  cases C with
  | nil => simp at h3
  | cons c C =>
    have h4 : c = (q, ys) := by simpa using h3
    subst h4
    have e : ((A ++ (p, xs) :: (q, ys) :: C).set A.length (p, xs')).set (A.length + 1) (q, ys') = A ++ (p, xs') :: (q, ys') :: C := by
      rw [kp_set_dec, List.set_append_right _ _ (by omega), show A.length + 1 - A.length = 0 + 1 by omega]
      rfl
    rw [e, kp_fl_app, kp_fl_app, kp_fl_cons, kp_fl_cons, kp_fl_cons, kp_fl_cons]
    simp only
    rw [← List.append_assoc xs', ← List.append_assoc xs, he]
/-- two neighbours have other slots -/
theorem kp_on_set2 {B B' : Nat → UInt8} {top : Nat} {S : Nat → List kp_N} {cs : List kp_C} {fl : List Nat} {u : Nat} {ex : Nat → Nat} (h : kp_on B top S cs fl u ex) {j v p q : Nat} {xs ys xs' ys' : List Nat} (hj : j ≤ top) (hv : (S j)[v]? = some (p, xs)) (hv2 : (S j)[v + 1]? = some (q, ys)) (hk : kp_keep B B' [p, q]) (hh : kp_h6 B B') (hn : kp_nd B' p j xs') (hn2 : kp_nd B' q j ys') : kp_on B' top (va_up S j (((S j).set v (p, xs')).set (v + 1) (q, ys'))) cs fl u ex := by
  have hm : (p, xs) ∈ S j := List.mem_of_getElem? hv
  have hm2 : (q, ys) ∈ S j := List.mem_of_getElem? hv2
  have hp := kp_on_node h hj hm
  have hq := kp_on_node h hj hm2
  have hpq : p ≠ q := fun z => by
    subst z
    have := (kp_uniq (kp_on_ct h p) hj hj hv hv2).2
    omega
  have hv2' : ((S j).set v (p, xs'))[v + 1]? = some (q, ys) := by rw [List.getElem?_set_ne (by omega)]; exact hv2
  refine ⟨kp_fr_keep h.1 hk hh (fun x hx z => ?_), fun x => ?_, fun i hi n hni => ?_, kp_chs_keep h.2.2.2 hk (fun c hc x hx => ?_)⟩
  · simp at z
    rcases z with y | y
    · exact hp.2.2.1 (y ▸ hx)
    · exact hq.2.2.1 (y ▸ hx)
  · have e1 := kp_ct_set (top := top) (cs := cs) (ys := xs') hv x
    unfold kp_ct at e1 ⊢
    have e2 : kp_cn (fun i => (va_up S j (((S j).set v (p, xs')).set (v + 1) (q, ys')) i).map (·.1)) x (top + 1) = kp_cn (fun i => (va_up S j ((S j).set v (p, xs')) i).map (·.1)) x (top + 1) := kp_cn_congr (fun i hi => by
      by_cases z : i = j
      · subst z; simp only [va_up_self]; exact kp_map_set hv2'
      · simp only [va_up_ne _ _ z])
    rw [e2, e1]
    exact h.2.1 x
  · by_cases z : i = j
    · subst z
      rw [va_up_self] at hni
      obtain ⟨w, hw⟩ := List.getElem?_of_mem hni
      by_cases w1 : w = v + 1
      · subst w1
        rw [List.getElem?_set_self (by have := (List.getElem?_eq_some_iff.mp hv2').1; exact this)] at hw
        rw [← Option.some.inj hw]; exact hn2
      · rw [List.getElem?_set_ne (fun y => w1 y.symm)] at hw
        by_cases w2 : w = v
        · subst w2
          rw [List.getElem?_set_self (by have := (List.getElem?_eq_some_iff.mp hv).1; exact this)] at hw
          rw [← Option.some.inj hw]; exact hn
        · rw [List.getElem?_set_ne (fun y => w2 y.symm)] at hw
          have hni' : n ∈ S i := List.mem_of_getElem? hw
          refine kp_nd_frame (h.2.2.1 i hi n hni') (hk.1 _ (by have := kp_on_node h hi hni'; omega) (fun y => ?_))
          simp at y
          obtain ⟨n1, n2⟩ := n
          simp only at y
          rcases y with y | y
          · subst y; exact w2 (kp_uniq (kp_on_ct h n1) hj hj hw hv).2
          · subst y; exact w1 (kp_uniq (kp_on_ct h n1) hj hj hw hv2).2
    · rw [va_up_ne _ _ z] at hni
      refine kp_nd_frame (h.2.2.1 i hi n hni) (hk.1 _ (by have := kp_on_node h hi hni; omega) (fun y => ?_))
      simp at y
      obtain ⟨w, hw⟩ := List.getElem?_of_mem hni
      obtain ⟨n1, n2⟩ := n
      simp only at y
      rcases y with y | y
      · subst y; exact z (kp_uniq (kp_on_ct h n1) hi hj hw hv).1
      · subst y; exact z (kp_uniq (kp_on_ct h n1) hi hj hw hv2).1
  · refine ⟨by have := kp_on_page h (kp_ct_chain (top := top) (S := S) hc hx); omega, fun z => ?_⟩
    simp at z
    rcases z with y | y
    · exact kp_apart (kp_on_ct h p) hj hm rfl hc (y ▸ hx)
    · exact kp_apart (kp_on_ct h q) hj hm2 rfl hc (y ▸ hx)
theorem kp_erase_map {L : List kp_N} {v : Nat} : (L.take v ++ L.drop (v + 1)).map (·.1) = (L.map (·.1)).take v ++ (L.map (·.1)).drop (v + 1) := by
  rw [List.map_append, List.map_take, List.map_drop]
theorem kp_erase_count {l : List Nat} {v p : Nat} (h : l[v]? = some p) (q : Nat) : (l.take v ++ l.drop (v + 1)).count q + [p].count q = l.count q := by
  obtain ⟨A, C, rfl, rfl⟩ := kp_dec h
  rw [show List.take A.length (A ++ p :: C) = A by simp, show List.drop (A.length + 1) (A ++ p :: C) = C by rw [List.drop_append, List.drop_of_length_le (by omega), show A.length + 1 - A.length = 1 by omega]; rfl]
  rw [List.count_append, List.count_append, List.count_cons (a := q) (b := p) (l := C), List.count_singleton]
  omega
/-- a node's page goes to the free ones -/
theorem kp_on_drop {M : kv_M} {top : Nat} {S : Nat → List kp_N} {cs : List kp_C} {fl : List Nat} {u : Nat} {ex : Nat → Nat} (h : kp_on M.1 top S cs fl u ex) {j v p : Nat} {xs : List Nat} (hj : j ≤ top) (hv : (S j)[v]? = some (p, xs)) : kp_on (kv_freeP M p).1 top (va_up S j ((S j).take v ++ (S j).drop (v + 1))) cs (p :: fl) u ex ∧ kp_keep M.1 (kv_freeP M p).1 [p] := by
  have hm : (p, xs) ∈ S j := List.mem_of_getElem? hv
  have hp := kp_on_node h hj hm
  have hu := h.1.2.2.2.2.1
  have hlen : (p :: fl).length ≤ u := kp_len_le u (p :: fl) (List.nodup_cons.mpr ⟨hp.2.2.1, kp_on_nd h⟩) (fun q hq => by
    rcases List.mem_cons.mp hq with y | y
    · rw [y]; exact ⟨hp.1, hp.2.1⟩
    · exact h.1.2.2.2.2.2 q y)
  simp only [List.length_cons] at hlen
  obtain ⟨f1, f2⟩ := kp_freeP h.1 hp.1 hp.2.1 hp.2.2.1 (by omega)
  refine ⟨⟨f1, fun x => ?_, fun i hi n hni => ?_, kp_chs_keep h.2.2.2 f2 (fun c hc x hx => ?_)⟩, f2⟩
  · have e := h.2.1 x
    unfold kp_ct at e ⊢
    have e2 := kp_cn_up (f := fun i => (va_up S j ((S j).take v ++ (S j).drop (v + 1)) i).map (·.1)) (g := fun i => (S i).map (·.1)) (q := x) (n := top + 1) (j := j) (by omega) (fun m hm hne => by simp only [va_up_ne _ _ hne])
    simp only [va_up_self] at e2
    rw [kp_erase_map] at e2
    have e3 := kp_erase_count (l := (S j).map (·.1)) (v := v) (p := p) (by rw [List.getElem?_map, hv]; rfl) x
    have e4 : (p :: fl).count x = [p].count x + fl.count x := by rw [List.count_cons, List.count_singleton]; omega
    omega
  · have key : ∀ w, (S i)[w]? = some n → ¬ (i = j ∧ w = v) → kp_nd (kv_freeP M p).1 n.1 i n.2 := by
      intro w hw hne
      have hni' : n ∈ S i := List.mem_of_getElem? hw
      refine kp_nd_frame (h.2.2.1 i hi n hni') (f2.1 _ (by have := kp_on_node h hi hni'; omega) (fun y => ?_))
      obtain ⟨n1, n2⟩ := n
      have y' : n1 = p := List.mem_singleton.mp y
      subst y'
      exact hne (kp_uniq (kp_on_ct h n1) hi hj hw hv)
    by_cases z : i = j
    · subst z
      rw [va_up_self] at hni
      rcases List.mem_append.mp hni with y | y
      · obtain ⟨w, hw⟩ := List.getElem?_of_mem y
        have hwl := (List.getElem?_eq_some_iff.mp hw).1
        rw [List.getElem?_take_of_lt (by simp at hwl; omega)] at hw
        exact key w hw (by simp at hwl; omega)
      · obtain ⟨w, hw⟩ := List.getElem?_of_mem y
        rw [List.getElem?_drop] at hw
        exact key _ hw (by omega)
    · rw [va_up_ne _ _ z] at hni
      obtain ⟨w, hw⟩ := List.getElem?_of_mem hni
      exact key w hw (by omega)
  · exact ⟨by have := kp_on_page h (kp_ct_chain (top := top) (S := S) hc hx); omega, fun z => by have y : x = p := List.mem_singleton.mp z; exact kp_apart (kp_on_ct h p) hj hm rfl hc (y ▸ hx)⟩
