/-! PURE, eleventh: looking up, and the first from a KEY on -/
theorem kp_desc {B R : Nat → UInt8} {len top t : Nat} {S : Nat → List kp_N} {cs : List kp_C} {K : List UInt8} {r r' : Nat} (h : kp_se B R len top S cs K r r') {xs : List Nat} (hroot : S top = [(kv_root B t, xs)]) (pn ps : Nat → Nat) :
    ∃ nu : Nat → Nat, nu top = 0 ∧ kp_path S top (kv_desc B R len t pn ps).1 (kv_desc B R len t pn ps).2 nu ∧ (∀ j, top < j → (kv_desc B R len t pn ps).1 j = pn j ∧ (kv_desc B R len t pn ps).2 j = ps j) ∧
      (nu 0 = 0 ∨ kp_off (S 0) (nu 0) < r') ∧ r' ≤ kp_off (S 0) (nu 0 + 1) ∧ kp_off (S 0) (nu 0) + (kv_desc B R len t pn ps).2 0 = r ∧ (∃ m, (S 0)[nu 0]? = some m ∧ (kv_desc B R len t pn ps).2 0 ≤ m.2.length) ∧ (∀ j, j ≤ top → (nu j = 0 ∨ kp_ld S (j + 1) (nu j) < r') ∧ r' ≤ kp_ld S (j + 1) (nu j + 1)) := by
  have hfo := h.1
  have hrk := h.2.2.2.2.2.2
  have h0 : (S top)[0]? = some (kv_root B t, xs) := by rw [hroot]; rfl
  have hnd := hfo.2.2.1 top (Nat.le_refl _) (kv_root B t, xs) (List.mem_of_getElem? h0)
  have hend := kp_ld_end hfo (j := top + 1) (Nat.le_refl _)
  have hni : kp_ni S cs (top + 1) = 1 := by show (S top).length = 1; rw [hroot]; rfl
  rw [hni] at hend
  unfold kv_desc
  rw [kp_nd_level hnd h.2.1]
  exact kp_desL h top 0 (kv_root B t, xs) pn ps (Nat.le_refl _) h0 (Or.inl rfl) (by rw [hend]; exact hrk.2.2.1)
theorem kp_path_at {B : Nat → UInt8} {i : Nat} {S : Nat → List kp_N} {cs : List kp_C} (h : kp_fo B i S cs) {l : Nat} {pn ps nu : Nat → Nat} (hl : l ≤ i) (hp : kp_path S l pn ps nu) {j : Nat} (hj : j ≤ l) : ∃ xs, (S j)[nu j]? = some (pn j, xs) ∧ kp_nd B (pn j) j xs := by
  have h1 := hp.1 j hj
  rw [Option.map_eq_some_iff] at h1
  obtain ⟨n, hn, he⟩ := h1
  have h2 := h.2.2.1 j (by omega) n (List.mem_of_getElem? hn)
  obtain ⟨a, b⟩ := n
  simp only at he
  subst he
  exact ⟨b, hn, h2⟩
theorem kp_look {B R : Nat → UInt8} {len top t : Nat} {S : Nat → List kp_N} {cs : List kp_C} {K : List UInt8} {r r' : Nat} (h : kp_se B R len top S cs K r r') {xs : List Nat} (hroot : S top = [(kv_root B t, xs)]) (pn ps : Nat → Nat) :
    kv_look B R len t pn ps = if r < r' then ((cs[r]?).map (·.1)).getD 0 else 0 := by
  obtain ⟨nu, h1, h2, h3, h4, h5, h6, ⟨m, h7, h8⟩, h9⟩ := kp_desc h hroot pn ps
  have hfo := h.1
  have hrk := h.2.2.2.2.2.2
  obtain ⟨ys, y1, y2⟩ := kp_path_at hfo (Nat.le_refl _) h2 (j := 0) (by omega)
  have em : m = ((kv_desc B R len t pn ps).1 0, ys) := by rw [h7] at y1; exact Option.some.inj y1
  subst em
  have hs := kp_off_s h7
  unfold kv_look
  rw [kp_nd_count y2]
  by_cases z : ys.length ≤ (kv_desc B R len t pn ps).2 0
  · rw [if_pos z, if_neg]
    simp only at hs h8
    omega
  · rw [if_neg z]
    have hit := kp_slot_it hfo (by omega) h7 (t := (kv_desc B R len t pn ps).2 0) (by simp only; omega)
    simp only [h6] at hit
    have hit2 : (cs[r]?).map (·.1) = some (kv_slot B ((kv_desc B R len t pn ps).1 0) ((kv_desc B R len t pn ps).2 0)) := hit.symm
    rw [hit2]
    rw [Option.map_eq_some_iff] at hit2
    obtain ⟨c, c1, c2⟩ := hit2
    have hcm := List.mem_of_getElem? c1
    have hsg := kp_cmp (hfo.2.2.2 c hcm) h.2.2.2.1 (h.2.2.2.2.2.1 c hcm) h.2.2.2.2.1
    have hc := hrk.2.2.2 r c c1
    have hneg := kp_c_neg K c.2.2.1
    rw [← c2]
    by_cases y : r < r'
    · have e1 := hc.2.mpr y
      have e2 : ¬ kp_c c.2.2.1 K < 0 := fun w => by have := hc.1.mp w; omega
      rw [if_pos (hsg.2.mpr (by omega)), if_pos y]
      rfl
    · have e1 : ¬ kp_c c.2.2.1 K ≤ 0 := fun w => y (hc.2.mp w)
      rw [if_neg (fun w => by have := hsg.2.mp w; omega), if_neg y]
theorem kp_upF {B : Nat → UInt8} {top : Nat} {S : Nat → List kp_N} {cs : List kp_C} (hfo : kp_fo B top S cs) (hne : 0 < top → ∀ j, j ≤ top → ∀ n ∈ S j, n.2 ≠ []) (h1 : (S top).length = 1) {pn ps nu : Nat → Nat} (hp : kp_path S top pn ps nu) (h0 : nu top = 0) :
    ∀ (k l : Nat), l + 1 + k = top + 1 → kv_upF B pn ps k (l + 1) = ((cs[kp_ld S (l + 1) (nu l + 1)]?).map (·.1)).getD 0
  | 0, l, hk => by
    have e : l = top := by omega
    subst e
    have hend := kp_ld_end hfo (j := l + 1) (Nat.le_refl _)
    have hni : kp_ni S cs (l + 1) = 1 := h1
    rw [hni] at hend
    rw [h0, hend, List.getElem?_eq_none (Nat.le_refl _)]
    rfl
  | k + 1, l, hk => by
    obtain ⟨e1, n, n1, n2⟩ := hp.2 l (by omega)
    obtain ⟨ys, y1, y2⟩ := kp_path_at hfo (Nat.le_refl _) hp (j := l + 1) (by omega)
    have en : n = (pn (l + 1), ys) := by rw [n1] at y1; exact Option.some.inj y1
    subst en
    have hs := kp_off_s n1
    rw [kv_upF, kp_nd_count y2]
    by_cases z : ps (l + 1) + 1 < ys.length
    · rw [if_pos z]
      have hit := kp_slot_it hfo (by omega) n1 (t := ps (l + 1) + 1) z
      simp only at hit
      rw [show kp_off (S (l + 1)) (nu (l + 1)) + (ps (l + 1) + 1) = nu l + 1 by omega] at hit
      have hle := kp_least hfo (j := l + 1) (fun m hm => hne (by omega) m (by omega)) (by omega) hit.symm
      rw [hle]
      rfl
    · rw [if_neg z, kp_upF hfo hne h1 hp h0 k (l + 1) (by omega)]
      have e2 : nu l + 1 = kp_off (S (l + 1)) (nu (l + 1) + 1) := by simp only at hs n2; omega
      rw [e2]
      rfl
theorem kp_first {B R : Nat → UInt8} {len top t : Nat} {S : Nat → List kp_N} {cs : List kp_C} {K : List UInt8} {r r' : Nat} (h : kp_se B R len top S cs K r r') {xs : List Nat} (hroot : S top = [(kv_root B t, xs)]) (after : Bool) (pn ps : Nat → Nat) :
    kv_first B R len t after pn ps = ((cs[if after = true then r' else r]?).map (·.1)).getD 0 := by
  obtain ⟨nu, h1, h2, h3, h4, h5, h6, ⟨m, h7, h8⟩, h9⟩ := kp_desc h hroot pn ps
  have hfo := h.1
  have hrk := h.2.2.2.2.2.2
  have hroot0 : (S top)[0]? = some (kv_root B t, xs) := by rw [hroot]; rfl
  have hndr := hfo.2.2.1 top (Nat.le_refl _) (kv_root B t, xs) (List.mem_of_getElem? hroot0)
  obtain ⟨ys, y1, y2⟩ := kp_path_at hfo (Nat.le_refl _) h2 (j := 0) (by omega)
  have em : m = ((kv_desc B R len t pn ps).1 0, ys) := by rw [h7] at y1; exact Option.some.inj y1
  subst em
  have hs := kp_off_s h7
  simp only at hs h8
  -- the slot that is looked at
  have hi : kp_off (S 0) (nu 0) + (if after = true then kv_rank B R len ((kv_desc B R len t pn ps).1 0) true else (kv_desc B R len t pn ps).2 0) = (if after = true then r' else r) ∧ (if after = true then kv_rank B R len ((kv_desc B R len t pn ps).1 0) true else (kv_desc B R len t pn ps).2 0) ≤ ys.length := by
    cases after with
    | false => exact ⟨h6, h8⟩
    | true =>
      obtain ⟨rho, e, hrho, hP⟩ := kp_rank h (by omega) h7 true
      simp only at e hrho hP
      rw [if_pos rfl, if_pos rfl, e]
      have hle : kp_off (S 0) (nu 0) ≤ r' := by
        rcases h4 with z | z
        · rw [z, kp_off_0]; omega
        · omega
      refine ⟨?_, hrho⟩
      rcases Nat.lt_trichotomy (kp_off (S 0) (nu 0) + rho) r' with z | z | z
      · have := (hP rho (by omega)).mpr (by rw [if_pos trivial]; exact z)
        omega
      · exact z
      · have := (hP (rho - 1) (by omega)).mp (by omega)
        rw [if_pos trivial] at this
        have : kp_off (S 0) (nu 0) + (rho - 1) < r' := this
        omega
  unfold kv_first
  generalize (if after = true then kv_rank B R len ((kv_desc B R len t pn ps).1 0) true else (kv_desc B R len t pn ps).2 0) = i at hi ⊢
  generalize (if after = true then r' else r) = x at hi ⊢
  rw [kp_nd_count y2]
  by_cases z : i < ys.length
  · rw [if_pos z]
    have hit := kp_slot_it hfo (by omega) h7 (t := i) z
    simp only at hit
    rw [hi.1] at hit
    have hit2 : (cs[x]?).map (·.1) = some (kv_slot B ((kv_desc B R len t pn ps).1 0) i) := hit.symm
    rw [hit2]
    rfl
  · rw [if_neg z, kp_nd_level hndr h.2.1, kp_upF hfo h.2.2.1 (by rw [hroot]; rfl) h2 h1 top 0 (by omega)]
    have e2 : x = kp_off (S 0) (nu 0 + 1) := by omega
    rw [e2]
    rfl
