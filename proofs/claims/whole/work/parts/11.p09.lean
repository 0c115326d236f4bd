/-! PURE, ninth: levels of a tree: lists of nodes with their slots; flat places -/
abbrev kp_N : Type := Nat × List Nat
abbrev kp_C : Type := Nat × List Nat × List UInt8 × List UInt8
def kp_fl (L : List kp_N) : List Nat := L.flatMap (·.2)
/-- how many slots stand before node v of a level -/
def kp_off (L : List kp_N) (v : Nat) : Nat := (kp_fl (L.take v)).length
theorem kp_fl_nil : kp_fl [] = [] := rfl
theorem kp_fl_cons (n : kp_N) (L : List kp_N) : kp_fl (n :: L) = n.2 ++ kp_fl L := by simp [kp_fl]
theorem kp_fl_app (L M : List kp_N) : kp_fl (L ++ M) = kp_fl L ++ kp_fl M := by simp [kp_fl]
theorem kp_off_0 (L : List kp_N) : kp_off L 0 = 0 := by simp [kp_off, kp_fl]
theorem kp_off_len (L : List kp_N) {v : Nat} (h : L.length ≤ v) : kp_off L v = (kp_fl L).length := by
  unfold kp_off
  rw [List.take_of_length_le h]
theorem kp_off_s {L : List kp_N} {v : Nat} {n : kp_N} (h : L[v]? = some n) : kp_off L (v + 1) = kp_off L v + n.2.length := by
  unfold kp_off
  rw [List.take_add_one, h, Option.toList_some, kp_fl_app, List.length_append]
  simp [kp_fl]
theorem kp_fl_at : ∀ {L : List kp_N} {v t : Nat} {n : kp_N}, L[v]? = some n → t < n.2.length → (kp_fl L)[kp_off L v + t]? = n.2[t]?
  | [], v, t, n, h, _ => by simp at h
  | m :: L, 0, t, n, h, ht => by
    have e : m = n := by simpa using h
    subst e
    rw [kp_off_0, Nat.zero_add, kp_fl_cons, List.getElem?_append_left ht]
  | m :: L, v + 1, t, n, h, ht => by
    have e : kp_off (m :: L) (v + 1) = m.2.length + kp_off L v := by
      unfold kp_off
      rw [List.take_succ_cons, kp_fl_cons, List.length_append]
    rw [e, kp_fl_cons, List.getElem?_append_right (by omega), show m.2.length + kp_off L v + t - m.2.length = kp_off L v + t by omega]
    exact kp_fl_at (by simpa using h) ht
theorem kp_off_mono (L : List kp_N) {v w : Nat} (h : v ≤ w) : kp_off L v ≤ kp_off L w := by
  induction w with
  | zero => have : v = 0 := by omega
            subst this; exact Nat.le_refl _
  | succ w ih =>
    by_cases z : v = w + 1
    · subst z; exact Nat.le_refl _
    · refine Nat.le_trans (ih (by omega)) ?_
      cases hn : L[w]? with
      | none =>
        have := List.getElem?_eq_none_iff.mp hn
        rw [kp_off_len L (by omega), kp_off_len L (by omega)]
        exact Nat.le_refl _
      | some n => rw [kp_off_s hn]; omega
theorem kp_off_smono {L : List kp_N} (hne : ∀ n ∈ L, n.2 ≠ []) {v w : Nat} (h : v < w) (hw : w ≤ L.length) : kp_off L v < kp_off L w := by
  have hv : v < L.length := by omega
  have h1 : L[v]? = some L[v] := List.getElem?_eq_getElem hv
  have h2 := kp_off_s h1
  have h3 := hne L[v] (List.getElem_mem hv)
  have h4 : 0 < L[v].2.length := List.length_pos_iff.mpr h3
  have h5 := kp_off_mono L (v := v + 1) (w := w) (by omega)
  omega
/-- a flat place lies in one node -/
theorem kp_fl_find : ∀ {L : List kp_N} {x : Nat}, x < (kp_fl L).length → ∃ (v t : Nat) (n : kp_N), L[v]? = some n ∧ t < n.2.length ∧ x = kp_off L v + t
  | [], x, h => by simp [kp_fl] at h
  | m :: L, x, h => by
    by_cases z : x < m.2.length
    · exact ⟨0, x, m, rfl, z, by rw [kp_off_0]; omega⟩
    · rw [kp_fl_cons, List.length_append] at h
      obtain ⟨v, t, n, h1, h2, h3⟩ := kp_fl_find (L := L) (x := x - m.2.length) (by omega)
      refine ⟨v + 1, t, n, by simpa using h1, h2, ?_⟩
      have e : kp_off (m :: L) (v + 1) = m.2.length + kp_off L v := by
        unfold kp_off
        rw [List.take_succ_cons, kp_fl_cons, List.length_append]
      omega
/-- the levels 0 to i of a tree, S j is level j; cs are the chains below -/
def kp_fo (B : Nat → UInt8) (i : Nat) (S : Nat → List kp_N) (cs : List kp_C) : Prop :=
  (∀ j, j < i → kp_fl (S (j + 1)) = (S j).map (·.1)) ∧ kp_fl (S 0) = cs.map (·.1) ∧ (∀ j, j ≤ i → ∀ n ∈ S j, kp_nd B n.1 j n.2) ∧ ∀ c ∈ cs, kp_ch B c.1 c.2.1 c.2.2.1 c.2.2.2
/-- which chain is the first below item x of kind j (0: a chain, j + 1: a node of level j) -/
def kp_ld (S : Nat → List kp_N) : Nat → Nat → Nat
  | 0, x => x
  | j + 1, x => kp_ld S j (kp_off (S j) x)
/-- the number of item x of kind j -/
def kp_it (S : Nat → List kp_N) (cs : List kp_C) (j x : Nat) : Option Nat := match j with
  | 0 => (cs[x]?).map (·.1)
  | j + 1 => ((S j)[x]?).map (·.1)
/-- how many items of kind j there are -/
def kp_ni (S : Nat → List kp_N) (cs : List kp_C) (j : Nat) : Nat := match j with
  | 0 => cs.length
  | j + 1 => (S j).length
theorem kp_fl_it {B : Nat → UInt8} {i : Nat} {S : Nat → List kp_N} {cs : List kp_C} (h : kp_fo B i S cs) {j x : Nat} (hj : j ≤ i) : (kp_fl (S j))[x]? = kp_it S cs j x := by
  cases j with
  | zero => rw [h.2.1, List.getElem?_map]; rfl
  | succ j => rw [h.1 j (by omega), List.getElem?_map]; rfl
theorem kp_fl_len {B : Nat → UInt8} {i : Nat} {S : Nat → List kp_N} {cs : List kp_C} (h : kp_fo B i S cs) {j : Nat} (hj : j ≤ i) : (kp_fl (S j)).length = kp_ni S cs j := by
  cases j with
  | zero => rw [h.2.1, List.length_map]; rfl
  | succ j => rw [h.1 j (by omega), List.length_map]; rfl
/-- slot t of node v of level j is item off + t -/
theorem kp_slot_it {B : Nat → UInt8} {i : Nat} {S : Nat → List kp_N} {cs : List kp_C} (h : kp_fo B i S cs) {j v t : Nat} {n : kp_N} (hj : j ≤ i) (hv : (S j)[v]? = some n) (ht : t < n.2.length) : some (kv_slot B n.1 t) = kp_it S cs j (kp_off (S j) v + t) := by
  rw [← kp_fl_it h hj, kp_fl_at hv ht]
  exact (h.2.2.1 j hj n (List.mem_of_getElem? hv)).2.2.2 t ht
theorem kp_ld_end {B : Nat → UInt8} {i : Nat} {S : Nat → List kp_N} {cs : List kp_C} (h : kp_fo B i S cs) : ∀ {j : Nat}, j ≤ i + 1 → kp_ld S j (kp_ni S cs j) = cs.length
  | 0, _ => rfl
  | j + 1, hj => by
    show kp_ld S j (kp_off (S j) (S j).length) = _
    rw [kp_off_len _ (Nat.le_refl _), kp_fl_len h (by omega)]
    exact kp_ld_end h (by omega)
theorem kp_ld_0 (S : Nat → List kp_N) : ∀ j : Nat, kp_ld S j 0 = 0
  | 0 => rfl
  | j + 1 => by
    show kp_ld S j (kp_off (S j) 0) = 0
    rw [kp_off_0]
    exact kp_ld_0 S j
theorem kp_ld_smono {B : Nat → UInt8} {i : Nat} {S : Nat → List kp_N} {cs : List kp_C} (h : kp_fo B i S cs) : ∀ {j x y : Nat}, (∀ m, m < j → ∀ n ∈ S m, n.2 ≠ []) → j ≤ i + 1 → x < y → y ≤ kp_ni S cs j → kp_ld S j x < kp_ld S j y
  | 0, _, _, _, _, hxy, _ => hxy
  | j + 1, x, y, hne, hj, hxy, hy => by
    show kp_ld S j (kp_off (S j) x) < kp_ld S j (kp_off (S j) y)
    refine kp_ld_smono h (fun m hm => hne m (by omega)) (by omega) (kp_off_smono (hne j (by omega)) hxy hy) ?_
    rw [← kp_fl_len h (by omega), ← kp_off_len (S j) (Nat.le_refl _)]
    exact kp_off_mono _ hy
theorem kp_ld_mono {B : Nat → UInt8} {i : Nat} {S : Nat → List kp_N} {cs : List kp_C} (h : kp_fo B i S cs) {j x y : Nat} (hne : ∀ m, m < j → ∀ n ∈ S m, n.2 ≠ []) (hj : j ≤ i + 1) (hxy : x ≤ y) (hy : y ≤ kp_ni S cs j) : kp_ld S j x ≤ kp_ld S j y := by
  by_cases z : x = y
  · subst z; exact Nat.le_refl _
  · exact Nat.le_of_lt (kp_ld_smono h hne hj (by omega) hy)
/-- Nodes.least finds the first chain below an item -/
theorem kp_least {B : Nat → UInt8} {i : Nat} {S : Nat → List kp_N} {cs : List kp_C} (h : kp_fo B i S cs) : ∀ {j x s : Nat}, (∀ m, m < j → ∀ n ∈ S m, n.2 ≠ []) → j ≤ i + 1 → kp_it S cs j x = some s → (cs[kp_ld S j x]?).map (·.1) = some (kv_least B j s)
  | 0, x, s, _, _, hx => hx
  | j + 1, x, s, hne, hj, hx => by
    unfold kp_it at hx
    rw [Option.map_eq_some_iff] at hx
    obtain ⟨n, hn, hs⟩ := hx
    have hlen : 0 < n.2.length := List.length_pos_iff.mpr (hne j (by omega) n (List.mem_of_getElem? hn))
    have h1 := kp_slot_it h (by omega) hn hlen
    subst hs
    rw [Nat.add_zero] at h1
    have h2 := kp_least h (j := j) (x := kp_off (S j) x) (s := kv_slot B n.1 0) (fun m hm => hne m (by omega)) (by omega) h1.symm
    exact h2
