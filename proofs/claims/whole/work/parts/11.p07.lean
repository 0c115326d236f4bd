/-! PURE, seventh: nodes: their slots as lists -/
def kp_nd (B : Nat → UInt8) (p lv : Nat) (xs : List Nat) : Prop := kv_num B (p * 32) = lv ∧ kv_num B (p * 32 + 2) = xs.length ∧ xs.length ≤ 14 ∧ ∀ i, i < xs.length → some (kv_slot B p i) = xs[i]?
theorem kp_nd_frame {B B' : Nat → UInt8} {p lv : Nat} {xs : List Nat} (h : kp_nd B p lv xs) (hp : kp_pg B B' p) : kp_nd B' p lv xs := by
  obtain ⟨h1, h2, h3, h4⟩ := h
  refine ⟨by rw [kp_pg_num0 hp]; exact h1, by rw [kp_pg_num hp (by omega)]; exact h2, h3, fun i hi => ?_⟩
  rw [← h4 i hi]
  unfold kv_slot
  rw [show p * 32 + 4 + 2 * i = p * 32 + (4 + 2 * i) by omega, kp_pg_num hp (by omega)]
theorem kp_nd_count {B : Nat → UInt8} {p lv : Nat} {xs : List Nat} (h : kp_nd B p lv xs) : kv_count B p = xs.length := by
  unfold kv_count
  rw [h.2.1]
  exact Nat.min_eq_left h.2.2.1
theorem kp_nd_level {B : Nat → UInt8} {p lv : Nat} {xs : List Nat} (h : kp_nd B p lv xs) (hl : lv ≤ 4) : kv_level B p = lv := by
  unfold kv_level
  rw [h.1]
  exact Nat.min_eq_left hl
theorem kp_slot_setSlot {M : kv_M} {p q i j s : Nat} (hp : p < 2720) (hi : i ≤ 13) (hj : j ≤ 13) (hs : s < 65536) : kv_slot (kv_setSlot M p i s).1 q j = if q = p ∧ j = i then s else kv_slot M.1 q j := by
  unfold kv_slot kv_setSlot
  rw [kv_num_setN (by omega) (by omega)]
  by_cases e : q = p ∧ j = i
  · rw [if_pos e, if_pos (by omega)]
    omega
  · rw [if_neg e, if_neg (by omega)]
theorem kp_hd_setSlot {M : kv_M} {p q i s k : Nat} (hi : i ≤ 13) (hk : k < 4) (hk2 : k % 2 = 0) : kv_num (kv_setSlot M p i s).1 (q * 32 + k) = kv_num M.1 (q * 32 + k) := by
  unfold kv_setSlot
  rw [kv_num_setN (by omega) (by omega), if_neg (by omega)]
theorem kp_keep_setSlot {M : kv_M} {p i s : Nat} (hp : p ≠ 0) (hi : i ≤ 13) : kp_keep M.1 (kv_setSlot M p i s).1 [p] := by
  unfold kv_setSlot
  rw [Nat.add_assoc]
  exact kp_keep_setN (by omega) (by omega) hp
theorem kp_upL (p i : Nat) (hp : p < 2720) (hp0 : p ≠ 0) : ∀ (k : Nat) (M : kv_M), i + k ≤ 13 →
    kp_keep M.1 (kv_upL p i k M).1 [p] ∧ (∀ t, t < 4 → t % 2 = 0 → kv_num (kv_upL p i k M).1 (p * 32 + t) = kv_num M.1 (p * 32 + t)) ∧ ∀ j, j ≤ 13 → kv_slot (kv_upL p i k M).1 p j = if i < j ∧ j ≤ i + k then kv_slot M.1 p (j - 1) else kv_slot M.1 p j
  | 0, M, h => ⟨kp_keep_refl _ _, fun _ _ _ => rfl, fun j hj => by rw [if_neg (by omega)]; rfl⟩
  | k + 1, M, h => by
    have hlt : kv_slot M.1 p (i + k) < 65536 := kv_num_lt _ _
    obtain ⟨r1, r2, r3⟩ := kp_upL p i hp hp0 k (kv_setSlot M p (i + k + 1) (kv_slot M.1 p (i + k))) (by omega)
    refine ⟨kp_keep_trans (kp_keep_setSlot hp0 (by omega)) r1, fun t h1 h2 => by rw [kv_upL, r2 t h1 h2, kp_hd_setSlot (by omega) h1 h2], fun j hj => ?_⟩
    rw [kv_upL, r3 j hj]
    by_cases e : i < j ∧ j ≤ i + k
    · rw [if_pos e, if_pos (by omega), kp_slot_setSlot hp (by omega) (by omega) hlt, if_neg (by omega)]
    · rw [if_neg e, kp_slot_setSlot hp (by omega) (by omega) hlt]
      by_cases e2 : j = i + k + 1
      · subst e2
        rw [if_pos ⟨rfl, rfl⟩, if_pos (by omega)]
        rfl
      · rw [if_neg (by omega), if_neg (by omega)]
theorem kp_insert {M : kv_M} {p lv i s : Nat} {xs : List Nat} (h : kp_nd M.1 p lv xs) (hp : p < 2720) (hp0 : p ≠ 0) (hi : i ≤ xs.length) (hl : xs.length < 14) (hs : s < 65536) : kp_nd (kv_insert M p i s).1 p lv (xs.take i ++ s :: xs.drop i) ∧ kp_keep M.1 (kv_insert M p i s).1 [p] := by
  have hc := kp_nd_count h
  obtain ⟨h1, h2, h3, h4⟩ := h
  unfold kv_insert
  rw [hc, if_neg (by omega)]
  obtain ⟨r1, r2, r3⟩ := kp_upL p i hp hp0 (xs.length - i) M (by omega)
  generalize kv_upL p i (xs.length - i) M = M1 at r1 r2 r3
  have s1 : ∀ j, j ≤ 13 → kv_slot (kv_setCount (kv_setSlot M1 p i s) p (xs.length + 1)).1 p j = if j = i then s else kv_slot M1.1 p j := by
    intro j hj
    have e : kv_slot (kv_setCount (kv_setSlot M1 p i s) p (xs.length + 1)).1 p j = kv_slot (kv_setSlot M1 p i s).1 p j := by
      unfold kv_slot kv_setCount
      rw [kv_num_setN (by omega) (by omega), if_neg (by omega)]
    rw [e, kp_slot_setSlot hp (by omega) hj hs]
    by_cases z : j = i
    · rw [if_pos ⟨rfl, z⟩, if_pos z]
    · rw [if_neg (by omega), if_neg z]
  refine ⟨⟨?_, ?_, by simp; omega, fun j hj => ?_⟩, ?_⟩
  · unfold kv_setCount
    rw [kv_num_setN (by omega) (by omega), if_neg (by omega)]
    have := kp_hd_setSlot (M := M1) (p := p) (q := p) (i := i) (s := s) (k := 0) (by omega) (by omega) rfl
    rw [Nat.add_zero] at this
    rw [this]
    have := r2 0 (by omega) rfl
    rw [Nat.add_zero] at this
    rw [this]
    exact h1
  · unfold kv_setCount
    rw [kv_num_setN (by omega) (by omega), if_pos ⟨rfl, by omega⟩]
    simp
    omega
  · have hj2 : j < xs.length + 1 := by simp at hj; omega
    rw [s1 j (by omega), r3 j (by omega)]
    by_cases z : j = i
    · subst z
      rw [if_pos rfl, List.getElem?_append_right (by simp; omega)]
      simp [Nat.min_eq_left hi]
    · rw [if_neg z]
      by_cases y : j < i
      · rw [if_neg (by omega), h4 j (by omega), List.getElem?_append_left (by simp; omega), List.getElem?_take_of_lt y]
      · rw [if_pos (by omega), h4 (j - 1) (by omega), List.getElem?_append_right (by simp; omega)]
        simp [Nat.min_eq_left hi]
        rw [show j - i = (j - 1 - i) + 1 by omega, List.getElem?_cons_succ, List.getElem?_drop]
        congr 1
        omega
  · exact kp_keep_trans r1 (kp_keep_trans (kp_keep_setSlot hp0 (by omega)) (kp_keep_setN rfl (by omega) hp0))
theorem kp_dnL (p : Nat) (hp : p < 2720) (hp0 : p ≠ 0) : ∀ (k i : Nat) (M : kv_M), i + k ≤ 13 →
    kp_keep M.1 (kv_dnL p k i M).1 [p] ∧ (∀ t, t < 4 → t % 2 = 0 → kv_num (kv_dnL p k i M).1 (p * 32 + t) = kv_num M.1 (p * 32 + t)) ∧ ∀ j, j ≤ 13 → kv_slot (kv_dnL p k i M).1 p j = if i ≤ j ∧ j < i + k then kv_slot M.1 p (j + 1) else kv_slot M.1 p j
  | 0, i, M, h => ⟨kp_keep_refl _ _, fun _ _ _ => rfl, fun j hj => by rw [if_neg (by omega)]; rfl⟩
  | k + 1, i, M, h => by
    have hlt : kv_slot M.1 p (i + 1) < 65536 := kv_num_lt _ _
    obtain ⟨r1, r2, r3⟩ := kp_dnL p hp hp0 k (i + 1) (kv_setSlot M p i (kv_slot M.1 p (i + 1))) (by omega)
    refine ⟨kp_keep_trans (kp_keep_setSlot hp0 (by omega)) r1, fun t h1 h2 => by rw [kv_dnL, r2 t h1 h2, kp_hd_setSlot (by omega) h1 h2], fun j hj => ?_⟩
    rw [kv_dnL, r3 j hj]
    by_cases e : i + 1 ≤ j ∧ j < i + 1 + k
    · rw [if_pos e, if_pos (by omega), kp_slot_setSlot hp (by omega) (by omega) hlt, if_neg (by omega)]
    · rw [if_neg e, kp_slot_setSlot hp (by omega) (by omega) hlt]
      by_cases e2 : j = i
      · subst e2
        rw [if_pos ⟨rfl, rfl⟩, if_pos (by omega)]
      · rw [if_neg (by omega), if_neg (by omega)]
theorem kp_delete {M : kv_M} {p lv i : Nat} {xs : List Nat} (h : kp_nd M.1 p lv xs) (hp : p < 2720) (hp0 : p ≠ 0) (hi : i < xs.length) : kp_nd (kv_delete M p i).1 p lv (xs.take i ++ xs.drop (i + 1)) ∧ kp_keep M.1 (kv_delete M p i).1 [p] := by
  have hc := kp_nd_count h
  obtain ⟨h1, h2, h3, h4⟩ := h
  unfold kv_delete
  rw [hc, if_neg (by omega)]
  obtain ⟨r1, r2, r3⟩ := kp_dnL p hp hp0 (xs.length - 1 - i) i M (by omega)
  generalize kv_dnL p (xs.length - 1 - i) i M = M1 at r1 r2 r3
  have s1 : ∀ j, j ≤ 13 → kv_slot (kv_setCount M1 p (xs.length - 1)).1 p j = kv_slot M1.1 p j := by
    intro j hj
    unfold kv_slot kv_setCount
    rw [kv_num_setN (by omega) (by omega), if_neg (by omega)]
  refine ⟨⟨?_, ?_, by simp; omega, fun j hj => ?_⟩, kp_keep_trans r1 (kp_keep_setN rfl (by omega) hp0)⟩
  · unfold kv_setCount
    rw [kv_num_setN (by omega) (by omega), if_neg (by omega)]
    have := r2 0 (by omega) rfl
    rw [Nat.add_zero] at this
    rw [this]
    exact h1
  · unfold kv_setCount
    rw [kv_num_setN (by omega) (by omega), if_pos ⟨rfl, by omega⟩]
    simp
    omega
  · have hj2 : j < xs.length - 1 := by simp at hj; omega
    rw [s1 j (by omega), r3 j (by omega)]
    by_cases y : j < i
    · rw [if_neg (by omega), h4 j (by omega), List.getElem?_append_left (by simp; omega), List.getElem?_take_of_lt y]
    · rw [if_pos (by omega), h4 (j + 1) (by omega), List.getElem?_append_right (by simp; omega)]
      simp
      rw [Nat.min_eq_left (by omega)]
      congr 1
      omega
theorem kp_layL (p : Nat) (P : Nat → Nat) (off : Nat) (hP : ∀ j, P j < 65536) (hp : p < 2720) (hp0 : p ≠ 0) : ∀ (k i : Nat) (M : kv_M), i + k ≤ 14 →
    kp_keep M.1 (kv_layL p P off k i M).1 [p] ∧ (∀ t, t < 4 → t % 2 = 0 → kv_num (kv_layL p P off k i M).1 (p * 32 + t) = kv_num M.1 (p * 32 + t)) ∧ ∀ j, j ≤ 13 → kv_slot (kv_layL p P off k i M).1 p j = if i ≤ j ∧ j < i + k then P (off + j) else kv_slot M.1 p j
  | 0, i, M, h => ⟨kp_keep_refl _ _, fun _ _ _ => rfl, fun j hj => by rw [if_neg (by omega)]; rfl⟩
  | k + 1, i, M, h => by
    obtain ⟨r1, r2, r3⟩ := kp_layL p P off hP hp hp0 k (i + 1) (kv_setSlot M p i (P (off + i))) (by omega)
    refine ⟨kp_keep_trans (kp_keep_setSlot hp0 (by omega)) r1, fun t h1 h2 => by rw [kv_layL, r2 t h1 h2, kp_hd_setSlot (by omega) h1 h2], fun j hj => ?_⟩
    rw [kv_layL, r3 j hj]
    by_cases e : i + 1 ≤ j ∧ j < i + 1 + k
    · rw [if_pos e, if_pos (by omega)]
    · rw [if_neg e, kp_slot_setSlot hp (by omega) (by omega) (hP _)]
      by_cases e2 : j = i
      · subst e2
        rw [if_pos ⟨rfl, rfl⟩, if_pos (by omega)]
      · rw [if_neg (by omega), if_neg (by omega)]
