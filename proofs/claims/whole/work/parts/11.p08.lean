/-! PURE, eighth: slots are shared between two neighbours; split and merge -/
theorem kp_gath_lt (B : Nat → UInt8) (l r ofl all : Nat) (P : Nat → Nat) (hP : ∀ j, P j < 65536) : ∀ j, kv_gath B l r ofl all P j < 65536 := by
  intro j
  unfold kv_gath
  split
  · split <;> exact kv_num_lt _ _
  · exact hP j
theorem kp_share {M : kv_M} {l r lv toL : Nat} {xs ys : List Nat} {P : Nat → Nat} (hl : kp_nd M.1 l lv xs) (hr : kp_nd M.1 r lv ys) (hP : ∀ j, P j < 65536) (hlr : l ≠ r) (hl0 : l ≠ 0) (hr0 : r ≠ 0) (hl1 : l < 2720) (hr1 : r < 2720) (h1 : toL ≤ 14) (h2 : toL ≤ xs.length + ys.length) (h3 : xs.length + ys.length - toL ≤ 14) :
    kp_nd (kv_share M l r toL P).1.1 l lv ((xs ++ ys).take toL) ∧ kp_nd (kv_share M l r toL P).1.1 r lv ((xs ++ ys).drop toL) ∧ kp_keep M.1 (kv_share M l r toL P).1.1 [l, r] ∧ (∀ j, (kv_share M l r toL P).2 j < 65536) := by
  have cl := kp_nd_count hl
  have cr := kp_nd_count hr
  obtain ⟨l1, l2, l3, l4⟩ := hl
  obtain ⟨r1, r2, r3, r4⟩ := hr
  unfold kv_share
  rw [cl, cr]
  dsimp only
  have hG := kp_gath_lt M.1 l r xs.length (xs.length + ys.length) P hP
  have hGa : ∀ j, j < xs.length + ys.length → some (kv_gath M.1 l r xs.length (xs.length + ys.length) P j) = (xs ++ ys)[j]? := by
    intro j hj
    unfold kv_gath
    rw [if_pos hj]
    by_cases z : j < xs.length
    · rw [if_pos z, l4 j z, List.getElem?_append_left z]
    · rw [if_neg z, r4 (j - xs.length) (by omega), List.getElem?_append_right (by omega)]
  generalize kv_gath M.1 l r xs.length (xs.length + ys.length) P = G at hG hGa
  obtain ⟨a1, a2, a3⟩ := kp_layL l G 0 hG hl1 hl0 toL 0 M (by omega)
  generalize kv_layL l G 0 toL 0 M = M1 at a1 a2 a3
  obtain ⟨b1, b2, b3⟩ := kp_layL r G toL hG hr1 hr0 (xs.length + ys.length - toL) 0 M1 (by omega)
  generalize kv_layL r G toL (xs.length + ys.length - toL) 0 M1 = M2 at b1 b2 b3
  have k3 : kp_keep M2.1 (kv_setCount M2 l toL).1 [l] := kp_keep_setN rfl (by omega) hl0
  have k4 : kp_keep (kv_setCount M2 l toL).1 (kv_setCount (kv_setCount M2 l toL) r (xs.length + ys.length - toL)).1 [r] := kp_keep_setN rfl (by omega) hr0
  have sl : ∀ q j, q < 2720 → j ≤ 13 → kv_slot (kv_setCount (kv_setCount M2 l toL) r (xs.length + ys.length - toL)).1 q j = kv_slot M2.1 q j := by
    intro q j hq hj
    unfold kv_slot kv_setCount
    rw [kv_num_setN (by omega) (by omega), if_neg (by omega), kv_num_setN (by omega) (by omega), if_neg (by omega)]
  have lev : ∀ q, q < 2720 → kv_num (kv_setCount (kv_setCount M2 l toL) r (xs.length + ys.length - toL)).1 (q * 32) = kv_num M2.1 (q * 32) := by
    intro q hq
    unfold kv_setCount
    rw [kv_num_setN (by omega) (by omega), if_neg (by omega), kv_num_setN (by omega) (by omega), if_neg (by omega)]
  have sM1 : ∀ j, j ≤ 13 → kv_slot M2.1 l j = kv_slot M1.1 l j := by
    intro j hj
    unfold kv_slot
    rw [show l * 32 + 4 + 2 * j = l * 32 + (4 + 2 * j) by omega]
    exact kp_keep_num b1 hl0 (by simp; exact hlr) (by omega)
  refine ⟨⟨?_, ?_, by simp; omega, fun j hj => ?_⟩, ⟨?_, ?_, by simp; omega, fun j hj => ?_⟩, ?_, hG⟩
  · rw [lev l hl1]
    have e1 := kp_keep_num b1 (q := l) (i := 0) hl0 (by simp; exact hlr) (by omega)
    have e2 := a2 0 (by omega) rfl
    rw [Nat.add_zero] at e1 e2
    rw [e1, e2]
    exact l1
  · unfold kv_setCount
    rw [kv_num_setN (by omega) (by omega), if_neg (by omega), kv_num_setN (by omega) (by omega), if_pos ⟨rfl, by omega⟩]
    simp
    omega
  · have hj2 : j < toL := by simp at hj; omega
    rw [sl l j hl1 (by omega), sM1 j (by omega), a3 j (by omega), if_pos (by omega), Nat.zero_add, hGa j (by omega), List.getElem?_take_of_lt hj2]
  · rw [lev r hr1]
    have e1 := kp_keep_num a1 (q := r) (i := 0) hr0 (by simp; exact fun z => hlr z.symm) (by omega)
    have e2 := b2 0 (by omega) rfl
    rw [Nat.add_zero] at e1 e2
    rw [e2, e1]
    exact r1
  · unfold kv_setCount
    rw [kv_num_setN (by omega) (by omega), if_pos ⟨rfl, by omega⟩]
    simp
    omega
  · have hj2 : j < xs.length + ys.length - toL := by simp at hj; omega
    rw [sl r j hr1 (by omega), b3 j (by omega), if_pos (by omega), hGa (toL + j) (by omega), List.getElem?_drop]
  · refine kp_keep_trans (kp_keep_mono a1 (by simp)) (kp_keep_trans (kp_keep_mono b1 (by simp)) (kp_keep_trans (kp_keep_mono k3 (by simp)) (kp_keep_mono k4 (by simp))))
