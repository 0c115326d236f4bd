/-! PURE, third: reading a chain's bytes into a row -/
/-- page p and place a, where byte pos of the ENTRY is (or right behind the page) -/
def kp_pos (ps : List Nat) (pos p a : Nat) : Prop := ∃ m, ps[m]? = some p ∧ a = kp_so m + (pos - kp_st m) ∧ kp_st m ≤ pos ∧ pos ≤ kp_st m + (32 - kp_so m)
theorem kp_so_in (m : Nat) : 2 ≤ kp_so m ∧ kp_so m ≤ 6 := by unfold kp_so; split <;> omega
theorem kp_pos_le {ps : List Nat} {pos p a : Nat} (h : kp_pos ps pos p a) : 2 ≤ a ∧ a ≤ 32 := by
  obtain ⟨m, -, h2, h3, h4⟩ := h
  have := kp_so_in m
  omega
theorem kp_pos_addr {ps : List Nat} {pos p a t : Nat} (h : kp_pos ps pos p a) (ht : a + t < 32) : kp_addr ps (pos + t) = p * 32 + a + t := by
  obtain ⟨m, h1, h2, h3, h4⟩ := h
  rw [show pos + t = kp_st m + (pos - kp_st m + t) by omega, kp_addr_st h1 (by omega)]
  omega
theorem kp_pos_add {ps : List Nat} {pos p a t : Nat} (h : kp_pos ps pos p a) (ht : a + t ≤ 32) : kp_pos ps (pos + t) p (a + t) := by
  obtain ⟨m, h1, h2, h3, h4⟩ := h
  have := kp_so_in m
  exact ⟨m, h1, by omega, by omega, by omega⟩
theorem kp_pos_next {ps : List Nat} {pos p n : Nat} {B : Nat → UInt8} (h : kp_pos ps pos p 32) (hlk : kp_lk B ps 0) (hl : ps.length = kp_pf n) (hn : pos < n) : kp_pos ps pos (kv_num B (p * 32)) 2 := by
  obtain ⟨m, h1, h2, h3, h4⟩ := h
  have hs := kp_so_in m
  have hst := kp_st_next m
  have e : pos = kp_st (m + 1) := by omega
  have hm1 : m + 1 < ps.length := by rw [hl]; exact kp_pf_lt (by omega)
  have hm : m < ps.length := by omega
  have hnx := kp_lk_next hlk hm
  rw [show ps[m] = p from by have := h1; rw [List.getElem?_eq_getElem hm] at this; exact Option.some.inj this, List.getElem?_eq_getElem hm1] at hnx
  have e3 : kp_so (m + 1) = 2 := by unfold kp_so; rw [if_neg (by omega)]
  exact ⟨m + 1, by rw [hnx, List.getElem?_eq_getElem hm1]; rfl, by omega, by omega, by omega⟩
theorem kp_pos_ne {ps : List Nat} {pos p a : Nat} (h : kp_pos ps pos p a) : p ∈ ps := by
  obtain ⟨m, h1, -⟩ := h
  exact List.mem_of_getElem? h1
theorem kv_rdL_32 {B R : Nat → UInt8} {n f len p : Nat} (h : len < n) : kv_rdL B n (f + 1) R len p 32 = kv_rdL B n (f + 1) R len (kv_num B (p * 32)) 2 := by
  rw [kv_rdL, kv_rdL, if_pos h, if_pos h, if_pos rfl, if_neg (by omega)]
theorem kv_rdL_end {B R : Nat → UInt8} {n f len p a : Nat} (h : ¬ len < n) : kv_rdL B n f R len p a = ((R, len), p, a) := by
  cases f with
  | zero => rfl
  | succ f => rw [kv_rdL, if_neg h]
theorem kp_rdL {B : Nat → UInt8} {c : Nat} {ps : List Nat} {k v : List UInt8} (hc : kp_ch B c ps k v) (hin : ∀ q ∈ ps, q < 2720) {base n : Nat} (hb : base + n ≤ k.length + v.length) (hn8 : n ≤ 8448) :
    ∀ (f len p a : Nat) (R : Nat → UInt8), (a = 32 → n ≤ len + 30 * f) → (a < 32 → n + (a - 2) ≤ len + 30 * f ∨ n ≤ len) → len ≤ n → kp_pos ps (base + len) p a → (∀ j, j < len → some (R j) = (k ++ v)[base + j]?) →
      ∃ (R' : Nat → UInt8) (p' a' : Nat), kv_rdL B n f R len p a = ((R', n), p', a') ∧ (∀ j, j < n → some (R' j) = (k ++ v)[base + j]?) ∧ kp_pos ps (base + n) p' a'
  | 0, len, p, a, R, h1, h2, h3, h4, h5 => by
    have ha := kp_pos_le h4
    have e : len = n := by
      by_cases z : a = 32
      · have := h1 z; omega
      · rcases h2 (by omega) with y | y <;> omega
    subst e
    exact ⟨R, p, a, by rw [kv_rdL], h5, h4⟩
  | f + 1, len, p, a, R, h1, h2, h3, h4, h5 => by
    by_cases hd : len < n
    · -- one step from a place before the page's end
      have step : ∀ p a, a < 32 → (n + (a - 2) ≤ len + 30 * (f + 1)) → kp_pos ps (base + len) p a → ∃ (R' : Nat → UInt8) (p' a' : Nat), kv_rdL B n (f + 1) R len p a = ((R', n), p', a') ∧ (∀ j, j < n → some (R' j) = (k ++ v)[base + j]?) ∧ kp_pos ps (base + n) p' a' := by
        intro p a ha hf h4
        have ha2 := kp_pos_le h4
        have hp : p < 2720 := hin p (kp_pos_ne h4)
        rw [kv_rdL, if_pos hd, if_neg (by omega)]
        have m1 : min (32 - a) (n - len) ≤ 32 - a := Nat.min_le_left _ _
        have m2 : min (32 - a) (n - len) ≤ n - len := Nat.min_le_right _ _
        have m3 : min (32 - a) (n - len) = 32 - a ∨ min (32 - a) (n - len) = n - len := by omega
        generalize min (32 - a) (n - len) = t at m1 m2 m3
        have hfr : kv_from R len B 87040 (p * 32 + a) t = (va_cpy B R (p * 32 + a) len t, len + t) := by
          unfold kv_from
          rw [if_pos ⟨by omega, by omega⟩]
        rw [hfr]
        refine kp_rdL hc hin hb hn8 f (len + t) p (a + t) (va_cpy B R (p * 32 + a) len t) (fun z => ?_) (fun z => ?_) (by omega) (by rw [← Nat.add_assoc]; exact kp_pos_add h4 (by omega)) (fun j hj => ?_)
        · omega
        · right; omega
        · by_cases y : len ≤ j
          · rw [pk_cpy_in y hj, show p * 32 + a + (j - len) = p * 32 + a + (j - len) from rfl, ← kp_pos_addr h4 (t := j - len) (by omega), hc.2.2.2.2.2 _ (by omega), show base + len + (j - len) = base + j by omega]
          · rw [pk_cpy_out (by omega)]
            exact h5 j (by omega)
      by_cases z : a = 32
      · subst z
        rw [kv_rdL_32 hd]
        have := h1 rfl
        exact step _ 2 (by omega) (by omega) (kp_pos_next h4 hc.2.2.1 hc.2.1 (by omega))
      · have ha := kp_pos_le h4
        rcases h2 (by omega) with y | y
        · exact step p a (by omega) y h4
        · omega
    · have e : len = n := by omega
      subst e
      exact ⟨R, p, a, kv_rdL_end hd, h5, h4⟩
/-- a KEY comes whole into a row -/
theorem kp_rdKey {B : Nat → UInt8} {c : Nat} {ps : List Nat} {k v : List UInt8} (hc : kp_ch B c ps k v) (hin : ∀ q ∈ ps, q < 2720) (hk : k.length ≤ 8448) (R : Nat → UInt8) : ∃ (R' : Nat → UInt8) (p' a' : Nat), kv_rdL B k.length 2720 R 0 c 6 = ((R', k.length), p', a') ∧ kp_row R' k.length k ∧ kp_pos ps k.length p' a' := by
  obtain ⟨R', p', a', h1, h2, h3⟩ := kp_rdL hc hin (base := 0) (n := k.length) (by omega) hk 2720 0 c 6 R (fun z => by omega) (fun _ => Or.inl (by omega)) (by omega) ⟨0, hc.1, rfl, by unfold kp_st; simp, by unfold kp_st kp_so; simp⟩ (fun j hj => by omega)
  refine ⟨R', p', a', h1, ⟨rfl, fun j hj => ?_⟩, by rw [Nat.zero_add] at h3; exact h3⟩
  rw [h2 j hj, Nat.zero_add, List.getElem?_append_left hj]
theorem kp_rdVal {B : Nat → UInt8} {c : Nat} {ps : List Nat} {k v : List UInt8} (hc : kp_ch B c ps k v) (hin : ∀ q ∈ ps, q < 2720) (hv : v.length ≤ 8448) {p a : Nat} (hp : kp_pos ps k.length p a) (R : Nat → UInt8) : ∃ (R' : Nat → UInt8) (p' a' : Nat), kv_rdL B v.length 2720 R 0 p a = ((R', v.length), p', a') ∧ kp_row R' v.length v := by
  have ha := kp_pos_le hp
  obtain ⟨R', p', a', h1, h2, h3⟩ := kp_rdL hc hin (base := k.length) (n := v.length) (by omega) hv 2720 0 p a R (fun z => by omega) (fun _ => Or.inl (by omega)) (by omega) hp (fun j hj => by omega)
  refine ⟨R', p', a', h1, ⟨rfl, fun j hj => ?_⟩⟩
  rw [h2 j hj, List.getElem?_append_right (by omega), Nat.add_sub_cancel_left]
