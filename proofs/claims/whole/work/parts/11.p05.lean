/-! PURE, fifth: writing a chain -/
theorem kp_pf_eq {m x : Nat} (h1 : m = 0 ∨ kp_st m < x) (h2 : x ≤ kp_st (m + 1)) : kp_pf x = m + 1 := by
  unfold kp_st at h1 h2
  unfold kp_pf
  rw [if_neg (by omega)] at h2
  by_cases z : m = 0
  · subst z
    rw [if_pos (by omega)]
  · rw [if_neg z] at h1
    rw [if_neg (by omega)]
    omega
theorem kp_st_mono {m n : Nat} (h : m ≤ n) : kp_st m ≤ kp_st n := by
  unfold kp_st
  split <;> split <;> omega
/-- a chain as far as it is written: pos bytes of X, on the pages ps, the last of which is p, where a is the next place -/
def kp_ww (B : Nat → UInt8) (ps : List Nat) (pos : Nat) (X : List UInt8) (c kl vl p a : Nat) : Prop :=
  ps[0]? = some c ∧ kp_lk B ps 0 ∧ kv_num B (c * 32 + 2) = kl ∧ kv_num B (c * 32 + 4) = vl ∧ (∀ j, j < pos → some (B (kp_addr ps j)) = X[j]?) ∧ ∃ m, ps.length = m + 1 ∧ ps[m]? = some p ∧ kp_st m ≤ pos ∧ pos ≤ kp_st (m + 1) ∧ a = kp_so m + (pos - kp_st m)
/-- where a byte lies on a chain is told by its page -/
theorem kp_addr_page {ps : List Nat} {m j : Nat} (hl : ps.length = m + 1) (hj : j < kp_st (m + 1)) : ∃ (i : Nat) (q : Nat), i ≤ m ∧ ps[i]? = some q ∧ kp_st i ≤ j ∧ j < kp_st (i + 1) ∧ kp_addr ps j = q * 32 + kp_so i + (j - kp_st i) := by
  have hex : ∃ i, i ≤ m ∧ kp_st i ≤ j ∧ j < kp_st (i + 1) := by
    by_cases z : j < 26
    · exact ⟨0, by omega, by unfold kp_st; simp, by unfold kp_st; simp; exact z⟩
    · refine ⟨1 + (j - 26) / 30, ?_, ?_, ?_⟩
      · unfold kp_st at hj
        rw [if_neg (by omega)] at hj
        omega
      · unfold kp_st
        rw [if_neg (by omega)]
        omega
      · unfold kp_st
        rw [if_neg (by omega)]
        omega
  obtain ⟨i, h1, h2, h3⟩ := hex
  have hi : i < ps.length := by omega
  have hs := kp_st_next i
  refine ⟨i, ps[i], h1, List.getElem?_eq_getElem hi, h2, h3, ?_⟩
  have := kp_addr_st (ps := ps) (m := i) (p := ps[i]) (t := j - kp_st i) (List.getElem?_eq_getElem hi) (by omega)
  rw [show kp_st i + (j - kp_st i) = j by omega] at this
  exact this
/-- one write into the last page -/
theorem kp_wr1 {M : kv_M} {ps : List Nat} {pos : Nat} {X : List UInt8} {c kl vl p a d t len : Nat} {R : Nat → UInt8} (h : kp_ww M.1 ps pos X c kl vl p a) (hnd : ps.Nodup) (hin : ∀ q ∈ ps, 9 ≤ q ∧ q < 2720) (ht : 1 ≤ t) (hat : a + t ≤ 32) (hd : d + t ≤ len) (hR : ∀ i, i < t → some (R (d + i)) = X[pos + i]?) :
    kp_ww (kv_writeR M R len d t (p * 32 + a)).1 ps (pos + t) X c kl vl p (a + t) ∧ kp_keep M.1 (kv_writeR M R len d t (p * 32 + a)).1 [p] := by
  obtain ⟨h1, h2, h3, h4, h5, m, h6, h7, h8, h9, h10⟩ := h
  have hp := hin p (List.mem_of_getElem? h7)
  have hso := kp_so_in m
  have hst := kp_st_next m
  have e : kv_writeR M R len d t (p * 32 + a) = (va_cpy R M.1 d (p * 32 + a) t, va_up M.2 ((p * 32 + a) / 32) true) := by
    unfold kv_writeR
    rw [if_neg (by omega)]
  rw [e]
  dsimp only
  have out : ∀ j, (j < p * 32 + a ∨ p * 32 + a + t ≤ j) → va_cpy R M.1 d (p * 32 + a) t j = M.1 j := fun j hj => pk_cpy_out hj
  have hk : kp_keep M.1 (va_cpy R M.1 d (p * 32 + a) t) [p] := by
    refine ⟨fun q h0 hq i hi => out _ ?_, fun i h6 hi => out _ (by omega)⟩
    have : q ≠ p := fun z => hq (by simp [z])
    omega
  have hnum : ∀ q ∈ ps, kv_num (va_cpy R M.1 d (p * 32 + a) t) (q * 32) = kv_num M.1 (q * 32) := by
    intro q hq
    unfold kv_num
    by_cases z : q = p
    · subst z
      rw [out _ (by omega), out _ (by omega)]
    · rw [out _ (by omega), out _ (by omega)]
  have hc0 : ∀ i, 2 ≤ i → i < 6 → va_cpy R M.1 d (p * 32 + a) t (c * 32 + i) = M.1 (c * 32 + i) := by
    intro i hi1 hi2
    apply out
    by_cases z : c = p
    · have hm0 : m = 0 := by
        have e1 : ps[0]? = ps[m]? := by rw [h1, h7, z]
        have hm : m < ps.length := by omega
        have := (List.getElem?_inj (i := 0) (j := m) (by omega) hnd).mp e1
        omega
      subst hm0
      have : kp_so 0 = 6 := rfl
      omega
    · omega
  refine ⟨⟨h1, kp_lk_frame hnum h2, ?_, ?_, fun j hj => ?_, m, h6, h7, by omega, by omega, by omega⟩, hk⟩
  · rw [← h3]
    unfold kv_num
    rw [hc0 2 (by omega) (by omega), show c * 32 + 2 + 1 = c * 32 + 3 from rfl, hc0 3 (by omega) (by omega)]
  · rw [← h4]
    unfold kv_num
    rw [hc0 4 (by omega) (by omega), show c * 32 + 4 + 1 = c * 32 + 5 from rfl, hc0 5 (by omega) (by omega)]
  · obtain ⟨i, q, g1, g2, g3, g4, g5⟩ := kp_addr_page h6 (j := j) (by omega)
    by_cases z : j < pos
    · rw [← h5 j z, g5]
      congr 1
      apply out
      have hsi := kp_so_in i
      have hsti := kp_st_next i
      by_cases y : q = p
      · have e1 : ps[i]? = ps[m]? := by rw [g2, h7, y]
        have := (List.getElem?_inj (i := i) (j := m) (by omega) hnd).mp e1
        subst this
        subst y
        omega
      · omega
    · have him : i = m := by
        by_cases y : i = m
        · exact y
        · have := kp_st_mono (m := i + 1) (n := m) (by omega)
          omega
      subst him
      have hq : q = p := by rw [g2] at h7; exact Option.some.inj h7
      subst hq
      rw [g5, pk_cpy_in (by omega) (by omega), show d + (q * 32 + kp_so i + (j - kp_st i) - (q * 32 + a)) = d + (j - pos) by omega, hR (j - pos) (by omega), show pos + (j - pos) = j by omega]
theorem kv_wrL_end {R : Nat → UInt8} {len f : Nat} {M : kv_M} {p a d : Nat} (h : ¬ d < len) : kv_wrL R len f M p a d = (M, p, a) := by
  cases f with
  | zero => rfl
  | succ f => rw [kv_wrL, if_neg h]
theorem kv_wrL_32 {R : Nat → UInt8} {len f : Nat} {M : kv_M} {p d : Nat} (h : d < len) : kv_wrL R len (f + 1) M p 32 d = kv_wrL R len (f + 1) (kv_setN (kv_newP M).2 (p * 32) (kv_newP M).1) (kv_newP M).1 2 d := by
  rw [kv_wrL, kv_wrL, if_pos h, if_pos h, if_pos rfl, if_neg (by omega)]
/-- a further page comes to the chain -/
theorem kp_wrN {M : kv_M} {ps fl : List Nat} {u pos : Nat} {X : List UInt8} {c kl vl p : Nat} (h : kp_ww M.1 ps pos X c kl vl p 32) (hnd : ps.Nodup) (hin : ∀ q ∈ ps, 9 ≤ q ∧ q < 9 + u) (hf : kp_fr M.1 fl u) (hfn : fl.Nodup) (hdis : ∀ q ∈ ps, q ∉ fl) (hr : fl ≠ [] ∨ u < 2711) :
    ∃ (p2 : Nat) (fl' : List Nat) (u' : Nat), (kv_newP M).1 = p2 ∧ kp_ww (kv_setN (kv_newP M).2 (p * 32) p2).1 (ps ++ [p2]) pos X c kl vl p2 2 ∧ kp_fr (kv_setN (kv_newP M).2 (p * 32) p2).1 fl' u' ∧ fl'.Nodup ∧ 9 ≤ p2 ∧ p2 < 9 + u' ∧ p2 ∉ ps ∧ p2 ∉ fl' ∧ u ≤ u' ∧ (∀ q ∈ fl', q ∈ fl) ∧ kp_keep M.1 (kv_setN (kv_newP M).2 (p * 32) p2).1 (ps ++ [p2]) ∧ (∀ q, (fl'.count q + [p2].count q) + kp_ind u q = fl.count q + kp_ind u' q) ∧ fl'.length + 1 + u = fl.length + u' := by
  obtain ⟨p2, fl', u', e, hf2, g9, gu, gn, gnd, gk, gc, gl, guu, gsub, gz0, gz2⟩ := kp_newP hf hfn hr
  obtain ⟨h1, h2, h3, h4, h5, m, h6, h7, h8, h9, h10⟩ := h
  have hpm : p ∈ ps := List.mem_of_getElem? h7
  have hp := hin p hpm
  have hub := hf2.2.2.2.2.1
  have hso := kp_so_in m
  have hst := kp_st_next m
  have hpos : pos = kp_st (m + 1) := by omega
  have hp2ps : p2 ∉ ps := by
    intro z
    have c1 := gc p2
    have z1 := hdis p2 z
    have z2 := hin p2 z
    rw [List.count_eq_zero_of_not_mem z1, List.count_eq_zero_of_not_mem gn, List.count_singleton_self] at c1
    unfold kp_ind at c1
    rw [if_pos ⟨by omega, by omega⟩, if_pos ⟨by omega, by omega⟩] at c1
    omega
  have hne : p ≠ p2 := fun z => hp2ps (by rw [← z]; exact hpm)
  refine ⟨p2, fl', u', e, ?_, ?_, gnd, g9, gu, hp2ps, gn, guu, gsub, ?_, gc, gl⟩
  · -- the chain so far
    have k1 : kp_keep (kv_newP M).2.1 (kv_setN (kv_newP M).2 (p * 32) p2).1 [p] := kp_keep_setN0 (by omega)
    have hnum : ∀ q ∈ ps, ∀ i, i < 31 → i % 2 = 0 → ¬ (q = p ∧ i = 0) → kv_num (kv_setN (kv_newP M).2 (p * 32) p2).1 (q * 32 + i) = kv_num M.1 (q * 32 + i) := by
      intro q hq i hi hi2 hqi
      have := hin q hq
      rw [kv_num_setN (by omega) (by omega), if_neg (by omega)]
      exact kp_keep_num gk (by omega) (by simp; intro z; exact hp2ps (by rw [← z]; exact hq)) hi
    have hcm : c ∈ ps := List.mem_of_getElem? h1
    have hlast : ps = ps.take m ++ [p] := by
      have hm : m < ps.length := by omega
      have e1 : ps[m] = p := by have := h7; rw [List.getElem?_eq_getElem hm] at this; exact Option.some.inj this
      have e2 : ps.drop m = [p] := by
        rw [List.drop_eq_getElem_cons hm, e1, List.drop_eq_nil_of_le (by omega)]
      conv => lhs; rw [← List.take_append_drop m ps, e2]
    refine ⟨?_, ?_, ?_, ?_, fun j hj => ?_, m + 1, by simp [h6], ?_, by omega, ?_, ?_⟩
    · rw [List.getElem?_append_left (by omega)]; exact h1
    · -- links
      rw [hlast, kp_lk_app] at h2
      rw [hlast, List.append_assoc, kp_lk_app]
      have htk : ∀ q ∈ ps.take m, q ≠ p := by
        intro q hq z
        subst z
        have hn2 : (ps.take m ++ [q]).Nodup := by rw [← hlast]; exact hnd
        rw [List.nodup_append] at hn2
        exact hn2.2.2 q hq q (by simp) rfl
      refine ⟨kp_lk_frame (fun q hq => ?_) h2.1, ?_, ?_, trivial⟩
      · have := hnum q (List.mem_of_mem_take hq) 0 (by omega) rfl (fun z => htk q hq z.1)
        exact this
      · rw [kv_num_setN (by omega) (by omega), if_pos ⟨rfl, by omega⟩]
        simp
        omega
      · rw [kv_num_setN (by omega) (by omega), if_neg (by omega), gz0]
        rfl
    · rw [hnum c hcm 2 (by omega) rfl (by omega)]; exact h3
    · rw [hnum c hcm 4 (by omega) rfl (by omega)]; exact h4
    · obtain ⟨i, q, q1, q2, q3, q4, q5⟩ := kp_addr_page h6 (j := j) (by omega)
      have hsi := kp_so_in i
      have hsti := kp_st_next i
      have hqm : q ∈ ps := List.mem_of_getElem? q2
      have hq9 := hin q hqm
      have hqp : q ≠ p2 := fun z => hp2ps (by rw [← z]; exact hqm)
      have e1 : kp_addr (ps ++ [p2]) j = kp_addr ps j := by
        rw [q5]
        have := kp_addr_st (ps := ps ++ [p2]) (m := i) (p := q) (t := j - kp_st i) (by rw [List.getElem?_append_left (by omega)]; exact q2) (by omega)
        rw [show kp_st i + (j - kp_st i) = j by omega] at this
        exact this
      rw [e1, ← h5 j hj, q5]
      congr 1
      rw [kv_setN_at (by omega) (by omega)]
      have := gk.1 q (by omega) (by simp; exact hqp) (kp_so i + (j - kp_st i)) (by omega)
      rw [← Nat.add_assoc] at this
      exact this
    · rw [List.getElem?_append_right (by omega), h6]; simp
    · have := kp_st_mono (m := m + 1) (n := m + 1 + 1) (by omega); omega
    · have e3 : kp_so (m + 1) = 2 := by unfold kp_so; rw [if_neg (by omega)]
      omega
  · refine ⟨kp_lk_frame (fun q hq => ?_) hf2.1, ?_, ?_, ?_, hf2.2.2.2.2⟩
    · have hq2 := hf2.2.2.2.2.2 q hq
      have hqp : q ≠ p := fun z => hdis p hpm (by rw [← z]; exact gsub q hq)
      rw [kv_num_setN (by omega) (by omega), if_neg (by omega)]
    · rw [kv_num_setN (by omega) rfl, if_neg (by omega)]; exact hf2.2.1
    · rw [kv_num_setN (by omega) rfl, if_neg (by omega)]; exact hf2.2.2.1
    · rw [kv_num_setN (by omega) rfl, if_neg (by omega)]; exact hf2.2.2.2.1
  · refine kp_keep_trans (kp_keep_mono gk (by simp)) (kp_keep_mono (kp_keep_setN0 (by omega)) (fun q hq => ?_))
    rw [List.mem_singleton.mp hq]
    exact List.mem_append_left _ hpm
