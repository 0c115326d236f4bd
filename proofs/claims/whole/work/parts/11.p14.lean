/-! PURE, fourteenth: a chain is stored, and given back -/
theorem kp_fr_setN {M : kv_M} {fl : List Nat} {u a n : Nat} (h : kp_fr M.1 fl u) (ha : a % 2 = 0) (h6 : 6 ≤ a) (hq : ∀ q ∈ fl, q * 32 ≠ a) : kp_fr (kv_setN M a n).1 fl u := by
  obtain ⟨h1, h2, h3, h4, h5, h6'⟩ := h
  have e : ∀ i, i < 6 → i % 2 = 0 → kv_num (kv_setN M a n).1 i = kv_num M.1 i := fun i hi h2 => by rw [kv_num_setN ha h2, if_neg (by omega)]
  exact ⟨kp_lk_frame (fun q hq' => by rw [kv_num_setN ha (by omega), if_neg (fun z => hq q hq' z.1)]) h1, by rw [e 2 (by omega) rfl]; exact h2, by rw [e 4 (by omega) rfl]; exact h3, by rw [e 0 (by omega) rfl]; exact h4, h5, h6'⟩
theorem kp_store {M : kv_M} {K V : Nat → UInt8} {kl vl : Nat} {fl : List Nat} {u : Nat} {key val : List UInt8} (hf : kp_fr M.1 fl u) (hn : fl.Nodup) (hK : kp_row K kl key) (hV : kp_row V vl val) (hk : key.length ≤ 8448) (hv : val.length ≤ 8448) (hr : kp_pf (key.length + val.length) ≤ fl.length + (2711 - u)) :
    ∃ (ps fl' : List Nat) (u' : Nat), kp_ch (kv_store M K kl V vl).2.1.1 (kv_store M K kl V vl).1 ps key val ∧ ps.Nodup ∧ (∀ q ∈ ps, 9 ≤ q ∧ q < 9 + u') ∧ kp_fr (kv_store M K kl V vl).2.1.1 fl' u' ∧ fl'.Nodup ∧ (∀ q ∈ ps, q ∉ fl') ∧ kp_keep M.1 (kv_store M K kl V vl).2.1.1 ps ∧ (∀ q, fl'.count q + ps.count q + kp_ind u q = fl.count q + kp_ind u' q) ∧ fl'.length + ps.length + u = fl.length + u' ∧ u ≤ u' ∧ (∀ q ∈ fl', q ∈ fl) := by
  obtain ⟨rfl, hK2⟩ := hK
  obtain ⟨rfl, hV2⟩ := hV
  have hu := hf.2.2.2.2.1
  have hpf : 1 ≤ kp_pf (key.length + val.length) := by unfold kp_pf; split <;> omega
  obtain ⟨p, f1, u1, n1, n2, n3, n4, n5, n6, n7, n8, n9, n10, n11, n12, n13⟩ := kp_newP hf hn (by
    by_cases z : fl = []
    · right; subst z; simp at hr; omega
    · exact .inl z)
  unfold kv_store
  rw [n1]
  have hu1 := n2.2.2.2.2.1
  generalize hM1 : (kv_newP M).2 = M1 at *
  have hp0 : p ≠ 0 := by omega
  have w2 : kp_fr (kv_setN (kv_setN M1 (p * 32 + 2) key.length) (p * 32 + 4) val.length).1 f1 u1 := kp_fr_setN (kp_fr_setN n2 (by omega) (by omega) (fun q hq => by omega)) (by omega) (by omega) (fun q hq => by omega)
  have kk : kp_keep M1.1 (kv_setN (kv_setN M1 (p * 32 + 2) key.length) (p * 32 + 4) val.length).1 [p] := kp_keep_trans (kp_keep_setN rfl (by omega) hp0) (kp_keep_setN rfl (by omega) hp0)
  have a0 : kv_num (kv_setN (kv_setN M1 (p * 32 + 2) key.length) (p * 32 + 4) val.length).1 (p * 32) = 0 := by
    rw [kv_num_setN (by omega) (by omega), if_neg (by omega), kv_num_setN (by omega) (by omega), if_neg (by omega)]; exact n12
  have a2 : kv_num (kv_setN (kv_setN M1 (p * 32 + 2) key.length) (p * 32 + 4) val.length).1 (p * 32 + 2) = key.length := by
    rw [kv_num_setN (by omega) (by omega), if_neg (by omega), kv_num_setN (by omega) (by omega), if_pos ⟨rfl, by omega⟩]; omega
  have a4 : kv_num (kv_setN (kv_setN M1 (p * 32 + 2) key.length) (p * 32 + 4) val.length).1 (p * 32 + 4) = val.length := by
    rw [kv_num_setN (by omega) (by omega), if_pos ⟨rfl, by omega⟩]; omega
  generalize (kv_setN (kv_setN M1 (p * 32 + 2) key.length) (p * 32 + 4) val.length) = M2 at *
  have ww : kp_ww M2.1 [p] (0 + 0) (key ++ val) p key.length val.length p 6 := ⟨rfl, ⟨a0, trivial⟩, a2, a4, fun j hj => by omega, 0, rfl, rfl, Nat.le_refl _, Nat.zero_le _, rfl⟩
  have key0 : ∀ j, j < key.length → some (K j) = (key ++ val)[0 + j]? := fun j hj => by rw [Nat.zero_add, List.getElem?_append_left hj]; exact hK2 j hj
  obtain ⟨ps1, f2, u2, r1, r2, r3, r4, r5, r6, r7, r8, r9, r10, r11, r12, r13⟩ := kp_wrL (R := K) (len := key.length) (base := 0) (X := key ++ val) (c := p) (kl := key.length) (vl := val.length) key0 2720 0 M2 p 6 [p] f1 u1 (by omega) (fun _ => by left; omega) (Nat.zero_le _) ww (.inl rfl) (by simp) (fun q hq => by rw [List.mem_singleton.mp hq]; exact ⟨n3, n4⟩) w2 n6 (fun q hq => by rw [List.mem_singleton.mp hq]; exact n5) (by
    have : kp_pf (0 + key.length) ≤ kp_pf (key.length + val.length) := by unfold kp_pf; split <;> split <;> omega
    simp only [List.length_singleton]
    omega)
  have hu2 := r5.2.2.2.2.1
  generalize kv_wrL K key.length 2720 M2 p 6 0 = W1 at *
  obtain ⟨M3, p3, a3⟩ := W1
  have val0 : ∀ j, j < val.length → some (V j) = (key ++ val)[key.length + j]? := fun j hj => by rw [List.getElem?_append_right (by omega), Nat.add_sub_cancel_left]; exact hV2 j hj
  have r1' : kp_ww M3.1 ps1 (key.length + 0) (key ++ val) p key.length val.length p3 a3 := by simpa using r1
  have ha3 : a3 ≤ 32 ∧ 2 ≤ a3 := by
    obtain ⟨-, -, -, -, -, m, m1, m2, m3, m4, m5⟩ := r1'
    have hso := kp_so_in m
    have hst := kp_st_next m
    omega
  obtain ⟨ps2, f3, u3, s1, s2, s3, s4, s5, s6, s7, s8, s9, s10, s11, s12, s13⟩ := kp_wrL (R := V) (len := val.length) (base := key.length) (X := key ++ val) (c := p) (kl := key.length) (vl := val.length) val0 2720 0 M3 p3 a3 ps1 f2 u2 (by omega) (fun _ => by left; omega) (Nat.zero_le _) r1' (by simpa using r2) r3 r4 r5 r6 r7 (by
    simp only [List.length_singleton] at r10
    omega)
  refine ⟨ps2, f3, u3, ?_, s3, s4, s5, s6, s7, ?_, fun q => ?_, ?_, by omega, fun q hq => n11 q (r13 q (s13 q hq))⟩
  · obtain ⟨g1, g2, g3, g4, g5, m, m1, m2, m3, m4, m5⟩ := s1
    refine ⟨g1, ?_, g2, g3, g4, fun j hj => g5 j hj⟩
    rw [m1]
    refine (kp_pf_eq ?_ m4).symm
    rw [m1] at s2
    rcases s2 with y | y
    · left; omega
    · right; simpa using y
  · refine kp_keep_trans (kp_keep_mono n7 ?_) (kp_keep_trans (kp_keep_mono kk ?_) (kp_keep_trans (kp_keep_mono r8 s12) s8))
    · intro q hq; exact s12 q (r12 q hq)
    · intro q hq; exact s12 q (r12 q hq)
  · have := s9 q
    have := r9 q
    have := n8 q
    omega
  · simp only [List.length_singleton] at r10
    omega
theorem kp_freeC {M : kv_M} {c : Nat} {ps fl : List Nat} {u : Nat} {k v : List UInt8} (hc : kp_ch M.1 c ps k v) (hf : kp_fr M.1 fl u) (hn : ps.Nodup) (hi : ∀ q ∈ ps, 9 ≤ q ∧ q < 9 + u) (hd : ∀ q ∈ ps, q ∉ fl) (hl : ps.length + fl.length ≤ 2711) :
    kp_fr (kv_freeC M c).1 (ps.reverse ++ fl) u ∧ kp_keep M.1 (kv_freeC M c).1 ps := by
  have e : c = ps.headD 0 := by
    have := hc.1
    cases ps with
    | nil => simp at this
    | cons a as => simpa using this.symm
  unfold kv_freeC
  rw [e]
  exact kp_freeL ps 2720 M fl u (by omega) hc.2.2.1 hf hn hi hd hl
