/-! PURE, fourth: the free pages; a page is taken, a page is given back -/
def kp_ind (u q : Nat) : Nat := if 9 ≤ q ∧ q < 9 + u then 1 else 0
/-- the free ones fl, and u pages behind the head in use or free -/
def kp_fr (B : Nat → UInt8) (fl : List Nat) (u : Nat) : Prop := kp_lk B fl 0 ∧ kv_num B 2 = fl.headD 0 ∧ kv_num B 4 = fl.length ∧ kv_num B 0 = u ∧ u ≤ 2711 ∧ ∀ q ∈ fl, 9 ≤ q ∧ q < 9 + u
theorem kp_fr_used {B : Nat → UInt8} {fl : List Nat} {u : Nat} (h : kp_fr B fl u) : kv_used B = u := by
  unfold kv_used
  rw [h.2.2.2.1]
  exact Nat.min_eq_left h.2.2.2.2.1
/-- nothing of pages but 0 and those in S has changed; of page 0 only the numbers of the free pages -/
def kp_keep (B B' : Nat → UInt8) (S : List Nat) : Prop := (∀ q, q ≠ 0 → q ∉ S → kp_pg B B' q) ∧ ∀ i, 6 ≤ i → i < 32 → B' i = B i
theorem kp_keep_refl (B : Nat → UInt8) (S : List Nat) : kp_keep B B S := ⟨fun q _ _ => kp_pg_refl B q, fun _ _ _ => rfl⟩
theorem kp_keep_trans {B B' B'' : Nat → UInt8} {S : List Nat} (h : kp_keep B B' S) (h2 : kp_keep B' B'' S) : kp_keep B B'' S :=
  ⟨fun q h0 hq => kp_pg_trans (h.1 q h0 hq) (h2.1 q h0 hq), fun i h6 h32 => (h2.2 i h6 h32).trans (h.2 i h6 h32)⟩
theorem kp_keep_mono {B B' : Nat → UInt8} {S S' : List Nat} (h : kp_keep B B' S) (hs : ∀ q ∈ S, q ∈ S') : kp_keep B B' S' :=
  ⟨fun q h0 hq => h.1 q h0 (fun z => hq (hs q z)), h.2⟩
theorem kp_keep_setN {M : kv_M} {p i n : Nat} (hi : i % 2 = 0) (hi2 : i < 32) (hp : p ≠ 0) : kp_keep M.1 (kv_setN M (p * 32 + i) n).1 [p] := by
  refine ⟨fun q _ hq => kp_pg_setN (by omega) (fun z => hq (by rw [z]; exact List.mem_singleton.mpr (by omega))), fun j _ hj => kv_setN_at (by omega) (by omega)⟩
theorem kp_keep_setN0 {M : kv_M} {p n : Nat} (hp : p ≠ 0) : kp_keep M.1 (kv_setN M (p * 32) n).1 [p] := by
  have e := kp_keep_setN (M := M) (p := p) (i := 0) (n := n) rfl (by omega) hp
  rw [Nat.add_zero] at e
  exact e
theorem kp_keep_head {M : kv_M} {i n : Nat} (hi : i % 2 = 0) (hi2 : i < 6) : kp_keep M.1 (kv_setN M i n).1 [] := by
  refine ⟨fun q h0 _ => kp_pg_setN hi (by omega), fun j _ hj => kv_setN_at (by omega) (by omega)⟩
theorem kp_keep_num {B B' : Nat → UInt8} {S : List Nat} (h : kp_keep B B' S) {q i : Nat} (h0 : q ≠ 0) (hq : q ∉ S) (hi : i < 31) : kv_num B' (q * 32 + i) = kv_num B (q * 32 + i) := kp_pg_num (h.1 q h0 hq) hi
theorem kp_keep_nx {B B' : Nat → UInt8} {S : List Nat} (h : kp_keep B B' S) {q : Nat} (h0 : q ≠ 0) (hq : q ∉ S) : kv_num B' (q * 32) = kv_num B (q * 32) := kp_pg_num0 (h.1 q h0 hq)
theorem kp_keep_num0 {B B' : Nat → UInt8} {S : List Nat} (h : kp_keep B B' S) {i : Nat} (h6 : 6 ≤ i) (hi : i < 31) : kv_num B' i = kv_num B i := by
  unfold kv_num
  rw [h.2 i h6 (by omega), h.2 (i + 1) (by omega) (by omega)]
/-- the number at a + 4294967295: one less -/
theorem kp_less {x : Nat} (h0 : 0 < x) (hx : x < 65536) : (x + 4294967295) % 65536 = x - 1 := by omega
theorem kv_num_addTo {M : kv_M} {a n b : Nat} (ha : a % 2 = 0) (hb : b % 2 = 0) (hr : a ≤ 87038) : kv_num (kv_addTo M a n).1 b = if b = a then (kv_num M.1 a + n) % 65536 else kv_num M.1 b := by
  unfold kv_addTo
  rw [kv_num_setN ha hb]
  by_cases e : b = a
  · rw [if_pos ⟨e, hr⟩, if_pos e]
  · rw [if_neg (fun z => e z.1), if_neg e]
theorem kp_keep_addTo0 {M : kv_M} {i n : Nat} (hi : i % 2 = 0) (hi2 : i < 6) : kp_keep M.1 (kv_addTo M i n).1 [] := kp_keep_head hi hi2
theorem kp_takeP {M : kv_M} {fl : List Nat} {u : Nat} (h : kp_fr M.1 fl u) (hn : fl.Nodup) (hr : fl ≠ [] ∨ u < 2711) :
    ∃ (p : Nat) (fl' : List Nat) (u' : Nat), (kv_takeP M).1 = p ∧ kp_fr (kv_takeP M).2.1 fl' u' ∧ 9 ≤ p ∧ p < 9 + u' ∧ p ∉ fl' ∧ fl'.Nodup ∧ kp_keep M.1 (kv_takeP M).2.1 [] ∧ (∀ q, (fl'.count q + [p].count q) + kp_ind u q = fl.count q + kp_ind u' q) ∧ fl'.length + 1 + u = fl.length + u' ∧ u ≤ u' ∧ (∀ q ∈ fl', q ∈ fl) := by
  obtain ⟨h1, h2, h3, h4, h5, h6⟩ := id h
  have hu := kp_fr_used h
  cases fl with
  | nil =>
    have hu2 : u < 2711 := by
      rcases hr with z | z
      · exact absurd rfl z
      · exact z
    have e : kv_takeP M = (9 + u, kv_addTo M 0 1) := by
      unfold kv_takeP
      rw [h2]
      simp [hu]
    rw [e]
    refine ⟨9 + u, [], u + 1, rfl, ⟨trivial, ?_, ?_, ?_, by omega, by simp⟩, by omega, by omega, by simp, by simp, kp_keep_addTo0 rfl (by omega), fun q => ?_, by simp; omega, by omega, by simp⟩
    · rw [kv_num_addTo rfl rfl (by omega), if_neg (by omega)]; exact h2
    · rw [kv_num_addTo rfl rfl (by omega), if_neg (by omega)]; exact h3
    · rw [kv_num_addTo rfl rfl (by omega), if_pos rfl, h4]; omega
    · unfold kp_ind
      rw [List.count_singleton]
      by_cases z : 9 + u = q
      · subst z; simp
      · have : ¬ (9 + u == q) = true := by simpa using z
        rw [if_neg this]
        by_cases y : 9 ≤ q ∧ q < 9 + u
        · rw [if_pos y, if_pos (by omega)]
        · rw [if_neg y, if_neg (by omega)]
  | cons p fl' =>
    have hp := h6 p List.mem_cons_self
    have hpn : p ∉ fl' := (List.nodup_cons.mp hn).1
    have hnd : fl'.Nodup := (List.nodup_cons.mp hn).2
    have h2' : kv_num M.1 2 = p := h2
    have h3' : kv_num M.1 4 = fl'.length + 1 := by rw [h3]; rfl
    have hlt := kv_num_lt M.1 4
    have hnx : kv_num M.1 (p * 32) = fl'.headD 0 := h1.1
    have hfl : fl'.headD 0 < 65536 := by rw [← hnx]; exact kv_num_lt _ _
    have e : kv_takeP M = (p, kv_addTo (kv_setN M 2 (fl'.headD 0)) 4 4294967295) := by
      unfold kv_takeP
      rw [h2', if_pos (by omega), hnx]
    rw [e]
    have k1 : kp_keep M.1 (kv_setN M 2 (fl'.headD 0)).1 [] := kp_keep_head rfl (by omega)
    have k2 : kp_keep (kv_setN M 2 (fl'.headD 0)).1 (kv_addTo (kv_setN M 2 (fl'.headD 0)) 4 4294967295).1 [] := kp_keep_addTo0 rfl (by omega)
    have k := kp_keep_trans k1 k2
    refine ⟨p, fl', u, rfl, ⟨kp_lk_frame (fun q hq => ?_) h1.2, ?_, ?_, ?_, h5, fun q hq => h6 q (List.mem_cons_of_mem _ hq)⟩, hp.1, hp.2, hpn, hnd, k, fun q => ?_, by simp, Nat.le_refl _, fun q hq => List.mem_cons_of_mem _ hq⟩
    · have := h6 q (List.mem_cons_of_mem _ hq)
      exact kp_keep_nx k (by omega) (by simp)
    · rw [kv_num_addTo rfl rfl (by omega), if_neg (by omega), kv_num_setN rfl rfl, if_pos ⟨rfl, by omega⟩]; omega
    · rw [kv_num_addTo rfl rfl (by omega), if_pos rfl, kv_num_setN rfl rfl, if_neg (by omega), h3']; omega
    · rw [kv_num_addTo rfl rfl (by omega), if_neg (by omega), kv_num_setN rfl rfl, if_neg (by omega)]; exact h4
    · rw [List.count_singleton, List.count_cons]
/-- Pages.newPage -/
theorem kp_newP {M : kv_M} {fl : List Nat} {u : Nat} (h : kp_fr M.1 fl u) (hn : fl.Nodup) (hr : fl ≠ [] ∨ u < 2711) :
    ∃ (p : Nat) (fl' : List Nat) (u' : Nat), (kv_newP M).1 = p ∧ kp_fr (kv_newP M).2.1 fl' u' ∧ 9 ≤ p ∧ p < 9 + u' ∧ p ∉ fl' ∧ fl'.Nodup ∧ kp_keep M.1 (kv_newP M).2.1 [p] ∧ (∀ q, (fl'.count q + [p].count q) + kp_ind u q = fl.count q + kp_ind u' q) ∧ fl'.length + 1 + u = fl.length + u' ∧ u ≤ u' ∧ (∀ q ∈ fl', q ∈ fl) ∧ kv_num (kv_newP M).2.1 (p * 32) = 0 ∧ kv_num (kv_newP M).2.1 (p * 32 + 2) = 0 := by
  obtain ⟨p, fl', u', e, hf, h9, hu, hpn, hnd, k, hc, hl, huu, hsub⟩ := kp_takeP h hn hr
  have hub := hf.2.2.2.2.1
  unfold kv_newP
  rw [e]
  dsimp only
  have k1 : kp_keep (kv_takeP M).2.1 (kv_setN (kv_takeP M).2 (p * 32) 0).1 [p] := kp_keep_setN0 (by omega)
  have k2 : kp_keep (kv_setN (kv_takeP M).2 (p * 32) 0).1 (kv_setN (kv_setN (kv_takeP M).2 (p * 32) 0) (p * 32 + 2) 0).1 [p] := kp_keep_setN rfl (by omega) (by omega)
  have kk := kp_keep_trans k1 k2
  have n0 : ∀ i, i < 6 → i % 2 = 0 → kv_num (kv_setN (kv_setN (kv_takeP M).2 (p * 32) 0) (p * 32 + 2) 0).1 i = kv_num (kv_takeP M).2.1 i := by
    intro i hi h2
    rw [kv_num_setN (by omega) h2, if_neg (by omega), kv_num_setN (by omega) h2, if_neg (by omega)]
  refine ⟨p, fl', u', rfl, ⟨kp_lk_frame (fun q hq => ?_) hf.1, ?_, ?_, ?_, hf.2.2.2.2⟩, h9, hu, hpn, hnd, kp_keep_trans (kp_keep_mono k (by simp)) kk, hc, hl, huu, hsub, ?_, ?_⟩
  · have hq2 := hf.2.2.2.2.2 q hq
    exact kp_keep_nx kk (by omega) (by simp; intro z; exact hpn (by rw [← z]; exact hq))
  · rw [n0 2 (by omega) rfl]; exact hf.2.1
  · rw [n0 4 (by omega) rfl]; exact hf.2.2.1
  · rw [n0 0 (by omega) rfl]; exact hf.2.2.2.1
  · rw [kv_num_setN (by omega) (by omega), if_neg (by omega), kv_num_setN (by omega) (by omega), if_pos ⟨rfl, by omega⟩]
  · rw [kv_num_setN (by omega) (by omega), if_pos ⟨rfl, by omega⟩]
/-- Pages.freePage -/
theorem kp_freeP {M : kv_M} {fl : List Nat} {u p : Nat} (h : kp_fr M.1 fl u) (h9 : 9 ≤ p) (hp : p < 9 + u) (hpn : p ∉ fl) (hlen : fl.length < 2711) : kp_fr (kv_freeP M p).1 (p :: fl) u ∧ kp_keep M.1 (kv_freeP M p).1 [p] := by
  obtain ⟨h1, h2, h3, h4, h5, h6⟩ := id h
  have hlt := kv_num_lt M.1 2
  have k1 : kp_keep M.1 (kv_setN M (p * 32) (kv_num M.1 2)).1 [p] := kp_keep_setN0 (by omega)
  have k2 : kp_keep (kv_setN M (p * 32) (kv_num M.1 2)).1 (kv_setN (kv_setN M (p * 32) (kv_num M.1 2)) 2 p).1 [p] := kp_keep_mono (kp_keep_head rfl (by omega)) (by simp)
  have k3 : kp_keep (kv_setN (kv_setN M (p * 32) (kv_num M.1 2)) 2 p).1 (kv_freeP M p).1 [p] := kp_keep_mono (kp_keep_addTo0 rfl (by omega)) (by simp)
  have k := kp_keep_trans k1 (kp_keep_trans k2 k3)
  have e2 : kv_num (kv_freeP M p).1 2 = p := by
    unfold kv_freeP
    rw [kv_num_addTo rfl rfl (by omega), if_neg (by omega), kv_num_setN rfl rfl, if_pos ⟨rfl, by omega⟩]
    omega
  have e4 : kv_num (kv_freeP M p).1 4 = fl.length + 1 := by
    unfold kv_freeP
    rw [kv_num_addTo rfl rfl (by omega), if_pos rfl, kv_num_setN rfl rfl, if_neg (by omega), kv_num_setN (by omega) rfl, if_neg (by omega), h3]
    omega
  have e0 : kv_num (kv_freeP M p).1 0 = u := by
    unfold kv_freeP
    rw [kv_num_addTo rfl rfl (by omega), if_neg (by omega), kv_num_setN rfl rfl, if_neg (by omega), kv_num_setN (by omega) rfl, if_neg (by omega), h4]
  have ep : kv_num (kv_freeP M p).1 (p * 32) = fl.headD 0 := by
    unfold kv_freeP
    rw [kv_num_addTo rfl (by omega) (by omega), if_neg (by omega), kv_num_setN rfl (by omega), if_neg (by omega), kv_num_setN (by omega) (by omega), if_pos ⟨rfl, by omega⟩, h2]
    rw [h2] at hlt
    omega
  refine ⟨⟨⟨ep, kp_lk_frame (fun q hq => ?_) h1⟩, e2, e4, e0, h5, fun q hq => ?_⟩, k⟩
  · have hq2 := h6 q hq
    exact kp_keep_nx k (by omega) (by simp; intro z; exact hpn (by rw [← z]; exact hq))
  · rcases List.mem_cons.mp hq with z | z
    · subst z; exact ⟨h9, hp⟩
    · exact h6 q z
