/-! PURE, fifteenth: the numbers of the free pages stay; a full node is split and a slot comes in -/
def kp_h6 (B B' : Nat → UInt8) : Prop := ∀ i, i < 6 → B' i = B i
theorem kp_h6_refl (B : Nat → UInt8) : kp_h6 B B := fun _ _ => rfl
theorem kp_h6_trans {B B' B'' : Nat → UInt8} (h : kp_h6 B B') (h2 : kp_h6 B' B'') : kp_h6 B B'' := fun i hi => (h2 i hi).trans (h i hi)
theorem kp_h6_setN {M : kv_M} {a n : Nat} (h : 6 ≤ a) : kp_h6 M.1 (kv_setN M a n).1 := fun i hi => kv_setN_at (by omega) (by omega)
theorem kp_h6_num {B B' : Nat → UInt8} (h : kp_h6 B B') {i : Nat} (hi : i < 5) : kv_num B' i = kv_num B i := by
  unfold kv_num; rw [h i (by omega), h (i + 1) (by omega)]
theorem kp_h6_setSlot {M : kv_M} {p i s : Nat} (hp : p ≠ 0) : kp_h6 M.1 (kv_setSlot M p i s).1 := kp_h6_setN (by omega)
theorem kp_h6_setCount {M : kv_M} {p n : Nat} (hp : p ≠ 0) : kp_h6 M.1 (kv_setCount M p n).1 := kp_h6_setN (by omega)
theorem kp_h6_upL {p i : Nat} (hp : p ≠ 0) : ∀ (k : Nat) (M : kv_M), kp_h6 M.1 (kv_upL p i k M).1
  | 0, M => kp_h6_refl _
  | k + 1, M => kp_h6_trans (kp_h6_setSlot hp) (kp_h6_upL hp k _)
theorem kp_h6_dnL {p : Nat} (hp : p ≠ 0) : ∀ (k j : Nat) (M : kv_M), kp_h6 M.1 (kv_dnL p k j M).1
  | 0, _, M => kp_h6_refl _
  | k + 1, j, M => kp_h6_trans (kp_h6_setSlot hp) (kp_h6_dnL hp k (j + 1) _)
theorem kp_h6_layL {p : Nat} {P : Nat → Nat} {off : Nat} (hp : p ≠ 0) : ∀ (k i : Nat) (M : kv_M), kp_h6 M.1 (kv_layL p P off k i M).1
  | 0, _, M => kp_h6_refl _
  | k + 1, j, M => kp_h6_trans (kp_h6_setSlot hp) (kp_h6_layL hp k (j + 1) _)
theorem kp_h6_insert {M : kv_M} {p i s : Nat} (hp : p ≠ 0) : kp_h6 M.1 (kv_insert M p i s).1 := by
  unfold kv_insert
  split
  · exact kp_h6_refl _
  · exact kp_h6_trans (kp_h6_trans (kp_h6_upL hp _ _) (kp_h6_setSlot hp)) (kp_h6_setCount hp)
theorem kp_h6_delete {M : kv_M} {p i : Nat} (hp : p ≠ 0) : kp_h6 M.1 (kv_delete M p i).1 := by
  unfold kv_delete
  split
  · exact kp_h6_refl _
  · exact kp_h6_trans (kp_h6_dnL hp _ _ _) (kp_h6_setCount hp)
theorem kp_h6_share {M : kv_M} {l r toL : Nat} {P : Nat → Nat} (hl : l ≠ 0) (hr : r ≠ 0) : kp_h6 M.1 (kv_share M l r toL P).1.1 :=
  kp_h6_trans (kp_h6_trans (kp_h6_trans (kp_h6_layL hl _ _ _) (kp_h6_layL hr _ _ _)) (kp_h6_setCount hl)) (kp_h6_setCount hr)
theorem kp_fr_keep {B B' : Nat → UInt8} {fl W : List Nat} {u : Nat} (h : kp_fr B fl u) (hk : kp_keep B B' W) (hh : kp_h6 B B') (hd : ∀ q ∈ fl, q ∉ W) : kp_fr B' fl u := by
  obtain ⟨h1, h2, h3, h4, h5, h6⟩ := h
  exact ⟨kp_lk_frame (fun q hq => kp_keep_nx hk (by have := h6 q hq; omega) (hd q hq)) h1, by rw [kp_h6_num hh (by omega)]; exact h2, by rw [kp_h6_num hh (by omega)]; exact h3, by rw [kp_h6_num hh (by omega)]; exact h4, h5, h6⟩
/-- Nodes.make -/
theorem kp_make {M : kv_M} {fl : List Nat} {u l : Nat} (h : kp_fr M.1 fl u) (hn : fl.Nodup) (hr : 1 ≤ fl.length + (2711 - u)) (hl : l < 65536) :
    ∃ (p : Nat) (fl' : List Nat) (u' : Nat), (kv_make M l).1 = p ∧ kp_fr (kv_make M l).2.1 fl' u' ∧ 9 ≤ p ∧ p < 9 + u' ∧ p ∉ fl' ∧ fl'.Nodup ∧ kp_keep M.1 (kv_make M l).2.1 [p] ∧ (∀ q, (fl'.count q + [p].count q) + kp_ind u q = fl.count q + kp_ind u' q) ∧ fl'.length + 1 + u = fl.length + u' ∧ u ≤ u' ∧ (∀ q ∈ fl', q ∈ fl) ∧ kp_nd (kv_make M l).2.1 p l [] := by
  obtain ⟨p, f1, u1, n1, n2, n3, n4, n5, n6, n7, n8, n9, n10, n11, n12, n13⟩ := kp_newP h hn (by
    by_cases z : fl = []
    · right; subst z; simp at hr; omega
    · exact .inl z)
  have hu1 := n2.2.2.2.2.1
  refine ⟨p, f1, u1, n1, ?_, n3, n4, n5, n6, ?_, n8, n9, n10, n11, ?_⟩
  · unfold kv_make; rw [n1]; exact kp_fr_setN n2 (by omega) (by omega) (fun q hq z => n5 ((show q = p by omega) ▸ hq))
  · unfold kv_make; rw [n1]; exact kp_keep_trans n7 (kp_keep_setN0 (by omega))
  · unfold kv_make; rw [n1]
    refine ⟨?_, ?_, by simp, fun i hi => by simp at hi⟩
    · rw [kv_num_setN (by omega) (by omega), if_pos ⟨rfl, by omega⟩]; omega
    · rw [kv_num_setN (by omega) (by omega), if_neg (by omega)]; exact n13
theorem kp_in_take {α : Type} {xs : List α} {i m : Nat} {s : α} (h : i ≤ m) (hm : m ≤ xs.length) : kp_in (xs.take m) i s ++ xs.drop m = kp_in xs i s := by
  have e := kp_in_app2 (A := xs.take m) (C := xs.drop m) (x := i) (a := s) (by simp; omega)
  rw [List.take_append_drop] at e
  exact e.symm
theorem kp_in_drop {α : Type} {xs : List α} {i m : Nat} {s : α} (h : m ≤ i) (hi : i ≤ xs.length) : xs.take m ++ kp_in (xs.drop m) (i - m) s = kp_in xs i s := by
  have e := kp_in_app (A := xs.take m) (C := xs.drop m) (x := i - m) (a := s) (by simp; omega)
  rw [List.take_append_drop, List.length_take, Nat.min_eq_left (by omega), show m + (i - m) = i by omega] at e
  exact e.symm
/-- a full node: the new one, and the slot in one of the two -/
theorem kp_splitI {M : kv_M} {p l i s u : Nat} {xs fl : List Nat} {P : Nat → Nat} (h : kp_nd M.1 p l xs) (hx : xs.length = 14) (hf : kp_fr M.1 fl u) (hn : fl.Nodup) (hr : 1 ≤ fl.length + (2711 - u)) (hp : 9 ≤ p) (hp2 : p < 9 + u) (hpf : p ∉ fl) (hl : l ≤ 4) (hs : s < 65536) (hi : i ≤ 14) (hP : ∀ j, P j < 65536) :
    ∃ (q : Nat) (fl' : List Nat) (u' : Nat) (ys zs : List Nat), (kv_split M p P).1 = q ∧ kp_nd (kv_insB (kv_split M p P).2.1 p q i s).1 p l ys ∧ kp_nd (kv_insB (kv_split M p P).2.1 p q i s).1 q l zs ∧ ys ++ zs = kp_in xs i s ∧ 7 ≤ ys.length ∧ 7 ≤ zs.length ∧ kp_fr (kv_insB (kv_split M p P).2.1 p q i s).1 fl' u' ∧ fl'.Nodup ∧ kp_keep M.1 (kv_insB (kv_split M p P).2.1 p q i s).1 [p, q] ∧ (∀ x, (fl'.count x + [q].count x) + kp_ind u x = fl.count x + kp_ind u' x) ∧ fl'.length + 1 + u = fl.length + u' ∧ u ≤ u' ∧ q ∉ fl' ∧ 9 ≤ q ∧ q < 9 + u' ∧ q ≠ p ∧ (∀ j, (kv_split M p P).2.2 j < 65536) := by
  have hu := hf.2.2.2.2.1
  obtain ⟨q, f1, u1, n1, n2, n3, n4, n5, n6, n7, n8, n9, n10, n11, n12⟩ := kp_make (l := kv_level M.1 p) hf hn hr (by unfold kv_level; omega)
  rw [kp_nd_level h hl] at n1 n2 n7 n12
  have hu1 := n2.2.2.2.2.1
  have hqp : q ≠ p := by
    intro z
    subst z
    have a1 := n8 q
    have a2 : fl.count q = 0 := List.count_eq_zero.mpr hpf
    have a3 : kp_ind u q = 1 := by unfold kp_ind; rw [if_pos ⟨hp, hp2⟩]
    have a4 : kp_ind u1 q = 1 := by unfold kp_ind; rw [if_pos ⟨by omega, by omega⟩]
    have a5 : [q].count q = 1 := by simp
    omega
  have hpm : kp_nd (kv_make M l).2.1 p l xs := kp_nd_frame h (n7.1 p (by omega) (by simp; exact fun z => hqp z.symm))
  obtain ⟨g1, g2, g3, g4⟩ := kp_share (toL := 7) (P := P) hpm n12 hP (fun z => hqp z.symm) (by omega) (by omega) (by omega) (by omega) (by omega) (by simp; omega) (by simp; omega)
  have g5 : kp_h6 (kv_make M l).2.1 (kv_share (kv_make M l).2 p q 7 P).1.1 := kp_h6_share (by omega) (by omega)
  have e : kv_split M p P = (q, kv_share (kv_make M l).2 p q 7 P) := by
    unfold kv_split
    rw [kp_nd_level h hl, n1, kp_nd_count hpm, hx]
  rw [e]
  simp only [List.append_nil] at g1 g2
  have t7 : (xs.take 7).length = 7 := by simp; omega
  have d7 : (xs.drop 7).length = 7 := by simp; omega
  have kq : kp_keep M.1 (kv_share (kv_make M l).2 p q 7 P).1.1 [p, q] := kp_keep_trans (kp_keep_mono n7 (by simp)) g3
  have fq : kp_fr (kv_share (kv_make M l).2 p q 7 P).1.1 f1 u1 := kp_fr_keep n2 g3 g5 (fun x hx z => by
    simp at z
    rcases z with y | y
    · exact hpf (by rw [← y]; exact n11 x hx)
    · exact n5 (by rw [← y]; exact hx))
  simp only
  generalize (kv_share (kv_make M l).2 p q 7 P).1 = M3 at *
  refine ⟨q, f1, u1, ?_⟩
  unfold kv_insB
  rw [kp_nd_count g1, t7]
  by_cases z : i ≤ 7
  · rw [if_pos z]
    obtain ⟨k1, k2⟩ := kp_insert (i := i) (s := s) g1 (by omega) (by omega) (by omega) (by omega) hs
    refine ⟨_, _, rfl, k1, kp_nd_frame g2 (k2.1 q (by omega) (by simp; exact hqp)), kp_in_take z (by omega), ?_, by omega, kp_fr_keep fq k2 (kp_h6_insert (by omega)) (fun x hx z => ?_), n6, kp_keep_trans kq (kp_keep_mono k2 (by simp)), n8, n9, n10, n5, n3, n4, hqp, g4⟩
    · simp; omega
    · simp at z; exact hpf (by rw [← z]; exact n11 x hx)
  · rw [if_neg z]
    obtain ⟨k1, k2⟩ := kp_insert (i := i - 7) (s := s) g2 (by omega) (by omega) (by omega) (by omega) hs
    refine ⟨_, _, rfl, kp_nd_frame g1 (k2.1 p (by omega) (by simp; exact fun y => hqp y.symm)), k1, kp_in_drop (by omega) (by omega), by omega, ?_, kp_fr_keep fq k2 (kp_h6_insert (by omega)) (fun x hx z => ?_), n6, kp_keep_trans kq (kp_keep_mono k2 (by simp)), n8, n9, n10, n5, n3, n4, hqp, g4⟩
    · simp; omega
    · simp at z; exact n5 (by rw [← z]; exact hx)
