/-! PURE, thirteenth: nodes of all levels over a change of memory -/
def kp_nds (B : Nat → UInt8) (top : Nat) (S : Nat → List kp_N) : Prop := ∀ j, j ≤ top → ∀ n ∈ S j, kp_nd B n.1 j n.2
def kp_chs (B : Nat → UInt8) (cs : List kp_C) : Prop := ∀ c ∈ cs, kp_ch B c.1 c.2.1 c.2.2.1 c.2.2.2
theorem kp_chs_keep {B B' : Nat → UInt8} {cs : List kp_C} {P : List Nat} (h : kp_chs B cs) (hk : kp_keep B B' P) (h0 : ∀ c ∈ cs, ∀ q ∈ c.2.1, q ≠ 0 ∧ q ∉ P) : kp_chs B' cs :=
  fun c hc => kp_ch_frame (h c hc) (fun q hq => hk.1 q (h0 c hc q hq).1 (h0 c hc q hq).2)
theorem kp_nds_keep {B B' : Nat → UInt8} {top : Nat} {S : Nat → List kp_N} {P : List Nat} (h : kp_nds B top S) (hk : kp_keep B B' P) (h0 : ∀ j, j ≤ top → ∀ n ∈ S j, n.1 ≠ 0 ∧ n.1 ∉ P) : kp_nds B' top S :=
  fun j hj n hn => kp_nd_frame (h j hj n hn) (hk.1 n.1 (h0 j hj n hn).1 (h0 j hj n hn).2)
/-- one node has other slots -/
theorem kp_nds_set {B B' : Nat → UInt8} {top : Nat} {S : Nat → List kp_N} {cs : List kp_C} {j v p : Nat} {xs ys : List Nat} (h : kp_nds B top S) (hk : kp_keep B B' [p]) (hj : j ≤ top) (hv : (S j)[v]? = some (p, xs)) (hn : kp_nd B' p j ys) (hu : ∀ q, kp_ct top S cs q ≤ 1) (h0 : ∀ j, j ≤ top → ∀ n ∈ S j, n.1 ≠ 0) : kp_nds B' top (va_up S j ((S j).set v (p, ys))) := by
  intro m hm n hmem
  by_cases z : m = j
  · subst z
    have e : va_up S m ((S m).set v (p, ys)) m = (S m).set v (p, ys) := by simp [va_up]
    rw [e] at hmem
    obtain ⟨w, hw⟩ := List.getElem?_of_mem hmem
    rw [List.getElem?_set] at hw
    by_cases y : v = w
    · rw [if_pos y] at hw
      split at hw
      · have := Option.some.inj hw
        subst this
        exact hn
      · cases hw
    · rw [if_neg y] at hw
      have hne : n.1 ≠ p := by
        intro x
        obtain ⟨n1, n2⟩ := n
        simp only at x
        subst x
        exact y (kp_uniq (hu n1) hj hm hv hw).2
      exact kp_nd_frame (h m hm n (List.mem_of_getElem? hw)) (hk.1 n.1 (h0 m hm n (List.mem_of_getElem? hw)) (by simp; exact hne))
  · have e : va_up S j ((S j).set v (p, ys)) m = S m := by simp [va_up, z]
    rw [e] at hmem
    obtain ⟨w, hw⟩ := List.getElem?_of_mem hmem
    have hne : n.1 ≠ p := by
      intro x
      obtain ⟨n1, n2⟩ := n
      simp only at x
      subst x
      exact z (kp_uniq (hu n1) hj hm hv hw).1.symm
    exact kp_nd_frame (h m hm n hmem) (hk.1 n.1 (h0 m hm n hmem) (by simp; exact hne))
/-- one node becomes two, the second one new -/
theorem kp_nds_split {B B' : Nat → UInt8} {top : Nat} {S : Nat → List kp_N} {cs : List kp_C} {j v p q : Nat} {xs ys zs : List Nat} (h : kp_nds B top S) (hk : kp_keep B B' [p, q]) (hj : j ≤ top) (hv : (S j)[v]? = some (p, xs)) (hn : kp_nd B' p j ys) (hn2 : kp_nd B' q j zs) (hu : ∀ q, kp_ct top S cs q ≤ 1) (h0 : ∀ j, j ≤ top → ∀ n ∈ S j, n.1 ≠ 0) (hq : ∀ j, j ≤ top → ∀ n ∈ S j, n.1 ≠ q) : kp_nds B' top (va_up S j (kp_in ((S j).set v (p, ys)) (v + 1) (q, zs))) := by
  intro m hm n hmem
  have old : ∀ w, (S m)[w]? = some n → (m ≠ j ∨ w ≠ v) → kp_nd B' n.1 m n.2 := by
    intro w hw hor
    have hne : n.1 ≠ p := by
      intro x
      obtain ⟨n1, n2⟩ := n
      simp only at x
      subst x
      have := kp_uniq (hu n1) hj hm hv hw
      rcases hor with a | a
      · exact a this.1.symm
      · exact a this.2.symm
    have hmem2 := List.mem_of_getElem? hw
    exact kp_nd_frame (h m hm n hmem2) (hk.1 n.1 (h0 m hm n hmem2) (by simp; exact ⟨hne, hq m hm n hmem2⟩))
  by_cases z : m = j
  · subst z
    have e : va_up S m (kp_in ((S m).set v (p, ys)) (v + 1) (q, zs)) m = kp_in ((S m).set v (p, ys)) (v + 1) (q, zs) := by simp [va_up]
    rw [e] at hmem
    unfold kp_in at hmem
    have hcase : n = (q, zs) ∨ n ∈ (S m).set v (p, ys) := by
      rcases List.mem_append.mp hmem with a | a
      · exact Or.inr (List.mem_of_mem_take a)
      · rcases List.mem_cons.mp a with b | b
        · exact Or.inl b
        · exact Or.inr (List.mem_of_mem_drop b)
    rcases hcase with a | a
    · subst a; exact hn2
    · obtain ⟨w, hw⟩ := List.getElem?_of_mem a
      rw [List.getElem?_set] at hw
      by_cases y : v = w
      · rw [if_pos y] at hw
        split at hw
        · have := Option.some.inj hw
          subst this
          exact hn
        · cases hw
      · rw [if_neg y] at hw
        exact old w hw (Or.inr (fun x => y x.symm))
  · have e : va_up S j (kp_in ((S j).set v (p, ys)) (v + 1) (q, zs)) m = S m := by simp [va_up, z]
    rw [e] at hmem
    obtain ⟨w, hw⟩ := List.getElem?_of_mem hmem
    exact old w hw (Or.inl z)
theorem kp_ct_set {top : Nat} {S : Nat → List kp_N} {cs : List kp_C} {j v p : Nat} {xs ys : List Nat} (hv : (S j)[v]? = some (p, xs)) (q : Nat) : kp_ct top (va_up S j ((S j).set v (p, ys))) cs q = kp_ct top S cs q := by
  unfold kp_ct
  congr 1
  refine kp_cn_congr (fun m _ => ?_)
  by_cases z : m = j
  · subst z; simp only [va_up, if_pos]; exact kp_map_set hv
  · simp [va_up, z]
theorem kp_ln_set {top : Nat} {S : Nat → List kp_N} {cs : List kp_C} {j v p : Nat} {xs ys : List Nat} (hv : (S j)[v]? = some (p, xs)) : kp_ln top (va_up S j ((S j).set v (p, ys))) cs = kp_ln top S cs := by
  unfold kp_ln
  congr 1
  refine kp_cl_congr (fun m _ => ?_)
  by_cases z : m = j
  · subst z; simp only [va_up, if_pos]; exact kp_map_set hv
  · simp [va_up, z]
theorem kp_in_count (l : List Nat) (x a q : Nat) : (kp_in l x a).count q = l.count q + [a].count q := by
  unfold kp_in
  rw [List.count_append, List.count_cons, List.count_singleton]
  have := congrArg (List.count q) (List.take_append_drop x l)
  rw [List.count_append] at this
  omega
theorem kp_ct_split {top : Nat} {S : Nat → List kp_N} {cs : List kp_C} {j v p q : Nat} {xs ys zs : List Nat} (hj : j ≤ top) (hv : (S j)[v]? = some (p, xs)) (x : Nat) : kp_ct top (va_up S j (kp_in ((S j).set v (p, ys)) (v + 1) (q, zs))) cs x = kp_ct top S cs x + [q].count x := by
  unfold kp_ct
  have h := kp_cn_up (f := fun m => (va_up S j (kp_in ((S j).set v (p, ys)) (v + 1) (q, zs)) m).map (·.1)) (g := fun m => (S m).map (·.1)) (q := x) (n := top + 1) (j := j) (by omega) (fun m _ hm => by simp [va_up, hm])
  have e : (va_up S j (kp_in ((S j).set v (p, ys)) (v + 1) (q, zs)) j).map (·.1) = kp_in ((S j).map (·.1)) (v + 1) q := by
    simp only [va_up, if_pos]
    rw [kp_in_map, kp_map_set hv]
  simp only at h
  rw [e, kp_in_count] at h
  omega
theorem kp_ln_split {top : Nat} {S : Nat → List kp_N} {cs : List kp_C} {j v p q : Nat} {xs ys zs : List Nat} (hj : j ≤ top) (hv : (S j)[v]? = some (p, xs)) : kp_ln top (va_up S j (kp_in ((S j).set v (p, ys)) (v + 1) (q, zs))) cs = kp_ln top S cs + 1 := by
  unfold kp_ln
  have h := kp_cl_up (f := fun m => (va_up S j (kp_in ((S j).set v (p, ys)) (v + 1) (q, zs)) m).map (·.1)) (g := fun m => (S m).map (·.1)) (n := top + 1) (j := j) (by omega) (fun m _ hm => by simp [va_up, hm])
  have e : (va_up S j (kp_in ((S j).set v (p, ys)) (v + 1) (q, zs)) j).map (·.1) = kp_in ((S j).map (·.1)) (v + 1) q := by
    simp only [va_up, if_pos]
    rw [kp_in_map, kp_map_set hv]
  simp only at h
  rw [e, kp_in_len] at h
  omega
