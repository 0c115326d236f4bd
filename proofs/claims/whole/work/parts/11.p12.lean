/-! PURE, twelfth: one node of a level changes, or becomes two -/
def kp_in {α : Type} (l : List α) (x : Nat) (a : α) : List α := l.take x ++ a :: l.drop x
theorem kp_in_len {α : Type} (l : List α) (x : Nat) (a : α) : (kp_in l x a).length = l.length + 1 := by
  unfold kp_in
  simp
  omega
theorem kp_in_app {α : Type} {A C : List α} {x : Nat} {a : α} (h : x ≤ C.length) : kp_in (A ++ C) (A.length + x) a = A ++ kp_in C x a := by
  unfold kp_in
  rw [List.take_append, List.drop_append]
  simp [List.take_of_length_le]
theorem kp_in_app2 {α : Type} {A C : List α} {x : Nat} {a : α} (h : x ≤ A.length) : kp_in (A ++ C) x a = kp_in A x a ++ C := by
  unfold kp_in
  rw [List.take_append_of_le_length h, List.drop_append_of_le_length h]
  simp
theorem kp_in_map {α β : Type} (f : α → β) (l : List α) (x : Nat) (a : α) : (kp_in l x a).map f = kp_in (l.map f) x (f a) := by
  unfold kp_in
  simp [List.map_take, List.map_drop]
theorem kp_dec {α : Type} : ∀ {L : List α} {v : Nat} {n : α}, L[v]? = some n → ∃ A C, L = A ++ n :: C ∧ A.length = v
  | [], v, n, h => by simp at h
  | m :: L, 0, n, h => ⟨[], L, by have : m = n := by simpa using h
                                  rw [this]; rfl, rfl⟩
  | m :: L, v + 1, n, h => by
    obtain ⟨A, C, h1, h2⟩ := kp_dec (L := L) (v := v) (n := n) (by simpa using h)
    exact ⟨m :: A, C, by rw [h1]; rfl, by simp [h2]⟩
theorem kp_set_dec {α : Type} (A C : List α) (n m : α) : (A ++ n :: C).set A.length m = A ++ m :: C := by
  rw [List.set_append_right _ _ (Nat.le_refl _)]
  simp
theorem kp_off_dec (A C : List kp_N) (n : kp_N) : kp_off (A ++ n :: C) A.length = (kp_fl A).length := by
  unfold kp_off
  rw [List.take_left]
theorem kp_fl_set {L : List kp_N} {v p i s : Nat} {xs : List Nat} (h : L[v]? = some (p, xs)) (hi : i ≤ xs.length) : kp_fl (L.set v (p, kp_in xs i s)) = kp_in (kp_fl L) (kp_off L v + i) s := by
  obtain ⟨A, C, h1, h2⟩ := kp_dec h
  subst h1
  subst h2
  rw [kp_set_dec, kp_off_dec, kp_fl_app, kp_fl_app, kp_fl_cons, kp_fl_cons, kp_in_app (by simp; omega), kp_in_app2 hi]
theorem kp_fl_split {L : List kp_N} {v p q i s : Nat} {xs ys zs : List Nat} (h : L[v]? = some (p, xs)) (hi : i ≤ xs.length) (he : ys ++ zs = kp_in xs i s) : kp_fl (kp_in (L.set v (p, ys)) (v + 1) (q, zs)) = kp_in (kp_fl L) (kp_off L v + i) s := by
  obtain ⟨A, C, h1, h2⟩ := kp_dec h
  subst h1
  subst h2
  rw [kp_set_dec, kp_off_dec, kp_in_app (x := 1) (by simp), kp_fl_app, kp_fl_app, kp_fl_cons (p, xs), kp_in_app (by simp; omega), kp_in_app2 hi, ← he]
  simp [kp_in, kp_fl]
theorem kp_map_set {L : List kp_N} {v p : Nat} {xs ys : List Nat} (h : L[v]? = some (p, xs)) : (L.set v (p, ys)).map (·.1) = L.map (·.1) := by
  obtain ⟨A, C, h1, h2⟩ := kp_dec h
  subst h1
  subst h2
  rw [kp_set_dec]
  simp
/-- how often q stands in the lists f 0 .. f (n - 1) -/
def kp_cn (f : Nat → List Nat) (q : Nat) : Nat → Nat
  | 0 => 0
  | n + 1 => kp_cn f q n + (f n).count q
theorem kp_cn_ge {f : Nat → List Nat} {q : Nat} : ∀ {n j : Nat}, j < n → (f j).count q ≤ kp_cn f q n
  | n + 1, j, h => by
    rw [kp_cn]
    by_cases z : j = n
    · subst z; omega
    · have := kp_cn_ge (f := f) (q := q) (n := n) (j := j) (by omega)
      omega
theorem kp_cn_ge2 {f : Nat → List Nat} {q : Nat} : ∀ {n i j : Nat}, i < n → j < n → i ≠ j → (f i).count q + (f j).count q ≤ kp_cn f q n
  | n + 1, i, j, hi, hj, hij => by
    rw [kp_cn]
    by_cases z : i = n
    · subst z
      have := kp_cn_ge (f := f) (q := q) (n := i) (j := j) (by omega)
      omega
    · by_cases y : j = n
      · subst y
        have := kp_cn_ge (f := f) (q := q) (n := j) (j := i) (by omega)
        omega
      · have := kp_cn_ge2 (f := f) (q := q) (n := n) (i := i) (j := j) (by omega) (by omega) hij
        omega
theorem kp_cn_congr {f g : Nat → List Nat} {q : Nat} : ∀ {n : Nat}, (∀ j, j < n → f j = g j) → kp_cn f q n = kp_cn g q n
  | 0, _ => rfl
  | n + 1, h => by rw [kp_cn, kp_cn, kp_cn_congr (fun j hj => h j (by omega)), h n (by omega)]
theorem kp_cn_up {f g : Nat → List Nat} {q : Nat} : ∀ {n j : Nat}, j < n → (∀ m, m < n → m ≠ j → f m = g m) → kp_cn f q n + (g j).count q = kp_cn g q n + (f j).count q
  | n + 1, j, hj, h => by
    rw [kp_cn, kp_cn]
    by_cases z : j = n
    · subst z
      rw [kp_cn_congr (f := f) (g := g) (fun m hm => h m (by omega) (by omega))]
      omega
    · have := kp_cn_up (f := f) (g := g) (q := q) (n := n) (j := j) (by omega) (fun m hm hmj => h m (by omega) hmj)
      rw [h n (by omega) (by omega)]
      omega
/-- how many numbers stand in the lists f 0 .. f (n - 1) -/
def kp_cl (f : Nat → List Nat) : Nat → Nat
  | 0 => 0
  | n + 1 => kp_cl f n + (f n).length
theorem kp_cl_congr {f g : Nat → List Nat} : ∀ {n : Nat}, (∀ j, j < n → f j = g j) → kp_cl f n = kp_cl g n
  | 0, _ => rfl
  | n + 1, h => by rw [kp_cl, kp_cl, kp_cl_congr (fun j hj => h j (by omega)), h n (by omega)]
theorem kp_cl_up {f g : Nat → List Nat} : ∀ {n j : Nat}, j < n → (∀ m, m < n → m ≠ j → f m = g m) → kp_cl f n + (g j).length = kp_cl g n + (f j).length
  | n + 1, j, hj, h => by
    rw [kp_cl, kp_cl]
    by_cases z : j = n
    · subst z
      rw [kp_cl_congr (f := f) (g := g) (fun m hm => h m (by omega) (by omega))]
      omega
    · have := kp_cl_up (f := f) (g := g) (n := n) (j := j) (by omega) (fun m hm hmj => h m (by omega) hmj)
      rw [h n (by omega) (by omega)]
      omega
theorem kp_count2 : ∀ {l : List Nat} {v w p : Nat}, l[v]? = some p → l[w]? = some p → v ≠ w → 2 ≤ l.count p
  | [], v, w, p, h, _, _ => by simp at h
  | a :: l, 0, 0, p, _, _, h => absurd rfl h
  | a :: l, 0, w + 1, p, h1, h2, _ => by
    have e : a = p := by simpa using h1
    subst e
    have : a ∈ l := List.mem_of_getElem? (show l[w]? = some a by simpa using h2)
    have := List.count_pos_iff.mpr this
    rw [List.count_cons_self]
    omega
  | a :: l, v + 1, 0, p, h1, h2, _ => by
    have e : a = p := by simpa using h2
    subst e
    have : a ∈ l := List.mem_of_getElem? (show l[v]? = some a by simpa using h1)
    have := List.count_pos_iff.mpr this
    rw [List.count_cons_self]
    omega
  | a :: l, v + 1, w + 1, p, h1, h2, h3 => by
    have := kp_count2 (l := l) (v := v) (w := w) (p := p) (by simpa using h1) (by simpa using h2) (by omega)
    rw [List.count_cons]
    omega
/-- how often page q belongs to a tree; how many pages it has -/
def kp_ct (top : Nat) (S : Nat → List kp_N) (cs : List kp_C) (q : Nat) : Nat := kp_cn (fun j => (S j).map (·.1)) q (top + 1) + (cs.flatMap (·.2.1)).count q
def kp_ln (top : Nat) (S : Nat → List kp_N) (cs : List kp_C) : Nat := kp_cl (fun j => (S j).map (·.1)) (top + 1) + (cs.flatMap (·.2.1)).length
theorem kp_ct_node {top : Nat} {S : Nat → List kp_N} {cs : List kp_C} {j : Nat} {n : kp_N} (hj : j ≤ top) (hn : n ∈ S j) : 1 ≤ kp_ct top S cs n.1 := by
  have h1 : n.1 ∈ (S j).map (·.1) := List.mem_map.mpr ⟨n, hn, rfl⟩
  have h2 := List.count_pos_iff.mpr h1
  have h3 := kp_cn_ge (f := fun j => (S j).map (·.1)) (q := n.1) (n := top + 1) (j := j) (by omega)
  unfold kp_ct
  omega
theorem kp_ct_chain {top : Nat} {S : Nat → List kp_N} {cs : List kp_C} {c : kp_C} {q : Nat} (hc : c ∈ cs) (hq : q ∈ c.2.1) : 1 ≤ kp_ct top S cs q := by
  have h1 : q ∈ cs.flatMap (·.2.1) := List.mem_flatMap.mpr ⟨c, hc, hq⟩
  have h2 := List.count_pos_iff.mpr h1
  unfold kp_ct
  omega
/-- a page is that of one node alone, and of no chain -/
theorem kp_uniq {top : Nat} {S : Nat → List kp_N} {cs : List kp_C} {j m v w p : Nat} {xs ys : List Nat} (h : kp_ct top S cs p ≤ 1) (hj : j ≤ top) (hm : m ≤ top) (h1 : (S j)[v]? = some (p, xs)) (h2 : (S m)[w]? = some (p, ys)) : j = m ∧ v = w := by
  have a1 : ((S j).map (·.1))[v]? = some p := by rw [List.getElem?_map, h1]; rfl
  have a2 : ((S m).map (·.1))[w]? = some p := by rw [List.getElem?_map, h2]; rfl
  by_cases z : j = m
  · subst z
    refine ⟨rfl, ?_⟩
    by_cases y : v = w
    · exact y
    · have c2 := kp_count2 a1 a2 y
      have c3 := kp_cn_ge (f := fun j => (S j).map (·.1)) (q := p) (n := top + 1) (j := j) (by omega)
      unfold kp_ct at h
      omega
  · have c1 := List.count_pos_iff.mpr (List.mem_of_getElem? a1)
    have c2 := List.count_pos_iff.mpr (List.mem_of_getElem? a2)
    have c3 := kp_cn_ge2 (f := fun j => (S j).map (·.1)) (q := p) (n := top + 1) (i := j) (j := m) (by omega) (by omega) z
    unfold kp_ct at h
    omega
theorem kp_apart {top : Nat} {S : Nat → List kp_N} {cs : List kp_C} {j p : Nat} {n : kp_N} {c : kp_C} (h : kp_ct top S cs p ≤ 1) (hj : j ≤ top) (hn : n ∈ S j) (hp : n.1 = p) (hc : c ∈ cs) : p ∉ c.2.1 := by
  intro hq
  subst hp
  have h1 : n.1 ∈ (S j).map (·.1) := List.mem_map.mpr ⟨n, hn, rfl⟩
  have h2 := List.count_pos_iff.mpr h1
  have h3 := kp_cn_ge (f := fun j => (S j).map (·.1)) (q := n.1) (n := top + 1) (j := j) (by omega)
  have h4 := List.count_pos_iff.mpr (List.mem_flatMap.mpr ⟨c, hc, hq⟩ : n.1 ∈ cs.flatMap (·.2.1))
  unfold kp_ct at h
  omega
