/-! PURE, the 31st: the reference's lists -/
def kq_bl (Y : Nat → UInt8) (p n : Nat) : List UInt8 := (List.range n).map (fun i => Y (p + i))
theorem kq_bl_len (Y : Nat → UInt8) (p n : Nat) : (kq_bl Y p n).length = n := by unfold kq_bl; simp
theorem kq_bl_at {Y : Nat → UInt8} {p n i : Nat} (h : i < n) : (kq_bl Y p n)[i]? = some (Y (p + i)) := by
  unfold kq_bl
  rw [List.getElem?_map, List.getElem?_range h]; rfl
theorem kq_bl_congr {Y Y' : Nat → UInt8} {p p' n : Nat} (h : ∀ i, i < n → Y (p + i) = Y' (p' + i)) : kq_bl Y p n = kq_bl Y' p' n := by
  unfold kq_bl
  exact List.map_congr_left (fun i hi => h i (List.mem_range.mp hi))
theorem kq_bl_row {R : Nat → UInt8} {len : Nat} {K : List UInt8} (h : kp_row R len K) : kq_bl R 0 len = K := by
  apply List.ext_getElem?
  intro i
  by_cases z : i < len
  · rw [kq_bl_at z, Nat.zero_add]; exact h.2 i z
  · rw [List.getElem?_eq_none (by rw [kq_bl_len]; omega), List.getElem?_eq_none (by rw [← h.1]; omega)]
theorem kq_row_bl (R : Nat → UInt8) (len : Nat) : kp_row R len (kq_bl R 0 len) := ⟨(kq_bl_len _ _ _).symm, fun j hj => by rw [kq_bl_at hj, Nat.zero_add]⟩
abbrev kq_E : Type := Nat × kp_KV
/-- one record -/
def kq_ent (TO PL KS VS : Nat → Nat) (Y : Nat → UInt8) (e : Nat) : kq_E := (TO e, kq_bl Y (PL e) (KS e), kq_bl Y (PL e + KS e) (VS e))
/-- m records of the list, from b on -/
def kq_ls (TO PL KS VS : Nat → Nat) (Y : Nat → UInt8) (LI : Nat → Nat) (b m : Nat) : List kq_E := (List.range m).map (fun k => kq_ent TO PL KS VS Y (LI (b + k)))
theorem kq_ls_len {TO PL KS VS : Nat → Nat} {Y : Nat → UInt8} {LI : Nat → Nat} {b m : Nat} : (kq_ls TO PL KS VS Y LI b m).length = m := by unfold kq_ls; simp
theorem kq_ls_at {TO PL KS VS : Nat → Nat} {Y : Nat → UInt8} {LI : Nat → Nat} {b m k : Nat} (h : k < m) : (kq_ls TO PL KS VS Y LI b m)[k]? = some (kq_ent TO PL KS VS Y (LI (b + k))) := by
  unfold kq_ls
  rw [List.getElem?_map, List.getElem?_range h]; rfl
/-- the list's own order: tree by tree -/
def kq_l (o : Option (List kp_KV)) : List kp_KV := o.getD []
def kq_tag (t : Nat) (l : List kp_KV) : List kq_E := l.map (fun e => (t, e))
def kq_up (A : kp_A) : Nat → List kq_E
  | 0 => []
  | n + 1 => kq_up A n ++ kq_tag n (kq_l (A n))
/-- trees t + 1 .. t + n -/
def kq_dn (A : kp_A) (t : Nat) : Nat → List kq_E
  | 0 => []
  | n + 1 => kq_dn A t n ++ kq_tag (t + 1 + n) (kq_l (A (t + 1 + n)))
theorem kq_up_dn (A : kp_A) (t : Nat) : ∀ n, kq_up A (t + 1 + n) = kq_up A t ++ kq_tag t (kq_l (A t)) ++ kq_dn A t n
  | 0 => by simp [kq_up, kq_dn]
  | n + 1 => by
    show kq_up A (t + 1 + n) ++ kq_tag (t + 1 + n) (kq_l (A (t + 1 + n))) = _
    rw [kq_up_dn A t n, kq_dn, List.append_assoc _ (kq_dn A t n)]
abbrev kq_flat (A : kp_A) : List kq_E := kq_up A 64
theorem kq_flat_dec (A : kp_A) {t : Nat} (ht : t < 64) : kq_flat A = kq_up A t ++ kq_tag t (kq_l (A t)) ++ kq_dn A t (63 - t) := by
  have := kq_up_dn A t (63 - t)
  rw [show t + 1 + (63 - t) = 64 by omega] at this
  exact this
theorem kq_up_ne {A : kp_A} {t : Nat} {o : Option (List kp_KV)} : ∀ {n : Nat}, n ≤ t → kq_up (va_up A t o) n = kq_up A n
  | 0, _ => rfl
  | n + 1, h => by rw [kq_up, kq_up, kq_up_ne (by omega), va_up_ne _ _ (by omega)]
theorem kq_dn_ne {A : kp_A} {t : Nat} {o : Option (List kp_KV)} : ∀ n : Nat, kq_dn (va_up A t o) t n = kq_dn A t n
  | 0 => rfl
  | n + 1 => by rw [kq_dn, kq_dn, kq_dn_ne n, va_up_ne _ _ (by omega)]
theorem kq_flat_up (A : kp_A) {t : Nat} (ht : t < 64) (o : Option (List kp_KV)) : kq_flat (va_up A t o) = kq_up A t ++ kq_tag t (kq_l o) ++ kq_dn A t (63 - t) := by
  rw [kq_flat_dec _ ht, kq_up_ne (Nat.le_refl _), kq_dn_ne, va_up_self]
theorem kq_up_lt {A : kp_A} : ∀ {n : Nat} {x : kq_E}, x ∈ kq_up A n → x.1 < n
  | 0, x, h => by simp [kq_up] at h
  | n + 1, x, h => by
    rw [kq_up] at h
    rcases List.mem_append.mp h with y | y
    · have := kq_up_lt y; omega
    · obtain ⟨e, e1, e2⟩ := List.mem_map.mp y
      rw [← e2]; show n < n + 1; omega
theorem kq_dn_gt {A : kp_A} {t : Nat} : ∀ {n : Nat} {x : kq_E}, x ∈ kq_dn A t n → t < x.1
  | 0, x, h => by simp [kq_dn] at h
  | n + 1, x, h => by
    rw [kq_dn] at h
    rcases List.mem_append.mp h with y | y
    · exact kq_dn_gt y
    · obtain ⟨e, e1, e2⟩ := List.mem_map.mp y
      rw [← e2]; show t < t + 1 + n; omega
theorem kq_mem {A : kp_A} {x : kq_E} : ∀ {n : Nat}, x ∈ kq_up A n → x.1 < n ∧ ∃ l, A x.1 = some l ∧ x.2 ∈ l
  | 0, h => by simp [kq_up] at h
  | n + 1, h => by
    rw [kq_up] at h
    rcases List.mem_append.mp h with y | y
    · have := kq_mem y; exact ⟨by omega, this.2⟩
    · obtain ⟨e, e1, e2⟩ := List.mem_map.mp y
      subst e2
      refine ⟨by show n < n + 1; omega, ?_⟩
      show ∃ l, A n = some l ∧ e ∈ l
      cases hA : A n with
      | none => rw [hA] at e1; simp [kq_l] at e1
      | some l => rw [hA] at e1; exact ⟨l, rfl, e1⟩
def kq_sz (L : List kq_E) : Nat := (L.map (fun x => 16 + x.2.1.length + x.2.2.length)).sum
theorem kq_sz_app (L M : List kq_E) : kq_sz (L ++ M) = kq_sz L + kq_sz M := by unfold kq_sz; rw [List.map_append, List.sum_append]
theorem kq_sz_tag (t : Nat) (l : List kp_KV) : kq_sz (kq_tag t l) = kp_szl l := by
  unfold kq_sz kq_tag kp_szl
  rw [List.map_map]; rfl
theorem kq_sz_up {A : kp_A} : ∀ n, kq_sz (kq_up A n) = kp_sum (fun t => kp_szO (A t)) n
  | 0 => rfl
  | n + 1 => by
    rw [kq_up, kp_sum, kq_sz_app, kq_sz_up n, kq_sz_tag]
    congr 1
    cases A n <;> rfl
theorem kq_sz_flat (A : kp_A) : kq_sz (kq_flat A) = kp_sizeA A := kq_sz_up 64
/-- how many records at most -/
theorem kq_len_le {A : kp_A} (h : kp_okA A) : 17 * (kq_flat A).length ≤ kp_sizeA A := by
  have key : ∀ L : List kq_E, (∀ x ∈ L, 1 ≤ x.2.1.length) → 17 * L.length ≤ kq_sz L := by
    intro L
    induction L with
    | nil => intro _; simp
    | cons x L ih =>
      intro hx
      have h1 := hx x List.mem_cons_self
      have h2 := ih (fun y hy => hx y (List.mem_cons_of_mem _ hy))
      have h3 : kq_sz (x :: L) = (16 + x.2.1.length + x.2.2.length) + kq_sz L := by unfold kq_sz; rw [List.map_cons, List.sum_cons]
      rw [List.length_cons, h3]; omega
  rw [← kq_sz_flat]
  refine key _ (fun x hx => ?_)
  obtain ⟨h1, l, h2, h3⟩ := kq_mem hx
  exact ((h.1 x.1 l h1 h2).2 x.2 h3).1
/-! finding a KEY -/
abbrev kq_bef (t : Nat) (K : List UInt8) (x : kq_E) : Prop := x.1 < t ∨ (x.1 = t ∧ kp_c x.2.1 K < 0)
def kq_lo (t : Nat) (K : List UInt8) : List kq_E → Nat
  | [] => 0
  | x :: L => if kq_bef t K x then kq_lo t K L + 1 else 0
theorem kq_lo_app {t : Nat} {K : List UInt8} : ∀ {L M : List kq_E}, (∀ x ∈ L, kq_bef t K x) → kq_lo t K (L ++ M) = L.length + kq_lo t K M
  | [], M, _ => by simp
  | x :: L, M, h => by
    rw [List.cons_append, kq_lo, if_pos (h x List.mem_cons_self), kq_lo_app (fun y hy => h y (List.mem_cons_of_mem _ hy)), List.length_cons]; omega
theorem kq_lo_tag {t : Nat} {K : List UInt8} : ∀ {l : List kp_KV} {M : List kq_E}, (∀ x ∈ M, t < x.1) → kq_lo t K (kq_tag t l ++ M) = kp_lo l K
  | [], M, h => by
    cases M with
    | nil => rfl
    | cons x M =>
      show kq_lo t K (x :: M) = 0
      rw [kq_lo, if_neg (fun y => by have := h x List.mem_cons_self; rcases y with y | y <;> omega)]
  | e :: l, M, h => by
    show kq_lo t K ((t, e) :: (kq_tag t l ++ M)) = _
    rw [kq_lo, kp_lo, kq_lo_tag h]
    by_cases z : kp_c e.1 K < 0
    · rw [if_pos z, if_pos (.inr ⟨rfl, z⟩)]
    · rw [if_neg z, if_neg (fun y => by
        rcases y with y | y
        · exact Nat.lt_irrefl _ y
        · exact z y.2)]
theorem kq_lo_flat {A : kp_A} {t : Nat} (ht : t < 64) (K : List UInt8) : kq_lo t K (kq_flat A) = (kq_up A t).length + kp_lo (kq_l (A t)) K := by
  rw [kq_flat_dec A ht, List.append_assoc, kq_lo_app (fun x hx => .inl (kq_up_lt hx)), kq_lo_tag (fun x hx => kq_dn_gt hx)]
/-- what stands at a place of the flat list, counted from tree t's first -/
theorem kq_flat_at {A : kp_A} {t : Nat} (ht : t < 64) (i : Nat) (hi : i < (kq_l (A t)).length) : (kq_flat A)[(kq_up A t).length + i]? = ((kq_l (A t))[i]?).map (fun e => (t, e)) := by
  rw [kq_flat_dec A ht, List.append_assoc, List.getElem?_append_right (by omega), Nat.add_sub_cancel_left, List.getElem?_append_left (by unfold kq_tag; rw [List.length_map]; exact hi)]
  unfold kq_tag
  rw [List.getElem?_map]
theorem kq_flat_out {A : kp_A} {t : Nat} (ht : t < 64) {x : kq_E} (h : (kq_flat A)[(kq_up A t).length + (kq_l (A t)).length]? = some x) : x.1 ≠ t := by
  rw [kq_flat_dec A ht, List.getElem?_append_right (by rw [List.length_append]; unfold kq_tag; rw [List.length_map]; omega)] at h
  have := kq_dn_gt (List.mem_of_getElem? h)
  omega
/-- the reference's own comparing -/
theorem kq_cmpL {Y KY : Nat → UInt8} {p k kn : Nat} : ∀ (f i : Nat), i + f = min k kn → (∀ j, j < i → Y (p + j) = KY j) → kp_sg (km_cmpL Y KY p ((k : Int) - kn) f i) (kq_bl Y p k) (kq_bl KY 0 kn)
  | 0, i, h1, h2 => by
    refine kp_sg_of (d := i) (by rw [kq_bl_len]; omega) (by rw [kq_bl_len]; omega) (fun j hj => by rw [kq_bl_at (by omega), kq_bl_at (by omega), Nat.zero_add, h2 j hj]) (.inr ⟨?_, ?_⟩)
    · rw [kq_bl_len, kq_bl_len]; omega
    · rw [kq_bl_len, kq_bl_len]; rfl
  | f + 1, i, h1, h2 => by
    rw [km_cmpL]
    split
    · rename_i z
      refine kq_cmpL f (i + 1) (by omega) (fun j hj => ?_)
      by_cases y : j = i
      · subst y; exact UInt8.toNat_inj.mp (by omega)
      · exact h2 j (by omega)
    · rename_i z
      refine kp_sg_of (d := i) (by rw [kq_bl_len]; omega) (by rw [kq_bl_len]; omega) (fun j hj => by rw [kq_bl_at (by omega), kq_bl_at (by omega), Nat.zero_add, h2 j hj]) (.inl ⟨Y (p + i), KY i, kq_bl_at (by omega), by rw [kq_bl_at (by omega), Nat.zero_add], fun y => z (by rw [y]; omega), rfl⟩)
theorem kq_cmp (Y KY : Nat → UInt8) (p k kn : Nat) : kp_sg (km_cmp Y KY p k kn) (kq_bl Y p k) (kq_bl KY 0 kn) := kq_cmpL (min k kn) 0 (by omega) (fun j hj => by omega)
theorem kq_find {TO PL KS VS : Nat → Nat} {Y KY : Nat → UInt8} {LI : Nat → Nat} {kn t : Nat} : ∀ (f k m : Nat), k + f = m → (km_fiL TO PL KS Y KY LI kn t f k) = k + kq_lo t (kq_bl KY 0 kn) ((kq_ls TO PL KS VS Y LI 0 m).drop k)
  | 0, k, m, h => by
    rw [List.drop_of_length_le (by rw [kq_ls_len]; omega)]; rfl
  | f + 1, k, m, h => by
    have hk : k < m := by omega
    have e := kq_ls_at (TO := TO) (PL := PL) (KS := KS) (VS := VS) (Y := Y) (LI := LI) (b := 0) hk
    have e2 : (kq_ls TO PL KS VS Y LI 0 m).drop k = kq_ent TO PL KS VS Y (LI (0 + k)) :: (kq_ls TO PL KS VS Y LI 0 m).drop (k + 1) := by
      rw [List.drop_eq_getElem_cons (by rw [kq_ls_len]; exact hk), (List.getElem?_eq_some_iff.mp e).2]
    rw [km_fiL, e2, kq_lo, Nat.zero_add]
    have hs := kq_cmp Y KY (PL (LI k)) (KS (LI k)) kn
    have hb : km_bef TO PL KS Y KY LI kn t k ↔ kq_bef t (kq_bl KY 0 kn) (kq_ent TO PL KS VS Y (LI k)) := by
      unfold km_bef kq_bef kq_ent
      simp only
      rw [hs.1]
    by_cases z : km_bef TO PL KS Y KY LI kn t k
    · rw [if_pos z, if_pos (hb.mp z), kq_find (VS := VS) f (k + 1) m (by omega)]; omega
    · rw [if_neg z, if_neg (fun y => z (hb.mpr y))]; omega
theorem kq_finds {TO PL KS VS : Nat → Nat} {Y KY : Nat → UInt8} {LI : Nat → Nat} {kn t m : Nat} : km_find TO PL KS Y KY LI kn t m = kq_lo t (kq_bl KY 0 kn) (kq_ls TO PL KS VS Y LI 0 m) := by
  unfold km_find
  rw [kq_find (VS := VS) m 0 m (by omega), List.drop_zero, Nat.zero_add]
theorem kq_is {TO PL KS VS : Nat → Nat} {Y KY : Nat → UInt8} {LI : Nat → Nat} {kn t m k : Nat} : km_is TO PL KS Y KY LI kn m k t = true ↔ ∃ v, (kq_ls TO PL KS VS Y LI 0 m)[k]? = some (t, kq_bl KY 0 kn, v) := by
  unfold km_is
  rw [decide_eq_true_iff]
  have hs := kq_cmp Y KY (PL (LI k)) (KS (LI k)) kn
  constructor
  · intro ⟨h1, h2, h3⟩
    refine ⟨kq_bl Y (PL (LI k) + KS (LI k)) (VS (LI k)), ?_⟩
    rw [kq_ls_at h1, Nat.zero_add]
    unfold kq_ent
    rw [h2, kp_c_eq ((hs.2).mp h3)]
  · intro ⟨v, h⟩
    have hk : k < m := by
      have := (List.getElem?_eq_some_iff.mp h).1
      rw [kq_ls_len] at this; exact this
    rw [kq_ls_at hk, Nat.zero_add] at h
    have h' := Option.some.inj h
    unfold kq_ent at h'
    have h1 := (Prod.mk.inj h').1
    have h2 := (Prod.mk.inj (Prod.mk.inj h').2).1
    exact ⟨hk, h1, (hs.2).mpr (by rw [h2]; exact kp_c_self _)⟩
