/-! PURE, sixteenth: a slot comes into a tree -/
def kp_its (S : Nat → List kp_N) (cs : List kp_C) (l : Nat) : List Nat := match l with
  | 0 => cs.map (·.1)
  | j + 1 => (S j).map (·.1)
def kp_lev (S : Nat → List kp_N) (cs : List kp_C) (top : Nat) : Prop := ∀ j, j ≤ top → kp_fl (S j) = kp_its S cs j
theorem kp_fo_iff {B : Nat → UInt8} {i : Nat} {S : Nat → List kp_N} {cs : List kp_C} : kp_fo B i S cs ↔ kp_lev S cs i ∧ kp_nds B i S ∧ kp_chs B cs := by
  constructor
  · intro ⟨h1, h2, h3, h4⟩
    refine ⟨fun j hj => ?_, h3, h4⟩
    cases j with
    | zero => exact h2
    | succ j => exact h1 j (by omega)
  · intro ⟨h1, h2, h3⟩
    exact ⟨fun j hj => h1 (j + 1) (by omega), h1 0 (Nat.zero_le _), h2, h3⟩
theorem kp_its_up {S : Nat → List kp_N} {cs : List kp_C} {l j : Nat} {L : List kp_N} (h : j ≠ l + 1) : kp_its (va_up S l L) cs j = kp_its S cs j := by
  cases j with
  | zero => rfl
  | succ j => show (va_up S l L j).map _ = _; rw [va_up_ne _ _ (by omega)]; rfl
theorem kp_its_at {S : Nat → List kp_N} {cs : List kp_C} {l : Nat} {L : List kp_N} : kp_its (va_up S l L) cs (l + 1) = L.map (·.1) := by
  show (va_up S l L l).map _ = _; rw [va_up_self]
/-- one tree's pages, the free ones, and what belongs to the others -/
def kp_on (B : Nat → UInt8) (top : Nat) (S : Nat → List kp_N) (cs : List kp_C) (fl : List Nat) (u : Nat) (ex : Nat → Nat) : Prop :=
  kp_fr B fl u ∧ (∀ q, fl.count q + kp_ct top S cs q + ex q = kp_ind u q) ∧ kp_nds B top S ∧ kp_chs B cs
theorem kp_ind_le (u q : Nat) : kp_ind u q ≤ 1 := by unfold kp_ind; split <;> omega
theorem kp_ind_in {u q : Nat} (h : 1 ≤ kp_ind u q) : 9 ≤ q ∧ q < 9 + u := by
  unfold kp_ind at h
  split at h
  · assumption
  · omega
theorem kp_on_nd {B : Nat → UInt8} {top : Nat} {S : Nat → List kp_N} {cs : List kp_C} {fl : List Nat} {u : Nat} {ex : Nat → Nat} (h : kp_on B top S cs fl u ex) : fl.Nodup :=
  List.nodup_iff_count.mpr (fun q => by have := h.2.1 q; have := kp_ind_le u q; omega)
theorem kp_on_ct {B : Nat → UInt8} {top : Nat} {S : Nat → List kp_N} {cs : List kp_C} {fl : List Nat} {u : Nat} {ex : Nat → Nat} (h : kp_on B top S cs fl u ex) (q : Nat) : kp_ct top S cs q ≤ 1 := by
  have := h.2.1 q; have := kp_ind_le u q; omega
theorem kp_on_page {B : Nat → UInt8} {top : Nat} {S : Nat → List kp_N} {cs : List kp_C} {fl : List Nat} {u : Nat} {ex : Nat → Nat} (h : kp_on B top S cs fl u ex) {q : Nat} (hq : 1 ≤ kp_ct top S cs q) : 9 ≤ q ∧ q < 9 + u ∧ q ∉ fl ∧ ex q = 0 := by
  have h1 := h.2.1 q
  have h2 := kp_ind_le u q
  have h3 := kp_ind_in (u := u) (q := q) (by omega)
  exact ⟨h3.1, h3.2, fun z => by have := List.count_pos_iff.mpr z; omega, by omega⟩
theorem kp_on_node {B : Nat → UInt8} {top : Nat} {S : Nat → List kp_N} {cs : List kp_C} {fl : List Nat} {u : Nat} {ex : Nat → Nat} (h : kp_on B top S cs fl u ex) {j : Nat} {n : kp_N} (hj : j ≤ top) (hn : n ∈ S j) : 9 ≤ n.1 ∧ n.1 < 9 + u ∧ n.1 ∉ fl ∧ ex n.1 = 0 := kp_on_page h (kp_ct_node hj hn)
/-- over a change of pages that are nobody else's -/
def kp_kx (B B' : Nat → UInt8) (ex : Nat → Nat) : Prop := ∃ W, kp_keep B B' W ∧ ∀ q ∈ W, 9 ≤ q ∧ ex q = 0
theorem kp_kx_refl (B : Nat → UInt8) (ex : Nat → Nat) : kp_kx B B ex := ⟨[], kp_keep_refl _ _, fun q h => by simp at h⟩
theorem kp_kx_trans {B B' B'' : Nat → UInt8} {ex : Nat → Nat} (h : kp_kx B B' ex) (h2 : kp_kx B' B'' ex) : kp_kx B B'' ex := by
  obtain ⟨W, h3, h4⟩ := h
  obtain ⟨V, h5, h6⟩ := h2
  exact ⟨W ++ V, kp_keep_trans (kp_keep_mono h3 (fun q hq => List.mem_append_left _ hq)) (kp_keep_mono h5 (fun q hq => List.mem_append_right _ hq)), fun q hq => by
    rcases List.mem_append.mp hq with y | y
    · exact h4 q y
    · exact h6 q y⟩
/-- the head's numbers but those of the free pages, and but the one at a -/
def kp_kh (B B' : Nat → UInt8) (ex : Nat → Nat) (t : Nat) : Prop := (∀ q, 9 ≤ q → 1 ≤ ex q → kp_pg B B' q) ∧ ∀ a, a % 2 = 0 → 6 ≤ a → a < 288 → a ≠ 32 + 4 * t → kv_num B' a = kv_num B a
theorem kp_keep_head_num {B B' : Nat → UInt8} {W : List Nat} (h : kp_keep B B' W) (hW : ∀ q ∈ W, 9 ≤ q) {a : Nat} (ha : a % 2 = 0) (h6 : 6 ≤ a) (h2 : a < 288) : kv_num B' a = kv_num B a := by
  by_cases z : a < 32
  · exact kp_keep_num0 h h6 (by omega)
  · have e := kp_keep_num h (q := a / 32) (i := a % 32) (by omega) (fun y => by have := hW _ y; omega) (by omega)
    rwa [show a / 32 * 32 + a % 32 = a by omega] at e
theorem kp_kx_kh {B B' : Nat → UInt8} {ex : Nat → Nat} {t : Nat} (h : kp_kx B B' ex) : kp_kh B B' ex t := by
  obtain ⟨W, h1, h2⟩ := h
  exact ⟨fun q hq hx => h1.1 q (by omega) (fun z => by have := h2 q z; omega), fun a ha h6 h8 _ => kp_keep_head_num h1 (fun q hq => (h2 q hq).1) ha h6 h8⟩
theorem kp_kh_trans {B B' B'' : Nat → UInt8} {ex : Nat → Nat} {t : Nat} (h : kp_kh B B' ex t) (h2 : kp_kh B' B'' ex t) : kp_kh B B'' ex t :=
  ⟨fun q hq hx => kp_pg_trans (h.1 q hq hx) (h2.1 q hq hx), fun a ha h6 h8 hn => (h2.2 a ha h6 h8 hn).trans (h.2 a ha h6 h8 hn)⟩
theorem kp_kx_root {B B' : Nat → UInt8} {ex : Nat → Nat} {t : Nat} (h : kp_kx B B' ex) (ht : t < 64) : kv_root B' t = kv_root B t := by
  obtain ⟨W, h1, h2⟩ := h
  exact kp_keep_head_num h1 (fun q hq => (h2 q hq).1) (by omega) (by omega) (by omega)
/-- nodes and chains over a change of one node -/
theorem kp_on_set {B B' : Nat → UInt8} {top : Nat} {S : Nat → List kp_N} {cs : List kp_C} {fl : List Nat} {u : Nat} {ex : Nat → Nat} (h : kp_on B top S cs fl u ex) {j v p : Nat} {xs ys : List Nat} (hj : j ≤ top) (hv : (S j)[v]? = some (p, xs)) (hk : kp_keep B B' [p]) (hh : kp_h6 B B') (hn : kp_nd B' p j ys) : kp_on B' top (va_up S j ((S j).set v (p, ys))) cs fl u ex := by
  have hm : (p, xs) ∈ S j := List.mem_of_getElem? hv
  have hp := kp_on_node h hj hm
  refine ⟨kp_fr_keep h.1 hk hh (fun q hq z => hp.2.2.1 ((List.mem_singleton.mp z) ▸ hq)), fun q => ?_, kp_nds_set h.2.2.1 hk hj hv hn (kp_on_ct h) (fun i hi n hn => by have := kp_on_node h hi hn; omega), kp_chs_keep h.2.2.2 hk (fun c hc q hq => ?_)⟩
  · rw [kp_ct_set hv]; exact h.2.1 q
  · refine ⟨by have := kp_on_page h (kp_ct_chain (top := top) (S := S) hc hq); omega, fun z => ?_⟩
    exact kp_apart (kp_on_ct h p) hj hm rfl hc ((List.mem_singleton.mp z) ▸ hq)
theorem kp_on_split {B B' : Nat → UInt8} {top : Nat} {S : Nat → List kp_N} {cs : List kp_C} {fl fl' : List Nat} {u u' : Nat} {ex : Nat → Nat} (h : kp_on B top S cs fl u ex) {j v p q : Nat} {xs ys zs : List Nat} (hj : j ≤ top) (hv : (S j)[v]? = some (p, xs)) (hk : kp_keep B B' [p, q]) (hf : kp_fr B' fl' u') (hc : ∀ x, (fl'.count x + [q].count x) + kp_ind u x = fl.count x + kp_ind u' x) (hu : u ≤ u') (hn : kp_nd B' p j ys) (hn2 : kp_nd B' q j zs) (hq : 9 ≤ q) : kp_on B' top (va_up S j (kp_in ((S j).set v (p, ys)) (v + 1) (q, zs))) cs fl' u' ex := by
  have hm : (p, xs) ∈ S j := List.mem_of_getElem? hv
  have hp := kp_on_node h hj hm
  have q0 : ∀ x, 1 ≤ kp_ct top S cs x → x ≠ q := by
    intro x hx z
    subst z
    have a1 := h.2.1 x
    have a2 := hc x
    have a3 := kp_ind_le u' x
    have a4 : [x].count x = 1 := by simp
    omega
  refine ⟨hf, fun x => ?_, kp_nds_split h.2.2.1 hk hj hv hn hn2 (kp_on_ct h) (fun i hi n hn => by have := kp_on_node h hi hn; omega) (fun i hi n hn => q0 _ (kp_ct_node hi hn)), kp_chs_keep h.2.2.2 hk (fun c hc x hx => ?_)⟩
  · rw [kp_ct_split hj hv]
    have := h.2.1 x
    have := hc x
    omega
  · have c1 := kp_ct_chain (top := top) (S := S) hc hx
    refine ⟨by have := kp_on_page h c1; omega, fun z => ?_⟩
    simp at z
    rcases z with y | y
    · exact kp_apart (kp_on_ct h p) hj hm rfl hc (y ▸ hx)
    · exact q0 x c1 y
