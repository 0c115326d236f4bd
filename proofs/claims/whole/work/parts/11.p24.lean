/-! PURE, the 24th: all trees: what the pages stand for -/
abbrev kp_KV : Type := List UInt8 × List UInt8
abbrev kp_A : Type := Nat → Option (List kp_KV)
def kp_sum (f : Nat → Nat) : Nat → Nat
  | 0 => 0
  | n + 1 => kp_sum f n + f n
def kp_sumx (t : Nat) (f : Nat → Nat) (n : Nat) : Nat := kp_sum (fun s => if s = t then 0 else f s) n
theorem kp_sum_congr {f g : Nat → Nat} : ∀ {n : Nat}, (∀ s, s < n → f s = g s) → kp_sum f n = kp_sum g n
  | 0, _ => rfl
  | n + 1, h => by rw [kp_sum, kp_sum, h n (by omega), kp_sum_congr (fun s hs => h s (by omega))]
theorem kp_sum_le {f g : Nat → Nat} : ∀ {n : Nat}, (∀ s, s < n → f s ≤ g s) → kp_sum f n ≤ kp_sum g n
  | 0, _ => Nat.le_refl _
  | n + 1, h => by
    rw [kp_sum, kp_sum]
    have := h n (by omega)
    have := kp_sum_le (n := n) (fun s hs => h s (by omega))
    omega
theorem kp_sum_mul {f : Nat → Nat} (k c : Nat) : ∀ {n : Nat}, k * kp_sum f n + c * n = kp_sum (fun s => k * f s + c) n
  | 0 => by simp [kp_sum]
  | n + 1 => by rw [kp_sum, kp_sum, ← kp_sum_mul k c (n := n), Nat.mul_add, Nat.mul_add]; omega
theorem kp_sum_out {t : Nat} {f : Nat → Nat} : ∀ {n : Nat}, n ≤ t → kp_sumx t f n = kp_sum f n := fun {n} h => kp_sum_congr (fun s hs => if_neg (by omega))
theorem kp_sum_x {t : Nat} {f : Nat → Nat} : ∀ {n : Nat}, t < n → kp_sum f n = f t + kp_sumx t f n
  | 0, h => by omega
  | n + 1, h => by
    unfold kp_sumx
    rw [kp_sum, kp_sum]
    by_cases z : n = t
    · subst z
      have := kp_sum_out (t := n) (f := f) (Nat.le_refl n)
      unfold kp_sumx at this
      rw [this, if_pos rfl]; omega
    · have := kp_sum_x (t := t) (f := f) (n := n) (by omega)
      unfold kp_sumx at this
      rw [if_neg z]; omega
theorem kp_sumx_congr {t : Nat} {f g : Nat → Nat} {n : Nat} (h : ∀ s, s < n → s ≠ t → f s = g s) : kp_sumx t f n = kp_sumx t g n := kp_sum_congr (fun s hs => by
  by_cases z : s = t
  · rw [if_pos z, if_pos z]
  · rw [if_neg z, if_neg z]; exact h s hs z)
theorem kp_sumx_ge {t s : Nat} {f : Nat → Nat} {n : Nat} (h : s < n) (hne : s ≠ t) : f s ≤ kp_sumx t f n := by
  unfold kp_sumx
  rw [kp_sum_x (t := s) h, if_neg hne]; omega
/-- one list behind another -/
def kp_cat (f : Nat → List Nat) : Nat → List Nat
  | 0 => []
  | n + 1 => kp_cat f n ++ f n
theorem kp_cat_count {f : Nat → List Nat} (q : Nat) : ∀ n, (kp_cat f n).count q = kp_sum (fun s => (f s).count q) n
  | 0 => rfl
  | n + 1 => by rw [kp_cat, kp_sum, List.count_append, kp_cat_count q n]
theorem kp_cat_len {f : Nat → List Nat} : ∀ n, (kp_cat f n).length = kp_sum (fun s => (f s).length) n
  | 0 => rfl
  | n + 1 => by rw [kp_cat, kp_sum, List.length_append, kp_cat_len n]
theorem kp_cn_sum {f : Nat → List Nat} (q : Nat) : ∀ n, kp_cn f q n = kp_sum (fun s => (f s).count q) n
  | 0 => rfl
  | n + 1 => by rw [kp_cn, kp_sum, kp_cn_sum q n]
theorem kp_cl_sum {f : Nat → List Nat} : ∀ n, kp_cl f n = kp_sum (fun s => (f s).length) n
  | 0 => rfl
  | n + 1 => by rw [kp_cl, kp_sum, kp_cl_sum n]
def kp_pgl (top : Nat) (S : Nat → List kp_N) (cs : List kp_C) : List Nat := kp_cat (fun j => (S j).map (·.1)) (top + 1) ++ cs.flatMap (·.2.1)
theorem kp_pgl_count {top : Nat} {S : Nat → List kp_N} {cs : List kp_C} (q : Nat) : (kp_pgl top S cs).count q = kp_ct top S cs q := by
  unfold kp_pgl kp_ct
  rw [List.count_append, kp_cat_count, kp_cn_sum]
theorem kp_pgl_len {top : Nat} {S : Nat → List kp_N} {cs : List kp_C} : (kp_pgl top S cs).length = kp_ln top S cs := by
  unfold kp_pgl kp_ln
  rw [List.length_append, kp_cat_len, kp_cl_sum]
theorem kp_len_eq : ∀ (u : Nat) (l : List Nat), (∀ q, l.count q = kp_ind u q) → l.length = u
  | 0, l, h => by
    cases l with
    | nil => rfl
    | cons a as =>
      have := h a
      rw [List.count_cons_self] at this
      unfold kp_ind at this
      rw [if_neg (by omega)] at this
      omega
  | u + 1, l, h => by
    have hm : 9 + u ∈ l := List.count_pos_iff.mp (by rw [h]; unfold kp_ind; rw [if_pos (by omega)]; omega)
    have e := kp_len_eq u (l.erase (9 + u)) (fun q => by
      have h1 := h q
      rw [List.count_erase]
      unfold kp_ind at h1 ⊢
      by_cases z : q = 9 + u
      · subst z
        rw [if_pos (by omega)] at h1
        rw [h1, if_neg (show ¬ (9 ≤ 9 + u ∧ 9 + u < 9 + u) by omega)]; simp
      · rw [h1, show ((9 + u) == q) = false by simp; omega]
        simp only [Bool.false_eq_true, if_false]
        by_cases y : 9 ≤ q ∧ q < 9 + u
        · rw [if_pos (by omega), if_pos y]
        · rw [if_neg (by omega), if_neg y])
    rw [List.length_erase_of_mem hm] at e
    have := List.length_pos_of_mem hm
    omega
/-! what a tree stands for -/
def kp_szl (l : List kp_KV) : Nat := (l.map (fun e => 16 + e.1.length + e.2.length)).sum
def kp_kv (l : List kp_KV) : Prop := l.Pairwise (fun a b => kp_c a.1 b.1 < 0) ∧ ∀ e ∈ l, 1 ≤ e.1.length ∧ e.1.length ≤ 8448 ∧ e.2.length ≤ 8448
def kp_szO : Option (List kp_KV) → Nat
  | none => 0
  | some l => kp_szl l
def kp_onO : Option (List kp_KV) → Nat
  | none => 0
  | some _ => 1
def kp_sizeA (A : kp_A) : Nat := kp_sum (fun t => kp_szO (A t)) 64
def kp_cntA (A : kp_A) : Nat := kp_sum (fun t => kp_onO (A t)) 64
def kp_okA (A : kp_A) : Prop := (∀ t l, t < 64 → A t = some l → kp_kv l) ∧ kp_sizeA A ≤ 36864
def kp_tok (B : Nat → UInt8) (t top : Nat) (S : Nat → List kp_N) (cs : List kp_C) : Prop := kp_nds B top S ∧ kp_chs B cs ∧ kp_lev S cs top ∧ (∃ ys, S top = [(kv_root B t, ys)] ∧ (0 < top → 2 ≤ ys.length)) ∧ ∀ j, j < top → ∀ n ∈ S j, 7 ≤ n.2.length
/-- tree t, there or not -/
def kp_one (B : Nat → UInt8) (t top : Nat) (S : Nat → List kp_N) (cs : List kp_C) : Option (List kp_KV) → Prop
  | none => kv_root B t = 0 ∧ kv_ents B t = 0 ∧ top = 0 ∧ S = (fun _ => []) ∧ cs = []
  | some l => kp_tok B t top S cs ∧ cs.map (·.2.2) = l ∧ kv_ents B t = l.length
def kp_ctA (tp : Nat → Nat) (SS : Nat → Nat → List kp_N) (cc : Nat → List kp_C) (q : Nat) : Nat → Nat := fun t => kp_ct (tp t) (SS t) (cc t) q
def kp_inv (B : Nat → UInt8) (A : kp_A) : Prop := ∃ (tp : Nat → Nat) (SS : Nat → Nat → List kp_N) (cc : Nat → List kp_C) (fl : List Nat) (u : Nat), kp_fr B fl u ∧ (∀ q, fl.count q + kp_sum (kp_ctA tp SS cc q) 64 = kp_ind u q) ∧ (∀ t, t < 64 → kp_one B t (tp t) (SS t) (cc t) (A t)) ∧ kv_num B 6 = kp_cntA A ∧ kv_num B 8 = kp_sizeA A ∧ kp_okA A
theorem kp_szs_szl (cs : List kp_C) : kp_szs cs = kp_szl (cs.map (·.2.2)) := by
  unfold kp_szs kp_szl
  rw [List.map_map]; rfl
theorem kp_one_17 {B : Nat → UInt8} {t top : Nat} {S : Nat → List kp_N} {cs : List kp_C} {l : List kp_KV} (h : kp_one B t top S cs (some l)) (hk : kp_kv l) : 17 * (cs.flatMap (·.2.1)).length ≤ kp_szl l ∧ 17 * cs.length ≤ kp_szl l ∧ kp_sorted cs ∧ ∀ c ∈ cs, 1 ≤ c.2.2.1.length ∧ c.2.2.1.length ≤ 8448 ∧ c.2.2.2.length ≤ 8448 := by
  obtain ⟨h1, h2, h3⟩ := h
  have hc : ∀ c ∈ cs, 1 ≤ c.2.2.1.length ∧ c.2.2.1.length ≤ 8448 ∧ c.2.2.2.length ≤ 8448 := fun c hc => hk.2 c.2.2 (by rw [← h2]; exact List.mem_map.mpr ⟨c, hc, rfl⟩)
  have e := kp_flat_17 (cs := cs) (fun c hcm => ⟨(h1.2.1 c hcm).2.1, (hc c hcm).1⟩)
  rw [kp_szs_szl, h2] at e
  refine ⟨e.1, e.2, ?_, hc⟩
  have := hk.1
  rw [← h2, List.pairwise_map] at this
  exact this
theorem kp_one_ln {B : Nat → UInt8} {t top : Nat} {S : Nat → List kp_N} {cs : List kp_C} {o : Option (List kp_KV)} (h : kp_one B t top S cs o) (hk : ∀ l, o = some l → kp_kv l) : 102 * kp_ln top S cs ≤ 7 * kp_szO o + 102 := by
  cases o with
  | none =>
    obtain ⟨-, -, rfl, rfl, rfl⟩ := h
    have : kp_ln 0 (fun _ => []) [] = 0 := rfl
    omega
  | some l =>
    have e := kp_one_17 h (hk l rfl)
    obtain ⟨ys, y1, y2⟩ := h.1.2.2.2.1
    have e2 := kp_ln_le h.1.2.2.1 h.1.2.2.2.2 y1
    show _ ≤ 7 * kp_szl l + 102
    omega
/-- the other trees -/
def kp_rest (B : Nat → UInt8) (A : kp_A) (t : Nat) (tp : Nat → Nat) (SS : Nat → Nat → List kp_N) (cc : Nat → List kp_C) : Prop := ∀ s, s < 64 → s ≠ t → kp_one B s (tp s) (SS s) (cc s) (A s)
abbrev kp_ex (t : Nat) (tp : Nat → Nat) (SS : Nat → Nat → List kp_N) (cc : Nat → List kp_C) : Nat → Nat := fun q => kp_sumx t (kp_ctA tp SS cc q) 64
theorem kp_one_frame {B B' : Nat → UInt8} {t top : Nat} {S : Nat → List kp_N} {cs : List kp_C} {o : Option (List kp_KV)} (h : kp_one B t top S cs o) (hp : ∀ q, 1 ≤ kp_ct top S cs q → kp_pg B B' q) (h1 : kv_root B' t = kv_root B t) (h2 : kv_ents B' t = kv_ents B t) : kp_one B' t top S cs o := by
  cases o with
  | none => exact ⟨h1.trans h.1, h2.trans h.2.1, h.2.2⟩
  | some l =>
    obtain ⟨⟨a1, a2, a3, a4, a5⟩, b, c⟩ := h
    refine ⟨⟨fun j hj n hn => kp_nd_frame (a1 j hj n hn) (hp _ (kp_ct_node hj hn)), fun c hc => kp_ch_frame (a2 c hc) (fun q hq => hp q (kp_ct_chain hc hq)), a3, ?_, a5⟩, b, h2.trans c⟩
    rw [h1]; exact a4
theorem kp_rest_frame {B B' : Nat → UInt8} {A : kp_A} {t : Nat} {tp : Nat → Nat} {SS : Nat → Nat → List kp_N} {cc : Nat → List kp_C} {E : List Nat} (h : kp_rest B A t tp SS cc) (hk : kp_kg B B' (kp_ex t tp SS cc) E) (hE : ∀ a ∈ E, a = 32 + 4 * t ∨ a = 32 + 4 * t + 2 ∨ a < 32) (h9 : ∀ q, 1 ≤ kp_ex t tp SS cc q → 9 ≤ q) : kp_rest B' A t tp SS cc := by
  intro s hs hne
  refine kp_one_frame (h s hs hne) (fun q hq => ?_) ?_ ?_
  · have e : kp_ctA tp SS cc q s ≤ kp_ex t tp SS cc q := kp_sumx_ge hs hne
    have e2 : 1 ≤ kp_ex t tp SS cc q := Nat.le_trans hq e
    exact hk.1 q (h9 q e2) e2
  · exact hk.2 _ (by omega) (by omega) (by omega) (fun z => by have := hE _ z; omega)
  · exact hk.2 _ (by omega) (by omega) (by omega) (fun z => by have := hE _ z; omega)
theorem kp_open {B : Nat → UInt8} {A : kp_A} (h : kp_inv B A) {t : Nat} (ht : t < 64) : ∃ (tp : Nat → Nat) (SS : Nat → Nat → List kp_N) (cc : Nat → List kp_C) (fl : List Nat) (u : Nat), kp_rest B A t tp SS cc ∧ kp_one B t (tp t) (SS t) (cc t) (A t) ∧ kp_fr B fl u ∧ (∀ q, fl.count q + kp_ct (tp t) (SS t) (cc t) q + kp_ex t tp SS cc q = kp_ind u q) ∧ u = fl.length + kp_ln (tp t) (SS t) (cc t) + kp_sumx t (fun s => kp_ln (tp s) (SS s) (cc s)) 64 ∧ 102 * kp_sumx t (fun s => kp_ln (tp s) (SS s) (cc s)) 64 ≤ 7 * kp_sumx t (fun s => kp_szO (A s)) 64 + 6528 ∧ kv_num B 6 = kp_cntA A ∧ kv_num B 8 = kp_sizeA A ∧ kp_okA A ∧ kp_sizeA A = kp_szO (A t) + kp_sumx t (fun s => kp_szO (A s)) 64 := by
  obtain ⟨tp, SS, cc, fl, u, h1, h2, h3, h4, h5, h6⟩ := h
  refine ⟨tp, SS, cc, fl, u, fun s hs _ => h3 s hs, h3 t ht, h1, fun q => ?_, ?_, ?_, h4, h5, h6, kp_sum_x ht⟩
  · have e := h2 q
    rw [kp_sum_x ht] at e
    rw [Nat.add_assoc]; exact e
  · have e := kp_len_eq u (fl ++ kp_cat (fun s => kp_pgl (tp s) (SS s) (cc s)) 64) (fun q => by
      rw [List.count_append, kp_cat_count, ← h2 q]
      congr 1
      exact kp_sum_congr (fun s _ => kp_pgl_count q))
    rw [List.length_append, kp_cat_len, kp_sum_congr (fun s _ => kp_pgl_len), kp_sum_x ht] at e
    omega
  · unfold kp_sumx
    have e1 := kp_sum_mul (f := fun s => if s = t then 0 else kp_ln (tp s) (SS s) (cc s)) 102 0 (n := 64)
    have e2 := kp_sum_mul (f := fun s => if s = t then 0 else kp_szO (A s)) 7 102 (n := 64)
    have e3 := kp_sum_le (f := fun s => 102 * (if s = t then 0 else kp_ln (tp s) (SS s) (cc s)) + 0) (g := fun s => 7 * (if s = t then 0 else kp_szO (A s)) + 102) (n := 64) (fun s hs => by
      by_cases z : s = t
      · rw [if_pos z, if_pos z]; omega
      · rw [if_neg z, if_neg z]
        exact kp_one_ln (h3 s hs) (fun l hl => h6.1 s l hs hl))
    show 102 * kp_sum (fun s => if s = t then 0 else kp_ln (tp s) (SS s) (cc s)) 64 ≤ 7 * kp_sum (fun s => if s = t then 0 else kp_szO (A s)) 64 + 6528
    omega
theorem kp_close {B : Nat → UInt8} {A : kp_A} {t : Nat} {tp : Nat → Nat} {SS : Nat → Nat → List kp_N} {cc : Nat → List kp_C} {fl : List Nat} {u top : Nat} {S : Nat → List kp_N} {cs : List kp_C} {o : Option (List kp_KV)} (ht : t < 64) (hr : kp_rest B A t tp SS cc) (h1 : kp_one B t top S cs o) (hf : kp_fr B fl u) (hc : ∀ q, fl.count q + kp_ct top S cs q + kp_ex t tp SS cc q = kp_ind u q) (h6 : kv_num B 6 = kp_cntA (va_up A t o)) (h8 : kv_num B 8 = kp_sizeA (va_up A t o)) (hok : kp_okA (va_up A t o)) : kp_inv B (va_up A t o) := by
  refine ⟨va_up tp t top, va_up SS t S, va_up cc t cs, fl, u, hf, fun q => ?_, fun s hs => ?_, h6, h8, hok⟩
  · rw [← hc q, kp_sum_x ht, Nat.add_assoc]
    congr 2
    · unfold kp_ctA; rw [va_up_self, va_up_self, va_up_self]
    · exact kp_sumx_congr (fun s _ hne => by unfold kp_ctA; rw [va_up_ne _ _ hne, va_up_ne _ _ hne, va_up_ne _ _ hne])
  · by_cases z : s = t
    · subst z; rw [va_up_self, va_up_self, va_up_self, va_up_self]; exact h1
    · rw [va_up_ne _ _ z, va_up_ne _ _ z, va_up_ne _ _ z, va_up_ne _ _ z]; exact hr s hs z
theorem kp_sizeA_up {A : kp_A} {t : Nat} {o : Option (List kp_KV)} (ht : t < 64) : kp_sizeA (va_up A t o) = kp_szO o + kp_sumx t (fun s => kp_szO (A s)) 64 := by
  unfold kp_sizeA
  rw [kp_sum_x ht, va_up_self]
  congr 1
  exact kp_sumx_congr (fun s _ hne => by rw [va_up_ne _ _ hne])
theorem kp_cntA_up {A : kp_A} {t : Nat} {o : Option (List kp_KV)} (ht : t < 64) : kp_cntA (va_up A t o) = kp_onO o + kp_sumx t (fun s => kp_onO (A s)) 64 := by
  unfold kp_cntA
  rw [kp_sum_x ht, va_up_self]
  congr 1
  exact kp_sumx_congr (fun s _ hne => by rw [va_up_ne _ _ hne])
theorem kp_cntA_x {A : kp_A} {t : Nat} (ht : t < 64) : kp_cntA A = kp_onO (A t) + kp_sumx t (fun s => kp_onO (A s)) 64 := kp_sum_x ht
theorem kp_cntA_le (A : kp_A) : kp_cntA A ≤ 64 := by
  have := kp_sum_le (f := fun t => kp_onO (A t)) (g := fun _ => 1) (n := 64) (fun s _ => by cases A s <;> simp [kp_onO])
  exact Nat.le_trans this (by decide)
theorem kp_okA_up {A : kp_A} {t : Nat} {o : Option (List kp_KV)} (h : kp_okA A) (ho : ∀ l, o = some l → kp_kv l) (hs : kp_sizeA (va_up A t o) ≤ 36864) : kp_okA (va_up A t o) := by
  refine ⟨fun s l hs hl => ?_, hs⟩
  by_cases z : s = t
  · subst z; rw [va_up_self] at hl; exact ho l hl
  · rw [va_up_ne _ _ z] at hl; exact h.1 s l hs hl
