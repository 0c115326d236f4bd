/-! PURE, the 34th: the reference's changes -/
theorem kq_S_congr {P P' : km_P} {MY MY' : Nat → Nat} {TR TR' : Nat → Int64} {s : Nat} {A : kp_A} (h : kq_S P MY TR s A) (h1 : MY' s = MY s) (h2 : TR' s = TR s) (h3 : ∀ k, k < MY s → P'.2.2.2.1 (2900 * s + k) < P'.2.2.2.2.1 ∧ kq_ent P'.1.1 P'.1.2 P'.2.1.1 P'.2.1.2 P'.2.2.1.2 (P'.2.2.2.1 (2900 * s + k)) = kq_ent P.1.1 P.1.2 P.2.1.1 P.2.1.2 P.2.2.1.2 (P.2.2.2.1 (2900 * s + k))) : kq_S P' MY' TR' s A := by
  refine ⟨?_, fun t ht => by rw [h2]; exact h.2.1 t ht, fun k hk => (h3 k (by rw [← h1]; exact hk)).1⟩
  rw [h1, ← h.1]
  exact kq_ls_map (fun k hk => (h3 k hk).2)
/-- list a is copied to b -/
theorem kq_copy {P : km_P} {MY : Nat → Nat} {TR : Nat → Int64} {a b : Nat} {A : kp_A} (ha : kq_S P MY TR a A) (hm : MY a ≤ 2900) :
    kq_S (P.1, P.2.1, P.2.2.1, va_cpy P.2.2.2.1 P.2.2.2.1 (2900 * a) (2900 * b) (MY a), P.2.2.2.2) (va_up MY b (MY a)) (va_up TR b (TR a)) b A ∧ ∀ s X, s ≠ b → MY s ≤ 2900 → kq_S P MY TR s X → kq_S (P.1, P.2.1, P.2.2.1, va_cpy P.2.2.2.1 P.2.2.2.1 (2900 * a) (2900 * b) (MY a), P.2.2.2.2) (va_up MY b (MY a)) (va_up TR b (TR a)) s X := by
  refine ⟨⟨?_, fun t ht => by rw [va_up_self]; exact ha.2.1 t ht, fun k hk => ?_⟩, fun s X hs hms hX => kq_S_congr hX (va_up_ne _ _ hs) (va_up_ne _ _ hs) (fun k hk => ?_)⟩
  · rw [va_up_self, ← ha.1]
    unfold kq_lsP kq_ls
    refine List.map_congr_left (fun k hk => ?_)
    have hk' := List.mem_range.mp hk
    simp only
    rw [pk_cpy_in (by omega) (by omega), Nat.add_sub_cancel_left]
  · rw [va_up_self] at hk
    simp only
    rw [pk_cpy_in (by omega) (by omega), Nat.add_sub_cancel_left]
    exact ha.2.2 k hk
  · simp only
    have e : va_cpy P.2.2.2.1 P.2.2.2.1 (2900 * a) (2900 * b) (MY a) (2900 * s + k) = P.2.2.2.1 (2900 * s + k) := pk_cpy_out (by omega)
    rw [e]
    exact ⟨hX.2.2 k hk, rfl⟩
theorem kq_M_S {P : km_P} {MY : Nat → Nat} {TR : Nat → Int64} {L : List kp_A} (h : kq_M P MY TR L) {s : Nat} (hs : s < L.length) : ∃ a, L[s]? = some a ∧ kq_S P MY TR s a ∧ kp_okA a ∧ MY s ≤ 2168 := by
  refine ⟨L[s], List.getElem?_eq_getElem hs, ?_⟩
  have := h.2.2 s _ (List.getElem?_eq_getElem hs)
  exact ⟨this.1, this.2, (kq_S_len this.1 this.2).2⟩
/-- over a change of list b alone -/
theorem kq_M_set {P P' : km_P} {MY MY' : Nat → Nat} {TR TR' : Nat → Int64} {L : List kp_A} {b : Nat} {A : kp_A} (h : kq_M P MY TR L) (hr : kq_recP P') (hb : b < L.length) (hA : kq_S P' MY' TR' b A) (hok : kp_okA A) (ho : ∀ s X, s ≠ b → s < L.length → MY s ≤ 2168 → kq_S P MY TR s X → kq_S P' MY' TR' s X) : kq_M P' MY' TR' (L.set b A) := by
  refine ⟨hr, by rw [List.length_set]; exact h.2.1, fun i a hi => ?_⟩
  by_cases z : i = b
  · subst z
    rw [List.getElem?_set_self hb] at hi
    rw [← Option.some.inj hi]; exact ⟨hA, hok⟩
  · rw [List.getElem?_set_ne (fun y => z y.symm)] at hi
    have hil := (List.getElem?_eq_some_iff.mp hi).1
    obtain ⟨h1, h2⟩ := h.2.2 i a hi
    exact ⟨ho i a z hil (kq_S_len h1 h2).2 h1, h2⟩
theorem kq_M_copy {P : km_P} {MY : Nat → Nat} {TR : Nat → Int64} {L : List kp_A} {a b : Nat} {A : kp_A} (h : kq_M P MY TR L) (ha : L[a]? = some A) (hb : b < L.length) : kq_M (P.1, P.2.1, P.2.2.1, va_cpy P.2.2.2.1 P.2.2.2.1 (2900 * a) (2900 * b) (MY a), P.2.2.2.2) (va_up MY b (MY a)) (va_up TR b (TR a)) (L.set b A) := by
  obtain ⟨h1, h2⟩ := h.2.2 a A ha
  have hm := (kq_S_len h1 h2).2
  obtain ⟨c1, c2⟩ := kq_copy (b := b) h1 (by omega)
  exact kq_M_set h h.1 hb c1 h2 (fun s X hs _ hms hX => c2 s X hs (by omega) hX)
/-- a further list -/
theorem kq_M_push {P : km_P} {MY : Nat → Nat} {TR : Nat → Int64} {L : List kp_A} {a : Nat} {A : kp_A} (h : kq_M P MY TR L) (ha : L[a]? = some A) (hl : L.length < 7) : kq_M (P.1, P.2.1, P.2.2.1, va_cpy P.2.2.2.1 P.2.2.2.1 (2900 * a) (2900 * L.length) (MY a), P.2.2.2.2) (va_up MY L.length (MY a)) (va_up TR L.length (TR a)) (L ++ [A]) := by
  obtain ⟨h1, h2⟩ := h.2.2 a A ha
  have hm := (kq_S_len h1 h2).2
  obtain ⟨c1, c2⟩ := kq_copy (b := L.length) h1 (by omega)
  refine ⟨h.1, by rw [List.length_append]; simp; omega, fun i x hi => ?_⟩
  by_cases z : i < L.length
  · rw [List.getElem?_append_left z] at hi
    obtain ⟨g1, g2⟩ := h.2.2 i x hi
    exact ⟨c2 i x (by omega) (by have := (kq_S_len g1 g2).2; omega) g1, g2⟩
  · rw [List.getElem?_append_right (by omega)] at hi
    have e : i = L.length := by
      have := (List.getElem?_eq_some_iff.mp hi).1
      simp at this; omega
    subst e
    rw [Nat.sub_self] at hi
    rw [← Option.some.inj hi]; exact ⟨c1, h2⟩
theorem kq_M_take {P : km_P} {MY : Nat → Nat} {TR : Nat → Int64} {L : List kp_A} (n : Nat) (h : kq_M P MY TR L) : kq_M P MY TR (L.take n) := by
  refine ⟨h.1, by rw [List.length_take]; have := h.2.1; omega, fun i a hi => h.2.2 i a ?_⟩
  have := (List.getElem?_eq_some_iff.mp hi).1
  rw [List.getElem?_take_of_lt (by simp at this; omega)] at hi
  exact hi
/-- other trees, the same list -/
theorem kq_S_tree {P : km_P} {MY : Nat → Nat} {TR : Nat → Int64} {A A' : kp_A} {w : Int64} (h : kq_S P MY TR 0 A) (hf : kq_flat A' = kq_flat A) (hw : ∀ t, t < 64 → km_tree w t = (A' t).isSome) : kq_S P MY (va_up TR 0 w) 0 A' := ⟨by rw [hf]; exact h.1, fun t ht => by rw [va_up_self]; exact hw t ht, h.2.2⟩
/-- one record goes out of list 0 -/
theorem kq_S_out {P : km_P} {MY : Nat → Nat} {TR : Nat → Int64} {A A' : kp_A} {p : Nat} (h : kq_S P MY TR 0 A) (hp : p < MY 0) (hf : kq_flat A' = (kq_flat A).take p ++ (kq_flat A).drop (p + 1)) (hw : ∀ t, t < 64 → (A' t).isSome = (A t).isSome) : kq_S (P.1, P.2.1, P.2.2.1, km_out P.2.2.2.1 p (MY 0 - 1), P.2.2.2.2) (va_up MY 0 (MY 0 - 1)) TR 0 A' := by
  have hl : (kq_flat A).length = MY 0 := by rw [← h.1]; exact kq_ls_len
  refine ⟨?_, fun t ht => by rw [hw t ht]; exact h.2.1 t ht, fun k hk => ?_⟩
  · rw [va_up_self]
    apply List.ext_getElem?
    intro k
    by_cases z : k < MY 0 - 1
    · rw [show (kq_lsP (P.1, P.2.1, P.2.2.1, km_out P.2.2.2.1 p (MY 0 - 1), P.2.2.2.2) (2900 * 0) (MY 0 - 1))[k]? = _ from kq_ls_at z, hf]
      simp only [Nat.mul_zero, Nat.zero_add]
      unfold km_out
      have hlt : ((kq_flat A).take p).length = p := by rw [List.length_take]; omega
      by_cases y : k < p
      · rw [if_neg (by omega), List.getElem?_append_left (by omega), List.getElem?_take_of_lt y, kq_S_at h (by omega), Nat.mul_zero, Nat.zero_add]
      · rw [if_pos (by omega), List.getElem?_append_right (by omega), List.getElem?_drop, hlt, show p + 1 + (k - p) = k + 1 by omega, kq_S_at h (by omega), Nat.mul_zero, Nat.zero_add]
    · rw [List.getElem?_eq_none (by rw [show (kq_lsP (P.1, P.2.1, P.2.2.1, km_out P.2.2.2.1 p (MY 0 - 1), P.2.2.2.2) (2900 * 0) (MY 0 - 1)).length = _ from kq_ls_len]; omega), List.getElem?_eq_none (by rw [hf, List.length_append, List.length_take, List.length_drop]; omega)]
  · rw [va_up_self] at hk
    simp only [Nat.mul_zero, Nat.zero_add]
    unfold km_out
    by_cases y : k < p
    · rw [if_neg (by omega)]
      have := h.2.2 k (by omega)
      rw [Nat.mul_zero, Nat.zero_add] at this; exact this
    · rw [if_pos (by omega)]
      have := h.2.2 (k + 1) (by omega)
      rw [Nat.mul_zero, Nat.zero_add] at this; exact this
/-- one record comes into list 0 -/
theorem kq_S_in {P : km_P} {MY : Nat → Nat} {TR : Nat → Int64} {A A' : kp_A} {p e : Nat} (h : kq_S P MY TR 0 A) (hp : p ≤ MY 0) (he : e < P.2.2.2.2.1) (hf : kq_flat A' = kp_in (kq_flat A) p (kq_ent P.1.1 P.1.2 P.2.1.1 P.2.1.2 P.2.2.1.2 e)) (hw : ∀ t, t < 64 → (A' t).isSome = (A t).isSome) : kq_S (P.1, P.2.1, P.2.2.1, va_up (km_shift P.2.2.2.1 p (MY 0)) p e, P.2.2.2.2) (va_up MY 0 (MY 0 + 1)) TR 0 A' := by
  have hl : (kq_flat A).length = MY 0 := by rw [← h.1]; exact kq_ls_len
  have hlt : ((kq_flat A).take p).length = p := by rw [List.length_take]; omega
  refine ⟨?_, fun t ht => by rw [hw t ht]; exact h.2.1 t ht, fun k hk => ?_⟩
  · rw [va_up_self]
    apply List.ext_getElem?
    intro k
    by_cases z : k < MY 0 + 1
    · rw [show (kq_lsP (P.1, P.2.1, P.2.2.1, va_up (km_shift P.2.2.2.1 p (MY 0)) p e, P.2.2.2.2) (2900 * 0) (MY 0 + 1))[k]? = _ from kq_ls_at z, hf]
      simp only [Nat.mul_zero, Nat.zero_add]
      unfold kp_in
      by_cases y : k = p
      · subst y
        rw [va_up_self, List.getElem?_append_right (by omega), hlt, Nat.sub_self]; rfl
      · rw [va_up_ne _ _ y]
        unfold km_shift
        by_cases w : k < p
        · rw [if_neg (by omega), List.getElem?_append_left (by omega), List.getElem?_take_of_lt w, kq_S_at h (by omega), Nat.mul_zero, Nat.zero_add]
        · rw [if_pos (by omega), List.getElem?_append_right (by omega), hlt, show k - p = (k - 1 - p) + 1 by omega, List.getElem?_cons_succ, List.getElem?_drop, show p + (k - 1 - p) = k - 1 by omega, kq_S_at h (by omega), Nat.mul_zero, Nat.zero_add]
    · rw [List.getElem?_eq_none (by rw [show (kq_lsP (P.1, P.2.1, P.2.2.1, va_up (km_shift P.2.2.2.1 p (MY 0)) p e, P.2.2.2.2) (2900 * 0) (MY 0 + 1)).length = _ from kq_ls_len]; omega), List.getElem?_eq_none (by rw [hf, kp_in_len]; omega)]
  · rw [va_up_self] at hk
    simp only [Nat.mul_zero, Nat.zero_add]
    by_cases y : k = p
    · subst y; rw [va_up_self]; exact he
    · rw [va_up_ne _ _ y]
      unfold km_shift
      by_cases w : k < p
      · rw [if_neg (by omega)]
        have := h.2.2 k (by omega)
        rw [Nat.mul_zero, Nat.zero_add] at this; exact this
      · rw [if_pos (by omega)]
        have := h.2.2 (k - 1) (by omega)
        rw [Nat.mul_zero, Nat.zero_add] at this; exact this
/-- the packing, if it is needed -/
theorem kq_idx_bound {P : km_P} {MY : Nat → Nat} {TR : Nat → Int64} {L : List kp_A} (h : kq_M P MY TR L) : ∀ n, n ≤ L.length → (kq_idx P.2.2.2.1 MY n).length ≤ 2168 * n ∧ ((kq_idx P.2.2.2.1 MY n).map (fun i => P.2.1.1 i + P.2.1.2 i)).sum ≤ 36864 * n
  | 0, _ => ⟨Nat.zero_le _, Nat.zero_le _⟩
  | n + 1, hn => by
    obtain ⟨i1, i2⟩ := kq_idx_bound h n (by omega)
    obtain ⟨a, a1, a2, a3, a4⟩ := kq_M_S h (show n < L.length by omega)
    rw [kq_idx, List.length_append, List.map_append, List.sum_append, List.length_map, List.length_range, List.map_map]
    have e : ((List.range (MY n)).map ((fun i => P.2.1.1 i + P.2.1.2 i) ∘ fun k => P.2.2.2.1 (2900 * n + k))).sum ≤ kq_sz (kq_lsP P (2900 * n) (MY n)) := by
      unfold kq_sz kq_lsP kq_ls
      rw [List.map_map]
      have : ∀ (X : List Nat) (f g : Nat → Nat), (∀ k ∈ X, f k ≤ g k) → (X.map f).sum ≤ (X.map g).sum := by
        intro X f g
        induction X with
        | nil => intro _; exact Nat.le_refl _
        | cons x X ih =>
          intro hx
          rw [List.map_cons, List.map_cons, List.sum_cons, List.sum_cons]
          have h1 := hx x List.mem_cons_self
          have h2 := ih (fun k hk => hx k (List.mem_cons_of_mem _ hk))
          omega
      refine this _ _ _ (fun k _ => ?_)
      show _ ≤ 16 + (kq_bl _ _ _).length + (kq_bl _ _ _).length
      rw [kq_bl_len, kq_bl_len]
      show P.2.1.1 (P.2.2.2.1 (2900 * n + k)) + P.2.1.2 (P.2.2.2.1 (2900 * n + k)) ≤ _
      omega
    rw [a2.1, kq_sz_flat] at e
    have := a3.2
    constructor <;> omega
theorem kq_pk0 {P : km_P} {MY : Nat → Nat} {TR : Nat → Int64} {L : List kp_A} {mk kn vn : Nat} (h : kq_M P MY TR L) (hl : L.length = 2 + mk) (hk : kn ≤ 8448) (hv : vn ≤ 8448) : kq_M (km_pk0 mk MY kn vn P) MY TR L ∧ km_cap (km_pk0 mk MY kn vn P) kn vn := by
  unfold km_pk0
  by_cases z : P.2.2.2.2.1 = 20600 ∨ 400000 < P.2.2.2.2.2 + kn + vn
  · rw [if_pos z]
    obtain ⟨⟨TO, PL⟩, ⟨KS, VS⟩, ⟨MV, Y⟩, LI, rn, us⟩ := P
    obtain ⟨p1, p2, p3, p4, p5⟩ := kq_pack (MV := MV) (TO := TO) (PL := PL) (KS := KS) (VS := VS) (rn := rn) (us := us) (Y := Y) (LI := LI) (MY := MY) (mk := mk) h.1 (fun s hs => by
      obtain ⟨a, a1, a2, a3, a4⟩ := kq_M_S h (show s < L.length by omega)
      exact ⟨by omega, fun k hk => a2.2.2 k hk⟩)
    obtain ⟨b1, b2⟩ := kq_idx_bound h (2 + mk) (by omega)
    have h7 := h.2.1
    simp only at b1 b2
    refine ⟨⟨p2, h.2.1, fun i a hi => ?_⟩, ?_, ?_⟩
    · obtain ⟨g1, g2⟩ := h.2.2 i a hi
      have hil := (List.getElem?_eq_some_iff.mp hi).1
      refine ⟨⟨?_, g1.2.1, fun k hk => p3 i k (by omega) hk⟩, g2⟩
      exact (p1 i (by omega)).trans g1.1
    · have : 2168 * (2 + mk) ≤ 2168 * 7 := Nat.mul_le_mul_left _ (by omega)
      omega
    · have : 36864 * (2 + mk) ≤ 36864 * 7 := Nat.mul_le_mul_left _ (by omega)
      omega
  · rw [if_neg z]
    have := h.1.1
    exact ⟨h, by omega, by omega⟩
/-- a further record -/
theorem kq_entT {P : km_P} {MY : Nat → Nat} {TR : Nat → Int64} {L : List kp_A} {t kn vn : Nat} {KY VY : Nat → UInt8} (h : kq_M P MY TR L) (hc : km_cap P kn vn) : kq_M (km_entT t KY VY kn vn P) MY TR L ∧ kq_ent (km_entT t KY VY kn vn P).1.1 (km_entT t KY VY kn vn P).1.2 (km_entT t KY VY kn vn P).2.1.1 (km_entT t KY VY kn vn P).2.1.2 (km_entT t KY VY kn vn P).2.2.1.2 P.2.2.2.2.1 = (t, kq_bl KY 0 kn, kq_bl VY 0 vn) := by
  obtain ⟨r1, r2, r3, r4⟩ := h.1
  obtain ⟨c1, c2⟩ := hc
  have ye : ∀ j, j < P.2.2.2.2.2 → (va_cpy VY (va_cpy KY P.2.2.1.2 0 P.2.2.2.2.2 kn) 0 (P.2.2.2.2.2 + kn) vn) j = P.2.2.1.2 j := fun j hj => by
    rw [pk_cpy_out (by omega), pk_cpy_out (by omega)]
  refine ⟨⟨?_, h.2.1, fun i a hi => ?_⟩, ?_⟩
  · unfold km_entT kq_recP
    simp only
    refine ⟨by omega, by omega, fun j hj => ?_, fun j j2 hjj hj2 => ?_⟩
    · by_cases z : j = P.2.2.2.2.1
      · subst z; rw [va_up_self, va_up_self, va_up_self]; omega
      · rw [va_up_ne _ _ z, va_up_ne _ _ z, va_up_ne _ _ z]
        have := r3 j (by omega); omega
    · rw [va_up_ne _ _ (show j ≠ P.2.2.2.2.1 by omega), va_up_ne _ _ (show j ≠ P.2.2.2.2.1 by omega), va_up_ne _ _ (show j ≠ P.2.2.2.2.1 by omega)]
      by_cases z : j2 = P.2.2.2.2.1
      · subst z; rw [va_up_self]; exact r3 j hjj
      · rw [va_up_ne _ _ z]; exact r4 j j2 hjj (by omega)
  · obtain ⟨g1, g2⟩ := h.2.2 i a hi
    refine ⟨kq_S_congr g1 rfl rfl (fun k hk => ?_), g2⟩
    have hlt := g1.2.2 k hk
    unfold km_entT
    simp only
    refine ⟨by omega, ?_⟩
    unfold kq_ent
    have hne : P.2.2.2.1 (2900 * i + k) ≠ P.2.2.2.2.1 := by omega
    rw [va_up_ne _ _ hne, va_up_ne _ _ hne, va_up_ne _ _ hne, va_up_ne _ _ hne]
    have hr := r3 _ hlt
    refine congrArg _ (Prod.ext ?_ ?_)
    · exact kq_bl_congr (fun x hx => ye _ (by omega))
    · exact kq_bl_congr (fun x hx => ye _ (by omega))
  · unfold km_entT kq_ent
    simp only
    rw [va_up_self, va_up_self, va_up_self, va_up_self]
    refine congrArg _ (Prod.ext ?_ ?_)
    · refine kq_bl_congr (fun x hx => ?_)
      rw [pk_cpy_out (by omega), pk_cpy_in (by omega) (by omega), Nat.add_sub_cancel_left]
    · refine kq_bl_congr (fun x hx => ?_)
      rw [pk_cpy_in (by omega) (by omega), Nat.add_sub_cancel_left]
