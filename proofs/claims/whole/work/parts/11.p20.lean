/-! PURE, twentieth: chains come and go; the head's numbers; the root is lowered -/
/-- the others' pages, and the head's numbers but those in E -/
def kp_kg (B B' : Nat → UInt8) (ex : Nat → Nat) (E : List Nat) : Prop := (∀ q, 9 ≤ q → 1 ≤ ex q → kp_pg B B' q) ∧ ∀ a, a % 2 = 0 → 6 ≤ a → a < 288 → a ∉ E → kv_num B' a = kv_num B a
theorem kp_kg_trans {B B' B'' : Nat → UInt8} {ex : Nat → Nat} {E : List Nat} (h : kp_kg B B' ex E) (h2 : kp_kg B' B'' ex E) : kp_kg B B'' ex E :=
  ⟨fun q hq hx => kp_pg_trans (h.1 q hq hx) (h2.1 q hq hx), fun a ha h6 h8 hn => (h2.2 a ha h6 h8 hn).trans (h.2 a ha h6 h8 hn)⟩
theorem kp_kg_mono {B B' : Nat → UInt8} {ex : Nat → Nat} {E E' : List Nat} (h : kp_kg B B' ex E) (hE : ∀ a ∈ E, a ∈ E') : kp_kg B B' ex E' := ⟨h.1, fun a ha h6 h8 hn => h.2 a ha h6 h8 (fun z => hn (hE a z))⟩
theorem kp_kx_kg {B B' : Nat → UInt8} {ex : Nat → Nat} {E : List Nat} (h : kp_kx B B' ex) : kp_kg B B' ex E := by
  obtain ⟨W, h1, h2⟩ := h
  exact ⟨fun q hq hx => h1.1 q (by omega) (fun z => by have := h2 q z; omega), fun a ha h6 h8 _ => kp_keep_head_num h1 (fun q hq => (h2 q hq).1) ha h6 h8⟩
theorem kp_kh_kg {B B' : Nat → UInt8} {ex : Nat → Nat} {t : Nat} {E : List Nat} (h : kp_kh B B' ex t) (hE : 32 + 4 * t ∈ E) : kp_kg B B' ex E := ⟨h.1, fun a ha h6 h8 hn => h.2 a ha h6 h8 (fun z => hn (z ▸ hE))⟩
/-- a number of the head is changed -/
theorem kp_addH {M : kv_M} {a n : Nat} (ha : a % 2 = 0) (h6 : 6 ≤ a) (h8 : a < 288) : (∀ q, 9 ≤ q → kp_pg M.1 (kv_addTo M a n).1 q) ∧ kp_h6 M.1 (kv_addTo M a n).1 ∧ kv_num (kv_addTo M a n).1 a = (kv_num M.1 a + n) % 65536 ∧ ∀ b, b % 2 = 0 → b ≠ a → kv_num (kv_addTo M a n).1 b = kv_num M.1 b := by
  refine ⟨fun q hq => kp_pg_setN ha (by omega), kp_h6_setN h6, by rw [kv_num_addTo ha ha (by omega), if_pos rfl], fun b hb hne => by rw [kv_num_addTo ha hb (by omega), if_neg hne]⟩
theorem kp_addH_kg {M : kv_M} {a n : Nat} {ex : Nat → Nat} {E : List Nat} (ha : a % 2 = 0) (h6 : 6 ≤ a) (h8 : a < 288) (hE : a ∈ E) : kp_kg M.1 (kv_addTo M a n).1 ex E := by
  obtain ⟨h1, h2, h3, h4⟩ := kp_addH (M := M) (n := n) ha h6 h8
  exact ⟨fun q hq _ => h1 q hq, fun b hb _ _ hn => h4 b hb (fun z => hn (z ▸ hE))⟩
theorem kp_flat_count {A C : List kp_C} {c : kp_C} (q : Nat) : ((A ++ c :: C).flatMap (·.2.1)).count q = ((A ++ C).flatMap (·.2.1)).count q + c.2.1.count q := by
  rw [List.flatMap_append, List.flatMap_append, List.flatMap_cons, List.count_append, List.count_append, List.count_append]; omega
theorem kp_ct_dec {top : Nat} {S : Nat → List kp_N} {A C : List kp_C} {c : kp_C} (q : Nat) : kp_ct top S (A ++ c :: C) q = kp_ct top S (A ++ C) q + c.2.1.count q := by
  unfold kp_ct
  rw [kp_flat_count]; omega
theorem kp_erase_dec {α : Type} (A C : List α) (c : α) : (A ++ c :: C).take A.length ++ (A ++ c :: C).drop (A.length + 1) = A ++ C := by
  rw [List.take_append, List.drop_append, List.take_of_length_le (Nat.le_refl _), List.drop_of_length_le (by omega), show A.length + 1 - A.length = 1 by omega, Nat.sub_self]
  simp
/-- a chain's pages go to the free ones -/
theorem kp_on_dropC {M : kv_M} {top : Nat} {S : Nat → List kp_N} {A C : List kp_C} {c : kp_C} {fl : List Nat} {u : Nat} {ex : Nat → Nat} (h : kp_on M.1 top S (A ++ c :: C) fl u ex) : kp_on (kv_freeC M c.1).1 top S (A ++ C) (c.2.1.reverse ++ fl) u ex ∧ kp_keep M.1 (kv_freeC M c.1).1 c.2.1 ∧ ∀ q ∈ c.2.1, 9 ≤ q ∧ ex q = 0 := by
  have hc : c ∈ A ++ c :: C := by simp
  have hch := h.2.2.2 c hc
  have hu := h.1.2.2.2.2.1
  have pg : ∀ q ∈ c.2.1, 9 ≤ q ∧ q < 9 + u ∧ q ∉ fl ∧ ex q = 0 := fun q hq => kp_on_page h (kp_ct_chain hc hq)
  have cnt : ∀ q ∈ c.2.1, kp_ct top S (A ++ C) q = 0 ∧ c.2.1.count q = 1 := fun q hq => by
    have h1 := kp_ct_dec (top := top) (S := S) (A := A) (C := C) (c := c) q
    have h2 := kp_on_ct h q
    have h3 := List.count_pos_iff.mpr hq
    omega
  have nd : c.2.1.Nodup := List.nodup_iff_count.mpr (fun q => by
    by_cases z : q ∈ c.2.1
    · rw [(cnt q z).2]; omega
    · rw [List.count_eq_zero.mpr z]; omega)
  have hlen : (c.2.1 ++ fl).length ≤ u := kp_len_le u (c.2.1 ++ fl) (List.nodup_append.mpr ⟨nd, kp_on_nd h, fun a ha b hb z => (pg a ha).2.2.1 (z ▸ hb)⟩) (fun q hq => by
    rcases List.mem_append.mp hq with y | y
    · exact ⟨(pg q y).1, (pg q y).2.1⟩
    · exact h.1.2.2.2.2.2 q y)
  rw [List.length_append] at hlen
  obtain ⟨f1, f2⟩ := kp_freeC hch h.1 nd (fun q hq => ⟨(pg q hq).1, (pg q hq).2.1⟩) (fun q hq => (pg q hq).2.2.1) (by omega)
  refine ⟨⟨f1, fun q => ?_, kp_nds_keep h.2.2.1 f2 (fun j hj n hn => ?_), kp_chs_keep (fun c' hc' => h.2.2.2 c' ?_) f2 (fun c' hc' q hq => ?_)⟩, f2, fun q hq => ⟨(pg q hq).1, (pg q hq).2.2.2⟩⟩
  · have h1 := kp_ct_dec (top := top) (S := S) (A := A) (C := C) (c := c) q
    have h2 := h.2.1 q
    rw [List.count_append, List.count_reverse]
    omega
  · refine ⟨by have := kp_on_node h hj hn; omega, fun z => ?_⟩
    exact kp_apart (kp_on_ct h n.1) hj hn rfl hc z
  · rcases List.mem_append.mp hc' with y | y
    · exact List.mem_append_left _ y
    · exact List.mem_append_right _ (List.mem_cons_of_mem _ y)
  · refine ⟨?_, fun z => ?_⟩
    · have : 1 ≤ kp_ct top S (A ++ c :: C) q := by
        have h1 := kp_ct_dec (top := top) (S := S) (A := A) (C := C) (c := c) q
        have h2 := kp_ct_chain (top := top) (S := S) hc' hq
        omega
      have := kp_on_page h this
      omega
    · have h1 := (cnt q z).1
      have h2 := kp_ct_chain (top := top) (S := S) hc' hq
      omega
/-- a chain is stored -/
theorem kp_on_addC {M : kv_M} {top : Nat} {S : Nat → List kp_N} {A C : List kp_C} {fl : List Nat} {u : Nat} {ex : Nat → Nat} {K V : Nat → UInt8} {kl vl : Nat} {key val : List UInt8} (h : kp_on M.1 top S (A ++ C) fl u ex) (hK : kp_row K kl key) (hV : kp_row V vl val) (hk : key.length ≤ 8448) (hv : val.length ≤ 8448) (hr : kp_pf (key.length + val.length) ≤ fl.length + (2711 - u)) :
    ∃ (ps fl' : List Nat) (u' : Nat), kp_on (kv_store M K kl V vl).2.1.1 top S (A ++ ((kv_store M K kl V vl).1, ps, key, val) :: C) fl' u' ex ∧ kp_kx M.1 (kv_store M K kl V vl).2.1.1 ex ∧ fl'.length + ps.length + u = fl.length + u' ∧ u ≤ u' ∧ ps.length = kp_pf (key.length + val.length) ∧ 9 ≤ (kv_store M K kl V vl).1 ∧ (kv_store M K kl V vl).1 < 65536 := by
  obtain ⟨ps, fl', u', r1, r2, r3, r4, r5, r6, r7, r8, r9, r10, r11⟩ := kp_store h.1 (kp_on_nd h) hK hV hk hv hr
  have hu' := r4.2.2.2.2.1
  have hps : ∀ q ∈ ps, kp_ct top S (A ++ C) q = 0 ∧ ex q = 0 := fun q hq => by
    have h1 := r8 q
    have h2 := h.2.1 q
    have h3 := kp_ind_le u' q
    have h4 := List.count_pos_iff.mpr hq
    omega
  have hcm : (kv_store M K kl V vl).1 ∈ ps := List.mem_of_getElem? r1.1
  refine ⟨ps, fl', u', ⟨r4, fun q => ?_, kp_nds_keep h.2.2.1 r7 (fun j hj n hn => ?_), fun c hc => ?_⟩, ⟨ps, r7, fun q hq => ⟨(r3 q hq).1, (hps q hq).2⟩⟩, r9, r10, r1.2.1, (r3 _ hcm).1, by have := r3 _ hcm; omega⟩
  · rw [kp_ct_dec]
    have h1 := r8 q
    have h2 := h.2.1 q
    simp only
    omega
  · exact ⟨by have := kp_on_node h hj hn; omega, fun z => by have h1 := (hps _ z).1; have h2 := kp_ct_node (cs := A ++ C) hj hn; omega⟩
  · have old : ∀ c ∈ A ++ C, kp_ch (kv_store M K kl V vl).2.1.1 c.1 c.2.1 c.2.2.1 c.2.2.2 := kp_chs_keep h.2.2.2 r7 (fun c hc q hq => by
      have h2 := kp_ct_chain (top := top) (S := S) hc hq
      exact ⟨by have := kp_on_page h h2; omega, fun z => by have h1 := (hps _ z).1; omega⟩)
    rcases List.mem_append.mp hc with y | y
    · exact old c (List.mem_append_left _ y)
    · rcases List.mem_cons.mp y with y | y
      · rw [y]; exact r1
      · exact old c (List.mem_append_right _ y)
theorem kp_ct_s {top : Nat} {S : Nat → List kp_N} {cs : List kp_C} (q : Nat) : kp_ct (top + 1) S cs q = kp_ct top S cs q + ((S (top + 1)).map (·.1)).count q := by
  unfold kp_ct
  rw [kp_cn]; omega
/-- Trees.lowerRoot -/
theorem kp_lower {M : kv_M} {t top : Nat} {S : Nat → List kp_N} {cs : List kp_C} {fl : List Nat} {u : Nat} {ex : Nat → Nat} (ht : t < 64) (htop : top ≤ 4) (h : kp_on M.1 top S cs fl u ex) (hl : kp_lev S cs top) (hr : ∃ ys, S top = [(kv_root M.1 t, ys)] ∧ (0 < top → 1 ≤ ys.length)) (hf : ∀ j, j < top → ∀ n ∈ S j, 7 ≤ n.2.length) :
    ∃ (top' : Nat) (S' : Nat → List kp_N) (fl' : List Nat), kp_wh (kv_lower M t).1 t top' S' cs fl' u ex ∧ kp_kh M.1 (kv_lower M t).1 ex t ∧ top' ≤ top := by
  obtain ⟨ys, y1, y2⟩ := hr
  have hm : (kv_root M.1 t, ys) ∈ S top := by rw [y1]; simp
  have hnd := h.2.2.1 top (Nat.le_refl _) _ hm
  have hp := kp_on_node h (Nat.le_refl _) hm
  simp only at hnd hp
  unfold kv_lower
  rw [kp_nd_level hnd htop, kp_nd_count hnd]
  by_cases z : 0 < top ∧ ys.length = 1
  · rw [if_pos z]
    obtain ⟨k, rfl⟩ : ∃ k, top = k + 1 := ⟨top - 1, by omega⟩
    obtain ⟨c, hc⟩ : ∃ c, ys = [c] := by
      cases ys with
      | nil => simp at z
      | cons a as => cases as with
        | nil => exact ⟨a, rfl⟩
        | cons b bs => simp at z
    subst hc
    have es : kv_slot M.1 (kv_root M.1 t) 0 = c := kp_slot_eq hnd rfl
    rw [es]
    have hS : (S k).map (·.1) = [c] := by
      have := hl (k + 1) (Nat.le_refl _)
      rw [y1] at this
      simpa [kp_fl, kp_its] using this.symm
    obtain ⟨zs, hz⟩ : ∃ zs, S k = [(c, zs)] := by
      cases hk : S k with
      | nil => rw [hk] at hS; simp at hS
      | cons a as => cases as with
        | nil =>
          rw [hk] at hS
          obtain ⟨a1, a2⟩ := a
          simp at hS
          exact ⟨a2, by rw [hS]⟩
        | cons b bs => rw [hk] at hS; simp at hS
    have hmc : (c, zs) ∈ S k := by rw [hz]; simp
    have hpc := kp_on_node h (show k ≤ k + 1 by omega) hmc
    have hu := h.1.2.2.2.2.1
    simp only at hpc
    obtain ⟨s1, s2, s3, s4⟩ := kp_setroot (M := M) (n := c) ht (by omega)
    have on1 := kp_on_pg h s2 s3
    generalize hM1 : kv_setRoot M t c = M1 at *
    obtain ⟨d1, d2⟩ := kp_on_drop (v := 0) (p := kv_root M.1 t) (xs := [c]) on1 (Nat.le_refl _) (by rw [y1]; rfl)
    rw [y1] at d1
    have kx : kp_kx M1.1 (kv_freeP M1 (kv_root M.1 t)).1 ex := ⟨[kv_root M.1 t], d2, fun q hq => by rw [List.mem_singleton.mp hq]; exact ⟨hp.1, hp.2.2.2⟩⟩
    have e0 : List.take 0 [(kv_root M.1 t, [c])] ++ List.drop (0 + 1) [(kv_root M.1 t, [c])] = [] := rfl
    rw [e0] at d1
    refine ⟨k, va_up S (k + 1) [], kv_root M.1 t :: fl, ⟨⟨d1.1, fun q => ?_, fun j hj n hn => d1.2.2.1 j (by omega) n hn, d1.2.2.2⟩, fun j hj => ?_, ⟨zs, ?_, fun h0 => ?_⟩, fun j hj n hn => ?_⟩, kp_kh_trans (B' := M1.1) ⟨fun q hq _ => s2 q hq, fun a ha h6 _ hn => s4 a ha hn⟩ (kp_kx_kh kx), by omega⟩
    · have := d1.2.1 q
      rw [kp_ct_s, va_up_self] at this
      simpa using this
    · rw [va_up_ne _ _ (by omega), kp_its_up (by omega)]; exact hl j (by omega)
    · rw [va_up_ne _ _ (by omega), kp_kx_root kx ht, s1]; exact hz
    · have := hf k (by omega) _ hmc
      simp only at this; omega
    · rw [va_up_ne _ _ (by omega)] at hn; exact hf j (by omega) n hn
  · rw [if_neg z]
    exact ⟨top, S, fl, ⟨h, hl, ⟨ys, y1, fun h0 => by have := y2 h0; omega⟩, hf⟩, kp_kx_kh (kp_kx_refl _ _), Nat.le_refl _⟩
