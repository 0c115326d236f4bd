/-! PURE, the 35th: what the class answers, of what its pages stand for -/
theorem kp_hasA {B : Nat → UInt8} {A : kp_A} (h : kp_inv B A) {t : Nat} (ht : t < 64) : kv_has B t = (A t).isSome := by
  obtain ⟨tp, SS, cc, fl, u, h1, h2, h3, h4, -⟩ := kp_open h ht
  exact kp_has ht h2 h3 h4
theorem kp_hasN {B : Nat → UInt8} {t : Nat} (ht : 64 ≤ t) : kv_has B t = false := by
  unfold kv_has
  rw [decide_eq_false (by omega)]; rfl
theorem kp_entsA {B : Nat → UInt8} {A : kp_A} (h : kp_inv B A) {t : Nat} (ht : t < 64) : kv_ents B t = (kq_l (A t)).length := by
  obtain ⟨tp, SS, cc, fl, u, h1, h2, -⟩ := kp_open h ht
  cases hA : A t with
  | none => rw [hA] at h2; rw [h2.2.1]; rfl
  | some l => rw [hA] at h2; rw [h2.2.2]; rfl
theorem kp_numsA {B : Nat → UInt8} {A : kp_A} (h : kp_inv B A) : kv_num B 6 = kp_cntA A ∧ kv_num B 8 = kp_sizeA A ∧ kp_okA A := by
  obtain ⟨tp, SS, cc, fl, u, -, -, -, h4, h5, h6⟩ := h
  exact ⟨h4, h5, h6⟩
theorem kp_luA {B : Nat → UInt8} {A : kp_A} (h : kp_inv B A) : kv_lu B = kq_fst A 64 0 := kq_lu (fun t ht => kp_hasA h ht) 64 0 rfl
/-- lookUp -/
theorem kp_lookR {B : Nat → UInt8} {A : kp_A} (h : kp_inv B A) {t : Nat} (ht : t < 64) {l : List kp_KV} (hA : A t = some l) {R : Nat → UInt8} {len : Nat} {K : List UInt8} (hR : kp_row R len K) (hlen : len ≤ 8448) (pn ps : Nat → Nat) :
    (kp_is l K = false → kv_look B R len t pn ps = 0) ∧ ∀ w, l[kp_lo l K]? = some (K, w) → kv_look B R len t pn ps ≠ 0 ∧ kv_size B (kv_look B R len t pn ps) = 16 + K.length + w.length := by
  obtain ⟨tp, SS, cc, fl, u, nu, xs, hf, h1, -⟩ := kp_findT h ht hA hR hlen pn ps
  have hwh := hf.2.1
  have hmap := hf.2.2.1
  refine ⟨fun hi => by rw [h1, if_neg (by rw [hi]; simp)], fun w hw => ?_⟩
  rw [h1, if_pos (kp_is_iff.mpr ⟨w, hw⟩)]
  rw [← hmap, List.getElem?_map, hmap] at hw
  cases hc : (cc t)[kp_lo l K]? with
  | none => rw [hc] at hw; simp at hw
  | some c =>
    rw [hc] at hw
    have hcm := List.mem_of_getElem? hc
    have hch := hwh.1.2.2.2 c hcm
    have h9 := (kp_on_page hwh.1 (kp_ct_chain (c := c) hcm (List.mem_of_getElem? hch.1))).1
    have e : c.2.2 = (K, w) := by simpa using hw
    simp only [Option.map_some, Option.getD_some]
    refine ⟨by omega, ?_⟩
    rw [kp_ch_size hch (by omega), e]
/-- firstFrom, and what copyTo then reads -/
theorem kp_seekR {B : Nat → UInt8} {A : kp_A} (h : kp_inv B A) {t : Nat} (ht : t < 64) {l : List kp_KV} (hA : A t = some l) {R : Nat → UInt8} {len : Nat} {K : List UInt8} (hR : kp_row R len K) (hlen : len ≤ 8448) (after : Bool) (pn ps : Nat → Nat) :
    (l[if after = true then kp_hi l K else kp_lo l K]? = none → kv_first B R len t after pn ps = 0) ∧ ∀ k v, l[if after = true then kp_hi l K else kp_lo l K]? = some (k, v) → kv_first B R len t after pn ps ≠ 0 ∧ ∀ Gb Eb : Nat → UInt8,
      kp_row (kv_rdL B (kv_num B (kv_first B R len t after pn ps * 32 + 2)) 2720 Gb 0 (kv_first B R len t after pn ps) 6).1.1 (kv_rdL B (kv_num B (kv_first B R len t after pn ps * 32 + 2)) 2720 Gb 0 (kv_first B R len t after pn ps) 6).1.2 k ∧ kp_row (kv_rdL B (kv_num B (kv_first B R len t after pn ps * 32 + 4)) 2720 Eb 0 (kv_rdL B (kv_num B (kv_first B R len t after pn ps * 32 + 2)) 2720 Gb 0 (kv_first B R len t after pn ps) 6).2.1 (kv_rdL B (kv_num B (kv_first B R len t after pn ps * 32 + 2)) 2720 Gb 0 (kv_first B R len t after pn ps) 6).2.2).1.1 (kv_rdL B (kv_num B (kv_first B R len t after pn ps * 32 + 4)) 2720 Eb 0 (kv_rdL B (kv_num B (kv_first B R len t after pn ps * 32 + 2)) 2720 Gb 0 (kv_first B R len t after pn ps) 6).2.1 (kv_rdL B (kv_num B (kv_first B R len t after pn ps * 32 + 2)) 2720 Gb 0 (kv_first B R len t after pn ps) 6).2.2).1.2 v ∧ k.length ≤ 8448 ∧ v.length ≤ 8448 := by
  obtain ⟨tp, SS, cc, fl, u, nu, xs, hf, -, h1⟩ := kp_findT h ht hA hR hlen pn ps
  have hwh := hf.2.1
  have hmap := hf.2.2.1
  have hok := (kp_numsA h).2.2
  have hu := hwh.1.1.2.2.2.2.1
  rw [h1 after]
  generalize (if after = true then kp_hi l K else kp_lo l K) = i
  refine ⟨fun hi => ?_, fun k v hkv => ?_⟩
  · rw [← hmap, List.getElem?_map] at hi
    cases hc : (cc t)[i]? with
    | none => rfl
    | some c => rw [hc] at hi; simp at hi
  · have hm := (hok.1 t l ht hA).2 (k, v) (List.mem_of_getElem? hkv)
    rw [← hmap, List.getElem?_map] at hkv
    cases hc : (cc t)[i]? with
    | none => rw [hc] at hkv; simp at hkv
    | some c =>
      rw [hc] at hkv
      have hcm := List.mem_of_getElem? hc
      have hch := hwh.1.2.2.2 c hcm
      have h9 := (kp_on_page hwh.1 (kp_ct_chain (c := c) hcm (List.mem_of_getElem? hch.1))).1
      have e : c.2.2 = (k, v) := by simpa using hkv
      have e1 : c.2.2.1 = k := by rw [e]
      have e2 : c.2.2.2 = v := by rw [e]
      rw [e1, e2] at hch
      simp only [Option.map_some, Option.getD_some]
      have hin : ∀ q ∈ c.2.1, q < 2720 := fun q hq => by have := kp_on_page hwh.1 (kp_ct_chain (c := c) hcm hq); omega
      refine ⟨by omega, fun Gb Eb => ?_⟩
      obtain ⟨R', p', a', r1, r2, r3⟩ := kp_rdKey hch hin hm.2.1 Gb
      obtain ⟨V', p2, a2, v1, v2⟩ := kp_rdVal hch hin hm.2.2 r3 Eb
      rw [hch.2.2.2.1, hch.2.2.2.2.1, r1]
      simp only
      rw [v1]
      exact ⟨r2, v2, hm.2.1, hm.2.2⟩
/-! rows -/
theorem kp_row_nil (R : Nat → UInt8) : kp_row R 0 [] := ⟨rfl, fun j hj => by omega⟩
theorem kp_row_zero {R : Nat → UInt8} {len : Nat} (h : kp_row R len []) : len = 0 := h.1
/-- the bytes of a word, the first n of it from the left -/
def kz_wd (w : Int64) : Nat → List UInt8
  | 0 => []
  | n + 1 => kv_byte w n :: kz_wd w n
theorem kz_wd_len (w : Int64) : ∀ n, (kz_wd w n).length = n
  | 0 => rfl
  | n + 1 => by rw [kz_wd, List.length_cons, kz_wd_len w n]
theorem kp_row_push {R : Nat → UInt8} {len : Nat} {X : List UInt8} (h : kp_row R len X) (b : UInt8) : kp_row (va_up R len b) (len + 1) (X ++ [b]) := by
  refine ⟨by rw [List.length_append, ← h.1]; rfl, fun j hj => ?_⟩
  by_cases z : j = len
  · subst z
    rw [va_up_self, List.getElem?_append_right (by rw [← h.1]; omega), ← h.1, Nat.sub_self]; rfl
  · rw [va_up_ne _ _ z, List.getElem?_append_left (by rw [← h.1]; omega)]
    exact h.2 j (by omega)
theorem kz_app {w : Int64} : ∀ (n : Nat) (R : Nat → UInt8) (len : Nat) (X : List UInt8), kp_row R len X → kp_row (kv_app w n R len).1 (kv_app w n R len).2 (X ++ kz_wd w n)
  | 0, R, len, X, h => by simpa [kz_wd, kv_app] using h
  | n + 1, R, len, X, h => by
    rw [kv_app, kz_wd]
    have := kz_app (w := w) n (va_up R len (kv_byte w n)) (len + 1) _ (kp_row_push h (kv_byte w n))
    simpa using this
theorem kz_app_len {w : Int64} : ∀ (n : Nat) (R : Nat → UInt8) (len : Nat), (kv_app w n R len).2 = len + n
  | 0, R, len => rfl
  | n + 1, R, len => by rw [kv_app, kz_app_len n]; omega
theorem kz_fil {R : Nat → UInt8} {len n : Nat} {X : List UInt8} {c : UInt8} (h : kp_row R len X) : kp_row (kv_same R len c n) (len + n) (X ++ List.replicate n c) := by
  refine ⟨by rw [List.length_append, ← h.1, List.length_replicate], fun j hj => ?_⟩
  unfold kv_same
  by_cases z : len ≤ j
  · rw [if_pos ⟨z, hj⟩, List.getElem?_append_right (by rw [← h.1]; exact z), List.getElem?_replicate_of_lt (by rw [← h.1]; omega)]
  · rw [if_neg (fun y => z y.1), List.getElem?_append_left (by rw [← h.1]; omega)]
    exact h.2 j (by omega)
theorem kz_from {Kb Gb : Nat → UInt8} {gl : Nat} {X : List UInt8} (h : kp_row Gb gl X) (hl : gl ≤ 8448) : kp_row (kv_from Kb 0 Gb 8448 0 gl).1 (kv_from Kb 0 Gb 8448 0 gl).2 X ∧ (kv_from Kb 0 Gb 8448 0 gl).2 = gl := by
  unfold kv_from
  rw [if_pos ⟨by omega, by omega⟩]
  simp only [Nat.zero_add]
  refine ⟨⟨h.1, fun j hj => ?_⟩, trivial⟩
  rw [pk_cpy_in (by omega) (by omega), Nat.zero_add, Nat.sub_zero]
  exact h.2 j hj
theorem kz_cpy {Y FK : Nat → UInt8} {p n : Nat} : kp_row (va_cpy Y FK p 0 n) n (kq_bl Y p n) := by
  refine ⟨(kq_bl_len _ _ _).symm, fun j hj => ?_⟩
  rw [pk_cpy_in (by omega) (by omega), Nat.sub_zero, kq_bl_at hj]
/-! the word at a place: the class's and the reference's -/
theorem kv_word_congr {R R' : Nat → UInt8} : ∀ (k i : Nat) (w : Int64), (∀ j, i ≤ j → j < i + k → R j = R' j) → kv_word R k i w = kv_word R' k i w
  | 0, _, _, _ => rfl
  | k + 1, i, w, h => by
    rw [kv_word, kv_word, h i (Nat.le_refl _) (by omega), kv_word_congr k (i + 1) _ (fun j h1 h2 => h j (by omega) (by omega))]
theorem kz_fwL {R : Nat → UInt8} {len fr : Nat} (hf : fr ≤ 8448) : ∀ (f k : Nat) (w : Int64), k + f = 8 → km_fwL R len fr f k w = kv_word R (min len (fr + 8) - (fr + k)) (fr + k) w
  | 0, k, w, h => by
    have : min len (fr + 8) - (fr + k) = 0 := by omega
    rw [this]; rfl
  | f + 1, k, w, h => by
    rw [km_fwL]
    by_cases z : 8448 < fr ∨ len ≤ fr + k
    · rw [if_pos z]
      have : min len (fr + 8) - (fr + k) = 0 := by omega
      rw [this]; rfl
    · rw [if_neg z, kz_fwL hf f (k + 1) _ (by omega)]
      have e : min len (fr + 8) - (fr + k) = (min len (fr + 8) - (fr + (k + 1))) + 1 := by omega
      rw [e, kv_word]
      rfl
theorem kz_fw {R R' : Nat → UInt8} {len fr : Nat} {X : List UInt8} (h : kp_row R len X) (h' : kp_row R' len X) (hl : len ≤ 8448) : kv_wordAt R len fr = km_fw R' len fr := by
  unfold kv_wordAt km_fw
  by_cases z : fr < len
  · rw [if_pos z, kz_fwL (by omega) 8 0 0 rfl, Nat.add_zero]
    exact kv_word_congr _ _ _ (fun j h1 h2 => by
      have e1 := h.2 j (by omega)
      have e2 := h'.2 j (by omega)
      rw [← e2] at e1
      exact Option.some.inj e1)
  · rw [if_neg z, km_fwL, if_pos (.inr (by omega))]
/-! the pages in use stay as many where an ENTRY or a TREE goes -/
theorem kp_dropU {M : kv_M} {A : kp_A} (h : kp_inv M.1 A) {t : Nat} (ht : t < 64) {l : List kp_KV} (hA : A t = some l) : kv_used (kv_drop M t).1 = kv_used M.1 := by
  obtain ⟨tp, SS, cc, fl, u, h1, h2, h3, h4, h5, h6, h7, h8, h9, h10⟩ := kp_open h ht
  rw [hA] at h2 h10
  have hkv := h9.1 t l ht hA
  obtain ⟨q1, q2, q3, q4⟩ := kp_one_17 h2 hkv
  obtain ⟨⟨a1, a2, a3, ⟨ys, a4, a5⟩, a6⟩, b, c⟩ := id h2
  have hf9 := h9.2
  have e10 : kp_szO (some l) = kp_szl l := rfl
  have htop := kp_deep a3 a6 a4 a5 (by omega)
  obtain ⟨fl', r1, -⟩ := kp_drop (cs := cc t) ht (show tp t ≤ 4 by omega) ⟨⟨h3, h4, a1, a2⟩, a3, ⟨ys, a4, a5⟩, a6⟩ (fun x hx => by have := q4 x hx; omega)
  rw [kp_fr_used r1.1, kp_fr_used h3]
theorem kp_remU {M : kv_M} {A : kp_A} (h : kp_inv M.1 A) {t : Nat} (ht : t < 64) {l : List kp_KV} (hA : A t = some l) {R : Nat → UInt8} {len : Nat} {K w : List UInt8} (hR : kp_row R len K) (hlen : len ≤ 8448) (hn : l[kp_lo l K]? = some (K, w)) (pn ps P : Nat → Nat) (hP : ∀ j, P j < 65536) :
    kv_used (kv_delH M P t (kv_level M.1 (kv_root M.1 t)) (kv_desc M.1 R len t pn ps).1 (kv_desc M.1 R len t pn ps).2).1.1 = kv_used M.1 := by
  obtain ⟨tp, SS, cc, fl, u, nu, xs, ⟨f1, f2, f3, f4, f5, f6, f7, f8, f9, f10, f11, f12, f13, f14, f15, f16, f17, f18, f19, f20⟩, -, -⟩ := kp_findT h ht hA hR hlen pn ps
  have his := kp_is_iff.mpr ⟨w, hn⟩
  have hl0 := (List.getElem?_eq_some_iff.mp hn).1
  have hl17 : l.length = (cc t).length := by rw [← f3]; simp
  obtain ⟨Ac, Cc, g1, g2⟩ := kp_dec (List.getElem?_eq_getElem (show kp_lo l K < (cc t).length by omega))
  generalize hc : (cc t)[kp_lo l K]'(by omega) = c at *
  rw [g1] at f2
  rw [f6]
  obtain ⟨top', S', fl', r1, -⟩ := kp_delH ht (show tp t ≤ 4 by omega) f2 f7 f8 (f11 his) (by rw [g2]; exact f10) hP
  rw [kp_fr_used r1.1.1, kp_fr_used f2.1.1]
theorem kq_fst_le {A : kp_A} : ∀ (f t : Nat), kq_fst A f t ≤ t + f
  | 0, t => Nat.le_refl _
  | f + 1, t => by
    rw [kq_fst]
    split
    · have := kq_fst_le (A := A) f (t + 1); omega
    · omega
