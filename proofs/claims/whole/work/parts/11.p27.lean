/-! PURE, the 27th: the checker finds nothing wrong: one tree -/
theorem kx_exp_t {b : Bool} {w : Nat} (h : b = true) : kx_exp b w = w := if_pos h
theorem kx_exp_d {p : Prop} [Decidable p] {w : Nat} (h : p) : kx_exp (decide p) w = w := if_pos (decide_eq_true h)
/-- which pages are claimed -/
def kp_cld (Cl : Nat → Bool) (D : Nat → Prop) : Prop := ∀ q, q < 2720 → (Cl q = true ↔ D q)
theorem kp_claim {B : Nat → UInt8} {Cl : Nat → Bool} {w p : Nat} {D : Nat → Prop} (h : kp_cld Cl D) (h9 : 9 ≤ p) (hu : p < 9 + kv_used B) (hp : ¬ D p) (h27 : p < 2720) : kx_right B Cl p = true ∧ kx_claim B p (Cl, w) = (va_up Cl p true, w) ∧ kp_cld (va_up Cl p true) (fun q => D q ∨ q = p) := by
  have hf : Cl p = false := by
    cases hc : Cl p with
    | false => rfl
    | true => exact absurd ((h p h27).mp hc) hp
  have hr : kx_right B Cl p = true := decide_eq_true ⟨h9, hu, hf⟩
  refine ⟨hr, ?_, fun q hq => ?_⟩
  · unfold kx_claim
    simp only
    rw [if_pos hr, kx_exp_t hr]
  · by_cases z : q = p
    · subst z; rw [va_up_self]; simp
    · rw [va_up_ne _ _ z, h q hq]
      constructor
      · exact .inl
      · intro y; rcases y with y | y
        · exact y
        · exact absurd y z
theorem kp_ccL {B : Nat → UInt8} {w : Nat} : ∀ (ps : List Nat) (f n : Nat) (Cl : Nat → Bool) (D : Nat → Prop), ps.length ≤ f → kp_lk B ps 0 → ps.Nodup → (∀ q ∈ ps, 9 ≤ q ∧ q < 9 + kv_used B ∧ q < 2720 ∧ ¬ D q) → kp_cld Cl D →
    ∃ Cl', kx_ccL B f (ps.headD 0) n (Cl, w) = (n + ps.length, (Cl', w)) ∧ kp_cld Cl' (fun q => D q ∨ q ∈ ps)
  | [], f, n, Cl, D, h1, h2, h3, h4, h5 => by
    refine ⟨Cl, ?_, fun q hq => by rw [h5 q hq]; simp⟩
    cases f with
    | zero => rfl
    | succ f => rw [kx_ccL, if_pos (show ([] : List Nat).headD 0 = 0 from rfl)]; rfl
  | p :: ps, 0, n, Cl, D, h1, h2, h3, h4, h5 => by simp at h1
  | p :: ps, f + 1, n, Cl, D, h1, h2, h3, h4, h5 => by
    obtain ⟨a1, a2, a3, a4⟩ := h4 p List.mem_cons_self
    obtain ⟨b1, b2, b3⟩ := kp_claim (w := w) h5 a1 a2 a4 a3
    have hpn := (List.nodup_cons.mp h3).1
    obtain ⟨Cl', c1, c2⟩ := kp_ccL (B := B) (w := w) ps f (n + 1) (va_up Cl p true) (fun q => D q ∨ q = p) (by simpa using h1) h2.2 (List.nodup_cons.mp h3).2 (fun q hq => by
      obtain ⟨x1, x2, x3, x4⟩ := h4 q (List.mem_cons_of_mem _ hq)
      refine ⟨x1, x2, x3, fun y => ?_⟩
      rcases y with y | y
      · exact x4 y
      · exact hpn (y ▸ hq)) b3
    refine ⟨Cl', ?_, fun q hq => ?_⟩
    · show kx_ccL B (f + 1) p n (Cl, w) = _
      rw [kx_ccL, if_neg (by omega)]
      simp only
      rw [if_pos b1, b2, h2.1, c1, List.length_cons]
      congr 1; omega
    · rw [c2 q hq]
      show (D q ∨ q = p) ∨ q ∈ ps ↔ D q ∨ q ∈ p :: ps
      rw [List.mem_cons, or_assoc]
/-- what is claimed of a tree: e 0 chains, e (j + 1) nodes of level j -/
def kp_part (S : Nat → List kp_N) (cs : List kp_C) (top : Nat) (D : Nat → Prop) (e : Nat → Nat) : Nat → Prop := fun q => D q ∨ (∃ j, j ≤ top ∧ q ∈ ((S j).take (e (j + 1))).map (·.1)) ∨ q ∈ (cs.take (e 0)).flatMap (·.2.1)
/-- the checker's row: the KEY before -/
def kp_last (cs : List kp_C) (m : Nat) (Lr : Nat → UInt8) (ll : Nat) : Prop := ∃ K, kp_row Lr ll K ∧ ll ≤ 8448 ∧ ((m = 0 ∧ K = []) ∨ ∃ c, 0 < m ∧ cs[m - 1]? = some c ∧ K = c.2.2.1)
def kp_cst (S : Nat → List kp_N) (cs : List kp_C) (top : Nat) (D : Nat → Prop) (z : Nat) (X : kx_X) (e : Nat → Nat) : Prop :=
  kp_cld X.1.1 (kp_part S cs top D e) ∧ X.1.2 = 0 ∧ X.2.1.1 = e 0 ∧ X.2.1.2 = z + kp_szs (cs.take (e 0)) ∧ kp_last cs (e 0) X.2.2.1.1 X.2.2.1.2
/-- a tree to be walked -/
def kp_wk (B : Nat → UInt8) (t top : Nat) (S : Nat → List kp_N) (cs : List kp_C) (fl : List Nat) (u : Nat) (ex : Nat → Nat) (D : Nat → Prop) : Prop :=
  kp_wh B t top S cs fl u ex ∧ top ≤ 3 ∧ kp_sorted cs ∧ (∀ c ∈ cs, 1 ≤ c.2.2.1.length ∧ c.2.2.1.length ≤ 8448 ∧ c.2.2.2.length ≤ 8448) ∧ ∀ q, D q → kp_ct top S cs q = 0
theorem kp_part_node {S : Nat → List kp_N} {cs : List kp_C} {top : Nat} {D : Nat → Prop} {e : Nat → Nat} {l p : Nat} {xs : List Nat} (hl : l ≤ top) (hp : (S l)[e (l + 1)]? = some (p, xs)) (q : Nat) : kp_part S cs top D (va_up e (l + 1) (e (l + 1) + 1)) q ↔ kp_part S cs top D e q ∨ q = p := by
  unfold kp_part
  rw [va_up_ne _ _ (show 0 ≠ l + 1 by omega)]
  have key : ∀ j, q ∈ ((S j).take (va_up e (l + 1) (e (l + 1) + 1) (j + 1))).map (·.1) ↔ q ∈ ((S j).take (e (j + 1))).map (·.1) ∨ (j = l ∧ q = p) := by
    intro j
    by_cases z : j = l
    · subst z
      rw [va_up_self, List.take_add_one, hp, List.map_append, List.mem_append]
      simp
    · rw [va_up_ne _ _ (by omega)]; simp [z]
  constructor
  · intro h
    rcases h with h | ⟨j, hj, h⟩ | h
    · exact .inl (.inl h)
    · rcases (key j).mp h with y | y
      · exact .inl (.inr (.inl ⟨j, hj, y⟩))
      · exact .inr y.2
    · exact .inl (.inr (.inr h))
  · intro h
    rcases h with (h | ⟨j, hj, h⟩ | h) | h
    · exact .inl h
    · exact .inr (.inl ⟨j, hj, (key j).mpr (.inl h)⟩)
    · exact .inr (.inr h)
    · exact .inr (.inl ⟨l, hl, (key l).mpr (.inr ⟨rfl, h⟩)⟩)
theorem kp_part_chain {S : Nat → List kp_N} {cs : List kp_C} {top : Nat} {D : Nat → Prop} {e : Nat → Nat} {c : kp_C} (hc : cs[e 0]? = some c) (q : Nat) : kp_part S cs top D (va_up e 0 (e 0 + 1)) q ↔ kp_part S cs top D e q ∨ q ∈ c.2.1 := by
  unfold kp_part
  have e1 : ∀ j, va_up e 0 (e 0 + 1) (j + 1) = e (j + 1) := fun j => va_up_ne _ _ (by omega)
  simp only [e1]
  rw [va_up_self, List.take_add_one, hc, List.flatMap_append, List.mem_append]
  simp only [Option.toList_some, List.flatMap_cons, List.flatMap_nil, List.append_nil]
  rw [or_assoc, or_assoc]
theorem kp_cst_cld {S : Nat → List kp_N} {cs : List kp_C} {top : Nat} {D D' : Nat → Prop} {Cl : Nat → Bool} (h : kp_cld Cl D) (hd : ∀ q, D' q ↔ D q) : kp_cld Cl D' := fun q hq => (h q hq).trans (hd q).symm
/-- a node that is not yet claimed -/
theorem kp_part_no {B : Nat → UInt8} {t top : Nat} {S : Nat → List kp_N} {cs : List kp_C} {fl : List Nat} {u : Nat} {ex : Nat → Nat} {D : Nat → Prop} (h : kp_wk B t top S cs fl u ex D) {e : Nat → Nat} {l v p : Nat} {xs : List Nat} (hl : l ≤ top) (hp : (S l)[v]? = some (p, xs)) (hv : e (l + 1) ≤ v) : ¬ kp_part S cs top D e p := by
  obtain ⟨⟨hon, -, -, -⟩, -, -, -, hD⟩ := h
  have hm : (p, xs) ∈ S l := List.mem_of_getElem? hp
  have h1 := kp_ct_node (cs := cs) hl hm
  simp only at h1
  rintro (y | ⟨j, hj, y⟩ | y)
  · have := hD p y; omega
  · obtain ⟨n, n1, n2⟩ := List.mem_map.mp y
    obtain ⟨w, hw⟩ := List.getElem?_of_mem n1
    have hwl := (List.getElem?_eq_some_iff.mp hw).1
    have hwe : w < e (j + 1) := by simp at hwl; omega
    rw [List.getElem?_take_of_lt hwe] at hw
    obtain ⟨n1', n2'⟩ := n
    simp only at n2
    subst n2
    have hu := kp_uniq (kp_on_ct hon n1') hj hl hw hp
    have e1 := hu.1
    subst e1
    have := hu.2
    omega
  · obtain ⟨c, c1, c2⟩ := List.mem_flatMap.mp y
    exact kp_apart (kp_on_ct hon p) hl hm rfl (List.mem_of_mem_take c1) c2
theorem kp_chain_no {B : Nat → UInt8} {t top : Nat} {S : Nat → List kp_N} {cs : List kp_C} {fl : List Nat} {u : Nat} {ex : Nat → Nat} {D : Nat → Prop} (h : kp_wk B t top S cs fl u ex D) {e : Nat → Nat} {c : kp_C} (hc : cs[e 0]? = some c) {q : Nat} (hq : q ∈ c.2.1) : ¬ kp_part S cs top D e q ∧ c.2.1.count q = 1 := by
  obtain ⟨⟨hon, -, -, -⟩, -, -, -, hD⟩ := h
  have hcm : c ∈ cs := List.mem_of_getElem? hc
  have h1 := kp_ct_chain (top := top) (S := S) hcm hq
  obtain ⟨A, C, eA, eL⟩ := kp_dec hc
  have h2 := kp_on_ct hon q
  have h3 := kp_ct_dec (top := top) (S := S) (A := A) (C := C) (c := c) q
  have h4 := List.count_pos_iff.mpr hq
  rw [eA] at h2
  refine ⟨?_, by omega⟩
  rintro (y | ⟨j, hj, y⟩ | y)
  · have := hD q y; omega
  · obtain ⟨n, n1, n2⟩ := List.mem_map.mp y
    have := List.mem_of_mem_take n1
    exact kp_apart (kp_on_ct hon q) hj this n2 hcm hq
  · rw [eA, ← eL, List.take_append_of_le_length (Nat.le_refl _), List.take_length] at y
    obtain ⟨c', c1, c2⟩ := List.mem_flatMap.mp y
    have := kp_ct_chain (top := top) (S := S) (cs := A ++ C) (List.mem_append_left _ c1) c2
    omega
/-- Checker.examine -/
theorem kp_exa {B : Nat → UInt8} {t top : Nat} {S : Nat → List kp_N} {cs : List kp_C} {fl : List Nat} {u : Nat} {ex : Nat → Nat} {D : Nat → Prop} (h : kp_wk B t top S cs fl u ex D) {z : Nat} {X : kx_X} {e : Nat → Nat} (hX : kp_cst S cs top D z X e) {v p i : Nat} {xs : List Nat} (hp : (S 0)[v]? = some (p, xs)) (hi : i < xs.length) (he : e 0 = kp_off (S 0) v + i) : kp_cst S cs top D z (kx_exa B t p i X) (va_up e 0 (e 0 + 1)) := by
  have hw := h
  obtain ⟨⟨hon, hlev, ⟨ys, y1, y2⟩, hfi⟩, htop, hsort, hk, hD⟩ := h
  obtain ⟨x1, x2, x3, x4, K0, x5, x6, x7⟩ := hX
  have hm : (p, xs) ∈ S 0 := List.mem_of_getElem? hp
  have hnd := hon.2.2.1 0 (Nat.zero_le _) _ hm
  simp only at hnd
  have hu := hon.1.2.2.2.2.1
  have hus := kp_fr_used hon.1
  have e0 := kp_fl_at hp hi
  rw [hlev 0 (Nat.zero_le _), ← he] at e0
  have e1 : (cs.map (·.1))[e 0]? = xs[i]? := e0
  rw [List.getElem?_map] at e1
  cases hc : cs[e 0]? with
  | none => rw [hc] at e1; simp at e1; omega
  | some c =>
  rw [hc] at e1
  have hs : kv_slot B p i = c.1 := kp_slot_eq hnd e1.symm
  have hcm : c ∈ cs := List.mem_of_getElem? hc
  have hch := hon.2.2.2 c hcm
  obtain ⟨k1, k2, k3⟩ := hk c hcm
  have pg : ∀ q ∈ c.2.1, 9 ≤ q ∧ q < 9 + kv_used B ∧ q < 2720 ∧ ¬ kp_part S cs top D e q := fun q hq => by
    have := kp_on_page hon (kp_ct_chain (top := top) (S := S) hcm hq)
    exact ⟨this.1, by rw [hus]; exact this.2.1, by omega, (kp_chain_no hw hc hq).1⟩
  have nd : c.2.1.Nodup := List.nodup_iff_count.mpr (fun q => by
    by_cases y : q ∈ c.2.1
    · rw [(kp_chain_no hw hc y).2]; omega
    · rw [List.count_eq_zero.mpr y]; omega)
  have hlen : c.2.1.length ≤ 2720 := by
    have := kp_len_le u c.2.1 nd (fun q hq => ⟨(pg q hq).1, by rw [← hus]; exact (pg q hq).2.1⟩)
    omega
  have hhd : c.1 = c.2.1.headD 0 := by
    have := hch.1
    generalize hps : c.2.1 = pl at this ⊢
    cases pl with
    | nil => simp at this
    | cons a as => simpa using this.symm
  have hc9 : 9 ≤ c.1 := (pg c.1 (List.mem_of_getElem? hch.1)).1
  obtain ⟨Cl', q1, q2⟩ := kp_ccL (B := B) (w := 0) c.2.1 2720 0 X.1.1 _ hlen hch.2.2.1 nd pg x1
  have hnk := hch.2.2.2.1
  have hnv := hch.2.2.2.2.1
  have s1 : kx_s1 B c.1 X.1.2 = 0 := by
    unfold kx_s1
    rw [kx_exp_d ⟨by omega, by omega, by omega⟩]; exact x2
  have s2 : kx_s2 B c.1 X.1 = (c.2.1.length, (Cl', 0)) := by
    unfold kx_s2 kx_cc
    rw [s1]
    have q1' := q1
    rw [← hhd, Nat.zero_add] at q1'
    exact q1'
  have s3 : kx_s3 B c.1 X.1 = 0 := by
    unfold kx_s3
    rw [s2]
    refine kx_exp_d ?_
    show c.2.1.length = kv_pagesFor B c.1
    rw [hch.2.1]
    unfold kv_pagesFor kp_pf
    rw [hnk, hnv]
  have hin : ∀ q ∈ c.2.1, q < 2720 := fun q hq => (pg q hq).2.2.1
  have hcmp : kv_cmp B X.2.2.1.1 X.2.2.1.2 c.1 < 0 := by
    have := kp_cmp hch x5 hin x6
    refine (this.1).mpr ?_
    rcases x7 with ⟨y1, y2⟩ | ⟨c', y1, y2, y3⟩
    · rw [y2]
      cases hk0 : c.2.2.1 with
      | nil => rw [hk0] at k1; simp at k1
      | cons a as => show (-1 : Int) < 0; omega
    · rw [y3]
      have h1 := List.getElem?_eq_some_iff.mp y2
      have h2 := List.getElem?_eq_some_iff.mp hc
      have := List.pairwise_iff_getElem.mp hsort (e 0 - 1) (e 0) h1.1 h2.1 (by omega)
      rw [h1.2, h2.2] at this; exact this
  obtain ⟨R', p', a', r1, r2, r3⟩ := kp_rdKey hch hin k2 X.2.2.1.1
  have rd : kx_rd B c.1 X.2.2.1.1 = ((R', c.2.2.1.length), p', a') := by
    unfold kx_rd; rw [hnk]; exact r1
  obtain ⟨r, r', hrk⟩ := kp_rk_ex c.2.2.1 hsort
  have hrr := hrk.2.2.2 (e 0) c hc
  have hself := kp_c_self c.2.2.1
  have er : r = e 0 ∧ r' = e 0 + 1 := by
    have a1 : ¬ e 0 < r := fun y => by have := (hrr.1).mpr y; omega
    have a2 : e 0 < r' := (hrr.2).mp (by omega)
    have a3 := hrk.2.1
    omega
  have hse : kp_se B R' c.2.2.1.length top S cs c.2.2.1 r r' := ⟨kp_fo_iff.mpr ⟨hlev, hon.2.2.1, hon.2.2.2⟩, by omega, fun h0 j hj n hn => by
      by_cases z : j < top
      · have := hfi j z n hn
        intro y; rw [y] at this; simp at this
      · have : j = top := by omega
        subst this
        rw [y1] at hn
        rw [List.mem_singleton.mp hn]
        have := y2 h0
        show ys ≠ []
        intro y; rw [y] at this; simp at this, r2, k2, fun c hc q hq => by have := kp_on_page hon (kp_ct_chain (top := top) (S := S) hc hq); omega, hrk⟩
  obtain ⟨nu, n1, n2, n3, n4, n5, n6, n7, n8⟩ := kp_desc hse y1 X.2.2.2.1.1 X.2.2.2.1.2.1
  have hofv := kp_off_s hp
  simp only at hofv
  have env : nu 0 = v := by
    rcases Nat.lt_trichotomy (nu 0) v with y | y | y
    · have := kp_off_mono (S 0) (v := nu 0 + 1) (w := v) (by omega)
      omega
    · exact y
    · have := kp_off_mono (S 0) (v := v + 1) (w := nu 0) (by omega)
      omega
  have epn : (kv_desc B R' c.2.2.1.length t X.2.2.2.1.1 X.2.2.2.1.2.1).1 0 = p := by
    have := n2.1 0 (Nat.zero_le _)
    rw [env, hp] at this
    simpa using this.symm
  have eps : (kv_desc B R' c.2.2.1.length t X.2.2.2.1.1 X.2.2.2.1.2.1).2 0 = i := by
    rw [env] at n6; omega
  unfold kx_exa kx_exaF
  rw [hs, rd, s2, s3]
  simp only
  refine ⟨kp_cst_cld (S := S) (cs := cs) (top := top) q2 (kp_part_chain hc), ?_, ?_, ?_, ?_⟩
  · simp only
    rw [kx_exp_d hcmp, kx_exp_d ⟨epn, eps⟩]
  · simp only
    rw [x3, va_up_self]
  · simp only
    rw [x4, va_up_self, kp_ch_size hch (by omega), List.take_add_one, hc, kp_szs_app]
    show _ = z + (kp_szs (cs.take (e 0)) + kp_szs [c])
    rw [kp_szs_cons]
    show _ = z + (kp_szs (cs.take (e 0)) + (16 + c.2.2.1.length + c.2.2.2.length + 0))
    omega
  · simp only
    refine ⟨c.2.2.1, r2, k2, .inr ⟨c, ?_, ?_, rfl⟩⟩
    · rw [va_up_self]; omega
    · rw [va_up_self, Nat.add_sub_cancel]; exact hc
theorem kp_hdr {B : Nat → UInt8} {t top : Nat} {S : Nat → List kp_N} {cs : List kp_C} {fl : List Nat} {u : Nat} {ex : Nat → Nat} {D : Nat → Prop} (h : kp_wk B t top S cs fl u ex D) {z : Nat} {X : kx_X} {e : Nat → Nat} (hX : kp_cst S cs top D z X e) {l p : Nat} {xs : List Nat} (hl : l ≤ top) (hp : (S l)[e (l + 1)]? = some (p, xs)) : kx_right B X.1.1 p = true ∧ kp_cst S cs top D z (kx_hd B t l p X.1, X.2) (va_up e (l + 1) (e (l + 1) + 1)) := by
  have hw := h
  obtain ⟨⟨hon, hlev, ⟨ys, y1, y2⟩, hfi⟩, htop, hsort, hk, hD⟩ := h
  obtain ⟨x1, x2, x3, x4, x5⟩ := hX
  have hm : (p, xs) ∈ S l := List.mem_of_getElem? hp
  have hnd := hon.2.2.1 l hl _ hm
  have hpn := kp_on_node hon hl hm
  simp only at hnd hpn
  have hu := hon.1.2.2.2.2.1
  have hus := kp_fr_used hon.1
  obtain ⟨q1, q2, q3⟩ := kp_claim (B := B) (w := X.1.2) x1 hpn.1 (by rw [hus]; exact hpn.2.1) (kp_part_no hw hl hp (Nat.le_refl _)) (by omega)
  refine ⟨q1, ?_⟩
  unfold kx_hd
  have eX : X.1 = (X.1.1, X.1.2) := rfl
  rw [eX, q2]
  have a1 : kv_num B (p * 32 + 2) = kv_count B p := by rw [kp_nd_count hnd]; exact hnd.2.1
  have a2 : kv_num B (p * 32 + 0) = l := hnd.1
  have a3 : (p = kv_root B t ∧ (l = 0 ∨ 1 < kv_count B p)) ∨ (p ≠ kv_root B t ∧ ¬ kv_count B p < 7) := by
    rw [kp_nd_count hnd]
    have hroot : (S top)[0]? = some (kv_root B t, ys) := by rw [y1]; rfl
    by_cases y : p = kv_root B t
    · left
      refine ⟨y, ?_⟩
      have hp' := hp
      rw [y] at hp'
      have hq := kp_uniq (kp_on_ct hon _) hl (Nat.le_refl _) hp' hroot
      have e1 := hq.1
      subst e1
      rw [hq.2, hroot] at hp'
      have : ys = xs := (Prod.mk.inj (Option.some.inj hp')).2
      by_cases l0 : l = 0
      · exact .inl l0
      · right
        have := y2 (by omega)
        rw [← ‹ys = xs›]; omega
    · right
      refine ⟨y, ?_⟩
      have : l < top := by
        by_cases z : l < top
        · exact z
        · exfalso
          have : l = top := by omega
          subst this
          rw [y1] at hm
          exact y (Prod.mk.inj (List.mem_singleton.mp hm)).1
      have := hfi l this _ hm
      simp only at this
      omega
  refine ⟨kp_cst_cld (S := S) (cs := cs) (top := top) q3 (kp_part_node hl hp), ?_, ?_, ?_, ?_⟩
  · simp only
    rw [kx_exp_d a1, kx_exp_d a2, kx_exp_d a3]; exact x2
  · rw [va_up_ne _ _ (by omega)]; exact x3
  · rw [va_up_ne _ _ (by omega)]; exact x4
  · rw [va_up_ne _ _ (by omega)]; exact x5
/-- Checker.walk -/
theorem kp_walk {B : Nat → UInt8} {t top : Nat} {S : Nat → List kp_N} {cs : List kp_C} {fl : List Nat} {u : Nat} {ex : Nat → Nat} {D : Nat → Prop} (h : kp_wk B t top S cs fl u ex D) {z : Nat} :
    ∀ (l : Nat) (X : kx_X) (e : Nat → Nat) (p : Nat) (xs : List Nat), l ≤ top → kp_cst S cs top D z X e → kp_al S l e → (S l)[e (l + 1)]? = some (p, xs) →
      ∃ e', kp_cst S cs top D z (kx_walk B t l p X) e' ∧ kp_al S l e' ∧ e' (l + 1) = e (l + 1) + 1 ∧ ∀ j, l + 1 < j → e' j = e j
  | 0, X, e, p, xs, hl, hX, ha, hp => by
    obtain ⟨g1, g2⟩ := kp_hdr h hX hl hp
    have hnd := h.1.1.2.2.1 0 hl _ (List.mem_of_getElem? hp)
    simp only at hnd
    have loop : ∀ (k i : Nat) (Y : kx_X) (d : Nat → Nat), i + k = xs.length → kp_cst S cs top D z Y d → (∀ j, 1 < j → d j = e j) → d 1 = e 1 + 1 → d 0 = e 0 + i →
        ∃ d', kp_cst S cs top D z (kx_wkL (kx_exa B t p) k i Y) d' ∧ (∀ j, 1 < j → d' j = e j) ∧ d' 1 = e 1 + 1 ∧ d' 0 = e 0 + xs.length := by
      intro k
      induction k with
      | zero => exact fun i Y d h1 h2 h3 h4 h5 => ⟨d, h2, h3, h4, by omega⟩
      | succ k ih =>
        intro i Y d h1 h2 h3 h4 h5
        have hs := kp_exa h h2 hp (show i < xs.length by omega) (by rw [h5, ha 0 (Nat.le_refl _)])
        rw [kx_wkL]
        exact ih (i + 1) _ (va_up d 0 (d 0 + 1)) (by omega) hs (fun j hj => by rw [va_up_ne _ _ (by omega)]; exact h3 j hj) (by rw [va_up_ne _ _ (by omega)]; exact h4) (by rw [va_up_self]; omega)
    obtain ⟨d, r1, r2, r3, r4⟩ := loop xs.length 0 _ _ (by omega) g2 (fun j hj => va_up_ne _ _ (by omega)) (va_up_self _ _ _) (by rw [va_up_ne _ _ (by omega)]; rfl)
    rw [kx_walk, if_pos g1, kp_nd_count hnd]
    refine ⟨d, r1, fun j hj => ?_, r3, r2⟩
    have : j = 0 := by omega
    subst this
    have e9 := kp_off_s hp
    simp only at e9
    rw [r4, show d (0 + 1) = e (0 + 1) + 1 from r3, e9, ← ha 0 (Nat.le_refl _)]
  | l + 1, X, e, p, xs, hl, hX, ha, hp => by
    obtain ⟨g1, g2⟩ := kp_hdr h hX hl hp
    have hnd := h.1.1.2.2.1 (l + 1) hl _ (List.mem_of_getElem? hp)
    simp only at hnd
    have loop : ∀ (k i : Nat) (Y : kx_X) (d : Nat → Nat), i + k = xs.length → kp_cst S cs top D z Y d → kp_al S l d → (∀ j, l + 2 < j → d j = e j) → d (l + 2) = e (l + 2) + 1 → d (l + 1) = e (l + 1) + i →
        ∃ d', kp_cst S cs top D z (kx_wkL (fun i Y => kx_walk B t l (kv_slot B p i) Y) k i Y) d' ∧ kp_al S l d' ∧ (∀ j, l + 2 < j → d' j = e j) ∧ d' (l + 2) = e (l + 2) + 1 ∧ d' (l + 1) = e (l + 1) + xs.length := by
      intro k
      induction k with
      | zero => exact fun i Y d h1 h2 h2a h3 h4 h5 => ⟨d, h2, h2a, h3, h4, by omega⟩
      | succ k ih =>
        intro i Y d h1 h2 h2a h3 h4 h5
        have e0 := kp_fl_at hp (t := i) (show i < xs.length by omega)
        rw [h.1.2.1 (l + 1) hl, ← ha (l + 1) (Nat.le_refl _)] at e0
        have e2 : ((S l).map (·.1))[e (l + 1) + i]? = xs[i]? := e0
        rw [List.getElem?_map] at e2
        cases hc : (S l)[e (l + 1) + i]? with
        | none => rw [hc] at e2; simp at e2; omega
        | some n =>
          rw [hc] at e2
          obtain ⟨n1, zs⟩ := n
          have es : kv_slot B p i = n1 := kp_slot_eq hnd e2.symm
          obtain ⟨d2, r1, r2, r3, r4⟩ := kp_walk h l Y d n1 zs (by omega) h2 h2a (by rw [h5]; exact hc)
          rw [kx_wkL, es]
          exact ih (i + 1) _ d2 (by omega) r1 r2 (fun j hj => by rw [r4 j (by omega)]; exact h3 j hj) (by rw [r4 (l + 2) (by omega)]; exact h4) (by rw [r3]; omega)
    obtain ⟨d, r1, r2, r3, r4, r5⟩ := loop xs.length 0 _ _ (by omega) g2 (fun j hj => by rw [va_up_ne _ _ (by omega), va_up_ne _ _ (by omega)]; exact ha j (by omega)) (fun j hj => va_up_ne _ _ (by omega)) (va_up_self _ _ _) (by rw [va_up_ne _ _ (by omega)]; rfl)
    rw [kx_walk, if_pos g1, kp_nd_count hnd]
    refine ⟨d, r1, fun j hj => ?_, r4, r3⟩
    by_cases y : j = l + 1
    · subst y
      have e9 := kp_off_s hp
      simp only at e9
      rw [r5, show d (l + 1 + 1) = e (l + 1 + 1) + 1 from r4, e9, ← ha (l + 1) (Nat.le_refl _)]
    · exact r2 j (by omega)
