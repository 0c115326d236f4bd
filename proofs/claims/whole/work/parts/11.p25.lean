/-! PURE, the 25th: a KEY's place in a sorted list; what the trees answer -/
def kp_lo : List kp_KV → List UInt8 → Nat
  | [], _ => 0
  | e :: l, K => if kp_c e.1 K < 0 then kp_lo l K + 1 else 0
def kp_is (l : List kp_KV) (K : List UInt8) : Bool := decide ((l[kp_lo l K]?).map (·.1) = some K)
def kp_hi (l : List kp_KV) (K : List UInt8) : Nat := kp_lo l K + (if kp_is l K = true then 1 else 0)
theorem kp_lo_le : ∀ (l : List kp_KV) (K : List UInt8), kp_lo l K ≤ l.length
  | [], _ => Nat.le_refl _
  | e :: l, K => by
    rw [kp_lo, List.length_cons]
    have := kp_lo_le l K
    split <;> omega
theorem kp_lo_bef : ∀ {l : List kp_KV} {K : List UInt8} {x : Nat} {e : kp_KV}, x < kp_lo l K → l[x]? = some e → kp_c e.1 K < 0
  | [], K, x, e, h, h2 => by simp at h2
  | a :: l, K, x, e, h, h2 => by
    by_cases z : kp_c a.1 K < 0
    · rw [kp_lo, if_pos z] at h
      cases x with
      | zero => rw [← Option.some.inj h2]; exact z
      | succ x => exact kp_lo_bef (l := l) (Nat.lt_of_succ_lt_succ h) h2
    · rw [kp_lo, if_neg z] at h
      omega
theorem kp_lo_at : ∀ {l : List kp_KV} {K : List UInt8} {e : kp_KV}, l[kp_lo l K]? = some e → ¬ kp_c e.1 K < 0
  | [], K, e, h => by simp at h
  | a :: l, K, e, h => by
    rw [kp_lo] at h
    split at h
    · exact kp_lo_at (l := l) h
    · rename_i z
      rw [← Option.some.inj h]; exact z
theorem kp_pw_at {l : List kp_KV} (h : l.Pairwise (fun a b => kp_c a.1 b.1 < 0)) {i j : Nat} {a b : kp_KV} (hi : l[i]? = some a) (hj : l[j]? = some b) (hij : i < j) : kp_c a.1 b.1 < 0 := by
  have h1 := List.getElem?_eq_some_iff.mp hi
  have h2 := List.getElem?_eq_some_iff.mp hj
  have := List.pairwise_iff_getElem.mp h i j h1.1 h2.1 hij
  rw [h1.2, h2.2] at this
  exact this
theorem kp_is_iff {l : List kp_KV} {K : List UInt8} : kp_is l K = true ↔ ∃ v, l[kp_lo l K]? = some (K, v) := by
  unfold kp_is
  rw [decide_eq_true_iff]
  constructor
  · intro h
    cases hl : l[kp_lo l K]? with
    | none => rw [hl] at h; simp at h
    | some e =>
      rw [hl] at h
      obtain ⟨a, b⟩ := e
      have : a = K := by simpa using h
      exact ⟨b, by rw [this]⟩
  · intro ⟨v, h⟩
    rw [h]; rfl
theorem kp_lo_rk {cs : List kp_C} {K : List UInt8} {r r' : Nat} (h : kp_rk cs K r r') (hs : kp_sorted cs) : r = kp_lo (cs.map (·.2.2)) K ∧ r' = kp_hi (cs.map (·.2.2)) K := by
  obtain ⟨h1, h2, h3, h4⟩ := h
  have at_ : ∀ {x : Nat} {e : kp_KV}, (cs.map (·.2.2))[x]? = some e → ∃ c, cs[x]? = some c ∧ e = c.2.2 := fun {x e} hx => by
    rw [List.getElem?_map] at hx
    cases hc : cs[x]? with
    | none => rw [hc] at hx; simp at hx
    | some c => rw [hc] at hx; exact ⟨c, rfl, (Option.some.inj hx).symm⟩
  have hlen : (cs.map (·.2.2)).length = cs.length := List.length_map _
  have hle := kp_lo_le (cs.map (·.2.2)) K
  have e : r = kp_lo (cs.map (·.2.2)) K := by
    rcases Nat.lt_trichotomy r (kp_lo (cs.map (·.2.2)) K) with y | y | y
    · have hr : r < (cs.map (·.2.2)).length := by omega
      obtain ⟨c, c1, c2⟩ := at_ (List.getElem?_eq_getElem hr)
      have := kp_lo_bef y (List.getElem?_eq_getElem hr)
      rw [c2] at this
      have := ((h4 r c c1).1).mp this
      omega
    · exact y
    · have hr : kp_lo (cs.map (·.2.2)) K < (cs.map (·.2.2)).length := by omega
      obtain ⟨c, c1, c2⟩ := at_ (List.getElem?_eq_getElem hr)
      have := kp_lo_at (List.getElem?_eq_getElem hr)
      rw [c2] at this
      exact absurd (((h4 _ c c1).1).mpr y) this
  refine ⟨e, ?_⟩
  unfold kp_hi
  rw [← e]
  by_cases z : kp_is (cs.map (·.2.2)) K = true
  · rw [if_pos z]
    obtain ⟨v, hv⟩ := kp_is_iff.mp z
    obtain ⟨c, c1, c2⟩ := at_ hv
    rw [← e] at c1
    have := ((h4 r c c1).2).mp (by rw [← c2]; have := kp_c_self K; simp only; omega)
    omega
  · rw [if_neg z]
    by_cases y : r' = r + 1
    · exfalso
      have hr : r < cs.length := by omega
      have h5 := h4 r _ (List.getElem?_eq_getElem hr)
      have h6 := (h5.2).mpr (by omega)
      have h7 : ¬ kp_c (cs[r].2.2.1) K < 0 := fun q => by have := (h5.1).mp q; omega
      have h8 := kp_c_eq (a := cs[r].2.2.1) (b := K) (by omega)
      refine z (kp_is_iff.mpr ⟨cs[r].2.2.2, ?_⟩)
      rw [← e, List.getElem?_map, List.getElem?_eq_getElem hr]
      show some cs[r].2.2 = _
      rw [← h8]
    · omega
/-- the tree t, opened, and the path to a KEY -/
def kp_found (B : Nat → UInt8) (A : kp_A) (t : Nat) (l : List kp_KV) (K : List UInt8) (R : Nat → UInt8) (len : Nat) (pn ps : Nat → Nat) (tp : Nat → Nat) (SS : Nat → Nat → List kp_N) (cc : Nat → List kp_C) (fl : List Nat) (u : Nat) (nu : Nat → Nat) (xs : List Nat) : Prop :=
  kp_rest B A t tp SS cc ∧ kp_wh B t (tp t) (SS t) (cc t) fl u (kp_ex t tp SS cc) ∧ (cc t).map (·.2.2) = l ∧ kv_ents B t = l.length ∧ tp t ≤ 3 ∧ kv_level B (kv_root B t) = tp t ∧ kp_path (SS t) (tp t) (kv_desc B R len t pn ps).1 (kv_desc B R len t pn ps).2 nu ∧ (SS t 0)[nu 0]? = some ((kv_desc B R len t pn ps).1 0, xs) ∧ (kv_desc B R len t pn ps).2 0 ≤ xs.length ∧ kp_off (SS t 0) (nu 0) + (kv_desc B R len t pn ps).2 0 = kp_lo l K ∧ (kp_is l K = true → (kv_desc B R len t pn ps).2 0 < xs.length) ∧
  u = fl.length + kp_ln (tp t) (SS t) (cc t) + kp_sumx t (fun s => kp_ln (tp s) (SS s) (cc s)) 64 ∧ 102 * kp_sumx t (fun s => kp_ln (tp s) (SS s) (cc s)) 64 ≤ 7 * kp_sumx t (fun s => kp_szO (A s)) 64 + 6528 ∧ kv_num B 6 = kp_cntA A ∧ kv_num B 8 = kp_sizeA A ∧ kp_okA A ∧ kp_sizeA A = kp_szl l + kp_sumx t (fun s => kp_szO (A s)) 64 ∧ 6 * kp_ln (tp t) (SS t) (cc t) ≤ (cc t).length + 6 + 6 * ((cc t).flatMap (·.2.1)).length ∧ (∀ q, 1 ≤ kp_ex t tp SS cc q → 9 ≤ q) ∧ kp_one B t (tp t) (SS t) (cc t) (some l)
theorem kp_findT {B : Nat → UInt8} {A : kp_A} (h : kp_inv B A) {t : Nat} (ht : t < 64) {l : List kp_KV} (hA : A t = some l) {R : Nat → UInt8} {len : Nat} {K : List UInt8} (hR : kp_row R len K) (hlen : len ≤ 8448) (pn ps : Nat → Nat) :
    (∃ tp SS cc fl u nu xs, kp_found B A t l K R len pn ps tp SS cc fl u nu xs ∧ kv_look B R len t pn ps = (if kp_is l K = true then (((cc t)[kp_lo l K]?).map (·.1)).getD 0 else 0) ∧ ∀ after, kv_first B R len t after pn ps = (((cc t)[if after = true then kp_hi l K else kp_lo l K]?).map (·.1)).getD 0) := by
  obtain ⟨tp, SS, cc, fl, u, h1, h2, h3, h4, h5, h6, h7, h8, h9, h10⟩ := kp_open h ht
  rw [hA] at h2 h10
  have hkv := h9.1 t l ht hA
  obtain ⟨q1, q2, q3, q4⟩ := kp_one_17 h2 hkv
  obtain ⟨⟨a1, a2, a3, ⟨ys, a4, a5⟩, a6⟩, b, c⟩ := id h2
  have hu := h3.2.2.2.2.1
  have hsz : kp_szl l ≤ 36864 := by
    have := h9.2
    have e : kp_szO (some l) = kp_szl l := rfl
    omega
  have hcl : (cc t).length ≤ 2168 := by omega
  have htop := kp_deep a3 a6 a4 a5 hcl
  have hon : kp_on B (tp t) (SS t) (cc t) fl u (kp_ex t tp SS cc) := ⟨h3, h4, a1, a2⟩
  obtain ⟨r, r', hrk⟩ := kp_rk_ex K q3
  obtain ⟨e1, e2⟩ := kp_lo_rk hrk q3
  rw [b] at e1 e2
  have hse : kp_se B R len (tp t) (SS t) (cc t) K r r' := ⟨kp_fo_iff.mpr ⟨a3, a1, a2⟩, by omega, fun h0 j hj n hn => by
      by_cases z : j < tp t
      · have := a6 j z n hn
        intro y; rw [y] at this; simp at this
      · have : j = tp t := by omega
        subst this
        rw [a4] at hn
        rw [List.mem_singleton.mp hn]
        have := a5 h0
        show ys ≠ []
        intro y; rw [y] at this; simp at this, hR, hlen, fun c hc q hq => by have := kp_on_page hon (kp_ct_chain hc hq); omega, hrk⟩
  obtain ⟨nu, n1, n2, n3, n4, n5, n6, ⟨m, n7, n8⟩, n9⟩ := kp_desc hse a4 pn ps
  obtain ⟨xs, x1⟩ := kp_path_0 n2
  rw [x1] at n7
  have em : m = ((kv_desc B R len t pn ps).1 0, xs) := (Option.some.inj n7).symm
  subst em
  have hof := kp_off_s x1
  simp only at hof n8
  have hlev := kp_nd_level (a1 (tp t) (Nat.le_refl _) (kv_root B t, ys) (by rw [a4]; simp)) (by omega)
  refine ⟨tp, SS, cc, fl, u, nu, xs, ⟨h1, ⟨hon, a3, ⟨ys, a4, a5⟩, a6⟩, b, c, htop, hlev, n2, x1, n8, by rw [n6, e1], fun hi => ?_, h5, h6, h7, h8, h9, h10, kp_ln_le a3 a6 a4, fun q hq => ?_, h2⟩, ?_, fun after => ?_⟩
  · have : r' = r + 1 := by rw [e1, e2]; unfold kp_hi; rw [if_pos hi]
    omega
  · have := h4 q
    exact (kp_ind_in (u := u) (q := q) (by omega)).1
  · rw [kp_look hse a4 pn ps, e1, e2]
    unfold kp_hi
    by_cases z : kp_is l K = true
    · rw [if_pos z, if_pos z, if_pos (by omega)]
    · rw [if_neg z, if_neg z, if_neg (by omega)]
  · rw [kp_first hse a4 after pn ps, e1, e2]
