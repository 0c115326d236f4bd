/-! PURE, the 28th: the checker finds nothing wrong -/
theorem kp_cn_mem {f : Nat → List Nat} {q : Nat} : ∀ {n : Nat}, 1 ≤ kp_cn f q n → ∃ j, j < n ∧ q ∈ f j
  | 0, h => by simp [kp_cn] at h
  | n + 1, h => by
    rw [kp_cn] at h
    by_cases z : 1 ≤ kp_cn f q n
    · obtain ⟨j, hj, h2⟩ := kp_cn_mem z
      exact ⟨j, by omega, h2⟩
    · exact ⟨n, by omega, List.count_pos_iff.mp (by omega)⟩
theorem kp_sum_mem {f : Nat → Nat} : ∀ {n : Nat}, 1 ≤ kp_sum f n → ∃ j, j < n ∧ 1 ≤ f j
  | 0, h => by simp [kp_sum] at h
  | n + 1, h => by
    rw [kp_sum] at h
    by_cases z : 1 ≤ kp_sum f n
    · obtain ⟨j, hj, h2⟩ := kp_sum_mem z
      exact ⟨j, by omega, h2⟩
    · exact ⟨n, by omega, by omega⟩
theorem kp_sum_ge {f : Nat → Nat} {n s : Nat} (h : s < n) : f s ≤ kp_sum f n := by rw [kp_sum_x h]; omega
theorem kp_ct_iff {top : Nat} {S : Nat → List kp_N} {cs : List kp_C} {q : Nat} : 1 ≤ kp_ct top S cs q ↔ (∃ j, j ≤ top ∧ q ∈ (S j).map (·.1)) ∨ q ∈ cs.flatMap (·.2.1) := by
  constructor
  · intro h
    unfold kp_ct at h
    by_cases z : 1 ≤ (cs.flatMap (·.2.1)).count q
    · exact .inr (List.count_pos_iff.mp z)
    · obtain ⟨j, hj, h2⟩ := kp_cn_mem (f := fun j => (S j).map (·.1)) (q := q) (n := top + 1) (by omega)
      exact .inl ⟨j, by omega, h2⟩
  · rintro (⟨j, hj, h⟩ | h)
    · obtain ⟨n, n1, n2⟩ := List.mem_map.mp h
      rw [← n2]; exact kp_ct_node hj n1
    · obtain ⟨c, c1, c2⟩ := List.mem_flatMap.mp h
      exact kp_ct_chain c1 c2
theorem kx_allL_0 {Cl : Nat → Bool} : ∀ (f p w : Nat), (∀ q, p ≤ q → q < p + f → Cl q = true) → kx_allL Cl f p w = w
  | 0, _, _, _ => rfl
  | f + 1, p, w, h => by
    rw [kx_allL, kx_exp_t (h p (Nat.le_refl _) (by omega))]
    exact kx_allL_0 f (p + 1) w (fun q h1 h2 => h q (by omega) (by omega))
theorem kp_all_off {S : Nat → List kp_N} {cs : List kp_C} {top : Nat} {d : Nat → Nat} (hlev : kp_lev S cs top) (ha : kp_al S top d) (h1 : d (top + 1) = (S top).length) : ∀ k, k ≤ top + 1 → d (top + 1 - k) = (kp_its S cs (top + 1 - k)).length := by
  intro k
  induction k with
  | zero => intro _; rw [Nat.sub_zero, h1]; show _ = ((S top).map (·.1)).length; rw [List.length_map]
  | succ k ih =>
    intro hk
    have e := ih (by omega)
    have e2 := ha (top + 1 - (k + 1)) (by omega)
    rw [show top + 1 - (k + 1) + 1 = top + 1 - k by omega, e] at e2
    rw [e2, ← hlev (top + 1 - (k + 1)) (by omega)]
    refine kp_off_len _ ?_
    rw [show top + 1 - k = (top + 1 - (k + 1)) + 1 by omega]
    show _ ≤ ((S (top + 1 - (k + 1))).map (·.1)).length
    rw [List.length_map]; exact Nat.le_refl _
/-- a whole tree is walked -/
theorem kp_walkT {B : Nat → UInt8} {t top : Nat} {S : Nat → List kp_N} {cs : List kp_C} {fl : List Nat} {u : Nat} {ex : Nat → Nat} {D : Nat → Prop} (h : kp_wk B t top S cs fl u ex D) {X : kx_X} (h1 : kp_cld X.1.1 D) (h2 : X.1.2 = 0) :
    kp_cld (kx_walk B t top (kv_root B t) (kx_t0 X)).1.1 (fun q => D q ∨ 1 ≤ kp_ct top S cs q) ∧ (kx_walk B t top (kv_root B t) (kx_t0 X)).1.2 = 0 ∧ (kx_walk B t top (kv_root B t) (kx_t0 X)).2.1.1 = cs.length ∧ (kx_walk B t top (kv_root B t) (kx_t0 X)).2.1.2 = X.2.1.2 + kp_szs cs := by
  obtain ⟨ys, y1, y2⟩ := h.1.2.2.1
  have hlev := h.1.2.1
  have st : kp_cst S cs top D X.2.1.2 (kx_t0 X) (fun _ => 0) := by
    refine ⟨kp_cst_cld (S := S) (cs := cs) (top := top) h1 (fun q => ?_), h2, rfl, ?_, [], ⟨rfl, fun j hj => by simp [kx_t0] at hj⟩, Nat.zero_le _, .inl ⟨rfl, rfl⟩⟩
    · unfold kp_part
      simp
    · rw [List.take_zero, show kp_szs [] = 0 from rfl, Nat.add_zero]; rfl
  obtain ⟨e, r1, r2, r3, r4⟩ := kp_walk h (z := X.2.1.2) top (kx_t0 X) (fun _ => 0) (kv_root B t) ys (Nat.le_refl _) st (fun j _ => (kp_off_0 _).symm) (by rw [y1]; rfl)
  have all := kp_all_off hlev r2 (by rw [r3, y1]; rfl)
  have e0 : e 0 = cs.length := by
    have := all (top + 1) (Nat.le_refl _)
    rw [Nat.sub_self] at this
    rw [this]; simp [kp_its]
  have eS : ∀ j, j ≤ top → e (j + 1) = (S j).length := fun j hj => by
    have := all (top - j) (by omega)
    rw [show top + 1 - (top - j) = j + 1 by omega] at this
    rw [this]; simp [kp_its]
  obtain ⟨x1, x2, x3, x4, x5⟩ := r1
  rw [e0] at x3 x4
  rw [List.take_length] at x4
  refine ⟨kp_cst_cld (S := S) (cs := cs) (top := top) x1 (fun q => ?_), x2, x3, x4⟩
  unfold kp_part
  rw [kp_ct_iff, e0, List.take_length]
  constructor
  · rintro (y | ⟨j, hj, y⟩ | y)
    · exact .inl y
    · exact .inr (.inl ⟨j, hj, by rw [eS j hj, List.take_length]; exact y⟩)
    · exact .inr (.inr y)
  · rintro (y | ⟨j, hj, y⟩ | y)
    · exact .inl y
    · rw [eS j hj, List.take_length] at y; exact .inr (.inl ⟨j, hj, y⟩)
    · exact .inr (.inr y)
theorem kp_has {B : Nat → UInt8} {t top : Nat} {S : Nat → List kp_N} {cs : List kp_C} {o : Option (List kp_KV)} {fl : List Nat} {u : Nat} {ex : Nat → Nat} (ht : t < 64) (h : kp_one B t top S cs o) (hf : kp_fr B fl u) (hc : ∀ q, fl.count q + kp_ct top S cs q + ex q = kp_ind u q) : kv_has B t = o.isSome := by
  unfold kv_has
  cases o with
  | none =>
    rw [h.1]; simp
  | some l =>
    obtain ⟨ys, y1, y2⟩ := h.1.2.2.2.1
    have hm : (kv_root B t, ys) ∈ S top := by rw [y1]; simp
    have := (kp_on_node (fl := fl) (u := u) (ex := ex) ⟨hf, hc, h.1.1, h.1.2.1⟩ (Nat.le_refl _) hm).1
    simp only at this
    simp [ht]; omega
theorem kp_fau {B : Nat → UInt8} {A : kp_A} (h : kp_inv B A) (X : kx_X) : kx_w B (kx_fau B X) = 0 ∧ (kx_fau B X).2.2.1.2 = kp_sizeA A := by
  obtain ⟨tp, SS, cc, fl, u, h1, h2, h3, h4, h5, h6⟩ := h
  have hu := h1.2.2.2.2.1
  have hus := kp_fr_used h1
  have hnd : fl.Nodup := List.nodup_iff_count.mpr (fun q => by have := h2 q; have := kp_ind_le u q; omega)
  have hfl : fl.length ≤ u := kp_len_le u fl hnd h1.2.2.2.2.2
  -- the free ones
  obtain ⟨Cl0, c1, c2⟩ := kp_ccL (B := B) (w := 0) fl 2720 0 (kv_clr X.1.1 2720) (fun _ => False) (by omega) h1.1 hnd (fun q hq => by
    have := h1.2.2.2.2.2 q hq
    exact ⟨this.1, by rw [hus]; exact this.2, by omega, fun y => y⟩) (fun q hq => by unfold kv_clr; rw [if_pos hq]; simp)
  have f0 : kx_f0 B X.1.1 = (Cl0, 0) := by
    unfold kx_f0 kx_cf kx_cc
    rw [kx_exp_d (show kv_num B 0 = kv_used B by rw [hus]; exact h1.2.2.2.1)]
    rw [h1.2.1, c1]
    simp only
    rw [kx_exp_d (show 0 + fl.length = kv_num B 4 by rw [h1.2.2.1]; omega)]
  have loop : ∀ (f t n : Nat) (Y : kx_X), t + f = 64 → n = kp_sum (fun s => kp_onO (A s)) t → kp_cld Y.1.1 (fun q => q ∈ fl ∨ ∃ s, s < t ∧ 1 ≤ kp_ct (tp s) (SS s) (cc s) q) → Y.1.2 = 0 → Y.2.1.2 = kp_sum (fun s => kp_szO (A s)) t →
      (kx_fauL B f t n Y).1 = kp_cntA A ∧ kp_cld (kx_fauL B f t n Y).2.1.1 (fun q => q ∈ fl ∨ ∃ s, s < 64 ∧ 1 ≤ kp_ct (tp s) (SS s) (cc s) q) ∧ (kx_fauL B f t n Y).2.1.2 = 0 ∧ (kx_fauL B f t n Y).2.2.1.2 = kp_sizeA A := by
    intro f
    induction f with
    | zero =>
      intro t n Y e1 e2 e3 e4 e5
      have : t = 64 := by omega
      subst this
      exact ⟨e2, e3, e4, e5⟩
    | succ f ih =>
      intro t n Y e1 e2 e3 e4 e5
      have ht : t < 64 := by omega
      have hone := h3 t ht
      have hc : ∀ q, fl.count q + kp_ct (tp t) (SS t) (cc t) q + kp_ex t tp SS cc q = kp_ind u q := fun q => by
        have e := h2 q
        rw [kp_sum_x ht] at e
        rw [Nat.add_assoc]; exact e
      have hhas := kp_has ht hone h1 hc
      rw [kx_fauL]
      cases hA : A t with
      | none =>
        rw [hA] at hone hhas
        rw [if_neg (by rw [hhas]; simp)]
        refine ih (t + 1) n _ (by omega) ?_ ?_ ?_ ?_
        · rw [kp_sum, hA]; exact e2
        · refine kp_cst_cld (S := SS t) (cs := cc t) (top := 0) e3 (fun q => ?_)
          obtain ⟨-, -, o3, o4, o5⟩ := hone
          constructor
          · rintro (y | ⟨s, hs, y⟩)
            · exact .inl y
            · by_cases z : s = t
              · subst z
                rw [o3, o4, o5] at y
                have : kp_ct 0 (fun _ => []) [] q = 0 := rfl
                omega
              · exact .inr ⟨s, by omega, y⟩
          · rintro (y | ⟨s, hs, y⟩)
            · exact .inl y
            · exact .inr ⟨s, by omega, y⟩
        · show kx_exp (decide (0 = kv_ents B t)) Y.1.2 = 0
          rw [kx_exp_d hone.2.1.symm]; exact e4
        · rw [kp_sum, hA]; exact e5
      | some l =>
        rw [hA] at hone hhas
        rw [if_pos (by rw [hhas]; rfl)]
        have hkv := h6.1 t l ht hA
        obtain ⟨q1, q2, q3, q4⟩ := kp_one_17 hone hkv
        obtain ⟨⟨a1, a2, a3, ⟨ys, a4, a5⟩, a6⟩, b, c⟩ := id hone
        have hszl : kp_szl l ≤ 36864 := by
          have := h6.2
          have e : kp_szO (A t) ≤ kp_sizeA A := kp_sum_ge (f := fun s => kp_szO (A s)) ht
          rw [hA] at e
          have e' : kp_szO (some l) = kp_szl l := rfl
          omega
        have htop := kp_deep a3 a6 a4 a5 (by omega)
        have hlv := kp_nd_level (a1 (tp t) (Nat.le_refl _) (kv_root B t, ys) (by rw [a4]; simp)) (by omega)
        have hwk : kp_wk B t (tp t) (SS t) (cc t) fl u (kp_ex t tp SS cc) (fun q => q ∈ fl ∨ ∃ s, s < t ∧ 1 ≤ kp_ct (tp s) (SS s) (cc s) q) := by
          refine ⟨⟨⟨h1, hc, a1, a2⟩, a3, ⟨ys, a4, a5⟩, a6⟩, htop, q3, q4, fun q hq => ?_⟩
          have e := hc q
          have e2 := kp_ind_le u q
          rcases hq with y | ⟨s, hs, y⟩
          · have := List.count_pos_iff.mpr y
            omega
          · have : kp_ctA tp SS cc q s ≤ kp_ex t tp SS cc q := kp_sumx_ge (by omega) (by omega)
            have y' : 1 ≤ kp_ctA tp SS cc q s := y
            omega
        obtain ⟨w1, w2, w3, w4⟩ := kp_walkT hwk e3 e4
        rw [hlv]
        have hl17 : l.length = (cc t).length := by rw [← b]; simp
        refine ih (t + 1) (n + 1) _ (by omega) ?_ ?_ ?_ ?_
        · rw [kp_sum, hA, e2]; rfl
        · refine kp_cst_cld (S := SS t) (cs := cc t) (top := 0) w1 (fun q => ?_)
          constructor
          · rintro (y | ⟨s, hs, y⟩)
            · exact .inl (.inl y)
            · by_cases z : s = t
              · subst z; exact .inr y
              · exact .inl (.inr ⟨s, by omega, y⟩)
          · rintro ((y | ⟨s, hs, y⟩) | y)
            · exact .inl y
            · exact .inr ⟨s, by omega, y⟩
            · exact .inr ⟨t, by omega, y⟩
        · show kx_exp (decide ((kx_walk B t (tp t) (kv_root B t) (kx_t0 Y)).2.1.1 = kv_ents B t)) (kx_walk B t (tp t) (kv_root B t) (kx_t0 Y)).1.2 = 0
          rw [kx_exp_d (by rw [w3, c, hl17])]; exact w2
        · show (kx_walk B t (tp t) (kv_root B t) (kx_t0 Y)).2.1.2 = _
          rw [w4, kp_sum, hA, e5, kp_szs_szl, b]; rfl
  obtain ⟨r1, r2, r3, r4⟩ := loop 64 0 0 (kx_f0 B X.1.1, (X.2.1.1, 0), X.2.2) rfl rfl (by
      rw [f0]
      refine kp_cst_cld (S := fun _ => []) (cs := []) (top := 0) c2 (fun q => ?_)
      constructor
      · rintro (y | ⟨s, hs, y⟩)
        · exact .inr y
        · omega
      · rintro (y | y)
        · exact absurd y id
        · exact .inl y) (by rw [f0]) rfl
  refine ⟨?_, r4⟩
  unfold kx_w
  show kx_allL (kx_fauL B 64 0 0 (kx_f0 B X.1.1, (X.2.1.1, 0), X.2.2)).2.1.1 (kv_used B) 9 (kx_exp (decide ((kx_fauL B 64 0 0 (kx_f0 B X.1.1, (X.2.1.1, 0), X.2.2)).2.2.1.2 = kv_num B 8 ∧ (kx_fauL B 64 0 0 (kx_f0 B X.1.1, (X.2.1.1, 0), X.2.2)).2.2.1.2 ≤ 36864)) (kx_exp (decide ((kx_fauL B 64 0 0 (kx_f0 B X.1.1, (X.2.1.1, 0), X.2.2)).1 = kv_num B 6)) (kx_fauL B 64 0 0 (kx_f0 B X.1.1, (X.2.1.1, 0), X.2.2)).2.1.2)) = 0
  rw [kx_exp_d ⟨by rw [r4, h5], by rw [r4]; exact h6.2⟩, kx_exp_d (by rw [r1, h4]), r3]
  refine kx_allL_0 _ _ _ (fun q hq1 hq2 => (r2 q (by omega)).mpr ?_)
  have e := h2 q
  have ei : kp_ind u q = 1 := by unfold kp_ind; rw [if_pos ⟨hq1, by omega⟩]
  by_cases y : q ∈ fl
  · exact .inl y
  · rw [List.count_eq_zero.mpr y] at e
    obtain ⟨s, hs, hs2⟩ := kp_sum_mem (f := kp_ctA tp SS cc q) (n := 64) (by omega)
    exact .inr ⟨s, hs, hs2⟩
