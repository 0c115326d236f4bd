/-! PURE, tenth: looking for a KEY -/
def kp_sorted (cs : List kp_C) : Prop := cs.Pairwise (fun a b => kp_c a.2.2.1 b.2.2.1 < 0)
/-- r chains have a KEY before K, r' before or at it -/
def kp_rk (cs : List kp_C) (K : List UInt8) (r r' : Nat) : Prop := r ≤ r' ∧ r' ≤ r + 1 ∧ r' ≤ cs.length ∧ ∀ (x : Nat) (c : kp_C), cs[x]? = some c → ((kp_c c.2.2.1 K < 0 ↔ x < r) ∧ (kp_c c.2.2.1 K ≤ 0 ↔ x < r'))
theorem kp_rk_ex : ∀ {cs : List kp_C} (K : List UInt8), kp_sorted cs → ∃ r r', kp_rk cs K r r'
  | [], K, _ => ⟨0, 0, Nat.le_refl _, by omega, Nat.le_refl _, fun x c h => by simp at h⟩
  | c :: cs, K, h => by
    have h1 := List.pairwise_cons.mp h
    obtain ⟨r, r', g1, g2, g3, g4⟩ := kp_rk_ex K h1.2
    rcases kp_c_tri c.2.2.1 K with z | z | z
    · -- before
      refine ⟨r + 1, r' + 1, by omega, by omega, by simp; omega, fun x d hd => ?_⟩
      cases x with
      | zero =>
        have : c = d := by simpa using hd
        subst this
        exact ⟨⟨fun _ => by omega, fun _ => z⟩, ⟨fun _ => by omega, fun _ => by omega⟩⟩
      | succ x =>
        have := g4 x d (by simpa using hd)
        exact ⟨⟨fun y => by have := this.1.mp y; omega, fun y => this.1.mpr (by omega)⟩, ⟨fun y => by have := this.2.mp y; omega, fun y => this.2.mpr (by omega)⟩⟩
    · -- at
      subst z
      have hr : ∀ (x : Nat) (d : kp_C), cs[x]? = some d → 0 < kp_c d.2.2.1 c.2.2.1 := by
        intro x d hd
        have := h1.1 d (List.mem_of_getElem? hd)
        rw [kp_c_neg c.2.2.1 d.2.2.1]
        omega
      refine ⟨0, 1, by omega, by omega, by simp, fun x d hd => ?_⟩
      cases x with
      | zero =>
        have : c = d := by simpa using hd
        subst this
        rw [kp_c_self]
        exact ⟨⟨fun y => by omega, fun y => by omega⟩, ⟨fun _ => by omega, fun _ => by omega⟩⟩
      | succ x =>
        have := hr x d (by simpa using hd)
        exact ⟨⟨fun y => by omega, fun y => by omega⟩, ⟨fun _ => by omega, fun _ => by omega⟩⟩
    · -- behind
      refine ⟨0, 0, by omega, by omega, by omega, fun x d hd => ?_⟩
      have hpos : 0 < kp_c d.2.2.1 K := by
        cases x with
        | zero =>
          have : c = d := by simpa using hd
          subst this
          rw [kp_c_neg K c.2.2.1]
          omega
        | succ x =>
          have h2 := h1.1 d (List.mem_of_getElem? (show cs[x]? = some d by simpa using hd))
          have h3 := kp_c_trans z h2
          rw [kp_c_neg K d.2.2.1]
          omega
      exact ⟨⟨fun y => by omega, fun y => by omega⟩, ⟨fun _ => by omega, fun _ => by omega⟩⟩
/-- halving -/
theorem kp_rankL {B R : Nat → UInt8} {len p lv : Nat} {orAt : Bool} {n rho : Nat} (hP : ∀ t, t < n → ((0 < kv_cmp B R len (kv_least B lv (kv_slot B p t)) ∨ (kv_cmp B R len (kv_least B lv (kv_slot B p t)) = 0 ∧ orAt = true)) ↔ t < rho)) :
    ∀ (f lo hi : Nat), hi ≤ lo + f → lo ≤ rho → rho ≤ hi → hi ≤ n → kv_rankL B R len p lv orAt f lo hi = rho
  | 0, lo, hi, h1, h2, h3, h4 => by rw [kv_rankL]; omega
  | f + 1, lo, hi, h1, h2, h3, h4 => by
    rw [kv_rankL]
    by_cases z : lo < hi
    · rw [if_pos z]
      by_cases y : (lo + hi) / 2 < rho
      · rw [if_pos ((hP _ (by omega)).mpr y)]
        exact kp_rankL hP f _ hi (by omega) (by omega) h3 h4
      · rw [if_neg (fun w => y ((hP _ (by omega)).mp w))]
        exact kp_rankL hP f lo _ (by omega) h2 (by omega) (by omega)
    · rw [if_neg z]; omega
/-- what is given for a search: levels, chains, a row -/
def kp_se (B R : Nat → UInt8) (len top : Nat) (S : Nat → List kp_N) (cs : List kp_C) (K : List UInt8) (r r' : Nat) : Prop :=
  kp_fo B top S cs ∧ top ≤ 4 ∧ (0 < top → ∀ j, j ≤ top → ∀ n ∈ S j, n.2 ≠ []) ∧ kp_row R len K ∧ len ≤ 8448 ∧ (∀ c ∈ cs, ∀ q ∈ c.2.1, q < 2720) ∧ kp_rk cs K r r'
/-- Trees.rank: how many slots of node v of level j begin before the KEY (or at it) -/
theorem kp_rank {B R : Nat → UInt8} {len top : Nat} {S : Nat → List kp_N} {cs : List kp_C} {K : List UInt8} {r r' : Nat} (h : kp_se B R len top S cs K r r') {j v : Nat} {n : kp_N} (hj : j ≤ top) (hv : (S j)[v]? = some n) (orAt : Bool) :
    ∃ rho, kv_rank B R len n.1 orAt = rho ∧ rho ≤ n.2.length ∧ ∀ t, t < n.2.length → (t < rho ↔ kp_ld S j (kp_off (S j) v + t) < (if orAt = true then r' else r)) := by
  obtain ⟨hfo, htop, hne, hrow, hlen, hpg, hrk⟩ := h
  have hmem := List.mem_of_getElem? hv
  have hnd := hfo.2.2.1 j hj n hmem
  have hvl : v < (S j).length := (List.getElem?_eq_some_iff.mp hv).1
  -- slot t leads to chain ld
  have hch : ∀ t, t < n.2.length → ∃ c, cs[kp_ld S j (kp_off (S j) v + t)]? = some c ∧ c.1 = kv_least B j (kv_slot B n.1 t) := by
    intro t ht
    have h1 := kp_slot_it hfo hj hv ht
    have h2 := kp_least hfo (j := j) (fun m hm => hne (by omega) m (by omega)) (by omega) h1.symm
    rw [Option.map_eq_some_iff] at h2
    exact h2
  have hmono : ∀ t u, t < u → u < n.2.length → kp_ld S j (kp_off (S j) v + t) < kp_ld S j (kp_off (S j) v + u) := by
    intro t u htu hu
    refine kp_ld_smono hfo (fun m hm => hne (by omega) m (by omega)) (by omega) (by omega) ?_
    have h1 := kp_off_s hv
    have h2 := kp_off_mono (S j) (v := v + 1) (w := (S j).length) (by omega)
    rw [kp_off_len _ (Nat.le_refl _), kp_fl_len hfo hj] at h2
    omega
  generalize hb : (if orAt = true then r' else r) = b
  -- the least t that isn't before b
  have hex : ∃ rho, rho ≤ n.2.length ∧ ∀ t, t < n.2.length → (t < rho ↔ kp_ld S j (kp_off (S j) v + t) < b) := by
    have gen : ∀ m, m ≤ n.2.length → ∃ rho, rho ≤ m ∧ ∀ t, t < m → (t < rho ↔ kp_ld S j (kp_off (S j) v + t) < b) := by
      intro m
      induction m with
      | zero => intro _; exact ⟨0, Nat.le_refl _, fun t ht => by omega⟩
      | succ m ih =>
        intro hm
        obtain ⟨rho, q1, q2⟩ := ih (by omega)
        by_cases z : kp_ld S j (kp_off (S j) v + m) < b
        · refine ⟨m + 1, Nat.le_refl _, fun t ht => ⟨fun _ => ?_, fun _ => ht⟩⟩
          by_cases y : t = m
          · subst y; exact z
          · have := hmono t m (by omega) (by omega)
            omega
        · refine ⟨rho, by omega, fun t ht => ?_⟩
          by_cases y : t = m
          · subst y
            exact ⟨fun w => by omega, fun w => absurd w z⟩
          · exact q2 t (by omega)
    exact gen _ (Nat.le_refl _)
  obtain ⟨rho, q1, q2⟩ := hex
  refine ⟨rho, ?_, q1, q2⟩
  unfold kv_rank
  rw [kp_nd_level hnd (by omega), kp_nd_count hnd]
  refine kp_rankL (n := n.2.length) (fun t ht => ?_) 14 0 n.2.length (by have := hnd.2.2.1; omega) (by omega) q1 (Nat.le_refl _)
  rw [q2 t ht]
  obtain ⟨c, c1, c2⟩ := hch t ht
  rw [← c2]
  have hcm := List.mem_of_getElem? c1
  have hsg := kp_cmp (hfo.2.2.2 c hcm) hrow (hpg c hcm) hlen
  have hpos := kp_sg_pos hsg
  have hrkc := hrk.2.2.2 _ c c1
  have hneg := kp_c_neg K c.2.2.1
  have s2 := hsg.2
  cases orAt with
  | true =>
    rw [if_pos rfl] at hb
    subst hb
    constructor
    · rintro (z | ⟨z, -⟩)
      · exact hrkc.2.mp (by have := hpos.mp z; omega)
      · exact hrkc.2.mp (by have := s2.mp z; omega)
    · intro z
      have := hrkc.2.mpr z
      by_cases y : kp_c K c.2.2.1 = 0
      · exact Or.inr ⟨s2.mpr y, rfl⟩
      · exact Or.inl (hpos.mpr (by omega))
  | false =>
    rw [if_neg (by simp)] at hb
    subst hb
    constructor
    · rintro (z | ⟨-, z⟩)
      · exact hrkc.1.mp (by have := hpos.mp z; omega)
      · cases z
    · intro z
      have := hrkc.1.mpr z
      exact Or.inl (hpos.mpr (by omega))
/-- a path: nu j is the place in level j of the node on it -/
def kp_path (S : Nat → List kp_N) (l : Nat) (pn ps nu : Nat → Nat) : Prop :=
  (∀ j, j ≤ l → ((S j)[nu j]?).map (·.1) = some (pn j)) ∧ ∀ j, j < l → nu j = kp_off (S (j + 1)) (nu (j + 1)) + ps (j + 1) ∧ ∃ n, (S (j + 1))[nu (j + 1)]? = some n ∧ ps (j + 1) < n.2.length
/-- Trees.descend, from node v of level l -/
theorem kp_desL {B R : Nat → UInt8} {len top : Nat} {S : Nat → List kp_N} {cs : List kp_C} {K : List UInt8} {r r' : Nat} (h : kp_se B R len top S cs K r r') :
    ∀ (l v : Nat) (n : kp_N) (pn ps : Nat → Nat), l ≤ top → (S l)[v]? = some n → (v = 0 ∨ kp_ld S (l + 1) v < r') → r' ≤ kp_ld S (l + 1) (v + 1) →
      ∃ nu : Nat → Nat, nu l = v ∧ kp_path S l (kv_desL B R len l n.1 pn ps).1 (kv_desL B R len l n.1 pn ps).2 nu ∧ (∀ j, l < j → (kv_desL B R len l n.1 pn ps).1 j = pn j ∧ (kv_desL B R len l n.1 pn ps).2 j = ps j) ∧
        (nu 0 = 0 ∨ kp_off (S 0) (nu 0) < r') ∧ r' ≤ kp_off (S 0) (nu 0 + 1) ∧ kp_off (S 0) (nu 0) + (kv_desL B R len l n.1 pn ps).2 0 = r ∧ (∃ m, (S 0)[nu 0]? = some m ∧ (kv_desL B R len l n.1 pn ps).2 0 ≤ m.2.length) ∧ (∀ j, j ≤ l → (nu j = 0 ∨ kp_ld S (j + 1) (nu j) < r') ∧ r' ≤ kp_ld S (j + 1) (nu j + 1))
  | 0, v, n, pn, ps, hl, hv, h1, h2 => by
    have hrk := h.2.2.2.2.2.2
    obtain ⟨rho, e, hrho, hP⟩ := kp_rank h (by omega) hv false
    have hs := kp_off_s hv
    have h1' : v = 0 ∨ kp_off (S 0) v < r' := h1
    have h2' : r' ≤ kp_off (S 0) (v + 1) := h2
    have hle : kp_off (S 0) v ≤ r := by
      rcases h1' with z | z
      · subst z; rw [kp_off_0]; omega
      · have := hrk.2.1; omega
    have hr : kp_off (S 0) v + rho = r := by
      have hge : r ≤ kp_off (S 0) v + n.2.length := by have := hrk.1; omega
      rcases Nat.lt_trichotomy (kp_off (S 0) v + rho) r with z | z | z
      · have := (hP rho (by omega)).mpr (by rw [if_neg (by simp)]; exact z)
        omega
      · exact z
      · have := (hP (rho - 1) (by omega)).mp (by omega)
        rw [if_neg (by simp)] at this
        have : kp_off (S 0) v + (rho - 1) < r := this
        omega
    refine ⟨fun _ => v, rfl, ⟨fun j hj => ?_, fun j hj => by omega⟩, fun j hj => ?_, h1', h2', ?_, ⟨n, hv, ?_⟩, fun j hj => ?_⟩
    · have : j = 0 := by omega
      subst this
      rw [hv]
      simp [kv_desL, va_up]
    · simp [kv_desL, va_up, show j ≠ 0 by omega]
    · simp [kv_desL, va_up, e]; exact hr
    · simp [kv_desL, va_up, e]; exact hrho
    · have : j = 0 := by omega
      subst this
      exact ⟨h1, h2⟩
  | l + 1, v, n, pn, ps, hl, hv, h1, h2 => by
    have hfo := h.1
    have hne := h.2.2.1 (by omega)
    obtain ⟨rho, e, hrho, hP⟩ := kp_rank h (by omega) hv true
    have hs := kp_off_s hv
    have hlen : 0 < n.2.length := List.length_pos_iff.mpr (hne (l + 1) hl n (List.mem_of_getElem? hv))
    have hsl : rho - 1 < n.2.length := by omega
    have hit := kp_slot_it hfo hl hv hsl
    have hit2 : ((S l)[kp_off (S (l + 1)) v + (rho - 1)]?).map (·.1) = some (kv_slot B n.1 (rho - 1)) := hit.symm
    rw [Option.map_eq_some_iff] at hit2
    obtain ⟨n2, hn2, hn2e⟩ := hit2
    -- the next node
    have a1 : kp_off (S (l + 1)) v + (rho - 1) = 0 ∨ kp_ld S (l + 1) (kp_off (S (l + 1)) v + (rho - 1)) < r' := by
      by_cases z : rho = 0
      · rcases h1 with y | y
        · left
          subst y
          rw [kp_off_0]
          omega
        · have hh : kp_ld S (l + 1 + 1) v = kp_ld S (l + 1) (kp_off (S (l + 1)) v) := rfl
          have := (hP 0 hlen).mpr (by rw [if_pos rfl]; exact y)
          omega
      · right
        have := (hP (rho - 1) hsl).mp (by omega)
        rw [if_pos rfl] at this
        exact this
    have a2 : r' ≤ kp_ld S (l + 1) (kp_off (S (l + 1)) v + (rho - 1) + 1) := by
      by_cases z : rho - 1 + 1 < n.2.length
      · have h3 : ¬ kp_ld S (l + 1) (kp_off (S (l + 1)) v + (rho - 1 + 1)) < r' := by
          intro y
          have := (hP (rho - 1 + 1) z).mpr (by rw [if_pos rfl]; exact y)
          omega
        rw [← Nat.add_assoc] at h3
        omega
      · have e3 : kp_off (S (l + 1)) v + (rho - 1) + 1 = kp_off (S (l + 1)) (v + 1) := by omega
        rw [e3]
        exact h2
    have hstep : kv_desL B R len (l + 1) n.1 pn ps = kv_desL B R len l n2.1 (va_up pn (l + 1) n.1) (va_up ps (l + 1) (rho - 1)) := by
      rw [kv_desL, e, hn2e]
    rw [hstep]
    obtain ⟨nu, g1, ⟨g2, g3⟩, g4, g5, g6, g7, g8, g9⟩ := kp_desL h l _ n2 (va_up pn (l + 1) n.1) (va_up ps (l + 1) (rho - 1)) (by omega) hn2 a1 a2
    have hup := g4 (l + 1) (by omega)
    have u1 : (kv_desL B R len l n2.1 (va_up pn (l + 1) n.1) (va_up ps (l + 1) (rho - 1))).1 (l + 1) = n.1 := by rw [hup.1]; simp [va_up]
    have u2 : (kv_desL B R len l n2.1 (va_up pn (l + 1) n.1) (va_up ps (l + 1) (rho - 1))).2 (l + 1) = rho - 1 := by rw [hup.2]; simp [va_up]
    have nv : ∀ j, j ≤ l → (va_up nu (l + 1) v) j = nu j := fun j hj => by simp [va_up, show j ≠ l + 1 by omega]
    have nl : (va_up nu (l + 1) v) (l + 1) = v := by simp [va_up]
    refine ⟨va_up nu (l + 1) v, nl, ⟨fun j hj => ?_, fun j hj => ?_⟩, fun j hj => ?_, ?_, ?_, ?_, ?_, fun j hj => ?_⟩
    · by_cases z : j = l + 1
      · subst z; rw [nl, hv, u1]; rfl
      · rw [nv j (by omega)]; exact g2 j (by omega)
    · by_cases z : j = l
      · subst z
        rw [nv j (by omega), nl, u2]
        exact ⟨g1, n, hv, hsl⟩
      · rw [nv j (by omega), nv (j + 1) (by omega)]
        exact g3 j (by omega)
    · have := g4 j (by omega)
      rw [this.1, this.2]
      simp [va_up, show j ≠ l + 1 by omega]
    · rw [nv 0 (by omega)]; exact g5
    · rw [nv 0 (by omega)]; exact g6
    · rw [nv 0 (by omega)]; exact g7
    · rw [nv 0 (by omega)]; exact g8
    · by_cases z : j = l + 1
      · subst z; rw [nl]; exact ⟨h1, h2⟩
      · rw [nv j (by omega)]; exact g9 j (by omega)
