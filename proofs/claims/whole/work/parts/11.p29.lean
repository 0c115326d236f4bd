/-! PURE, the 29th: which pages are said to have changed -/
/-- what is not said to have changed has not; K pages at most are new, and said to have changed -/
def kp_fg (M M' : kv_M) : Prop := (∀ q, M.2 q = true → M'.2 q = true) ∧ ∀ q, M'.2 q = false → kp_pg M.1 M'.1 q
def kp_fu (M M' : kv_M) (K : Nat) : Prop := kp_fg M M' ∧ ∃ k, k ≤ K ∧ kv_num M'.1 0 = (kv_num M.1 0 + k) % 65536 ∧ ∀ j, j < k → kv_num M.1 0 + j < 2711 → M'.2 (9 + (kv_num M.1 0 + j)) = true
theorem kp_fg_refl (M : kv_M) : kp_fg M M := ⟨fun _ h => h, fun q _ => kp_pg_refl _ _⟩
theorem kp_fg_trans {M M' M'' : kv_M} (h : kp_fg M M') (h2 : kp_fg M' M'') : kp_fg M M'' := by
  refine ⟨fun q hq => h2.1 q (h.1 q hq), fun q hq => kp_pg_trans (h.2 q ?_) (h2.2 q hq)⟩
  cases z : M'.2 q with
  | false => rfl
  | true => rw [h2.1 q z] at hq; simp at hq
theorem kp_fu_refl (M : kv_M) (K : Nat) : kp_fu M M K := ⟨kp_fg_refl M, 0, Nat.zero_le _, by have := kv_num_lt M.1 0; omega, fun j hj => by omega⟩
theorem kp_fu_mono {M M' : kv_M} {K K' : Nat} (h : kp_fu M M' K) (hk : K ≤ K') : kp_fu M M' K' := by
  obtain ⟨h1, k, h2, h3, h4⟩ := h
  exact ⟨h1, k, by omega, h3, h4⟩
theorem kp_fu_trans {M M' M'' : kv_M} {K K' : Nat} (h : kp_fu M M' K) (h2 : kp_fu M' M'' K') : kp_fu M M'' (K + K') := by
  obtain ⟨a1, k, a2, a3, a4⟩ := h
  obtain ⟨b1, k2, b2, b3, b4⟩ := h2
  refine ⟨kp_fg_trans a1 b1, k + k2, by omega, by rw [b3, a3]; omega, fun j hj hl => ?_⟩
  by_cases z : j < k
  · exact b1.1 _ (a4 j z hl)
  · have e := b4 (j - k) (by omega) (by rw [a3]; omega)
    rw [a3] at e
    rw [show 9 + (kv_num M.1 0 + j) = 9 + ((kv_num M.1 0 + k) % 65536 + (j - k)) by omega]
    exact e
theorem kp_fg_setN {M : kv_M} {a n : Nat} (ha : a % 2 = 0) : kp_fg M (kv_setN M a n) := by
  unfold kv_setN
  split
  · rename_i hr
    refine ⟨fun q hq => ?_, fun q hq i hi => ?_⟩
    · show va_up M.2 (a / 32) true q = true
      by_cases z : q = a / 32
      · subst z; exact va_up_self _ _ _
      · rw [va_up_ne _ _ z]; exact hq
    · have hne : q ≠ a / 32 := fun z => by
        subst z
        have : va_up M.2 (a / 32) true (a / 32) = false := hq
        rw [va_up_self] at this; simp at this
      show va_up (va_up M.1 a _) (a + 1) _ (q * 32 + i) = _
      rw [va_up_ne _ _ (by omega), va_up_ne _ _ (by omega)]
  · exact kp_fg_refl M
theorem kp_fu_of {M M' : kv_M} (h : kp_fg M M') (h0 : kv_num M'.1 0 = kv_num M.1 0) (K : Nat) : kp_fu M M' K := ⟨h, 0, Nat.zero_le _, by rw [h0]; have := kv_num_lt M.1 0; omega, fun j hj => by omega⟩
theorem kv_num0_setN {M : kv_M} {a n : Nat} (h : 2 ≤ a) : kv_num (kv_setN M a n).1 0 = kv_num M.1 0 := by
  unfold kv_num
  rw [if_pos (by omega), if_pos (by omega), kv_setN_at (by omega) (by omega), kv_setN_at (by omega) (by omega)]
theorem kp_fu_setN {M : kv_M} {a n K : Nat} (ha : a % 2 = 0) (h2 : 2 ≤ a) : kp_fu M (kv_setN M a n) K := kp_fu_of (kp_fg_setN ha) (kv_num0_setN h2) K
theorem kp_fu_addTo {M : kv_M} {a n K : Nat} (ha : a % 2 = 0) (h2 : 2 ≤ a) : kp_fu M (kv_addTo M a n) K := kp_fu_setN ha h2
theorem kv_setN_flag {M : kv_M} {a n q : Nat} (hr : a ≤ 87038) (hq : q = a / 32) : (kv_setN M a n).2 q = true := by
  unfold kv_setN
  rw [if_pos hr, hq]; exact va_up_self _ _ _
theorem kp_fu_newP {M : kv_M} : kp_fu M (kv_newP M).2 1 := by
  have key : ∀ p : Nat, p ≠ 0 → ∀ M1 : kv_M, kp_fu M1 (kv_setN (kv_setN M1 (p * 32) 0) (p * 32 + 2) 0) 0 := fun p hp M1 => kp_fu_trans (kp_fu_setN (K := 0) (by omega) (by omega)) (kp_fu_setN (K := 0) (by omega) (by omega))
  unfold kv_newP kv_takeP
  by_cases z : kv_num M.1 2 ≠ 0
  · rw [if_pos z]
    simp only
    exact kp_fu_mono (kp_fu_trans (kp_fu_trans (kp_fu_setN (K := 0) rfl (by omega)) (kp_fu_addTo (K := 0) rfl (by omega))) (key _ z _)) (by omega)
  · rw [if_neg z]
    simp only
    obtain ⟨g1, k0, g2, g3, g4⟩ := key (9 + kv_used M.1) (by omega) (kv_addTo M 0 1)
    have k00 : k0 = 0 := by omega
    subst k00
    have e0 : kv_num (kv_addTo M 0 1).1 0 = (kv_num M.1 0 + 1) % 65536 := by rw [kv_num_addTo rfl rfl (by omega), if_pos rfl]
    refine ⟨kp_fg_trans (kp_fg_setN rfl) g1, 1, Nat.le_refl _, by rw [g3, e0]; omega, fun j hj hl => ?_⟩
    have hu : kv_used M.1 = kv_num M.1 0 := by unfold kv_used; omega
    rw [hu]
    exact kv_setN_flag (by omega) (by omega)
theorem kp_fu_make {M : kv_M} {l : Nat} : kp_fu M (kv_make M l).2 1 := by
  have hp : (kv_newP M).1 ≠ 0 := by
    unfold kv_newP kv_takeP
    by_cases z : kv_num M.1 2 ≠ 0
    · rw [if_pos z]; exact z
    · rw [if_neg z]; simp only; omega
  exact kp_fu_trans kp_fu_newP (kp_fu_setN (K := 0) (by omega) (by omega))
theorem kp_fg_writeR {M : kv_M} {R : Nat → UInt8} {len start n p a : Nat} (h : a + n ≤ 32) : kp_fg M (kv_writeR M R len start n (p * 32 + a)) := by
  unfold kv_writeR
  split
  · exact kp_fg_refl M
  · rename_i hc
    have hd : (p * 32 + a) / 32 = p := by omega
    refine ⟨fun q hq => ?_, fun q hq i hi => ?_⟩
    · show va_up M.2 ((p * 32 + a) / 32) true q = true
      by_cases z : q = (p * 32 + a) / 32
      · rw [z]; exact va_up_self _ _ _
      · rw [va_up_ne _ _ z]; exact hq
    · have hne : q ≠ p := fun z => by
        subst z
        have : va_up M.2 ((q * 32 + a) / 32) true q = false := hq
        rw [hd, va_up_self] at this; simp at this
      show va_cpy R M.1 start (p * 32 + a) n (q * 32 + i) = _
      rw [pk_cpy_out (by omega)]
theorem kv_num0_writeR {M : kv_M} {R : Nat → UInt8} {len start n p a : Nat} (h2 : 2 ≤ a) : kv_num (kv_writeR M R len start n (p * 32 + a)).1 0 = kv_num M.1 0 := by
  unfold kv_writeR
  split
  · rfl
  · unfold kv_num
    simp only
    rw [if_pos (by omega), if_pos (by omega), pk_cpy_out (.inl (by omega)), pk_cpy_out (.inl (by omega))]
theorem kp_newP_ne (M : kv_M) : (kv_newP M).1 ≠ 0 := by
  unfold kv_newP kv_takeP
  by_cases z : kv_num M.1 2 ≠ 0
  · rw [if_pos z]; exact z
  · rw [if_neg z]; simp only; omega
theorem kp_fu_wrL {R : Nat → UInt8} {len : Nat} : ∀ (f : Nat) (M : kv_M) (p a d : Nat), p ≠ 0 → 2 ≤ a → a ≤ 32 → kp_fu M (kv_wrL R len f M p a d).1 f ∧ (kv_wrL R len f M p a d).2.1 ≠ 0 ∧ 2 ≤ (kv_wrL R len f M p a d).2.2 ∧ (kv_wrL R len f M p a d).2.2 ≤ 32
  | 0, M, p, a, d, hp, h2, h3 => ⟨kp_fu_refl M 0, hp, h2, h3⟩
  | f + 1, M, p, a, d, hp, h2, h3 => by
    rw [kv_wrL]
    split
    · split
      · have hm : min 30 (len - d) ≤ 30 := Nat.min_le_left _ _
        have s1 : kp_fu M (kv_setN (kv_newP M).2 (p * 32) (kv_newP M).1) 1 := kp_fu_trans kp_fu_newP (kp_fu_setN (K := 0) (by omega) (by omega))
        have s2 : kp_fu (kv_setN (kv_newP M).2 (p * 32) (kv_newP M).1) (kv_writeR (kv_setN (kv_newP M).2 (p * 32) (kv_newP M).1) R len d (min 30 (len - d)) ((kv_newP M).1 * 32 + 2)) 0 := kp_fu_of (kp_fg_writeR (by omega)) (kv_num0_writeR (by omega)) 0
        obtain ⟨i1, i2, i3, i4⟩ := kp_fu_wrL (R := R) (len := len) f (kv_writeR (kv_setN (kv_newP M).2 (p * 32) (kv_newP M).1) R len d (min 30 (len - d)) ((kv_newP M).1 * 32 + 2)) (kv_newP M).1 (2 + min 30 (len - d)) (d + min 30 (len - d)) (kp_newP_ne M) (by omega) (by omega)
        exact ⟨kp_fu_mono (kp_fu_trans (kp_fu_trans s1 s2) i1) (by omega), i2, i3, i4⟩
      · have hm : min (32 - a) (len - d) ≤ 32 - a := Nat.min_le_left _ _
        have s2 : kp_fu M (kv_writeR M R len d (min (32 - a) (len - d)) (p * 32 + a)) 0 := kp_fu_of (kp_fg_writeR (by omega)) (kv_num0_writeR (by omega)) 0
        obtain ⟨i1, i2, i3, i4⟩ := kp_fu_wrL (R := R) (len := len) f (kv_writeR M R len d (min (32 - a) (len - d)) (p * 32 + a)) p (a + min (32 - a) (len - d)) (d + min (32 - a) (len - d)) hp (by omega) (by omega)
        exact ⟨kp_fu_mono (kp_fu_trans s2 i1) (by omega), i2, i3, i4⟩
    · exact ⟨kp_fu_refl M _, hp, h2, h3⟩
theorem kp_fu_store {M : kv_M} {K V : Nat → UInt8} {kl vl : Nat} : kp_fu M (kv_store M K kl V vl).2.1 5441 := by
  have hp := kp_newP_ne M
  have s1 : kp_fu M (kv_setN (kv_setN (kv_newP M).2 ((kv_newP M).1 * 32 + 2) kl) ((kv_newP M).1 * 32 + 4) vl) 1 := kp_fu_trans (kp_fu_trans kp_fu_newP (kp_fu_setN (K := 0) (by omega) (by omega))) (kp_fu_setN (K := 0) (by omega) (by omega))
  obtain ⟨w1, w2, w3, w4⟩ := kp_fu_wrL (R := K) (len := kl) 2720 (kv_setN (kv_setN (kv_newP M).2 ((kv_newP M).1 * 32 + 2) kl) ((kv_newP M).1 * 32 + 4) vl) (kv_newP M).1 6 0 hp (by omega) (by omega)
  obtain ⟨v1, -, -, -⟩ := kp_fu_wrL (R := V) (len := vl) 2720 _ _ _ 0 w2 w3 w4
  exact kp_fu_trans (kp_fu_trans s1 w1) v1
theorem kp_fu_setSlot {M : kv_M} {p i s K : Nat} : kp_fu M (kv_setSlot M p i s) K := kp_fu_setN (by omega) (by omega)
theorem kp_fu_setCount {M : kv_M} {p n K : Nat} : kp_fu M (kv_setCount M p n) K := kp_fu_setN (by omega) (by omega)
theorem kp_fu_upL {p i : Nat} : ∀ (k : Nat) (M : kv_M), kp_fu M (kv_upL p i k M) 0
  | 0, M => kp_fu_refl M 0
  | k + 1, M => kp_fu_trans (K := 0) kp_fu_setSlot (kp_fu_upL k _)
theorem kp_fu_dnL {p : Nat} : ∀ (k j : Nat) (M : kv_M), kp_fu M (kv_dnL p k j M) 0
  | 0, _, M => kp_fu_refl M 0
  | k + 1, j, M => kp_fu_trans (K := 0) kp_fu_setSlot (kp_fu_dnL k (j + 1) _)
theorem kp_fu_layL {p : Nat} {P : Nat → Nat} {off : Nat} : ∀ (k i : Nat) (M : kv_M), kp_fu M (kv_layL p P off k i M) 0
  | 0, _, M => kp_fu_refl M 0
  | k + 1, j, M => kp_fu_trans (K := 0) kp_fu_setSlot (kp_fu_layL k (j + 1) _)
theorem kp_fu_insert {M : kv_M} {p i s : Nat} : kp_fu M (kv_insert M p i s) 0 := by
  unfold kv_insert
  split
  · exact kp_fu_refl M 0
  · exact kp_fu_trans (K := 0) (kp_fu_trans (K' := 0) (kp_fu_upL _ _) kp_fu_setSlot) (kp_fu_setCount (K := 0))
theorem kp_fu_delete {M : kv_M} {p i : Nat} : kp_fu M (kv_delete M p i) 0 := by
  unfold kv_delete
  split
  · exact kp_fu_refl M 0
  · exact kp_fu_trans (kp_fu_dnL _ _ _) (kp_fu_setCount (K := 0))
theorem kp_fu_share {M : kv_M} {l r toL : Nat} {P : Nat → Nat} : kp_fu M (kv_share M l r toL P).1 0 :=
  kp_fu_trans (kp_fu_trans (kp_fu_trans (kp_fu_layL _ _ _) (kp_fu_layL _ _ _)) (kp_fu_setCount (K := 0))) (kp_fu_setCount (K := 0))
theorem kp_fu_insB {M : kv_M} {p r i s : Nat} : kp_fu M (kv_insB M p r i s) 0 := by
  unfold kv_insB
  split <;> exact kp_fu_insert
theorem kp_fu_split {M : kv_M} {p : Nat} {P : Nat → Nat} : kp_fu M (kv_split M p P).2.1 1 := kp_fu_trans kp_fu_make kp_fu_share
theorem kp_fu_raise {M : kv_M} {t s top : Nat} : kp_fu M (kv_raise M t s top) 1 :=
  kp_fu_trans (kp_fu_trans (kp_fu_trans kp_fu_make kp_fu_insert) kp_fu_insert) (kp_fu_setN (K := 0) (by omega) (by omega))
theorem kp_fu_insL {t top : Nat} {pn ps : Nat → Nat} : ∀ (f l : Nat) (M : kv_M) (P : Nat → Nat) (s i : Nat), kp_fu M (kv_insL t top pn ps f l M P s i).1 (f + 1)
  | 0, _, M, P, s, i => kp_fu_raise
  | f + 1, l, M, P, s, i => by
    rw [kv_insL]
    split
    · exact kp_fu_mono (kp_fu_trans (kp_fu_trans kp_fu_split kp_fu_insB) (kp_fu_insL f (l + 1) _ _ _ _)) (by omega)
    · exact kp_fu_mono kp_fu_insert (by omega)
theorem kp_fu_insH {M : kv_M} {P : Nat → Nat} {t top : Nat} {pn ps : Nat → Nat} {K V : Nat → UInt8} {kl vl : Nat} (htop : top ≤ 4) : kp_fu M (kv_insH M P t top pn ps K kl V vl).1.1 6000 :=
  kp_fu_mono (kp_fu_trans (kp_fu_trans (kp_fu_trans kp_fu_store (kp_fu_addTo (K := 0) rfl (by omega))) (kp_fu_addTo (K := 0) (by omega) (by omega))) (kp_fu_insL (top + 1) 0 _ _ _ _)) (by omega)
theorem kp_fu_freeP {M : kv_M} {p : Nat} (hp : p ≠ 0) : kp_fu M (kv_freeP M p) 0 :=
  kp_fu_trans (kp_fu_trans (kp_fu_setN (K := 0) (by omega) (by omega)) (kp_fu_setN (K := 0) rfl (by omega))) (kp_fu_addTo (K := 0) rfl (by omega))
theorem kp_fu_freeL : ∀ (f : Nat) (M : kv_M) (g : Nat), kp_fu M (kv_freeL f M g) 0
  | 0, M, _ => kp_fu_refl M 0
  | f + 1, M, g => by
    rw [kv_freeL]
    split
    · exact kp_fu_refl M 0
    · rename_i z
      exact kp_fu_trans (kp_fu_freeP z) (kp_fu_freeL f _ _)
theorem kp_fu_replA {M : kv_M} {c : Nat} : kp_fu M (kv_replA M c) 0 := kp_fu_trans (kp_fu_addTo (K := 0) rfl (by omega)) (kp_fu_freeL _ _ _)
theorem kp_fu_repl {M : kv_M} {p i : Nat} {K V : Nat → UInt8} {kl vl : Nat} : kp_fu M (kv_repl M p i K kl V vl).1 6000 :=
  kp_fu_mono (kp_fu_trans (kp_fu_trans (kp_fu_trans kp_fu_replA kp_fu_store) (kp_fu_addTo (K := 0) rfl (by omega))) (kp_fu_setSlot (K := 0))) (by omega)
theorem kp_fu_addTree {M : kv_M} {t : Nat} : kp_fu M (kv_addTree M t) 6000 :=
  kp_fu_mono (kp_fu_trans (kp_fu_trans kp_fu_make (kp_fu_setN (K := 0) (by omega) (by omega))) (kp_fu_addTo (K := 0) rfl (by omega))) (by omega)
/-! the flags alone: also where pages are given back -/
theorem kp_fg_freeP {M : kv_M} {p : Nat} : kp_fg M (kv_freeP M p) := kp_fg_trans (kp_fg_trans (kp_fg_setN (M := M) (a := p * 32) (n := kv_num M.1 2) (by omega)) (kp_fg_setN (a := 2) (n := p) rfl)) (kp_fg_setN (a := 4) rfl)
theorem kp_fg_merge {M : kv_M} {l r : Nat} {P : Nat → Nat} : kp_fg M (kv_merge M l r P).2.1 := by
  unfold kv_merge
  split
  · exact kp_fu_share.1
  · exact kp_fg_trans kp_fu_share.1 kp_fg_freeP
theorem kp_fg_mendL {pn ps : Nat → Nat} : ∀ (f l : Nat) (M : kv_M) (P : Nat → Nat), kp_fg M (kv_mendL pn ps f l M P).1
  | 0, _, M, _ => kp_fg_refl M
  | f + 1, l, M, P => by
    rw [kv_mendL]
    split
    · have key : ∀ (M1 : kv_M) (b : Bool) (p i : Nat), kp_fg M1 (kv_mendD M1 b p i) := fun M1 b p i => by
        unfold kv_mendD
        split
        · exact kp_fu_delete.1
        · exact kp_fg_refl _
      exact kp_fg_trans (kp_fg_trans (kp_fg_merge (M := M) (l := kv_slot M.1 (pn (l + 1)) (ps (l + 1) - 1)) (r := kv_slot M.1 (pn (l + 1)) (ps (l + 1) - 1 + 1)) (P := P)) (key _ _ _ _)) (kp_fg_mendL f (l + 1) _ _)
    · exact kp_fg_refl M
theorem kp_fg_lower {M : kv_M} {t : Nat} : kp_fg M (kv_lower M t) := by
  unfold kv_lower
  split
  · exact kp_fg_trans (kp_fg_setN (M := M) (a := 32 + 4 * t) (n := kv_slot M.1 (kv_root M.1 t) 0) (by omega)) kp_fg_freeP
  · exact kp_fg_refl M
theorem kp_fg_delH {M : kv_M} {P : Nat → Nat} {t top : Nat} {pn ps : Nat → Nat} : kp_fg M (kv_delH M P t top pn ps).1 :=
  kp_fg_trans (kp_fg_trans (kp_fg_trans (kp_fg_trans (kp_fg_trans (kp_fg_setN rfl) (kp_fg_setN (by omega))) (kp_fu_freeL _ _ _).1) kp_fu_delete.1) (kp_fg_mendL _ _ _ _)) kp_fg_lower
theorem kp_fg_frL {F : kv_M → Nat → kv_M} (hF : ∀ M x, kp_fg M (F M x)) {p : Nat} : ∀ (k i : Nat) (M : kv_M), kp_fg M (kv_frL F p k i M)
  | 0, _, M => kp_fg_refl M
  | k + 1, i, M => kp_fg_trans (hF _ _) (kp_fg_frL hF k (i + 1) _)
theorem kp_fg_freeT : ∀ (l : Nat) (M : kv_M) (p : Nat), kp_fg M (kv_freeT l M p)
  | 0, M, p => kp_fg_trans (kp_fg_frL (fun _ _ => kp_fu_replA.1) _ _ _) kp_fg_freeP
  | l + 1, M, p => kp_fg_trans (kp_fg_frL (fun M x => kp_fg_freeT l M x) _ _ _) kp_fg_freeP
theorem kp_fg_drop {M : kv_M} {t : Nat} : kp_fg M (kv_drop M t) :=
  kp_fg_trans (kp_fg_trans (kp_fg_trans (kp_fg_freeT _ _ _) (kp_fg_setN (a := 32 + 4 * t) (n := 0) (by omega))) (kp_fg_setN (a := 32 + 4 * t + 2) (by omega))) (kp_fg_setN (a := 6) rfl)
