/-! PURE, the 33rd: what the reference holds -/
def kq_lsP (P : km_P) (b m : Nat) : List kq_E := kq_ls P.1.1 P.1.2 P.2.1.1 P.2.1.2 P.2.2.1.2 P.2.2.2.1 b m
def kq_recP (P : km_P) : Prop := kq_rec P.1.2 P.2.1.1 P.2.1.2 P.2.2.2.2.1 P.2.2.2.2.2
/-- list s and its trees are A -/
def kq_S (P : km_P) (MY : Nat → Nat) (TR : Nat → Int64) (s : Nat) (A : kp_A) : Prop := kq_lsP P (2900 * s) (MY s) = kq_flat A ∧ (∀ t, t < 64 → km_tree (TR s) t = (A t).isSome) ∧ ∀ k, k < MY s → P.2.2.2.1 (2900 * s + k) < P.2.2.2.2.1
/-- all lists: now, lasting, MARKS -/
def kq_M (P : km_P) (MY : Nat → Nat) (TR : Nat → Int64) (L : List kp_A) : Prop := kq_recP P ∧ L.length ≤ 7 ∧ ∀ i a, L[i]? = some a → kq_S P MY TR i a ∧ kp_okA a
theorem kq_S_len {P : km_P} {MY : Nat → Nat} {TR : Nat → Int64} {s : Nat} {A : kp_A} (h : kq_S P MY TR s A) (hok : kp_okA A) : MY s = (kq_flat A).length ∧ MY s ≤ 2168 := by
  have e : (kq_lsP P (2900 * s) (MY s)).length = MY s := kq_ls_len
  rw [h.1] at e
  have h1 := kq_len_le hok
  have h2 := hok.2
  exact ⟨e.symm, by omega⟩
theorem kq_S_at {P : km_P} {MY : Nat → Nat} {TR : Nat → Int64} {s : Nat} {A : kp_A} (h : kq_S P MY TR s A) {k : Nat} (hk : k < MY s) : (kq_flat A)[k]? = some (kq_ent P.1.1 P.1.2 P.2.1.1 P.2.1.2 P.2.2.1.2 (P.2.2.2.1 (2900 * s + k))) := by
  rw [← h.1]; exact kq_ls_at hk
/-- what a named record keeps to -/
theorem kq_S_ent {P : km_P} {MY : Nat → Nat} {TR : Nat → Int64} {s : Nat} {A : kp_A} (hr : kq_recP P) (h : kq_S P MY TR s A) (hok : kp_okA A) {k : Nat} (hk : k < MY s) : P.2.2.2.1 (2900 * s + k) < 20600 ∧ P.1.1 (P.2.2.2.1 (2900 * s + k)) < 64 ∧ P.1.2 (P.2.2.2.1 (2900 * s + k)) + (P.2.1.1 (P.2.2.2.1 (2900 * s + k)) + P.2.1.2 (P.2.2.2.1 (2900 * s + k))) ≤ 400000 ∧ P.2.1.1 (P.2.2.2.1 (2900 * s + k)) ≤ 8448 ∧ P.2.1.2 (P.2.2.2.1 (2900 * s + k)) ≤ 8448 := by
  have h1 := h.2.2 k hk
  obtain ⟨r1, r2, r3, r4⟩ := hr
  have h2 := kq_mem (List.mem_of_getElem? (kq_S_at h hk))
  obtain ⟨h3, l, h4, h5⟩ := h2
  have h6 := (hok.1 _ l h3 h4).2 _ h5
  have e1 : (kq_ent P.1.1 P.1.2 P.2.1.1 P.2.1.2 P.2.2.1.2 (P.2.2.2.1 (2900 * s + k))).2.1.length = P.2.1.1 (P.2.2.2.1 (2900 * s + k)) := kq_bl_len _ _ _
  have e2 : (kq_ent P.1.1 P.1.2 P.2.1.1 P.2.1.2 P.2.2.1.2 (P.2.2.2.1 (2900 * s + k))).2.2.length = P.2.1.2 (P.2.2.2.1 (2900 * s + k)) := kq_bl_len _ _ _
  rw [e1, e2] at h6
  have := r3 _ h1
  exact ⟨by omega, h3, by omega, h6.2.1, h6.2.2⟩
theorem kq_g {P : km_P} {MY : Nat → Nat} {TR : Nat → Int64} {A : kp_A} (hr : kq_recP P) (h : kq_S P MY TR 0 A) (hok : kp_okA A) : km_g P.1.1 P.1.2 P.2.1.1 P.2.1.2 P.2.2.2.1 (MY 0) := by
  refine ⟨by have := (kq_S_len h hok).2; omega, fun k hk => ?_⟩
  have := kq_S_ent hr h hok hk
  rw [Nat.mul_zero, Nat.zero_add] at this
  exact this
theorem kq_szL {LI KS VS TO PL : Nat → Nat} {Y : Nat → UInt8} : ∀ (f i n m : Nat), i + f = m → km_szL LI KS VS f i n = n + kq_sz ((kq_ls TO PL KS VS Y LI 0 m).drop i)
  | 0, i, n, m, h => by
    rw [List.drop_of_length_le (by rw [kq_ls_len]; omega)]; rfl
  | f + 1, i, n, m, h => by
    have hk : i < m := by omega
    have e := kq_ls_at (TO := TO) (PL := PL) (KS := KS) (VS := VS) (Y := Y) (LI := LI) (b := 0) hk
    have e2 : (kq_ls TO PL KS VS Y LI 0 m).drop i = kq_ent TO PL KS VS Y (LI (0 + i)) :: (kq_ls TO PL KS VS Y LI 0 m).drop (i + 1) := by
      rw [List.drop_eq_getElem_cons (by rw [kq_ls_len]; exact hk), (List.getElem?_eq_some_iff.mp e).2]
    rw [km_szL, kq_szL (TO := TO) (PL := PL) (Y := Y) f (i + 1) _ m (by omega), e2, Nat.zero_add]
    have e3 : kq_sz (kq_ent TO PL KS VS Y (LI i) :: (kq_ls TO PL KS VS Y LI 0 m).drop (i + 1)) = (16 + KS (LI i) + VS (LI i)) + kq_sz ((kq_ls TO PL KS VS Y LI 0 m).drop (i + 1)) := by
      unfold kq_sz
      rw [List.map_cons, List.sum_cons]
      unfold kq_ent
      simp only
      rw [kq_bl_len, kq_bl_len]
    rw [e3]; omega
theorem kq_size {P : km_P} {MY : Nat → Nat} {TR : Nat → Int64} {A : kp_A} (h : kq_S P MY TR 0 A) : km_size P.2.2.2.1 P.2.1.1 P.2.1.2 (MY 0) = kp_sizeA A := by
  unfold km_size
  rw [kq_szL (TO := P.1.1) (PL := P.1.2) (Y := P.2.2.1.2) (MY 0) 0 0 (MY 0) (by omega), List.drop_zero, Nat.zero_add, ← kq_sz_flat, ← h.1]
  rfl
theorem kq_enL {LI KS VS TO PL : Nat → Nat} {Y : Nat → UInt8} {t : Nat} : ∀ (f i n m : Nat), i + f = m → km_enL LI TO t f i n = n + ((kq_ls TO PL KS VS Y LI 0 m).drop i).countP (fun x => decide (x.1 = t))
  | 0, i, n, m, h => by
    rw [List.drop_of_length_le (by rw [kq_ls_len]; omega)]; rfl
  | f + 1, i, n, m, h => by
    have hk : i < m := by omega
    have e := kq_ls_at (TO := TO) (PL := PL) (KS := KS) (VS := VS) (Y := Y) (LI := LI) (b := 0) hk
    have e2 : (kq_ls TO PL KS VS Y LI 0 m).drop i = kq_ent TO PL KS VS Y (LI (0 + i)) :: (kq_ls TO PL KS VS Y LI 0 m).drop (i + 1) := by
      rw [List.drop_eq_getElem_cons (by rw [kq_ls_len]; exact hk), (List.getElem?_eq_some_iff.mp e).2]
    rw [km_enL, kq_enL (KS := KS) (VS := VS) (PL := PL) (Y := Y) f (i + 1) _ m (by omega), e2, Nat.zero_add, List.countP_cons]
    have e3 : (kq_ent TO PL KS VS Y (LI i)).1 = TO (LI i) := rfl
    rw [e3]
    by_cases z : TO (LI i) = t
    · simp only [z, if_true, decide_true]; omega
    · simp [z]
theorem kq_cnt_up {A : kp_A} {t : Nat} : ∀ n, (kq_up A n).countP (fun x => decide (x.1 = t)) = if t < n then (kq_l (A t)).length else 0
  | 0 => by simp [kq_up]
  | n + 1 => by
    rw [kq_up, List.countP_append, kq_cnt_up n]
    have e : (kq_tag n (kq_l (A n))).countP (fun x => decide (x.1 = t)) = if n = t then (kq_l (A n)).length else 0 := by
      unfold kq_tag
      rw [List.countP_map]
      by_cases z : n = t
      · rw [if_pos z]
        rw [List.countP_eq_length.mpr (fun e _ => by simp [z])]
      · rw [if_neg z]
        exact List.countP_eq_zero.mpr (fun e _ => by simp [z])
    rw [e]
    by_cases z : n = t
    · subst z; rw [if_neg (Nat.lt_irrefl _), if_pos rfl, if_pos (Nat.lt_succ_self _)]; omega
    · rw [if_neg z]
      by_cases y : t < n
      · rw [if_pos y, if_pos (show t < n + 1 by omega)]; rfl
      · rw [if_neg y, if_neg (show ¬ t < n + 1 by omega)]
theorem kq_ents {P : km_P} {MY : Nat → Nat} {TR : Nat → Int64} {A : kp_A} (h : kq_S P MY TR 0 A) {t : Nat} (ht : t < 64) : km_ents P.2.2.2.1 P.1.1 t (MY 0) = (kq_l (A t)).length := by
  unfold km_ents
  rw [kq_enL (KS := P.2.1.1) (VS := P.2.1.2) (PL := P.1.2) (Y := P.2.2.1.2) (MY 0) 0 0 (MY 0) (by omega), List.drop_zero, Nat.zero_add]
  have e : kq_ls P.1.1 P.1.2 P.2.1.1 P.2.1.2 P.2.2.1.2 P.2.2.2.1 0 (MY 0) = kq_flat A := h.1
  rw [e, kq_cnt_up, if_pos ht]
/-- finding -/
theorem kq_S_find {P : km_P} {MY : Nat → Nat} {TR : Nat → Int64} {A : kp_A} (h : kq_S P MY TR 0 A) {KY : Nat → UInt8} {kn : Nat} {K : List UInt8} (hK : kp_row KY kn K) {t : Nat} (ht : t < 64) {l : List kp_KV} (hA : A t = some l) :
    km_find P.1.1 P.1.2 P.2.1.1 P.2.2.1.2 KY P.2.2.2.1 kn t (MY 0) = (kq_up A t).length + kp_lo l K ∧ km_is P.1.1 P.1.2 P.2.1.1 P.2.2.1.2 KY P.2.2.2.1 kn (MY 0) ((kq_up A t).length + kp_lo l K) t = kp_is l K := by
  have e : kq_ls P.1.1 P.1.2 P.2.1.1 P.2.1.2 P.2.2.1.2 P.2.2.2.1 0 (MY 0) = kq_flat A := h.1
  have hl : kq_l (A t) = l := by rw [hA]; rfl
  refine ⟨?_, ?_⟩
  · rw [kq_finds (VS := P.2.1.2), e, kq_bl_row hK, kq_lo_flat ht, hl]
  · have key := kq_is (TO := P.1.1) (PL := P.1.2) (KS := P.2.1.1) (VS := P.2.1.2) (Y := P.2.2.1.2) (KY := KY) (LI := P.2.2.2.1) (kn := kn) (t := t) (m := MY 0) (k := (kq_up A t).length + kp_lo l K)
    rw [e, kq_bl_row hK] at key
    have hle := kp_lo_le l K
    by_cases z : kp_lo l K < l.length
    · have hat := kq_flat_at (A := A) ht (kp_lo l K) (by rw [hl]; exact z)
      rw [hl] at hat
      rw [hat] at key
      cases hi : kp_is l K with
      | true =>
        obtain ⟨v, hv⟩ := kp_is_iff.mp hi
        exact key.mpr ⟨v, by rw [hv]; rfl⟩
      | false =>
        cases hm : km_is P.1.1 P.1.2 P.2.1.1 P.2.2.1.2 KY P.2.2.2.1 kn (MY 0) ((kq_up A t).length + kp_lo l K) t with
        | false => rfl
        | true =>
          obtain ⟨v, hv⟩ := key.mp hm
          cases hx : l[kp_lo l K]? with
          | none => rw [hx] at hv; simp at hv
          | some x =>
            rw [hx] at hv
            have : x = (K, v) := by
              have := Option.some.inj hv
              exact (Prod.mk.inj this).2
            have : kp_is l K = true := kp_is_iff.mpr ⟨v, by rw [hx, this]⟩
            rw [hi] at this; simp at this
    · have ez : kp_lo l K = l.length := by omega
      have hi : kp_is l K = false := by
        cases hi : kp_is l K with
        | false => rfl
        | true =>
          obtain ⟨v, hv⟩ := kp_is_iff.mp hi
          have := (List.getElem?_eq_some_iff.mp hv).1
          omega
      rw [hi]
      cases hm : km_is P.1.1 P.1.2 P.2.1.1 P.2.2.1.2 KY P.2.2.2.1 kn (MY 0) ((kq_up A t).length + kp_lo l K) t with
      | false => rfl
      | true =>
        obtain ⟨v, hv⟩ := key.mp hm
        have hl2 : kp_lo l K = (kq_l (A t)).length := by rw [hl]; exact ez
        rw [hl2] at hv
        exact absurd rfl (kq_flat_out ht hv)
/-! which trees there are -/
theorem kq_sh {t : Nat} (ht : t < 64) : (((nI t).toInt64 &&& 63).toBitVec.smod 64).toNat = t := by
  have : ∀ k : Fin 64, (((nI k.val).toInt64 &&& 63).toBitVec.smod 64).toNat = k.val := by decide +kernel
  exact this ⟨t, ht⟩
theorem kq_bit {w : Int64} {t : Nat} (ht : t < 64) : km_bit w t ↔ w.toBitVec.getLsbD t = true := by
  unfold km_bit
  have e0 : (w >>> ((nI t).toInt64 &&& 63)).toBitVec = w.toBitVec.sshiftRight t := by
    show w.toBitVec.sshiftRight (((nI t).toInt64 &&& 63).toBitVec.smod 64).toNat = _
    rw [kq_sh ht]
  constructor
  · intro h
    have h1 := congrArg (fun x : Int64 => x.toBitVec.getLsbD 0) h
    simp only [Int64.toBitVec_and] at h1
    rw [e0, BitVec.getLsbD_and, BitVec.getLsbD_sshiftRight] at h1
    rw [show (1 : Int64).toBitVec.getLsbD 0 = true from rfl] at h1
    simpa [ht] using h1
  · intro h
    apply Int64.toBitVec_inj.mp
    rw [Int64.toBitVec_and, e0]
    apply BitVec.eq_of_getLsbD_eq
    intro j hj
    rw [BitVec.getLsbD_and, BitVec.getLsbD_sshiftRight]
    by_cases z : j = 0
    · subst z
      simp [ht, h]
    · have : (1 : Int64).toBitVec.getLsbD j = false := by
        show (BitVec.ofNat 64 1).getLsbD j = false
        rw [BitVec.getLsbD_ofNat]
        have : Nat.testBit 1 j = false := by
          cases j with
          | zero => exact absurd rfl z
          | succ j => simp [Nat.testBit_succ]
        simp [this]
      rw [this]; simp
theorem kq_tree {w : Int64} {t : Nat} : km_tree w t = (decide (t < 64) && w.toBitVec.getLsbD t) := by
  unfold km_tree
  by_cases ht : t < 64
  · rw [decide_eq_true ht, Bool.true_and]
    cases h : w.toBitVec.getLsbD t with
    | true => exact decide_eq_true ⟨ht, (kq_bit ht).mpr h⟩
    | false => exact decide_eq_false (fun y => by rw [(kq_bit ht).mp y.2] at h; simp at h)
  · rw [decide_eq_false ht, Bool.false_and]
    exact decide_eq_false (fun y => ht y.1)
theorem kq_one_bit {t : Nat} (ht : t < 64) (j : Nat) (hj : j < 64) : ((1 : Int64) <<< ((nI t).toInt64 &&& 63)).toBitVec.getLsbD j = decide (j = t) := by
  have e0 : ((1 : Int64) <<< ((nI t).toInt64 &&& 63)).toBitVec = (BitVec.ofNat 64 1) <<< t := by
    show (1 : Int64).toBitVec <<< (((nI t).toInt64 &&& 63).toBitVec.smod 64).toNat = _
    rw [kq_sh ht]; rfl
  rw [e0, BitVec.getLsbD_shiftLeft, BitVec.getLsbD_ofNat]
  by_cases z : j = t
  · subst z; simp [ht]
  · rw [decide_eq_false z]
    by_cases y : j < t
    · simp [y]
    · have : Nat.testBit 1 (j - t) = false := by
        obtain ⟨d, hd⟩ : ∃ d, j - t = d + 1 := ⟨j - t - 1, by omega⟩
        rw [hd]; simp [Nat.testBit_succ]
      simp [this]
theorem kq_on {w : Int64} {t : Nat} (ht : t < 64) (j : Nat) (hj : j < 64) : km_tree (km_on w t) j = if j = t then true else km_tree w j := by
  rw [kq_tree, kq_tree, decide_eq_true hj, Bool.true_and, Bool.true_and]
  unfold km_on
  rw [Int64.toBitVec_or, BitVec.getLsbD_or, kq_one_bit ht j hj]
  by_cases z : j = t
  · simp [z]
  · simp [z]
theorem kq_off {w : Int64} {t : Nat} (ht : t < 64) (j : Nat) (hj : j < 64) : km_tree (km_off w t) j = if j = t then false else km_tree w j := by
  rw [kq_tree, kq_tree, decide_eq_true hj, Bool.true_and, Bool.true_and]
  unfold km_off
  rw [Int64.toBitVec_and, BitVec.getLsbD_and, Int64.toBitVec_xor, BitVec.getLsbD_xor, kq_one_bit ht j hj]
  have : (-1 : Int64).toBitVec.getLsbD j = true := by
    have : ∀ k : Fin 64, (-1 : Int64).toBitVec.getLsbD k.val = true := by decide +kernel
    exact this ⟨j, hj⟩
  rw [this]
  by_cases z : j = t
  · simp [z]
  · simp [z]
theorem kq_ctL {w : Int64} {A : kp_A} (h : ∀ t, t < 64 → km_tree w t = (A t).isSome) : ∀ (f t n : Nat), t + f = 64 → n = kp_sum (fun s => kp_onO (A s)) t → km_ctL w f t n = kp_cntA A
  | 0, t, n, h1, h2 => by
    have : t = 64 := by omega
    subst this; exact h2
  | f + 1, t, n, h1, h2 => by
    rw [km_ctL]
    refine kq_ctL h f (t + 1) _ (by omega) ?_
    rw [h t (by omega), kp_sum, ← h2]
    cases A t <;> simp [kp_onO]
theorem kq_count {w : Int64} {A : kp_A} (h : ∀ t, t < 64 → km_tree w t = (A t).isSome) : km_count w = kp_cntA A := kq_ctL h 64 0 0 rfl rfl
/-- the first tree that is not there -/
def kq_fst (A : kp_A) : Nat → Nat → Nat
  | 0, t => t
  | f + 1, t => if (A t).isSome = true then kq_fst A f (t + 1) else t
theorem kq_first {w : Int64} {A : kp_A} (h : ∀ t, t < 64 → km_tree w t = (A t).isSome) : ∀ (f t : Nat), t + f = 64 → km_firstL w f t = kq_fst A f t
  | 0, t, h1 => rfl
  | f + 1, t, h1 => by rw [km_firstL, kq_fst, h t (by omega), kq_first h f (t + 1) (by omega)]
theorem kq_fst_none {A : kp_A} : ∀ (f t : Nat), kq_fst A f t < t + f → A (kq_fst A f t) = none ∧ kq_fst A f t < t + f
  | 0, t, h => by rw [kq_fst] at h; omega
  | f + 1, t, h => by
    rw [kq_fst] at h ⊢
    by_cases z : (A t).isSome = true
    · rw [if_pos z] at h ⊢
      have := kq_fst_none (A := A) f (t + 1) (by omega)
      exact ⟨this.1, by omega⟩
    · rw [if_neg z]
      refine ⟨?_, by omega⟩
      cases hA : A t with
      | none => rfl
      | some l => rw [hA] at z; simp at z
theorem kq_lu {B : Nat → UInt8} {A : kp_A} (h : ∀ t, t < 64 → kv_has B t = (A t).isSome) : ∀ (f t : Nat), t + f = 64 → kv_luL B f t = kq_fst A f t
  | 0, t, h1 => by
    show 64 = t
    omega
  | f + 1, t, h1 => by rw [kv_luL, kq_fst, h t (by omega), kq_lu h f (t + 1) (by omega)]
