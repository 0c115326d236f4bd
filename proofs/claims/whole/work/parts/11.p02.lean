/-! PURE, second: comparing a row with a chain's KEY; reading a chain -/
def kp_row (R : Nat → UInt8) (len : Nat) (r : List UInt8) : Prop := len = r.length ∧ ∀ j, j < len → some (R j) = r[j]?
theorem kp_dif (R : Nat → UInt8) (s : Nat) (O : Nat → UInt8) (a : Nat) : ∀ n i : Nat, (kv_dif R s O a n i = 0 ∧ ∀ t, i ≤ t → t < i + n → R (s + t) = O (a + t)) ∨ ∃ t, i ≤ t ∧ t < i + n ∧ (∀ u, i ≤ u → u < t → R (s + u) = O (a + u)) ∧ R (s + t) ≠ O (a + t) ∧ kv_dif R s O a n i = ((R (s + t)).toNat : Int) - (O (a + t)).toNat
  | 0, i => Or.inl ⟨rfl, fun t h1 h2 => by omega⟩
  | n + 1, i => by
    by_cases e : (R (s + i)).toNat = (O (a + i)).toNat
    · have e' : R (s + i) = O (a + i) := UInt8.toNat_inj.mp e
      have hs : kv_dif R s O a (n + 1) i = kv_dif R s O a n (i + 1) := by rw [kv_dif, if_pos e]
      rcases kp_dif R s O a n (i + 1) with ⟨h1, h2⟩ | ⟨t, h1, h2, h3, h4, h5⟩
      · refine Or.inl ⟨by rw [hs, h1], fun t ht1 ht2 => ?_⟩
        by_cases z : t = i
        · rw [z]; exact e'
        · exact h2 t (by omega) (by omega)
      · refine Or.inr ⟨t, by omega, by omega, fun u hu1 hu2 => ?_, h4, by rw [hs, h5]⟩
        by_cases z : u = i
        · rw [z]; exact e'
        · exact h3 u (by omega) hu2
    · refine Or.inr ⟨i, Nat.le_refl _, by omega, fun u h1 h2 => by omega, fun z => e (by rw [z]), ?_⟩
      rw [kv_dif, if_neg e]
/-- where page m of a chain begins in the ENTRY's bytes -/
def kp_st (m : Nat) : Nat := if m = 0 then 0 else 26 + 30 * (m - 1)
def kp_so (m : Nat) : Nat := if m = 0 then 6 else 2
theorem kp_addr_st {ps : List Nat} {m p t : Nat} (hp : ps[m]? = some p) (ht : t < 32 - kp_so m) : kp_addr ps (kp_st m + t) = p * 32 + kp_so m + t := by
  unfold kp_addr kp_st
  unfold kp_so at ht ⊢
  by_cases z : m = 0
  · subst z
    rw [if_pos rfl] at ht ⊢
    rw [if_pos rfl, if_pos (by omega), Nat.zero_add, hp]
    rfl
  · rw [if_neg z] at ht ⊢
    rw [if_neg z, if_neg (by omega)]
    have e1 : 1 + (26 + 30 * (m - 1) + t - 26) / 30 = m := by omega
    have e2 : (26 + 30 * (m - 1) + t - 26) % 30 = t := by omega
    rw [e1, e2, hp]
    rfl
theorem kp_st_next (m : Nat) : kp_st m + (32 - kp_so m) = kp_st (m + 1) := by
  unfold kp_st kp_so
  by_cases z : m = 0
  · subst z; simp
  · rw [if_neg z, if_neg z, if_neg (by omega)]; omega
theorem kp_pf_lt {m n : Nat} (h : kp_st m < n) : m < kp_pf n := by
  unfold kp_st at h
  unfold kp_pf
  split at h <;> split <;> omega
theorem kv_cmpL_end {B R : Nat → UInt8} {len kl both f pl s d : Nat} (h : ¬ d < both) : kv_cmpL B R len kl both f pl s d = (len : Int) - kl := by
  cases f with
  | zero => rfl
  | succ f => rw [kv_cmpL, if_neg h]
theorem kp_cmpL {B R : Nat → UInt8} {len c : Nat} {ps : List Nat} {k v r : List UInt8} (hc : kp_ch B c ps k v) (hr : kp_row R len r) (hin : ∀ q ∈ ps, q < 2720) :
    ∀ (f m pl : Nat), min len k.length ≤ kp_st (m + f) → kp_st m ≤ min len k.length → (∀ j, j < kp_st m → r[j]? = k[j]?) → (kp_st m < min len k.length → ps[m]? = some pl) →
      kp_sg (kv_cmpL B R len k.length (min len k.length) f pl (kp_so m) (kp_st m)) r k
  | 0, m, pl, h1, h2, h3, h4 => by
    rw [Nat.add_zero] at h1
    rw [kv_cmpL]
    refine kp_sg_of (d := kp_st m) (by rw [← hr.1]; omega) (by omega) h3 (Or.inr ⟨by rw [← hr.1]; omega, by rw [← hr.1]⟩)
  | f + 1, m, pl, h1, h2, h3, h4 => by
    obtain ⟨c1, c2, c3, c4, c5, c6⟩ := hc
    by_cases hd : kp_st m < min len k.length
    · have hpl := h4 hd
      have hplt : pl < 2720 := hin pl (List.mem_of_getElem? hpl)
      have hso : kp_so m = 6 ∨ kp_so m = 2 := by unfold kp_so; split <;> simp
      have hn : min (32 - kp_so m) (min len k.length - kp_st m) ≤ 32 - kp_so m := Nat.min_le_left _ _
      have hn2 : min (32 - kp_so m) (min len k.length - kp_st m) ≤ min len k.length - kp_st m := Nat.min_le_right _ _
      have hst := kp_st_next m
      generalize hN : min (32 - kp_so m) (min len k.length - kp_st m) = n at hn hn2
      have hkey : ∀ t, t < n → some (B (pl * 32 + kp_so m + t)) = k[kp_st m + t]? := by
        intro t ht
        rw [← kp_addr_st hpl (by omega), c6 _ (by omega), List.getElem?_append_left (by omega)]
      have hdiff : kv_diff R len (kp_st m) n B 87040 (pl * 32 + kp_so m) = kv_dif R (kp_st m) B (pl * 32 + kp_so m) n 0 := by
        unfold kv_diff
        rw [if_pos ⟨by omega, by omega⟩]
      have hrow : ∀ t, t < n → some (R (kp_st m + t)) = r[kp_st m + t]? := fun t ht => hr.2 _ (by omega)
      rw [kv_cmpL, if_pos hd, hN, hdiff]
      rcases kp_dif R (kp_st m) B (pl * 32 + kp_so m) n 0 with ⟨g1, g2⟩ | ⟨t, -, g2, g3, g4, g5⟩
      · rw [if_pos g1]
        have agree : ∀ j, j < kp_st m + n → r[j]? = k[j]? := by
          intro j hj
          by_cases z : j < kp_st m
          · exact h3 j z
          · have e : j = kp_st m + (j - kp_st m) := by omega
            rw [e, ← hrow _ (by omega), ← hkey _ (by omega), g2 (j - kp_st m) (by omega) (by omega)]
        by_cases he : kp_st m + n < min len k.length
        · have e1 : n = 32 - kp_so m := by omega
          have e2 : kp_st m + n = kp_st (m + 1) := by rw [e1]; exact hst
          have hlen : m + 1 < ps.length := by rw [c2]; exact kp_pf_lt (by omega)
          have hm : m < ps.length := by omega
          have hnx := kp_lk_next c3 hm
          rw [show ps[m] = pl from by have := hpl; rw [List.getElem?_eq_getElem hm] at this; exact Option.some.inj this, List.getElem?_eq_getElem hlen] at hnx
          have := kp_cmpL ⟨c1, c2, c3, c4, c5, c6⟩ hr hin f (m + 1) (kv_num B (pl * 32)) (by rw [show m + 1 + f = m + (f + 1) by omega]; exact h1) (by omega) (by rw [← e2]; exact agree) (fun _ => by rw [hnx, List.getElem?_eq_getElem hlen]; rfl)
          rw [e2]
          have e3 : kp_so (m + 1) = 2 := by unfold kp_so; rw [if_neg (by omega)]
          rw [e3] at this
          exact this
        · rw [kv_cmpL_end he]
          refine kp_sg_of (d := kp_st m + n) (by rw [← hr.1]; omega) (by omega) agree (Or.inr ⟨by rw [← hr.1]; omega, by rw [← hr.1]⟩)
      · have hne : ¬ kv_dif R (kp_st m) B (pl * 32 + kp_so m) n 0 = 0 := by
          rw [g5]
          intro z
          exact g4 (UInt8.toNat_inj.mp (by omega))
        rw [if_neg hne]
        refine kp_sg_of (d := kp_st m + t) (by rw [← hr.1]; omega) (by omega) (fun j hj => ?_) (Or.inl ⟨R (kp_st m + t), B (pl * 32 + kp_so m + t), (hrow t (by omega)).symm, (hkey t (by omega)).symm, g4, g5⟩)
        by_cases z : j < kp_st m
        · exact h3 j z
        · have e : j = kp_st m + (j - kp_st m) := by omega
          rw [e, ← hrow _ (by omega), ← hkey _ (by omega), g3 (j - kp_st m) (by omega) (by omega)]
    · rw [kv_cmpL_end hd]
      refine kp_sg_of (d := kp_st m) (by rw [← hr.1]; omega) (by omega) h3 (Or.inr ⟨by rw [← hr.1]; omega, by rw [← hr.1]⟩)
/-- Chains.compare tells the order of a row and a chain's KEY -/
theorem kp_cmp {B R : Nat → UInt8} {len c : Nat} {ps : List Nat} {k v r : List UInt8} (hc : kp_ch B c ps k v) (hr : kp_row R len r) (hin : ∀ q ∈ ps, q < 2720) (hl : len ≤ 8448) : kp_sg (kv_cmp B R len c) r k := by
  have h := kp_cmpL hc hr hin 2720 0 c (by unfold kp_st; rw [if_neg (by omega)]; omega) (by unfold kp_st; rw [if_pos rfl]; omega) (fun j hj => by unfold kp_st at hj; rw [if_pos rfl] at hj; omega) (fun _ => hc.1)
  unfold kv_cmp
  rw [hc.2.2.2.1]
  exact h
