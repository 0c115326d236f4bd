/-! PURE, the 32nd: the reference packs its records -/
/-- all records that the first n lists name -/
def kq_idx (LI MY : Nat → Nat) : Nat → List Nat
  | 0 => []
  | n + 1 => kq_idx LI MY n ++ (List.range (MY n)).map (fun k => LI (2900 * n + k))
theorem kq_idx_mem {LI MY : Nat → Nat} {j : Nat} : ∀ {n : Nat}, j ∈ kq_idx LI MY n ↔ ∃ s k, s < n ∧ k < MY s ∧ LI (2900 * s + k) = j
  | 0 => by simp [kq_idx]
  | n + 1 => by
    rw [kq_idx, List.mem_append, kq_idx_mem]
    constructor
    · rintro (⟨s, k, h1, h2, h3⟩ | h)
      · exact ⟨s, k, by omega, h2, h3⟩
      · obtain ⟨k, k1, k2⟩ := List.mem_map.mp h
        exact ⟨n, k, by omega, List.mem_range.mp k1, k2⟩
    · rintro ⟨s, k, h1, h2, h3⟩
      by_cases z : s = n
      · subst z; exact .inr (List.mem_map.mpr ⟨k, List.mem_range.mpr h2, h3⟩)
      · exact .inl ⟨s, k, by omega, h2, h3⟩
def kq_cs (X : List Nat) (f : Nat → Nat) : Nat → Nat := kp_sum (fun i => if i ∈ X then f i else 0)
theorem kq_cs_s {X : List Nat} {f : Nat → Nat} {e : Nat} : kq_cs X f (e + 1) = kq_cs X f e + (if e ∈ X then f e else 0) := rfl
theorem kq_cs_mono {X : List Nat} {f : Nat → Nat} {a b : Nat} (h : a ≤ b) : kq_cs X f a ≤ kq_cs X f b := by
  induction b with
  | zero => have : a = 0 := by omega
            subst this; exact Nat.le_refl _
  | succ b ih =>
    by_cases z : a = b + 1
    · subst z; exact Nat.le_refl _
    · rw [kq_cs_s]; have := ih (by omega); omega
theorem kq_cs_lt {X : List Nat} {f : Nat → Nat} {a b : Nat} (h : a < b) (ha : a ∈ X) : kq_cs X f a + f a ≤ kq_cs X f b := by
  have := kq_cs_mono (X := X) (f := f) (show a + 1 ≤ b by omega)
  rw [kq_cs_s, if_pos ha] at this
  exact this
theorem kq_cs_sum {f : Nat → Nat} {n : Nat} : ∀ X : List Nat, kq_cs X f n ≤ (X.map f).sum
  | [] => by
    have : kq_cs [] f n = kp_sum (fun _ => 0) n := kp_sum_congr (fun i _ => by simp)
    rw [this]
    have z : ∀ m, kp_sum (fun _ => 0) m = 0 := by
      intro m
      induction m with
      | zero => rfl
      | succ m ih => rw [kp_sum, ih]
    rw [z]; exact Nat.zero_le _
  | x :: X => by
    have ih := kq_cs_sum (f := f) (n := n) X
    rw [List.map_cons, List.sum_cons]
    have h1 : kq_cs (x :: X) f n ≤ kp_sum (fun i => (if i ∈ X then f i else 0) + (if i = x then f i else 0)) n := kp_sum_le (fun i _ => by
      by_cases a : i = x
      · subst a; simp
      · by_cases b : i ∈ X
        · simp [b]
        · simp [a, b])
    have h2 : ∀ m, kp_sum (fun i => (if i ∈ X then f i else 0) + (if i = x then f i else 0)) m = kq_cs X f m + (if x < m then f x else 0) := by
      intro m
      induction m with
      | zero => rfl
      | succ m ih =>
        rw [kp_sum, ih, kq_cs_s]
        generalize (if m ∈ X then f m else 0) = g
        by_cases a : m = x
        · subst a
          rw [if_neg (Nat.lt_irrefl _), if_pos rfl, if_pos (Nat.lt_succ_self _)]; omega
        · rw [if_neg a]
          by_cases b : x < m
          · rw [if_pos b, if_pos (show x < m + 1 by omega)]; omega
          · rw [if_neg b, if_neg (show ¬ x < m + 1 by omega)]; omega
    rw [h2] at h1
    split at h1 <;> omega
theorem kq_rk_le {X : List Nat} (e : Nat) : kq_cs X (fun _ => 1) e ≤ e := by
  induction e with
  | zero => exact Nat.le_refl _
  | succ e ih => rw [kq_cs_s]; split <;> omega
theorem kq_rk_sur {X : List Nat} {r : Nat} : ∀ {n : Nat}, r < kq_cs X (fun _ => 1) n → ∃ j, j < n ∧ j ∈ X ∧ kq_cs X (fun _ => 1) j = r
  | 0, h => by simp [kq_cs, kp_sum] at h
  | n + 1, h => by
    rw [kq_cs_s] at h
    by_cases z : r < kq_cs X (fun _ => 1) n
    · obtain ⟨j, h1, h2, h3⟩ := kq_rk_sur z
      exact ⟨j, by omega, h2, h3⟩
    · by_cases y : n ∈ X
      · rw [if_pos y] at h
        exact ⟨n, by omega, y, by omega⟩
      · rw [if_neg y] at h; omega
/-- which records are named -/
theorem kq_lvL {LI : Nat → Nat} {b j : Nat} : ∀ (f k : Nat) (MV : Nat → Nat), ((∃ i, k ≤ i ∧ i < k + f ∧ LI (b + i) = j) → km_lvL LI b f k MV j = 0) ∧ ((¬ ∃ i, k ≤ i ∧ i < k + f ∧ LI (b + i) = j) → km_lvL LI b f k MV j = MV j)
  | 0, k, MV => ⟨fun ⟨i, h1, h2, _⟩ => by omega, fun _ => rfl⟩
  | f + 1, k, MV => by
    obtain ⟨i1, i2⟩ := kq_lvL (LI := LI) (b := b) (j := j) f (k + 1) (va_up MV (LI (b + k)) 0)
    rw [km_lvL]
    refine ⟨fun ⟨i, h1, h2, h3⟩ => ?_, fun h => ?_⟩
    · by_cases z : ∃ i, k + 1 ≤ i ∧ i < k + 1 + f ∧ LI (b + i) = j
      · exact i1 z
      · rw [i2 z]
        have : i = k := by
          by_cases y : i = k
          · exact y
          · exact absurd ⟨i, by omega, by omega, h3⟩ z
        subst this
        rw [h3]; exact va_up_self _ _ _
    · rw [i2 (fun ⟨i, h1, h2, h3⟩ => h ⟨i, by omega, by omega, h3⟩)]
      exact va_up_ne _ _ (fun y => h ⟨k, Nat.le_refl _, by omega, y.symm⟩)
theorem kq_lvS {LI MY : Nat → Nat} {j : Nat} : ∀ (f s : Nat) (MV : Nat → Nat), ((∃ s' k, s ≤ s' ∧ s' < s + f ∧ k < MY s' ∧ LI (2900 * s' + k) = j) → km_lvS LI MY f s MV j = 0) ∧ ((¬ ∃ s' k, s ≤ s' ∧ s' < s + f ∧ k < MY s' ∧ LI (2900 * s' + k) = j) → km_lvS LI MY f s MV j = MV j)
  | 0, s, MV => ⟨fun ⟨s', k, h1, h2, _⟩ => by omega, fun _ => rfl⟩
  | f + 1, s, MV => by
    obtain ⟨i1, i2⟩ := kq_lvS (LI := LI) (MY := MY) (j := j) f (s + 1) (km_lvL LI (2900 * s) (MY s) 0 MV)
    obtain ⟨l1, l2⟩ := kq_lvL (LI := LI) (b := 2900 * s) (j := j) (MY s) 0 MV
    rw [km_lvS]
    refine ⟨fun ⟨s', k, h1, h2, h3, h4⟩ => ?_, fun h => ?_⟩
    · by_cases z : ∃ s' k, s + 1 ≤ s' ∧ s' < s + 1 + f ∧ k < MY s' ∧ LI (2900 * s' + k) = j
      · exact i1 z
      · rw [i2 z]
        have : s' = s := by
          by_cases y : s' = s
          · exact y
          · exact absurd ⟨s', k, by omega, by omega, h3, h4⟩ z
        subst this
        exact l1 ⟨k, Nat.zero_le _, by omega, h4⟩
    · rw [i2 (fun ⟨s', k, h1, h2, h3, h4⟩ => h ⟨s', k, by omega, by omega, h3, h4⟩)]
      exact l2 (fun ⟨k, h1, h2, h3⟩ => h ⟨s, k, Nat.le_refl _, by omega, by omega, h3⟩)
theorem kq_rlL {MV : Nat → Nat} {b : Nat} : ∀ (f k : Nat) (LI : Nat → Nat) (i : Nat), k ≤ i → i < k + f → km_rlL MV b f k LI (b + i) = MV (LI (b + i))
  | 0, k, LI, i, h1, h2 => by omega
  | f + 1, k, LI, i, h1, h2 => by
    rw [km_rlL]
    by_cases z : i = k
    · subst z
      rw [km_rlL_out MV b f (i + 1) _ (b + i) (by omega), va_up_self]
    · rw [kq_rlL f (k + 1) _ i (by omega) (by omega), va_up_ne _ _ (by omega)]
theorem kq_rlS_out {MV MY : Nat → Nat} : ∀ (f s : Nat) (LI : Nat → Nat) (j : Nat), j < 2900 * s → km_rlS MV MY f s LI j = LI j
  | 0, s, LI, j, h => rfl
  | f + 1, s, LI, j, h => by
    rw [km_rlS, kq_rlS_out f (s + 1) _ j (by omega), km_rlL_out MV (2900 * s) (MY s) 0 LI j (by omega)]
theorem kq_rlS {MV MY : Nat → Nat} : ∀ (f s : Nat) (LI : Nat → Nat), (∀ s', s ≤ s' → s' < s + f → MY s' ≤ 2900) → ∀ s' k, s ≤ s' → s' < s + f → k < MY s' → km_rlS MV MY f s LI (2900 * s' + k) = MV (LI (2900 * s' + k))
  | 0, s, LI, hm, s', k, h1, h2, h3 => by omega
  | f + 1, s, LI, hm, s', k, h1, h2, h3 => by
    rw [km_rlS]
    have hms := hm s (Nat.le_refl _) (by omega)
    by_cases z : s' = s
    · subst z
      rw [kq_rlS_out f (s' + 1) _ _ (by omega), kq_rlL (MY s') 0 LI k (by omega) (by omega)]
    · rw [kq_rlS f (s + 1) _ (fun s'' a b => hm s'' (by omega) (by omega)) s' k (by omega) (by omega) h3]
      congr 1
      exact km_rlL_out MV (2900 * s) (MY s) 0 LI _ (by omega)
/-- the packing's own loop -/
def kq_pI (X : List Nat) (rn : Nat) (TO PL KS VS MV0 : Nat → Nat) (Y : Nat → UInt8) (e : Nat) (S : km_S) : Prop :=
  S.2.2.2.1 = kq_cs X (fun _ => 1) e ∧ S.2.2.2.2 = kq_cs X (fun i => KS i + VS i) e ∧
  (∀ j, e ≤ j → S.1.1 j = TO j ∧ S.1.2 j = PL j ∧ S.2.1.1 j = KS j ∧ S.2.1.2 j = VS j ∧ S.2.2.1.1 j = MV0 j) ∧
  (∀ j, e ≤ j → j < rn → ∀ i, i < KS j + VS j → S.2.2.1.2 (PL j + i) = Y (PL j + i)) ∧
  ∀ j, j < e → j ∈ X → S.1.1 (kq_cs X (fun _ => 1) j) = TO j ∧ S.1.2 (kq_cs X (fun _ => 1) j) = kq_cs X (fun i => KS i + VS i) j ∧ S.2.1.1 (kq_cs X (fun _ => 1) j) = KS j ∧ S.2.1.2 (kq_cs X (fun _ => 1) j) = VS j ∧ S.2.2.1.1 j = kq_cs X (fun _ => 1) j ∧ ∀ i, i < KS j + VS j → S.2.2.1.2 (kq_cs X (fun i => KS i + VS i) j + i) = Y (PL j + i)
theorem kq_ub_le {X : List Nat} {rn : Nat} {PL KS VS : Nat → Nat} (h5 : ∀ j j2, j < j2 → j2 < rn → PL j + (KS j + VS j) ≤ PL j2) : ∀ e, e < rn → kq_cs X (fun i => KS i + VS i) e ≤ PL e
  | 0, _ => Nat.zero_le _
  | e + 1, h => by
    have i := kq_ub_le h5 (X := X) e (by omega)
    have m := h5 e (e + 1) (by omega) h
    rw [kq_cs_s]
    split <;> omega
theorem kq_pkL {X : List Nat} {rn : Nat} {TO PL KS VS MV0 : Nat → Nat} {Y : Nat → UInt8} (h5 : ∀ j j2, j < j2 → j2 < rn → PL j + (KS j + VS j) ≤ PL j2) (hM : ∀ j, j < rn → (j ∈ X → MV0 j = 0) ∧ (j ∉ X → MV0 j = 4294967295)) :
    ∀ (f e : Nat) (S : km_S), e + f = rn → kq_pI X rn TO PL KS VS MV0 Y e S → kq_pI X rn TO PL KS VS MV0 Y rn (km_pkL f e S)
  | 0, e, S, h, hS => by
    have : e = rn := by omega
    subst this; exact hS
  | f + 1, e, S, h, hS => by
    rw [km_pkL]
    refine kq_pkL h5 hM f (e + 1) _ (by omega) ?_
    obtain ⟨a1, a2, a3, a4, a5⟩ := hS
    have he : e < rn := by omega
    obtain ⟨b1, b2, b3, b4, b5⟩ := a3 e (Nat.le_refl _)
    have hrk := kq_rk_le (X := X) e
    have hub := kq_ub_le (X := X) h5 e he
    unfold km_pk1
    rw [b5]
    by_cases z : e ∈ X
    · rw [(hM e he).1 z, if_neg (by omega)]
      rw [b1, b2, b3, b4, a1, a2]
      refine ⟨?_, ?_, fun j hj => ?_, fun j hj hj2 i hi => ?_, fun j hj hX => ?_⟩
      · show _ = _
        rw [kq_cs_s, if_pos z]
      · show _ = _
        rw [kq_cs_s, if_pos z]
      · obtain ⟨c1, c2, c3, c4, c5⟩ := a3 j (by omega)
        simp only
        rw [va_up_ne _ _ (by omega), va_up_ne _ _ (by omega), va_up_ne _ _ (by omega), va_up_ne _ _ (by omega), va_up_ne _ _ (by omega)]
        exact ⟨c1, c2, c3, c4, c5⟩
      · simp only
        have := h5 e j (by omega) hj2
        rw [pk_cpy_out (by omega)]
        exact a4 j (by omega) hj2 i hi
      · simp only
        by_cases y : j = e
        · subst y
          rw [va_up_self, va_up_self, va_up_self, va_up_self, va_up_self]
          refine ⟨rfl, rfl, rfl, rfl, rfl, fun i hi => ?_⟩
          rw [pk_cpy_in (by omega) (by omega), Nat.add_sub_cancel_left]
          exact a4 j (Nat.le_refl _) he i hi
        · obtain ⟨c1, c2, c3, c4, c5, c6⟩ := a5 j (by omega) hX
          have hlt := kq_cs_lt (X := X) (f := fun _ => 1) (show j < e by omega) hX
          have hlu := kq_cs_lt (X := X) (f := fun i => KS i + VS i) (show j < e by omega) hX
          have hlt' : kq_cs X (fun _ => 1) j + 1 ≤ kq_cs X (fun _ => 1) e := hlt
          have hlu' : kq_cs X (fun i => KS i + VS i) j + (KS j + VS j) ≤ kq_cs X (fun i => KS i + VS i) e := hlu
          rw [va_up_ne _ _ (by omega), va_up_ne _ _ (by omega), va_up_ne _ _ (by omega), va_up_ne _ _ (by omega), va_up_ne _ _ y]
          refine ⟨c1, c2, c3, c4, c5, fun i hi => ?_⟩
          rw [pk_cpy_out (by omega)]
          exact c6 i hi
    · rw [(hM e he).2 z, if_pos (by omega)]
      refine ⟨?_, ?_, fun j hj => a3 j (by omega), fun j hj => a4 j (by omega), fun j hj hX => a5 j ?_ hX⟩
      · rw [kq_cs_s, if_neg z]; exact a1
      · rw [kq_cs_s, if_neg z]; exact a2
      · by_cases y : j = e
        · subst y; exact absurd hX z
        · omega
/-- what the records keep to -/
def kq_rec (PL KS VS : Nat → Nat) (rn us : Nat) : Prop := rn ≤ 20600 ∧ us ≤ 400000 ∧ (∀ j, j < rn → PL j + (KS j + VS j) ≤ us) ∧ ∀ j j2, j < j2 → j2 < rn → PL j + (KS j + VS j) ≤ PL j2
theorem kq_ls_map {TO PL KS VS TO' PL' KS' VS' : Nat → Nat} {Y Y' : Nat → UInt8} {LI LI' : Nat → Nat} {b m : Nat} (h : ∀ k, k < m → kq_ent TO' PL' KS' VS' Y' (LI' (b + k)) = kq_ent TO PL KS VS Y (LI (b + k))) : kq_ls TO' PL' KS' VS' Y' LI' b m = kq_ls TO PL KS VS Y LI b m := by
  unfold kq_ls
  exact List.map_congr_left (fun k hk => h k (List.mem_range.mp hk))
theorem kq_pack {TO PL KS VS MV : Nat → Nat} {Y : Nat → UInt8} {LI MY : Nat → Nat} {rn us mk : Nat} (hr : kq_rec PL KS VS rn us) (hL : ∀ s, s < 2 + mk → MY s ≤ 2900 ∧ ∀ k, k < MY s → LI (2900 * s + k) < rn) :
    (∀ s, s < 2 + mk → kq_ls (km_pack mk MY ((TO, PL), (KS, VS), (MV, Y), LI, (rn, us))).1.1 (km_pack mk MY ((TO, PL), (KS, VS), (MV, Y), LI, (rn, us))).1.2 (km_pack mk MY ((TO, PL), (KS, VS), (MV, Y), LI, (rn, us))).2.1.1 (km_pack mk MY ((TO, PL), (KS, VS), (MV, Y), LI, (rn, us))).2.1.2 (km_pack mk MY ((TO, PL), (KS, VS), (MV, Y), LI, (rn, us))).2.2.1.2 (km_pack mk MY ((TO, PL), (KS, VS), (MV, Y), LI, (rn, us))).2.2.2.1 (2900 * s) (MY s) = kq_ls TO PL KS VS Y LI (2900 * s) (MY s)) ∧
    kq_rec (km_pack mk MY ((TO, PL), (KS, VS), (MV, Y), LI, (rn, us))).1.2 (km_pack mk MY ((TO, PL), (KS, VS), (MV, Y), LI, (rn, us))).2.1.1 (km_pack mk MY ((TO, PL), (KS, VS), (MV, Y), LI, (rn, us))).2.1.2 (km_pack mk MY ((TO, PL), (KS, VS), (MV, Y), LI, (rn, us))).2.2.2.2.1 (km_pack mk MY ((TO, PL), (KS, VS), (MV, Y), LI, (rn, us))).2.2.2.2.2 ∧
    (∀ s k, s < 2 + mk → k < MY s → (km_pack mk MY ((TO, PL), (KS, VS), (MV, Y), LI, (rn, us))).2.2.2.1 (2900 * s + k) < (km_pack mk MY ((TO, PL), (KS, VS), (MV, Y), LI, (rn, us))).2.2.2.2.1) ∧
    (km_pack mk MY ((TO, PL), (KS, VS), (MV, Y), LI, (rn, us))).2.2.2.2.1 ≤ (kq_idx LI MY (2 + mk)).length ∧ (km_pack mk MY ((TO, PL), (KS, VS), (MV, Y), LI, (rn, us))).2.2.2.2.2 ≤ ((kq_idx LI MY (2 + mk)).map (fun i => KS i + VS i)).sum := by
  obtain ⟨r1, r2, r3, r4⟩ := hr
  have hM : ∀ j, j < rn → (j ∈ kq_idx LI MY (2 + mk) → km_lvS LI MY (2 + mk) 0 (km_neg MV rn) j = 0) ∧ (j ∉ kq_idx LI MY (2 + mk) → km_lvS LI MY (2 + mk) 0 (km_neg MV rn) j = 4294967295) := by
    intro j hj
    obtain ⟨l1, l2⟩ := kq_lvS (LI := LI) (MY := MY) (j := j) (2 + mk) 0 (km_neg MV rn)
    refine ⟨fun h => ?_, fun h => ?_⟩
    · obtain ⟨s, k, h1, h2, h3⟩ := kq_idx_mem.mp h
      exact l1 ⟨s, k, Nat.zero_le _, by omega, h2, h3⟩
    · rw [l2 (fun ⟨s, k, h0, h1, h2, h3⟩ => h (kq_idx_mem.mpr ⟨s, k, by omega, h2, h3⟩))]
      unfold km_neg; rw [if_pos hj]
  obtain ⟨p1, p2, p3, p4, p5⟩ := kq_pkL (X := kq_idx LI MY (2 + mk)) (TO := TO) (PL := PL) (KS := KS) (VS := VS) (Y := Y) r4 hM rn 0 ((TO, PL), (KS, VS), (km_lvS LI MY (2 + mk) 0 (km_neg MV rn), Y), (0, 0)) (by omega) ⟨rfl, rfl, fun j _ => ⟨rfl, rfl, rfl, rfl, rfl⟩, fun j _ _ i _ => rfl, fun j hj => by omega⟩
  have eS : km_packS mk MY ((TO, PL), (KS, VS), (MV, Y), LI, (rn, us)) = km_pkL rn 0 ((TO, PL), (KS, VS), (km_lvS LI MY (2 + mk) 0 (km_neg MV rn), Y), (0, 0)) := rfl
  unfold km_pack km_packR
  rw [eS]
  generalize km_pkL rn 0 ((TO, PL), (KS, VS), (km_lvS LI MY (2 + mk) 0 (km_neg MV rn), Y), (0, 0)) = S at *
  simp only
  have hX : ∀ s k, s < 2 + mk → k < MY s → LI (2900 * s + k) ∈ kq_idx LI MY (2 + mk) := fun s k h1 h2 => kq_idx_mem.mpr ⟨s, k, h1, h2, rfl⟩
  have hrl : ∀ s k, s < 2 + mk → k < MY s → km_rlS S.2.2.1.1 MY (2 + mk) 0 LI (2900 * s + k) = kq_cs (kq_idx LI MY (2 + mk)) (fun _ => 1) (LI (2900 * s + k)) := fun s k h1 h2 => by
    rw [kq_rlS (2 + mk) 0 LI (fun s' _ h => (hL s' (by omega)).1) s k (Nat.zero_le _) (by omega) h2]
    exact (p5 _ ((hL s h1).2 k h2) (hX s k h1 h2)).2.2.2.2.1
  refine ⟨fun s hs => kq_ls_map (fun k hk => ?_), ⟨?_, ?_, fun r hr => ?_, fun a b hab hb => ?_⟩, fun s k hs hk => ?_, ?_, ?_⟩
  · rw [hrl s k hs hk]
    obtain ⟨c1, c2, c3, c4, c5, c6⟩ := p5 _ ((hL s hs).2 k hk) (hX s k hs hk)
    unfold kq_ent
    rw [c1, c2, c3, c4]
    refine congrArg _ (Prod.ext ?_ ?_)
    · exact kq_bl_congr (fun i hi => c6 i (by omega))
    · refine kq_bl_congr (fun i hi => ?_)
      rw [Nat.add_assoc, Nat.add_assoc]
      exact c6 _ (by omega)
  · rw [p1]; have := kq_rk_le (X := kq_idx LI MY (2 + mk)) rn; omega
  · rw [p2]
    cases rn with
    | zero => exact Nat.zero_le _
    | succ n =>
      have h1 := kq_ub_le (X := kq_idx LI MY (2 + mk)) r4 n (by omega)
      have h2 := r3 n (by omega)
      rw [kq_cs_s]
      split <;> omega
  · rw [p1] at hr
    obtain ⟨j, j1, j2, j3⟩ := kq_rk_sur hr
    obtain ⟨c1, c2, c3, c4, c5, c6⟩ := p5 j j1 j2
    rw [← j3, c2, c3, c4, p2]
    exact kq_cs_lt (X := kq_idx LI MY (2 + mk)) (f := fun i => KS i + VS i) j1 j2
  · rw [p1] at hb
    obtain ⟨j, j1, j2, j3⟩ := kq_rk_sur hb
    obtain ⟨i, i1, i2, i3⟩ := kq_rk_sur (X := kq_idx LI MY (2 + mk)) (r := a) (n := rn) (by omega)
    obtain ⟨c1, c2, c3, c4, c5, c6⟩ := p5 j j1 j2
    obtain ⟨d1, d2, d3, d4, d5, d6⟩ := p5 i i1 i2
    have hij : i < j := by
      by_cases z : i < j
      · exact z
      · have := kq_cs_mono (X := kq_idx LI MY (2 + mk)) (f := fun _ => 1) (show j ≤ i by omega)
        omega
    rw [← j3, ← i3, c2, d2, d3, d4]
    exact kq_cs_lt (X := kq_idx LI MY (2 + mk)) (f := fun i => KS i + VS i) hij i2
  · rw [hrl s k hs hk, p1]
    exact kq_cs_lt (X := kq_idx LI MY (2 + mk)) (f := fun _ => 1) ((hL s hs).2 k hk) (hX s k hs hk)
  · rw [p1]
    have := kq_cs_sum (f := fun _ => 1) (n := rn) (kq_idx LI MY (2 + mk))
    have e : ∀ X : List Nat, (X.map (fun _ => 1)).sum = X.length := fun X => by
      induction X with
      | nil => rfl
      | cons x X ih => rw [List.map_cons, List.sum_cons, ih, List.length_cons]; omega
    rw [e] at this; exact this
  · rw [p2]; exact kq_cs_sum _
