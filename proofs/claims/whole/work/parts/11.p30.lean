/-! PURE, the 30th: the file, the journal, what lasts -/
theorem kp_pg_num_at {B B' : Nat → UInt8} {a : Nat} (h : kp_pg B B' (a / 32)) (ha : a % 2 = 0) : kv_num B' a = kv_num B a := by
  have e := kp_pg_num (q := a / 32) (i := a % 32) h (by omega)
  rwa [show a / 32 * 32 + a % 32 = a by omega] at e
/-- the pages in use are all that counts -/
theorem kp_inv_pg {B B' : Nat → UInt8} {A : kp_A} (h : kp_inv B A) (hp : ∀ q, q < 9 + kv_used B → kp_pg B B' q) : kp_inv B' A ∧ kv_used B' = kv_used B := by
  obtain ⟨tp, SS, cc, fl, u, h1, h2, h3, h4, h5, h6⟩ := h
  have hus := kp_fr_used h1
  rw [hus] at hp
  have num : ∀ a, a % 2 = 0 → a < 288 → kv_num B' a = kv_num B a := fun a ha h2 => kp_pg_num_at (hp _ (by omega)) ha
  refine ⟨⟨tp, SS, cc, fl, u, ?_, h2, fun t ht => ?_, by rw [num 6 rfl (by omega)]; exact h4, by rw [num 8 rfl (by omega)]; exact h5, h6⟩, ?_⟩
  · obtain ⟨a1, a2, a3, a4, a5, a6⟩ := h1
    exact ⟨kp_lk_frame (fun q hq => kp_pg_num0 (hp q (a6 q hq).2)) a1, by rw [num 2 rfl (by omega)]; exact a2, by rw [num 4 rfl (by omega)]; exact a3, by rw [num 0 rfl (by omega)]; exact a4, a5, a6⟩
  · refine kp_one_frame (h3 t ht) (fun q hq => hp q ?_) (num _ (by omega) (by omega)) (num _ (by omega) (by omega))
    have e := h2 q
    rw [kp_sum_x ht] at e
    have e2 : kp_ctA tp SS cc q t = kp_ct (tp t) (SS t) (cc t) q := rfl
    exact (kp_ind_in (u := u) (q := q) (by omega)).2
  · unfold kv_used; rw [num 0 rfl (by omega)]
theorem kp_pg_symm {B B' : Nat → UInt8} {q : Nat} (h : kp_pg B B' q) : kp_pg B' B q := fun i hi => (h i hi).symm
theorem kp_inv_used {B : Nat → UInt8} {A : kp_A} (h : kp_inv B A) : kv_num B 0 = kv_used B ∧ kv_used B ≤ 2711 := by
  obtain ⟨tp, SS, cc, fl, u, h1, -⟩ := h
  have := kp_fr_used h1
  exact ⟨by rw [this]; exact h1.2.2.2.1, by rw [this]; exact h1.2.2.2.2.1⟩
/-- loading a file, or a MARK -/
theorem kp_load (B F : Nat → UInt8) : ∀ q, q < 9 + kv_used F → kp_pg F (kv_load B F) q := by
  have e : kv_used (va_cpy F B 0 0 288) = kv_used F := by
    unfold kv_used kv_num
    rw [if_pos (by omega), if_pos (by omega), pk_cpy_in (by omega) (by omega), pk_cpy_in (by omega) (by omega)]
  intro q hq i hi
  unfold kv_load
  rw [e]
  by_cases z : q * 32 + i < 288
  · rw [pk_cpy_out (.inl z), pk_cpy_in (by omega) (by omega), show 0 + (q * 32 + i - 0) = q * 32 + i by omega]
  · rw [pk_cpy_in (by omega) (by omega), show 288 + (q * 32 + i - 288) = q * 32 + i by omega]
theorem kp_saved (B S : Nat → UInt8) : ∀ q, q < 9 + kv_used B → kp_pg B (va_cpy B S 0 0 (288 + kv_used B * 32)) q := by
  intro q hq i hi
  rw [pk_cpy_in (by omega) (by omega)]
  congr 1; omega
/-- ON, within a transaction: the file, the memory, what is said to have changed -/
def kp_mem (F B : Nat → UInt8) (G : Nat → Bool) (A : kp_A) : Prop := kp_inv B A ∧ kv_used F ≤ kv_used B ∧ ∀ q, q < 9 + kv_used B → G q = false → kp_pg F B q
theorem kp_mem_fg {F : Nat → UInt8} {M M' : kv_M} {A A' : kp_A} (h : kp_mem F M.1 M.2 A) (h2 : kp_inv M'.1 A') (hg : kp_fg M M') (hu : kv_used M'.1 = kv_used M.1) : kp_mem F M'.1 M'.2 A' := by
  refine ⟨h2, by rw [hu]; exact h.2.1, fun q hq hG => kp_pg_trans (h.2.2 q (by omega) ?_) (hg.2 q hG)⟩
  cases z : M.2 q with
  | false => rfl
  | true => rw [hg.1 q z] at hG; simp at hG
theorem kp_mem_fu {F : Nat → UInt8} {M M' : kv_M} {A A' : kp_A} (h : kp_mem F M.1 M.2 A) (h2 : kp_inv M'.1 A') (hg : kp_fu M M' 6000) : kp_mem F M'.1 M'.2 A' := by
  obtain ⟨g1, k, g2, g3, g4⟩ := hg
  obtain ⟨u1, u2⟩ := kp_inv_used h.1
  obtain ⟨v1, v2⟩ := kp_inv_used h2
  have e : kv_used M'.1 = kv_used M.1 + k := by omega
  refine ⟨h2, by have := h.2.1; omega, fun q hq hG => ?_⟩
  have hq2 : q < 9 + kv_used M.1 := by
    by_cases z : q < 9 + kv_used M.1
    · exact z
    · have := g4 (q - 9 - kv_num M.1 0) (by omega) (by omega)
      rw [show 9 + (kv_num M.1 0 + (q - 9 - kv_num M.1 0)) = q by omega, hG] at this
      simp at this
  refine kp_pg_trans (h.2.2 q hq2 ?_) (g1.2 q hG)
  cases z : M.2 q with
  | false => rfl
  | true => rw [g1.1 q z] at hG; simp at hG
/-- a MARK stays one over changes -/
theorem kp_mem_mono {F S : Nat → UInt8} {G G' : Nat → Bool} {A : kp_A} (h : kp_mem F S G A) (hg : ∀ q, G q = true → G' q = true) : kp_mem F S G' A :=
  ⟨h.1, h.2.1, fun q hq hG => h.2.2 q hq (by
    cases z : G q with
    | false => rfl
    | true => rw [hg q z] at hG; simp at hG)⟩
theorem kp_mem_save {F B S : Nat → UInt8} {G : Nat → Bool} {A : kp_A} (h : kp_mem F B G A) : kp_mem F (va_cpy B S 0 0 (288 + kv_used B * 32)) G A := by
  have e := kp_saved B S
  obtain ⟨i1, i2⟩ := kp_inv_pg h.1 e
  exact ⟨i1, by rw [i2]; exact h.2.1, fun q hq hG => by rw [i2] at hq; exact kp_pg_trans (h.2.2 q hq hG) (e q hq)⟩
theorem kp_mem_back {F B S : Nat → UInt8} {G : Nat → Bool} {A : kp_A} (h : kp_mem F S G A) : kp_mem F (kv_load B S) G A := by
  have e := kp_load B S
  obtain ⟨i1, i2⟩ := kp_inv_pg h.1 e
  exact ⟨i1, by rw [i2]; exact h.2.1, fun q hq hG => by rw [i2] at hq; exact kp_pg_trans (h.2.2 q hq hG) (e q hq)⟩
/-- memory as the file has it -/
theorem kp_mem_new {F B : Nat → UInt8} {G : Nat → Bool} {A : kp_A} (h : kp_inv F A) (hp : ∀ q, q < 9 + kv_used F → kp_pg F B q) : kp_mem F B G A := by
  obtain ⟨i1, i2⟩ := kp_inv_pg h hp
  exact ⟨i1, by omega, fun q hq _ => hp q (by omega)⟩
theorem kp_mem_load {F B : Nat → UInt8} {G : Nat → Bool} {A : kp_A} (h : kp_inv F A) : kp_mem F (kv_load B F) G A := kp_mem_new h (kp_load B F)
theorem kp_mem_undo {F B : Nat → UInt8} {G G' : Nat → Bool} {A A' : kp_A} (h : kp_inv F A) (hm : kp_mem F B G A') : kp_mem F (kv_undo B G F 2720) G' A := by
  refine kp_mem_new h (fun q hq i hi => ?_)
  have hu := (kp_inv_used h).2
  have hb := hm.2.1
  unfold kv_undo
  have e : (q * 32 + i) / 32 = q := by omega
  rw [e]
  by_cases z : G q = true
  · rw [if_pos ⟨by omega, z⟩]
  · rw [if_neg (fun y => z y.2)]
    exact hm.2.2 q (by omega) (by cases y : G q <;> simp_all) i hi
/-! the journal -/
def kp_jr (J : Nat → UInt8) (n : Nat) (I : Nat → UInt8) : Prop := ∀ i, i < n → kv_jp J i < 2720 ∧ ∀ b, b < 32 → J (i * 34 + 2 + b) = I (kv_jp J i * 32 + b)
def kp_lasI (F J : Nat → UInt8) (n : Nat) (I : Nat → UInt8) : Prop := kp_jr J n I ∧ ∀ q, q < 9 + kv_used I → (∃ i, i < n ∧ kv_jp J i = q) ∨ kp_pg I F q
/-- what lasts, whatever was being written -/
def kp_las (F J : Nat → UInt8) (jl : Nat) (A : kp_A) : Prop := ∃ I, kp_inv I A ∧ kp_lasI F J (jl / 34) I
theorem kp_las_0 {F J : Nat → UInt8} {A : kp_A} (h : kp_las F J 0 A) : kp_inv F A := by
  obtain ⟨I, h1, h2, h3⟩ := h
  refine (kp_inv_pg h1 (fun q hq => ?_)).1
  rcases h3 q hq with ⟨i, hi, -⟩ | y
  · omega
  · exact y
theorem kp_las_of {F J : Nat → UInt8} {A : kp_A} (h : kp_inv F A) : kp_las F J 0 A := ⟨F, h, fun i hi => by omega, fun q _ => .inr (kp_pg_refl _ _)⟩
theorem kp_bw_le (fw fk fb wh wr n : Nat) : kv_bw fw fk fb wh wr n ≤ n := by
  unfold kv_bw
  split
  · exact Nat.min_le_right _ _
  · exact Nat.le_refl _
theorem kp_bw_eq {fw fk fb wh wr n : Nat} (h : ¬ (fw = wh ∧ fk = wr)) : kv_bw fw fk fb wh wr n = n := if_neg h
/-- one page of the file is written, or some of its first bytes -/
theorem kp_wf {F S : Nat → UInt8} {sl fw fk fb wh wr pg at_ : Nat} : (∀ q, q ≠ pg → kp_pg F (kv_wf F S sl fw fk fb wh wr pg at_) q) ∧ (pg < 2720 → at_ + 32 ≤ sl → ¬ (fw = wh ∧ fk = wr) → ∀ b, b < 32 → kv_wf F S sl fw fk fb wh wr pg at_ (pg * 32 + b) = S (at_ + b)) := by
  have hb := kp_bw_le fw fk fb wh wr 32
  refine ⟨fun q hq i hi => ?_, fun h1 h2 h3 b hb' => ?_⟩
  · unfold kv_wf
    split
    · rw [pk_cpy_out (by omega)]
    · rfl
  · unfold kv_wf
    rw [kp_bw_eq h3, if_pos ⟨h1, h2⟩, pk_cpy_in (by omega) (by omega)]
    congr 1; omega
theorem kp_rcL {J I : Nat → UInt8} {fw fk fb n : Nat} (hn : n * 34 ≤ 92480) : ∀ (f i : Nat) (h : Bool) (F : Nat → UInt8), i + f = n → kp_lasI F J n I → (h = true → ∀ i', i' < i → kp_pg I F (kv_jp J i')) →
    kp_lasI (kv_rcL J fw fk fb f i h F).2 J n I ∧ ((kv_rcL J fw fk fb f i h F).1 = true → ∀ i', i' < n → kp_pg I (kv_rcL J fw fk fb f i h F).2 (kv_jp J i')) ∧ (fw ≠ 3 → h = true → (kv_rcL J fw fk fb f i h F).1 = true)
  | 0, i, h, F, h1, h2, h3 => ⟨h2, fun hh i' hi => h3 hh i' (by omega), fun _ h => h⟩
  | f + 1, i, h, F, h1, h2, h3 => by
    rw [kv_rcL]
    split
    · rename_i hh
      obtain ⟨j1, j2⟩ := h2.1 i (by omega)
      obtain ⟨w1, w2⟩ := kp_wf (F := F) (S := J) (sl := 92480) (fw := fw) (fk := fk) (fb := fb) (wh := 3) (wr := i) (pg := kv_jp J i) (at_ := i * 34 + 2)
      obtain ⟨r1, r2, r3⟩ := kp_rcL (I := I) (fb := fb) (fw := fw) (fk := fk) hn f (i + 1) (decide (¬ (fw = 3 ∧ fk = i))) (kv_wf F J 92480 fw fk fb 3 i (kv_jp J i) (i * 34 + 2)) (by omega) ⟨h2.1, fun q hq => by
          by_cases z : q = kv_jp J i
          · exact .inl ⟨i, by omega, z.symm⟩
          · rcases h2.2 q hq with y | y
            · exact .inl y
            · exact .inr (kp_pg_trans y (w1 q z))⟩ (fun hd i' hi' => by
          have hne := of_decide_eq_true hd
          have full : kp_pg I (kv_wf F J 92480 fw fk fb 3 i (kv_jp J i) (i * 34 + 2)) (kv_jp J i) := fun b hb => by rw [w2 j1 (by omega) hne b hb]; exact j2 b hb
          by_cases z : kv_jp J i' = kv_jp J i
          · rw [z]; exact full
          · have : i' < i := by
              by_cases y : i' = i
              · subst y; exact absurd rfl z
              · omega
            exact kp_pg_trans (h3 hh i' this) (w1 _ z))
      exact ⟨r1, r2, fun a _ => r3 a (decide_eq_true (fun y => a y.1))⟩
    · rename_i hh
      exact ⟨h2, fun y => absurd y hh, fun _ y => absurd y hh⟩
/-- Disk.recover -/
theorem kp_recover {F J : Nat → UInt8} {jl fw fk fb : Nat} {A : kp_A} (h : kp_las F J jl A) (hj : jl ≤ 92480) :
    kp_las (kv_rcL J fw fk fb (jl / 34) 0 true F).2 J jl A ∧ ((kv_rcL J fw fk fb (jl / 34) 0 true F).1 = true → kp_inv (kv_rcL J fw fk fb (jl / 34) 0 true F).2 A) ∧ (fw ≠ 3 → (kv_rcL J fw fk fb (jl / 34) 0 true F).1 = true) := by
  obtain ⟨I, h1, h2⟩ := h
  obtain ⟨r1, r2, r3⟩ := kp_rcL (fw := fw) (fk := fk) (fb := fb) (I := I) (J := J) (n := jl / 34) (by omega) (jl / 34) 0 true F (by omega) h2 (fun _ i' hi => by omega)
  refine ⟨⟨I, h1, r1⟩, fun hh => (kp_inv_pg h1 (fun q hq => ?_)).1, fun a => r3 a rfl⟩
  rcases r1.2 q hq with ⟨i, hi, y⟩ | y
  · rw [← y]; exact r2 hh i hi
  · exact y
theorem kp_u8 {pg : Nat} (h : pg < 65536) : (UInt8.ofNat (pg / 256)).toNat * 256 + (UInt8.ofNat pg).toNat = pg := by
  rw [UInt8.toNat_ofNat', UInt8.toNat_ofNat']; omega
/-- a record is written, or some of its first bytes -/
theorem kp_wj {F J Rc : Nat → UInt8} {fw fk fb wr pg : Nat} (hw : wr < 2720) (hp : pg < 2720) (hj : kp_jr J wr F) :
    (¬ (fw = 0 ∧ fk = wr) → (kv_wj F J Rc (34 * wr) fw fk fb wr pg).2 = 34 * (wr + 1) ∧ kv_jp (kv_wj F J Rc (34 * wr) fw fk fb wr pg).1 wr = pg) ∧ kp_jr (kv_wj F J Rc (34 * wr) fw fk fb wr pg).1 ((kv_wj F J Rc (34 * wr) fw fk fb wr pg).2 / 34) F ∧ (kv_wj F J Rc (34 * wr) fw fk fb wr pg).2 ≤ 92480 ∧ wr ≤ (kv_wj F J Rc (34 * wr) fw fk fb wr pg).2 / 34 ∧ ∀ i, i < wr → kv_jp (kv_wj F J Rc (34 * wr) fw fk fb wr pg).1 i = kv_jp J i := by
  have hb := kp_bw_le fw fk fb 0 wr 34
  have hif : kv_wj F J Rc (34 * wr) fw fk fb wr pg = (va_cpy (kv_rec F Rc pg) J 0 (34 * wr) (kv_bw fw fk fb 0 wr 34), 34 * wr + kv_bw fw fk fb 0 wr 34) := if_pos (by omega)
  rw [hif]
  simp only
  generalize hbw : kv_bw fw fk fb 0 wr 34 = bw at *
  have old : ∀ i, i < wr → kv_jp (va_cpy (kv_rec F Rc pg) J 0 (34 * wr) bw) i = kv_jp J i := fun i hi => by
    unfold kv_jp
    rw [pk_cpy_out (.inl (by omega)), pk_cpy_out (.inl (by omega))]
  have r0 : kv_rec F Rc pg 0 = UInt8.ofNat (pg / 256) := by
    unfold kv_rec
    rw [pk_cpy_out (.inl (by omega)), va_up_ne _ _ (by omega), va_up_self]
  have r1 : kv_rec F Rc pg 1 = UInt8.ofNat pg := by
    unfold kv_rec
    rw [pk_cpy_out (.inl (by omega)), va_up_self]
  have new : bw = 34 → kv_jp (va_cpy (kv_rec F Rc pg) J 0 (34 * wr) bw) wr = pg := fun e => by
    unfold kv_jp
    rw [pk_cpy_in (by omega) (by omega), pk_cpy_in (by omega) (by omega), show 0 + (wr * 34 - 34 * wr) = 0 by omega, show 0 + (wr * 34 + 1 - 34 * wr) = 1 by omega, r0, r1]
    exact kp_u8 (by omega)
  refine ⟨fun hne => ?_, fun i hi => ?_, by omega, by omega, old⟩
  · have e : bw = 34 := by rw [← hbw]; exact kp_bw_eq hne
    exact ⟨by omega, new e⟩
  · by_cases z : i < wr
    · rw [old i z]
      obtain ⟨j1, j2⟩ := hj i z
      exact ⟨j1, fun b hb => by rw [pk_cpy_out (.inl (by omega))]; exact j2 b hb⟩
    · have ei : i = wr ∧ bw = 34 := by omega
      rw [ei.1, new ei.2]
      refine ⟨hp, fun b hb => ?_⟩
      rw [pk_cpy_in (by omega) (by omega), show 0 + (wr * 34 + 2 + b - 34 * wr) = 2 + b by omega]
      unfold kv_rec
      rw [pk_cpy_in (by omega) (by omega)]
      congr 1; omega
theorem kp_soL {F : Nat → UInt8} {G : Nat → Bool} {fw fk fb : Nat} : ∀ (f pg wr : Nat) (J Rc : Nat → UInt8), pg + f = 2720 → wr ≤ pg → kp_jr J wr F → (∀ q, q < pg → G q = true → ∃ i, i < wr ∧ kv_jp J i = q) →
    kp_jr (kv_soL F G fw fk fb f pg true wr J (34 * wr) Rc).2.1 ((kv_soL F G fw fk fb f pg true wr J (34 * wr) Rc).2.2.1 / 34) F ∧ (kv_soL F G fw fk fb f pg true wr J (34 * wr) Rc).2.2.1 ≤ 92480 ∧ ((kv_soL F G fw fk fb f pg true wr J (34 * wr) Rc).1 = true → ∀ q, q < 2720 → G q = true → ∃ i, i < (kv_soL F G fw fk fb f pg true wr J (34 * wr) Rc).2.2.1 / 34 ∧ kv_jp (kv_soL F G fw fk fb f pg true wr J (34 * wr) Rc).2.1 i = q) ∧ (fw ≠ 0 → (kv_soL F G fw fk fb f pg true wr J (34 * wr) Rc).1 = true)
  | 0, pg, wr, J, Rc, h1, h2, h3, h4 => by
    have e : 34 * wr / 34 = wr := by omega
    refine ⟨?_, ?_, fun _ q hq hG => ?_, fun _ => rfl⟩
    · show kp_jr J (34 * wr / 34) F
      rw [e]; exact h3
    · show 34 * wr ≤ 92480
      omega
    · show ∃ i, i < 34 * wr / 34 ∧ kv_jp J i = q
      rw [e]; exact h4 q (by omega) hG
  | f + 1, pg, wr, J, Rc, h1, h2, h3, h4 => by
    rw [kv_soL, if_pos rfl]
    by_cases hG : G pg = true
    · rw [if_pos hG]
      obtain ⟨w1, w2, w3, w4, w5⟩ := kp_wj (fw := fw) (fk := fk) (fb := fb) (Rc := Rc) (show wr < 2720 by omega) (show pg < 2720 by omega) h3
      by_cases z : fw = 0 ∧ fk = wr
      · rw [decide_eq_false (fun y => y z)]
        have e : ∀ (f' : Nat) (pg' wr' : Nat) (J' : Nat → UInt8) (jl' : Nat) (Rc' : Nat → UInt8), kv_soL F G fw fk fb f' pg' false wr' J' jl' Rc' = (false, J', jl', Rc') := by
          intro f' pg' wr' J' jl' Rc'
          cases f' with
          | zero => rfl
          | succ f' => rw [kv_soL, if_neg (by simp)]
        rw [e]
        exact ⟨w2, w3, fun y => absurd y (by simp), fun y => absurd z.1 y⟩
      · rw [decide_eq_true z]
        obtain ⟨a1, a2⟩ := w1 z
        rw [a1]
        rw [a1, show 34 * (wr + 1) / 34 = wr + 1 by omega] at w2
        refine kp_soL f (pg + 1) (wr + 1) _ _ (by omega) (by omega) w2 (fun q hq hGq => ?_)
        by_cases y : q = pg
        · exact ⟨wr, by omega, by rw [a2, y]⟩
        · obtain ⟨i, i1, i2⟩ := h4 q (by omega) hGq
          exact ⟨i, by omega, by rw [w5 i i1]; exact i2⟩
    · rw [if_neg hG]
      exact kp_soL f (pg + 1) wr J Rc (by omega) (by omega) h3 (fun q hq hGq => h4 q (by
        by_cases y : q = pg
        · subst y; exact absurd hGq hG
        · omega) hGq)
theorem kp_snL {B F0 : Nat → UInt8} {G : Nat → Bool} {fw fk fb : Nat} : ∀ (f pg wr : Nat) (h : Bool) (F : Nat → UInt8), pg + f = 2720 → (∀ q, G q = false → kp_pg F0 F q) → (h = true → ∀ q, q < pg → G q = true → kp_pg B F q) →
    (∀ q, G q = false → kp_pg F0 (kv_snL B G fw fk fb f pg h wr F).2 q) ∧ ((kv_snL B G fw fk fb f pg h wr F).1 = true → ∀ q, q < 2720 → G q = true → kp_pg B (kv_snL B G fw fk fb f pg h wr F).2 q) ∧ (fw ≠ 1 → h = true → (kv_snL B G fw fk fb f pg h wr F).1 = true)
  | 0, pg, wr, h, F, h1, h2, h3 => ⟨h2, fun hh q hq => h3 hh q (by omega), fun _ y => y⟩
  | f + 1, pg, wr, h, F, h1, h2, h3 => by
    rw [kv_snL]
    split
    · rename_i hh
      split
      · rename_i hG
        obtain ⟨w1, w2⟩ := kp_wf (F := F) (S := B) (sl := 87040) (fw := fw) (fk := fk) (fb := fb) (wh := 1) (wr := wr) (pg := pg) (at_ := pg * 32)
        obtain ⟨r1, r2, r3⟩ := kp_snL (B := B) (F0 := F0) (G := G) (fw := fw) (fk := fk) (fb := fb) f (pg + 1) (wr + 1) (decide (¬ (fw = 1 ∧ fk = wr))) (kv_wf F B 87040 fw fk fb 1 wr pg (pg * 32)) (by omega) (fun q hq => kp_pg_trans (h2 q hq) (w1 q (fun y => by subst y; rw [hG] at hq; simp at hq))) (fun hd q hq hGq => by
            have hne := of_decide_eq_true hd
            by_cases y : q = pg
            · subst y; exact fun b hb => w2 (by omega) (by omega) hne b hb
            · exact kp_pg_trans (h3 hh q (by omega) hGq) (w1 q y))
        exact ⟨r1, r2, fun a _ => r3 a (decide_eq_true (fun y => a y.1))⟩
      · rename_i hG
        exact kp_snL f (pg + 1) wr h F (by omega) h2 (fun hh q hq hGq => h3 hh q (by
          by_cases y : q = pg
          · subst y; exact absurd hGq hG
          · omega) hGq)
    · rename_i hh
      exact ⟨h2, fun y => absurd y hh, fun _ y => absurd y hh⟩
/-- Disk.save: power held, or what lasts -/
theorem kp_save {F J Rc B : Nat → UInt8} {G : Nat → Bool} {fw fk fb : Nat} {A A' : kp_A} (hF : kp_inv F A) (hm : kp_mem F B G A') :
    ((kv_save F J Rc 0 fw fk fb B G).1 = true ↔ ¬ (fw = 0 ∨ fw = 1 ∨ fw = 2)) ∧ (kv_save F J Rc 0 fw fk fb B G).2.2 ≤ 92480 ∧
    ((kv_save F J Rc 0 fw fk fb B G).1 = true → (kv_save F J Rc 0 fw fk fb B G).2.2 = 0 ∧ kp_inv (kv_save F J Rc 0 fw fk fb B G).2.1 A' ∧ ∀ G', kp_mem (kv_save F J Rc 0 fw fk fb B G).2.1 B G' A') ∧
    ((kv_save F J Rc 0 fw fk fb B G).1 = false → kp_las (kv_save F J Rc 0 fw fk fb B G).2.1 (kv_soL F G fw fk fb 2720 0 true 0 J 0 Rc).2.1 (kv_save F J Rc 0 fw fk fb B G).2.2 (if fw = 2 ∧ fk ≠ 0 then A' else A)) := by
  obtain ⟨s1, s2, s3, s4⟩ := kp_soL (F := F) (G := G) (fw := fw) (fk := fk) (fb := fb) 2720 0 0 J Rc rfl (Nat.le_refl _) (fun i hi => by omega) (fun q hq => by omega)
  rw [Nat.mul_zero] at s1 s2 s3 s4
  obtain ⟨n1, n2, n3⟩ := kp_snL (B := B) (F0 := F) (G := G) (fw := fw) (fk := fk) (fb := fb) 2720 0 0 true F rfl (fun q _ => kp_pg_refl _ _) (fun _ q hq => by omega)
  have hub := (kp_inv_used hm.1).2
  have huf := (kp_inv_used hF).2
  have newF : (kv_snL B G fw fk fb 2720 0 true 0 F).1 = true → ∀ q, q < 9 + kv_used B → kp_pg B (kv_snL B G fw fk fb 2720 0 true 0 F).2 q := fun hh q hq => by
    cases z : G q with
    | false => exact kp_pg_trans (kp_pg_symm (hm.2.2 q hq z)) (n1 q z)
    | true => exact n2 hh q (by omega) z
  have oldF : ∀ Fx, (∀ q, G q = false → kp_pg F Fx q) → (kv_soL F G fw fk fb 2720 0 true 0 J 0 Rc).1 = true → kp_las Fx (kv_soL F G fw fk fb 2720 0 true 0 J 0 Rc).2.1 (kv_soL F G fw fk fb 2720 0 true 0 J 0 Rc).2.2.1 A := fun Fx hFx hh => ⟨F, hF, s1, fun q hq => by
    cases z : G q with
    | false => exact .inr (hFx q z)
    | true => exact .inl (s3 hh q (by omega) z)⟩
  unfold kv_save
  by_cases a : (kv_soL F G fw fk fb 2720 0 true 0 J 0 Rc).1 = true
  · rw [if_pos a]
    by_cases b : (kv_snL B G fw fk fb 2720 0 true 0 F).1 = true
    · rw [if_pos b]
      simp only
      have inv' := kp_inv_pg hm.1 (newF b)
      by_cases c : fw = 0 ∨ fw = 1 ∨ (fw = 2 ∧ fk = 0)
      · rw [if_pos c, decide_eq_false (fun y => y.1 c)]
        refine ⟨⟨fun y => by simp at y, fun y => absurd (by omega) y⟩, s2, fun y => by simp at y, fun _ => ?_⟩
        rw [if_neg (by omega)]
        exact oldF _ n1 a
      · rw [if_neg c]
        by_cases d : fw = 2
        · rw [decide_eq_false (fun y => y.2 d)]
          refine ⟨⟨fun y => by simp at y, fun y => absurd (by omega) y⟩, by omega, fun y => by simp at y, fun _ => ?_⟩
          rw [if_pos (by omega)]
          exact kp_las_of inv'.1
        · rw [decide_eq_true ⟨c, d⟩]
          refine ⟨⟨fun _ => by omega, fun _ => rfl⟩, by omega, fun _ => ⟨rfl, inv'.1, fun G' => ?_⟩, fun y => by simp at y⟩
          exact kp_mem_new inv'.1 (fun q hq => kp_pg_symm (newF b q (by rw [inv'.2] at hq; exact hq)))
    · rw [if_neg b]
      simp only
      have : fw = 1 := by
        by_cases y : fw = 1
        · exact y
        · exact absurd (n3 y rfl) b
      refine ⟨⟨fun y => by simp at y, fun y => absurd (by omega) y⟩, s2, fun y => by simp at y, fun _ => ?_⟩
      rw [if_neg (by omega)]
      exact oldF _ n1 a
  · rw [if_neg a]
    simp only
    have : fw = 0 := by
      by_cases y : fw = 0
      · exact y
      · exact absurd (s4 y) a
    refine ⟨⟨fun y => by simp at y, fun y => absurd (by omega) y⟩, s2, fun y => by simp at y, fun _ => ?_⟩
    rw [if_neg (by omega)]
    exact ⟨F, hF, s1, fun q _ => .inr (kp_pg_refl _ _)⟩
