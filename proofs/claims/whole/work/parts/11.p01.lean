/-! PURE, first: order of rows; numbers in pages; linked pages; chains -/
/-- below 0, 0, above 0: a before b, the same, behind -/
def kp_c : List UInt8 → List UInt8 → Int
  | [], [] => 0
  | [], _ :: _ => -1
  | _ :: _, [] => 1
  | a :: as, b :: bs => if a = b then kp_c as bs else if a.toNat < b.toNat then -1 else 1
theorem kp_c_self : ∀ a : List UInt8, kp_c a a = 0
  | [] => rfl
  | a :: as => by rw [kp_c, if_pos rfl]; exact kp_c_self as
theorem kp_c_eq : ∀ {a b : List UInt8}, kp_c a b = 0 → a = b
  | [], [], _ => rfl
  | [], _ :: _, h => by simp [kp_c] at h
  | _ :: _, [], h => by simp [kp_c] at h
  | a :: as, b :: bs, h => by
    rw [kp_c] at h
    split at h
    · next e => rw [e, kp_c_eq h]
    · split at h <;> cases h
theorem kp_c_neg : ∀ (a b : List UInt8), kp_c b a = - kp_c a b
  | [], [] => rfl
  | [], _ :: _ => rfl
  | _ :: _, [] => rfl
  | a :: as, b :: bs => by
    rw [kp_c, kp_c]
    by_cases e : a = b
    · subst e; rw [if_pos rfl, if_pos rfl]; exact kp_c_neg as bs
    · have e' : ¬ b = a := fun z => e z.symm
      rw [if_neg e, if_neg e']
      have hne : a.toNat ≠ b.toNat := fun z => e (UInt8.toNat_inj.mp z)
      by_cases h : a.toNat < b.toNat
      · rw [if_pos h, if_neg (by omega)]; rfl
      · rw [if_neg h, if_pos (by omega)]
theorem kp_c_bnd : ∀ (a b : List UInt8), kp_c a b = -1 ∨ kp_c a b = 0 ∨ kp_c a b = 1
  | [], [] => Or.inr (Or.inl rfl)
  | [], _ :: _ => Or.inl rfl
  | _ :: _, [] => Or.inr (Or.inr rfl)
  | a :: as, b :: bs => by
    rw [kp_c]
    split
    · exact kp_c_bnd as bs
    · split
      · exact Or.inl rfl
      · exact Or.inr (Or.inr rfl)
theorem kp_c_trans : ∀ {a b c : List UInt8}, kp_c a b < 0 → kp_c b c < 0 → kp_c a c < 0
  | [], [], _, h, _ => by simp [kp_c] at h
  | [], _ :: _, [], _, h => by simp [kp_c] at h
  | [], _ :: _, _ :: _, _, _ => by simp [kp_c]
  | _ :: _, [], _, h, _ => by simp [kp_c] at h
  | _ :: _, _ :: _, [], _, h => by simp [kp_c] at h
  | a :: as, b :: bs, c :: cs, h1, h2 => by
    rw [kp_c] at h1 h2 ⊢
    by_cases e1 : a = b
    · subst e1
      rw [if_pos rfl] at h1
      by_cases e2 : a = c
      · subst e2
        rw [if_pos rfl] at h2 ⊢
        exact kp_c_trans h1 h2
      · rw [if_neg e2] at h2 ⊢
        exact h2
    · rw [if_neg e1] at h1
      by_cases e2 : b = c
      · subst e2
        rw [if_neg e1]
        exact h1
      · rw [if_neg e2] at h2
        have l1 : a.toNat < b.toNat := by
          by_cases z : a.toNat < b.toNat
          · exact z
          · rw [if_neg z] at h1; omega
        have l2 : b.toNat < c.toNat := by
          by_cases z : b.toNat < c.toNat
          · exact z
          · rw [if_neg z] at h2; omega
        have e3 : ¬ a = c := fun z => by subst z; omega
        rw [if_neg e3, if_pos (by omega)]
        omega
theorem kp_c_irr (a : List UInt8) : ¬ kp_c a a < 0 := by rw [kp_c_self]; omega
theorem kp_c_tri (a b : List UInt8) : kp_c a b < 0 ∨ a = b ∨ kp_c b a < 0 := by
  rcases kp_c_bnd a b with h | h | h
  · exact Or.inl (by omega)
  · exact Or.inr (Or.inl (kp_c_eq h))
  · exact Or.inr (Or.inr (by rw [kp_c_neg a b]; omega))
/-- a number with the sign of the first difference -/
def kp_sg (x : Int) (r k : List UInt8) : Prop := (x < 0 ↔ kp_c r k < 0) ∧ (x = 0 ↔ kp_c r k = 0)
theorem kp_sg_pos {x : Int} {r k : List UInt8} (h : kp_sg x r k) : 0 < x ↔ 0 < kp_c r k := by
  have h1 := h.1
  have h2 := h.2
  constructor <;> intro z
  · have a1 : ¬ kp_c r k < 0 := fun y => by have := h1.mpr y; omega
    have a2 : ¬ kp_c r k = 0 := fun y => by have := h2.mpr y; omega
    omega
  · have a1 : ¬ x < 0 := fun y => by have := h1.mp y; omega
    have a2 : ¬ x = 0 := fun y => by have := h2.mp y; omega
    omega
/-- the two agree before d, and x tells what comes at d -/
theorem kp_sg_of : ∀ {r k : List UInt8} {d : Nat} {x : Int}, d ≤ r.length → d ≤ k.length → (∀ j, j < d → r[j]? = k[j]?) →
    ((∃ a b : UInt8, r[d]? = some a ∧ k[d]? = some b ∧ a ≠ b ∧ x = (a.toNat : Int) - b.toNat) ∨ ((d = r.length ∨ d = k.length) ∧ x = (r.length : Int) - k.length)) → kp_sg x r k
  | r, k, 0, x, _, _, _, h => by
    rcases h with ⟨a, b, ha, hb, hne, hx⟩ | ⟨hd, hx⟩
    · cases r with
      | nil => simp at ha
      | cons r0 rs =>
        cases k with
        | nil => simp at hb
        | cons k0 ks =>
          have e1 : r0 = a := by simpa using ha
          have e2 : k0 = b := by simpa using hb
          subst e1; subst e2
          have hn : r0.toNat ≠ k0.toNat := fun z => hne (UInt8.toNat_inj.mp z)
          unfold kp_sg
          rw [kp_c, if_neg hne]
          by_cases z : r0.toNat < k0.toNat
          · rw [if_pos z]; constructor <;> constructor <;> intro <;> omega
          · rw [if_neg z]; constructor <;> constructor <;> intro <;> omega
    · unfold kp_sg
      cases r with
      | nil =>
        cases k with
        | nil => simp at hx; subst hx; simp [kp_c]
        | cons k0 ks => simp at hx; simp [kp_c]; constructor <;> omega
      | cons r0 rs =>
        cases k with
        | nil => simp at hx; simp [kp_c]; omega
        | cons k0 ks => rcases hd with z | z <;> simp at z
  | r, k, d + 1, x, h1, h2, h3, h => by
    cases r with
    | nil => simp at h1
    | cons r0 rs =>
      cases k with
      | nil => simp at h2
      | cons k0 ks =>
        have e : r0 = k0 := by have := h3 0 (by omega); simpa using this
        subst e
        have ih : kp_sg x rs ks := by
          refine kp_sg_of (d := d) (by simpa using h1) (by simpa using h2) (fun j hj => by have := h3 (j + 1) (by omega); simpa using this) ?_
          rcases h with ⟨a, b, ha, hb, hne, hx⟩ | ⟨hd, hx⟩
          · exact Or.inl ⟨a, b, by simpa using ha, by simpa using hb, hne, hx⟩
          · refine Or.inr ⟨?_, by rw [hx]; simp; omega⟩
            rcases hd with z | z
            · exact Or.inl (by simpa using z)
            · exact Or.inr (by simpa using z)
        unfold kp_sg at ih ⊢
        rw [kp_c, if_pos rfl]
        exact ih
/-! numbers -/
theorem kv_setN_at {M : kv_M} {a n j : Nat} (h1 : j ≠ a) (h2 : j ≠ a + 1) : (kv_setN M a n).1 j = M.1 j := by
  unfold kv_setN
  split
  · simp [va_up, h1, h2]
  · rfl
theorem kv_num_setN {M : kv_M} {a n b : Nat} (ha : a % 2 = 0) (hb : b % 2 = 0) : kv_num (kv_setN M a n).1 b = if b = a ∧ a ≤ 87038 then n % 65536 else kv_num M.1 b := by
  by_cases hr : a ≤ 87038
  · by_cases e : b = a
    · subst e
      rw [if_pos ⟨rfl, hr⟩]
      unfold kv_num kv_setN
      rw [if_pos hr, if_pos hr]
      simp [va_up]
      omega
    · rw [if_neg (fun z => e z.1)]
      unfold kv_num
      rw [kv_setN_at (by omega) (by omega), kv_setN_at (by omega) (by omega)]
  · rw [if_neg (fun z => hr z.2)]
    unfold kv_setN
    rw [if_neg hr]
/-- two memories have the same page q -/
def kp_pg (B B' : Nat → UInt8) (q : Nat) : Prop := ∀ i, i < 32 → B' (q * 32 + i) = B (q * 32 + i)
theorem kp_pg_num {B B' : Nat → UInt8} {q i : Nat} (h : kp_pg B B' q) (hi : i < 31) : kv_num B' (q * 32 + i) = kv_num B (q * 32 + i) := by
  unfold kv_num
  rw [h i (by omega), show q * 32 + i + 1 = q * 32 + (i + 1) by omega, h (i + 1) (by omega)]
theorem kp_pg_num0 {B B' : Nat → UInt8} {q : Nat} (h : kp_pg B B' q) : kv_num B' (q * 32) = kv_num B (q * 32) := by
  have e := kp_pg_num (i := 0) h (by omega)
  rw [Nat.add_zero] at e
  exact e
theorem kp_pg_setN {M : kv_M} {a n q : Nat} (ha : a % 2 = 0) (hq : q ≠ a / 32) : kp_pg M.1 (kv_setN M a n).1 q := by
  intro i hi
  exact kv_setN_at (by omega) (by omega)
theorem kp_pg_trans {B B' B'' : Nat → UInt8} {q : Nat} (h : kp_pg B B' q) (h2 : kp_pg B' B'' q) : kp_pg B B'' q := fun i hi => (h2 i hi).trans (h i hi)
theorem kp_pg_refl (B : Nat → UInt8) (q : Nat) : kp_pg B B q := fun _ _ => rfl
/-! linked pages, the last one leads to e -/
def kp_lk (B : Nat → UInt8) : List Nat → Nat → Prop
  | [], _ => True
  | p :: ps, e => kv_num B (p * 32) = ps.headD e ∧ kp_lk B ps e
theorem kp_lk_frame {B B' : Nat → UInt8} : ∀ {ps : List Nat} {e : Nat}, (∀ q ∈ ps, kv_num B' (q * 32) = kv_num B (q * 32)) → kp_lk B ps e → kp_lk B' ps e
  | [], _, _, _ => trivial
  | p :: ps, e, h, h1 => ⟨by rw [h p List.mem_cons_self]; exact h1.1, kp_lk_frame (fun q hq => h q (List.mem_cons_of_mem _ hq)) h1.2⟩
theorem kp_lk_next {B : Nat → UInt8} : ∀ {ps : List Nat} {e i : Nat}, kp_lk B ps e → (h : i < ps.length) → kv_num B (ps[i] * 32) = (ps[i + 1]?).getD e
  | [], _, _, _, h => by simp at h
  | p :: ps, e, 0, h1, _ => by
    rw [List.getElem_cons_zero, h1.1]
    cases ps <;> simp
  | p :: ps, e, i + 1, h1, h => by
    rw [List.getElem_cons_succ, kp_lk_next h1.2 (by simpa using h)]
    simp
theorem kp_lk_app {B : Nat → UInt8} : ∀ {ps qs : List Nat} {e : Nat}, kp_lk B (ps ++ qs) e ↔ kp_lk B ps (qs.headD e) ∧ kp_lk B qs e
  | [], qs, e => by simp [kp_lk]
  | p :: ps, qs, e => by
    have e1 : (ps ++ qs).headD e = ps.headD (qs.headD e) := by cases ps <;> simp
    have e2 := kp_lk_app (B := B) (ps := ps) (qs := qs) (e := e)
    show (kv_num B (p * 32) = (ps ++ qs).headD e ∧ kp_lk B (ps ++ qs) e) ↔ (kv_num B (p * 32) = ps.headD (qs.headD e) ∧ kp_lk B ps (qs.headD e)) ∧ kp_lk B qs e
    rw [e1, e2, and_assoc]
/-! chains: where the byte j of an ENTRY lies; how many pages n bytes take -/
def kp_addr (ps : List Nat) (j : Nat) : Nat := if j < 26 then (ps[0]?).getD 0 * 32 + 6 + j else (ps[1 + (j - 26) / 30]?).getD 0 * 32 + 2 + (j - 26) % 30
def kp_pf (n : Nat) : Nat := if n ≤ 26 then 1 else 1 + (n - 26 + 29) / 30
def kp_ch (B : Nat → UInt8) (c : Nat) (ps : List Nat) (k v : List UInt8) : Prop :=
  ps[0]? = some c ∧ ps.length = kp_pf (k.length + v.length) ∧ kp_lk B ps 0 ∧ kv_num B (c * 32 + 2) = k.length ∧ kv_num B (c * 32 + 4) = v.length ∧ (∀ j, j < k.length + v.length → some (B (kp_addr ps j)) = (k ++ v)[j]?)
theorem kp_addr_in {ps : List Nat} {j n : Nat} (hj : j < n) (hl : ps.length = kp_pf n) : ∃ q ∈ ps, ∃ i, 2 ≤ i ∧ i < 32 ∧ kp_addr ps j = q * 32 + i := by
  unfold kp_addr
  unfold kp_pf at hl
  by_cases h : j < 26
  · rw [if_pos h]
    have h0 : 0 < ps.length := by split at hl <;> omega
    refine ⟨ps[0], List.getElem_mem h0, 6 + j, by omega, by omega, ?_⟩
    rw [List.getElem?_eq_getElem h0]
    simp
    omega
  · rw [if_neg h]
    have h0 : 1 + (j - 26) / 30 < ps.length := by split at hl <;> omega
    refine ⟨ps[1 + (j - 26) / 30], List.getElem_mem h0, 2 + (j - 26) % 30, by omega, by omega, ?_⟩
    rw [List.getElem?_eq_getElem h0]
    simp
    omega
theorem kp_ch_frame {B B' : Nat → UInt8} {c : Nat} {ps : List Nat} {k v : List UInt8} (h : kp_ch B c ps k v) (hp : ∀ q ∈ ps, kp_pg B B' q) : kp_ch B' c ps k v := by
  obtain ⟨h1, h2, h3, h4, h5, h6⟩ := h
  have hc : c ∈ ps := List.mem_of_getElem? h1
  refine ⟨h1, h2, kp_lk_frame (fun q hq => kp_pg_num0 (hp q hq)) h3, by rw [kp_pg_num (hp c hc) (by omega)]; exact h4, by rw [kp_pg_num (hp c hc) (by omega)]; exact h5, fun j hj => ?_⟩
  obtain ⟨q, hq, i, -, hi, he⟩ := kp_addr_in hj h2
  rw [← h6 j hj, he, hp q hq i hi]
