/-! PURE, the 37th: the reference's data stand for the same store -/
theorem kq_flat_in {A : kp_A} {t : Nat} (ht : t < 64) {l : List kp_KV} (hA : A t = some l) {i : Nat} (hi : i ≤ l.length) (e : kp_KV) : kq_flat (va_up A t (some (kp_in l i e))) = kp_in (kq_flat A) ((kq_up A t).length + i) (t, e) := by
  have hl : kq_l (A t) = l := by rw [hA]; rfl
  have hl2 : kq_l (some (kp_in l i e)) = kp_in l i e := rfl
  rw [kq_flat_up A ht, kq_flat_dec A ht, hl, hl2]
  have e1 : kq_tag t (kp_in l i e) = kp_in (kq_tag t l) i (t, e) := kp_in_map _ l i e
  rw [e1, List.append_assoc, List.append_assoc, kp_in_app (by rw [List.length_append]; unfold kq_tag; rw [List.length_map]; omega), kp_in_app2 (by unfold kq_tag; rw [List.length_map]; exact hi)]
theorem kq_flat_erase {A : kp_A} {t : Nat} (ht : t < 64) {l : List kp_KV} (hA : A t = some l) {i : Nat} (hi : i < l.length) : kq_flat (va_up A t (some (l.take i ++ l.drop (i + 1)))) = (kq_flat A).take ((kq_up A t).length + i) ++ (kq_flat A).drop ((kq_up A t).length + i + 1) := by
  obtain ⟨l1, l2, e1, e2⟩ := kp_dec (List.getElem?_eq_getElem hi)
  have hl : kq_l (A t) = l := by rw [hA]; rfl
  generalize l[i] = e at e1
  subst e1
  subst e2
  rw [kp_erase_dec, kq_flat_up A ht, kq_flat_dec A ht, hl]
  have hl2 : kq_l (some (l1 ++ l2)) = l1 ++ l2 := rfl
  have t1 : kq_tag t (l1 ++ l2) = kq_tag t l1 ++ kq_tag t l2 := List.map_append
  have t2 : kq_tag t (l1 ++ e :: l2) = kq_tag t l1 ++ (t, e) :: kq_tag t l2 := by unfold kq_tag; rw [List.map_append, List.map_cons]
  have ll : (kq_up A t ++ kq_tag t l1).length = (kq_up A t).length + l1.length := by rw [List.length_append]; unfold kq_tag; rw [List.length_map]
  rw [hl2, t1, t2, ← ll]
  have := kp_erase_dec (kq_up A t ++ kq_tag t l1) (kq_tag t l2 ++ kq_dn A t (63 - t)) (t, e)
  simp only [List.append_assoc, List.cons_append] at this ⊢
  exact this.symm
theorem kp_in_erase {l : List kp_KV} {i : Nat} (hi : i < l.length) (e : kp_KV) : kp_in (l.take i ++ l.drop (i + 1)) i e = l.set i e := by
  have hlt : (l.take i).length = i := by rw [List.length_take]; omega
  have := kp_in_dec (l.take i) (l.drop (i + 1)) e
  rw [hlt] at this
  rw [this, List.set_eq_take_append_cons_drop, if_pos hi]
theorem kq_filter_up {A : kp_A} {t : Nat} : ∀ n, (kq_up A n).filter (fun x => decide (x.1 ≠ t)) = kq_up (va_up A t none) n
  | 0 => rfl
  | n + 1 => by
    rw [kq_up, kq_up, List.filter_append, kq_filter_up n]
    congr 1
    by_cases z : n = t
    · subst z
      rw [va_up_self]
      show _ = []
      exact List.filter_eq_nil_iff.mpr (fun x hx => by
        obtain ⟨e, e1, e2⟩ := List.mem_map.mp hx
        rw [← e2]; simp)
    · rw [va_up_ne _ _ z]
      exact List.filter_eq_self.mpr (fun x hx => by
        obtain ⟨e, e1, e2⟩ := List.mem_map.mp hx
        rw [← e2]; simpa using z)
/-- the reference's dropping -/
theorem kq_dropL {P : km_P} {t m : Nat} : ∀ (f k to : Nat) (LI : Nat → Nat), k + f = m → to ≤ k → (∀ j, k ≤ j → LI j = P.2.2.2.1 j) → (∀ j, j < to → LI j < P.2.2.2.2.1) → (∀ j, j < m → P.2.2.2.1 j < P.2.2.2.2.1) →
    kq_ls P.1.1 P.1.2 P.2.1.1 P.2.1.2 P.2.2.1.2 (km_dropL P.1.1 t f k LI to).1 0 (km_dropL P.1.1 t f k LI to).2 = kq_ls P.1.1 P.1.2 P.2.1.1 P.2.1.2 P.2.2.1.2 LI 0 to ++ ((kq_ls P.1.1 P.1.2 P.2.1.1 P.2.1.2 P.2.2.1.2 P.2.2.2.1 0 m).drop k).filter (fun x => decide (x.1 ≠ t)) ∧ (km_dropL P.1.1 t f k LI to).2 ≤ m ∧ (∀ j, j < (km_dropL P.1.1 t f k LI to).2 → (km_dropL P.1.1 t f k LI to).1 j < P.2.2.2.2.1) ∧ (∀ j, m ≤ j → (km_dropL P.1.1 t f k LI to).1 j = LI j)
  | 0, k, to, LI, h1, h2, h3, h4, h5 => by
    refine ⟨?_, by show to ≤ m; omega, fun j hj => h4 j hj, fun j _ => rfl⟩
    rw [List.drop_of_length_le (by rw [kq_ls_len]; omega)]
    simp [km_dropL]
  | f + 1, k, to, LI, h1, h2, h3, h4, h5 => by
    have hk : k < m := by omega
    have e := kq_ls_at (TO := P.1.1) (PL := P.1.2) (KS := P.2.1.1) (VS := P.2.1.2) (Y := P.2.2.1.2) (LI := P.2.2.2.1) (b := 0) hk
    have e2 : (kq_ls P.1.1 P.1.2 P.2.1.1 P.2.1.2 P.2.2.1.2 P.2.2.2.1 0 m).drop k = kq_ent P.1.1 P.1.2 P.2.1.1 P.2.1.2 P.2.2.1.2 (P.2.2.2.1 (0 + k)) :: (kq_ls P.1.1 P.1.2 P.2.1.1 P.2.1.2 P.2.2.1.2 P.2.2.2.1 0 m).drop (k + 1) := by
      rw [List.drop_eq_getElem_cons (by rw [kq_ls_len]; exact hk), (List.getElem?_eq_some_iff.mp e).2]
    rw [km_dropL, e2, h3 k (Nat.le_refl _), Nat.zero_add]
    by_cases z : P.1.1 (P.2.2.2.1 k) = t
    · rw [if_pos z, List.filter_cons, if_neg (by simp [kq_ent, z])]
      exact kq_dropL f (k + 1) to LI (by omega) (by omega) (fun j hj => h3 j (by omega)) h4 h5
    · rw [if_neg z, List.filter_cons, if_pos (by simp [kq_ent, z])]
      obtain ⟨i1, i2, i3, i4⟩ := kq_dropL (P := P) (t := t) (m := m) f (k + 1) (to + 1) (va_up LI to (P.2.2.2.1 k)) (by omega) (by omega) (fun j hj => by rw [va_up_ne _ _ (by omega)]; exact h3 j (by omega)) (fun j hj => by
        by_cases y : j = to
        · subst y; rw [va_up_self]; exact h5 k hk
        · rw [va_up_ne _ _ y]; exact h4 j (by omega)) h5
      refine ⟨?_, i2, i3, fun j hj => by rw [i4 j hj, va_up_ne _ _ (by omega)]⟩
      rw [i1]
      have e3 : kq_ls P.1.1 P.1.2 P.2.1.1 P.2.1.2 P.2.2.1.2 (va_up LI to (P.2.2.2.1 k)) 0 (to + 1) = kq_ls P.1.1 P.1.2 P.2.1.1 P.2.1.2 P.2.2.1.2 LI 0 to ++ [kq_ent P.1.1 P.1.2 P.2.1.1 P.2.1.2 P.2.2.1.2 (P.2.2.2.1 k)] := by
        unfold kq_ls
        rw [List.range_succ, List.map_append]
        congr 1
        · refine List.map_congr_left (fun j hj => ?_)
          have := List.mem_range.mp hj
          rw [va_up_ne _ _ (by omega)]
        · simp only [List.map_cons, List.map_nil, Nat.zero_add]
          rw [va_up_self]
      rw [e3]; simp
abbrev kz_E : Type := km_P × ((Nat → Nat) × (Nat → Int64)) × (((Nat → UInt8) × Nat) × ((Nat → UInt8) × Nat) × ((Nat → UInt8) × Nat) × ((Nat → UInt8) × Nat)) × Nat × (Bool × Bool × Bool) × (Nat × Nat × Nat)
def kz_fe (FK : Nat → UInt8) (fkn : Nat) (FV : Nat → UInt8) (fvn : Nat) : Option kp_KV → Prop
  | none => True
  | some e => kp_row FK fkn e.1 ∧ kp_row FV fvn e.2
def kz_N : kz_E → kz_S → Prop
  | (P, (MY, TR), ((KY, kn), (VY, vn), (FK, fkn), (FV, fvn)), mq, (off, opn, fnd), (wh, af, th)), ((A, L, Ms), (key, val, fd), (son, sop), (sw, sk)) =>
    (kn ≤ 8448 ∧ vn ≤ 8448 ∧ fkn ≤ 8448 ∧ fvn ≤ 8448 ∧ wh ≤ 4 ∧ af ≤ 1000) ∧
    (off = !son ∧ opn = sop ∧ fnd = fd.isSome ∧ mq = Ms.length ∧ wh = sw ∧ af = sk) ∧
    kq_M P MY TR (A :: L :: Ms) ∧
    (kp_row KY kn key ∧ kp_row VY vn val ∧ kz_fe FK fkn FV fvn fd)
theorem zN_lists {P : km_P} {MY : Nat → Nat} {TR : Nat → Int64} {A L : kp_A} {Ms : List kp_A} {mk : Nat} (h : kq_M P MY TR (A :: L :: Ms)) (hm : mk = Ms.length) : mk ≤ 5 ∧ (∀ s, s < 2 + mk → MY s ≤ 2900 ∧ ∀ k, k < MY s → P.2.2.2.1 (2900 * s + k) < 20600) ∧ MY 0 ≤ 2900 ∧ MY 1 ≤ 2900 := by
  have hl : (A :: L :: Ms).length = 2 + mk := by simp; omega
  have h7 := h.2.1
  refine ⟨by omega, fun s hs => ?_, ?_, ?_⟩
  · obtain ⟨a, a1, a2, a3, a4⟩ := kq_M_S h (show s < (A :: L :: Ms).length by omega)
    exact ⟨by omega, fun k hk => (kq_S_ent h.1 a2 a3 hk).1⟩
  · obtain ⟨a, a1, a2, a3, a4⟩ := kq_M_S h (show 0 < (A :: L :: Ms).length by omega)
    omega
  · obtain ⟨a, a1, a2, a3, a4⟩ := kq_M_S h (show 1 < (A :: L :: Ms).length by omega)
    omega
theorem zN_now {P : km_P} {MY : Nat → Nat} {TR : Nat → Int64} {A : kp_A} {L : List kp_A} (h : kq_M P MY TR (A :: L)) : kq_S P MY TR 0 A ∧ kp_okA A := h.2.2 0 A rfl
theorem zN_tree {P : km_P} {MY : Nat → Nat} {TR : Nat → Int64} {A : kp_A} {L : List kp_A} (h : kq_M P MY TR (A :: L)) {t : Nat} (ht : t < 64) : km_tree (TR 0) t = (A t).isSome := (zN_now h).1.2.1 t ht
/-- list 0 is another, the rest as it was -/
theorem zN_set0 {P P' : km_P} {MY MY' : Nat → Nat} {TR TR' : Nat → Int64} {A A' : kp_A} {L : List kp_A} (h : kq_M P MY TR (A :: L)) (hr : kq_recP P') (h0 : kq_S P' MY' TR' 0 A') (hok : kp_okA A') (ho : ∀ s X, s ≠ 0 → s < (A :: L).length → MY s ≤ 2168 → kq_S P MY TR s X → kq_S P' MY' TR' s X) : kq_M P' MY' TR' (A' :: L) := kq_M_set (b := 0) h hr (by simp) h0 hok ho
theorem zN_addTree {P : km_P} {MY : Nat → Nat} {TR : Nat → Int64} {A : kp_A} {L : List kp_A} {t : Nat} (h : kq_M P MY TR (A :: L)) (ht : t < 64) (hA : A t = none) (hok : kp_okA (va_up A t (some []))) : kq_M P MY (va_up TR 0 (km_on (TR 0) t)) (va_up A t (some []) :: L) := by
  refine zN_set0 h h.1 (kq_S_tree (zN_now h).1 ?_ (fun j hj => ?_)) hok (fun s X hs _ _ hX => kq_S_congr hX rfl (va_up_ne _ _ hs) (fun k hk => ⟨hX.2.2 k hk, rfl⟩))
  · rw [kq_flat_up A ht, kq_flat_dec A ht, hA]; rfl
  · rw [kq_on ht j hj]
    by_cases z : j = t
    · subst z; rw [if_pos rfl, va_up_self]; rfl
    · rw [if_neg z, va_up_ne _ _ z]; exact zN_tree h hj
theorem zN_drop {P : km_P} {MY : Nat → Nat} {TR : Nat → Int64} {A : kp_A} {L : List kp_A} {t : Nat} (h : kq_M P MY TR (A :: L)) (ht : t < 64) (hok : kp_okA (va_up A t none)) : kq_M (P.1, P.2.1, P.2.2.1, (km_dropL P.1.1 t (MY 0) 0 P.2.2.2.1 0).1, P.2.2.2.2) (va_up MY 0 (km_dropL P.1.1 t (MY 0) 0 P.2.2.2.1 0).2) (va_up TR 0 (km_off (TR 0) t)) (va_up A t none :: L) := by
  obtain ⟨h0, hok0⟩ := zN_now h
  have hm := (kq_S_len h0 hok0).2
  have hlt : ∀ j, j < MY 0 → P.2.2.2.1 j < P.2.2.2.2.1 := fun j hj => by
    have := h0.2.2 j hj
    rw [Nat.mul_zero, Nat.zero_add] at this; exact this
  obtain ⟨d1, d2, d3, d4⟩ := kq_dropL (P := P) (t := t) (m := MY 0) (MY 0) 0 0 P.2.2.2.1 (by omega) (Nat.le_refl _) (fun j _ => rfl) (fun j hj => by omega) hlt
  have e0 : kq_ls P.1.1 P.1.2 P.2.1.1 P.2.1.2 P.2.2.1.2 P.2.2.2.1 0 (MY 0) = kq_flat A := h0.1
  rw [e0, List.drop_zero, kq_filter_up, show kq_ls P.1.1 P.1.2 P.2.1.1 P.2.1.2 P.2.2.1.2 P.2.2.2.1 0 0 = [] from rfl, List.nil_append] at d1
  refine zN_set0 h h.1 ⟨?_, fun j hj => ?_, fun k hk => ?_⟩ hok (fun s X hs _ hms hX => kq_S_congr hX (va_up_ne _ _ hs) (va_up_ne _ _ hs) (fun k hk => ?_))
  · rw [va_up_self]; exact d1
  · rw [va_up_self, kq_off ht j hj]
    by_cases z : j = t
    · subst z; rw [if_pos rfl, va_up_self]; rfl
    · rw [if_neg z, va_up_ne _ _ z]; exact zN_tree h hj
  · rw [va_up_self] at hk
    simp only [Nat.mul_zero, Nat.zero_add]
    exact d3 k hk
  · simp only
    have e : (km_dropL P.1.1 t (MY 0) 0 P.2.2.2.1 0).1 (2900 * s + k) = P.2.2.2.1 (2900 * s + k) := d4 _ (by omega)
    rw [e]
    exact ⟨hX.2.2 k hk, rfl⟩
theorem zN_out {P : km_P} {MY : Nat → Nat} {TR : Nat → Int64} {A : kp_A} {L : List kp_A} {t : Nat} {l : List kp_KV} {i : Nat} (h : kq_M P MY TR (A :: L)) (ht : t < 64) (hA : A t = some l) (hi : i < l.length) (hok : kp_okA (va_up A t (some (l.take i ++ l.drop (i + 1))))) : kq_M (P.1, P.2.1, P.2.2.1, km_out P.2.2.2.1 ((kq_up A t).length + i) (MY 0 - 1), P.2.2.2.2) (va_up MY 0 (MY 0 - 1)) TR (va_up A t (some (l.take i ++ l.drop (i + 1))) :: L) := by
  obtain ⟨h0, hok0⟩ := zN_now h
  have hm := kq_S_len h0 hok0
  have hp : (kq_up A t).length + i < MY 0 := by
    rw [hm.1, kq_flat_dec A ht, hA, List.length_append, List.length_append]
    have : (kq_tag t (kq_l (some l))).length = l.length := by unfold kq_tag; rw [List.length_map]; rfl
    omega
  refine zN_set0 h h.1 (kq_S_out h0 hp (kq_flat_erase ht hA hi) (fun j hj => ?_)) hok (fun s X hs _ hms hX => kq_S_congr hX (va_up_ne _ _ hs) rfl (fun k hk => ?_))
  · by_cases z : j = t
    · subst z; rw [va_up_self, hA]; rfl
    · rw [va_up_ne _ _ z]
  · simp only
    have e : km_out P.2.2.2.1 ((kq_up A t).length + i) (MY 0 - 1) (2900 * s + k) = P.2.2.2.1 (2900 * s + k) := by
      unfold km_out; rw [if_neg (by omega)]
    rw [e]
    exact ⟨hX.2.2 k hk, rfl⟩
theorem zN_in {P : km_P} {MY : Nat → Nat} {TR : Nat → Int64} {A : kp_A} {L : List kp_A} {t mk kn vn : Nat} {l : List kp_KV} {i : Nat} {KY VY : Nat → UInt8} {key val : List UInt8} (h : kq_M P MY TR (A :: L)) (hmk : (A :: L).length = 2 + mk) (ht : t < 64) (hA : A t = some l) (hi : i ≤ l.length) (hk : kp_row KY kn key) (hv : kp_row VY vn val) (h1 : kn ≤ 8448) (h2 : vn ≤ 8448) (hok : kp_okA (va_up A t (some (kp_in l i (key, val))))) :
    km_cap (km_pk0 mk MY kn vn P) kn vn ∧ kq_M ((km_ent t KY VY kn vn mk MY P).1, (km_ent t KY VY kn vn mk MY P).2.1, (km_ent t KY VY kn vn mk MY P).2.2.1, va_up (km_shift (km_ent t KY VY kn vn mk MY P).2.2.2.1 ((kq_up A t).length + i) (MY 0)) ((kq_up A t).length + i) (km_pk0 mk MY kn vn P).2.2.2.2.1, (km_ent t KY VY kn vn mk MY P).2.2.2.2) (va_up MY 0 (MY 0 + 1)) TR (va_up A t (some (kp_in l i (key, val))) :: L) := by
  obtain ⟨p1, p2⟩ := kq_pk0 (kn := kn) (vn := vn) h hmk h1 h2
  obtain ⟨q1, q2⟩ := kq_entT (t := t) (KY := KY) (VY := VY) p1 p2
  refine ⟨p2, ?_⟩
  unfold km_ent
  generalize km_pk0 mk MY kn vn P = P1 at *
  rw [kq_bl_row hk, kq_bl_row hv] at q2
  have hrn : (km_entT t KY VY kn vn P1).2.2.2.2.1 = P1.2.2.2.2.1 + 1 := rfl
  generalize hP2 : km_entT t KY VY kn vn P1 = P2 at *
  obtain ⟨h0, hok0⟩ := zN_now q1
  have hm := kq_S_len h0 hok0
  have hp : (kq_up A t).length + i ≤ MY 0 := by
    rw [hm.1, kq_flat_dec A ht, hA, List.length_append, List.length_append]
    have : (kq_tag t (kq_l (some l))).length = l.length := by unfold kq_tag; rw [List.length_map]; rfl
    omega
  refine zN_set0 q1 q1.1 (kq_S_in h0 hp (by omega) (by rw [q2]; exact kq_flat_in ht hA hi _) (fun j hj => ?_)) hok (fun s X hs _ hms hX => kq_S_congr hX (va_up_ne _ _ hs) rfl (fun k hk => ?_))
  · by_cases z : j = t
    · subst z; rw [va_up_self, hA]; rfl
    · rw [va_up_ne _ _ z]
  · simp only
    have e : va_up (km_shift P2.2.2.2.1 ((kq_up A t).length + i) (MY 0)) ((kq_up A t).length + i) P1.2.2.2.2.1 (2900 * s + k) = P2.2.2.2.1 (2900 * s + k) := by
      rw [va_up_ne _ _ (by omega)]
      unfold km_shift; rw [if_neg (by omega)]
    rw [e]
    exact ⟨hX.2.2 k hk, rfl⟩
