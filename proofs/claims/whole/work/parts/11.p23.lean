/-! PURE, the 23rd: a tree goes whole; how many pages a tree has -/
theorem kp_drop {M : kv_M} {t top : Nat} {S : Nat → List kp_N} {cs : List kp_C} {fl : List Nat} {u : Nat} {ex : Nat → Nat} (ht : t < 64) (htop : top ≤ 4) (h : kp_wh M.1 t top S cs fl u ex) (hs : ∀ c ∈ cs, 16 + c.2.2.1.length + c.2.2.2.length ≤ 65536) :
    ∃ fl', kp_on (kv_drop M t).1 0 (fun _ => []) [] fl' u ex ∧ kp_kg M.1 (kv_drop M t).1 ex [32 + 4 * t, 32 + 4 * t + 2, 8, 6] ∧ kv_root (kv_drop M t).1 t = 0 ∧ kv_ents (kv_drop M t).1 t = 0 ∧ (kv_num (kv_drop M t).1 8 + kp_szs cs) % 65536 = kv_num M.1 8 % 65536 ∧ kv_num (kv_drop M t).1 6 = (kv_num M.1 6 + 4294967295) % 65536 := by
  obtain ⟨hon, hlev, ⟨ys, y1, y2⟩, hfi⟩ := h
  have hm : (kv_root M.1 t, ys) ∈ S top := by rw [y1]; simp
  have hnd := hon.2.2.1 top (Nat.le_refl _) _ hm
  simp only at hnd
  have st : kp_fst top S cs u ex (kv_num M.1 8 % 65536) M (fun _ => 0) := by
    refine ⟨fl, ?_, ?_⟩
    · unfold kp_gone; simp only [List.drop_zero]; exact hon
    · rw [List.take_zero, show kp_szs [] = 0 from rfl, Nat.add_zero]
  obtain ⟨d, r1, r2, r3, r4, r5⟩ := kp_freeT hlev hs top M (fun _ => 0) (kv_root M.1 t) ys (Nat.le_refl _) st (fun j _ => (kp_off_0 _).symm) (by rw [y1]; rfl)
  have all : ∀ k, k ≤ top + 1 → d (top + 1 - k) = (kp_its S cs (top + 1 - k)).length := by
    intro k
    induction k with
    | zero => intro _; rw [Nat.sub_zero, r3]; show 0 + 1 = ((S top).map (·.1)).length; rw [y1]; rfl
    | succ k ih =>
      intro hk
      have e := ih (by omega)
      have e2 := r2 (top + 1 - (k + 1)) (by omega)
      rw [show top + 1 - (k + 1) + 1 = top + 1 - k by omega, e] at e2
      rw [e2, ← hlev (top + 1 - (k + 1)) (by omega)]
      refine kp_off_len _ ?_
      rw [show top + 1 - k = (top + 1 - (k + 1)) + 1 by omega]
      show _ ≤ ((S (top + 1 - (k + 1))).map (·.1)).length
      rw [List.length_map]; exact Nat.le_refl _
  obtain ⟨f1, g1, g2⟩ := r1
  have gc : cs.drop (d 0) = [] := by
    have := all (top + 1) (Nat.le_refl _)
    rw [Nat.sub_self] at this
    rw [this]
    exact List.drop_of_length_le (by simp [kp_its])
  have gS : ∀ j, j ≤ top → (S j).drop (d (j + 1)) = [] := fun j hj => by
    have := all (top - j) (by omega)
    rw [show top + 1 - (top - j) = j + 1 by omega] at this
    rw [this]
    exact List.drop_of_length_le (by simp [kp_its])
  have on1 : kp_on (kv_freeT top M (kv_root M.1 t)).1 0 (fun _ => []) [] f1 u ex := by
    unfold kp_gone at g1
    rw [gc] at g1
    refine ⟨g1.1, fun q => ?_, fun j hj n hn => by simp at hn, fun c hc => by simp at hc⟩
    have e := g1.2.1 q
    have e0 : kp_ct top (fun j => (S j).drop (d (j + 1))) [] q = 0 := by
      unfold kp_ct
      have : kp_cn (fun j => ((S j).drop (d (j + 1))).map (·.1)) q (top + 1) = kp_cn (fun _ => []) q (top + 1) := kp_cn_congr (fun j hj => by rw [gS j (by omega)]; rfl)
      rw [this]
      have z : ∀ n, kp_cn (fun _ => []) q n = 0 := by
        intro n
        induction n with
        | zero => rfl
        | succ n ih => rw [kp_cn, ih]; rfl
      rw [z]; rfl
    rw [e0] at e
    have e1 : kp_ct 0 (fun _ => []) [] q = 0 := rfl
    rw [e1]; exact e
  have g2' : (kv_num (kv_freeT top M (kv_root M.1 t)).1 8 + kp_szs cs) % 65536 = kv_num M.1 8 % 65536 := by
    have e : cs.take (d 0) = cs := by
      have := List.take_append_drop (d 0) cs
      rw [gc, List.append_nil] at this; exact this
    rw [e] at g2; exact g2
  unfold kv_drop
  rw [kp_nd_level hnd htop]
  generalize hM1 : kv_freeT top M (kv_root M.1 t) = M1 at *
  obtain ⟨s1, s2, s3, s4⟩ := kp_setroot (M := M1) (n := 0) ht (by omega)
  have on2 := kp_on_pg on1 s2 s3
  generalize hM2 : kv_setRoot M1 t 0 = M2 at *
  obtain ⟨a1, a2, a3, a4⟩ := kp_addH (M := M2) (a := 32 + 4 * t + 2) (n := 4294967296 - kv_ents M.1 t) (by omega) (by omega) (by omega)
  have on3 := kp_on_pg on2 a1 a2
  have q2 : kp_kg M2.1 (kv_addTo M2 (32 + 4 * t + 2) (4294967296 - kv_ents M.1 t)).1 ex [32 + 4 * t, 32 + 4 * t + 2, 8, 6] := kp_addH_kg (by omega) (by omega) (by omega) (by simp)
  generalize hM3 : kv_addTo M2 (32 + 4 * t + 2) (4294967296 - kv_ents M.1 t) = M3 at *
  obtain ⟨b1, b2, b3, b4⟩ := kp_addH (M := M3) (a := 6) (n := 4294967295) rfl (by omega) (by omega)
  have on4 := kp_on_pg on3 b1 b2
  have q3 : kp_kg M3.1 (kv_addTo M3 6 4294967295).1 ex [32 + 4 * t, 32 + 4 * t + 2, 8, 6] := kp_addH_kg rfl (by omega) (by omega) (by simp)
  have e1 : kv_num M1.1 (32 + 4 * t + 2) = kv_ents M.1 t := r5.2 _ (by omega) (by omega) (by omega) (by simp; omega)
  have lte := kv_num_lt M.1 (32 + 4 * t + 2)
  have lte' : kv_ents M.1 t < 65536 := lte
  refine ⟨f1, on4, kp_kg_trans (kp_kg_mono r5 (by simp)) (kp_kg_trans (B' := M2.1) ⟨fun q hq _ => s2 q hq, fun a ha h6 _ hn => s4 a ha (fun z => hn (by rw [z]; simp))⟩ (kp_kg_trans q2 q3)), ?_, ?_, ?_, ?_⟩
  · have e2 : kv_root (kv_addTo M3 6 4294967295).1 t = kv_root M3.1 t := b4 _ (by omega) (by omega)
    have e3 : kv_root M3.1 t = kv_root M2.1 t := a4 _ (by omega) (by omega)
    rw [e2, e3, s1]
  · have e2 : kv_ents (kv_addTo M3 6 4294967295).1 t = kv_ents M3.1 t := b4 _ (by omega) (by omega)
    have e3 : kv_ents M3.1 t = (kv_num M2.1 (32 + 4 * t + 2) + (4294967296 - kv_ents M.1 t)) % 65536 := a3
    rw [e2, e3, s4 _ (by omega) (by omega), e1]
    omega
  · rw [b4 8 rfl (by omega), a4 8 rfl (by omega), s4 8 rfl (by omega)]; exact g2'
  · rw [b3, a4 6 rfl (by omega), s4 6 rfl (by omega), r5.2 6 rfl (by omega) (by omega) (by simp)]
/-! bounds -/
theorem kp_fl_ge : ∀ {L : List kp_N} {k : Nat}, (∀ n ∈ L, k ≤ n.2.length) → k * L.length ≤ (kp_fl L).length
  | [], k, _ => by simp [kp_fl]
  | n :: L, k, h => by
    rw [kp_fl_cons, List.length_append, List.length_cons, Nat.mul_succ]
    have h1 := h n List.mem_cons_self
    have h2 := kp_fl_ge (L := L) (k := k) (fun m hm => h m (List.mem_cons_of_mem _ hm))
    omega
/-- six times the nodes below the root -/
theorem kp_nodes {S : Nat → List kp_N} {cs : List kp_C} {top : Nat} (hlev : kp_lev S cs top) (hfi : ∀ j, j < top → ∀ n ∈ S j, 7 ≤ n.2.length) : ∀ k, k < top → 6 * kp_cl (fun j => (S j).map (·.1)) (k + 1) + (S k).length ≤ cs.length
  | 0, hk => by
    have e := kp_fl_ge (hfi 0 hk)
    rw [hlev 0 (Nat.zero_le _)] at e
    have e2 : (kp_its S cs 0).length = cs.length := by simp [kp_its]
    rw [kp_cl, kp_cl]
    simp only [List.length_map]
    omega
  | k + 1, hk => by
    have e := kp_fl_ge (hfi (k + 1) hk)
    rw [hlev (k + 1) (by omega)] at e
    have e2 : (kp_its S cs (k + 1)).length = (S k).length := by simp [kp_its]
    have e3 := kp_nodes hlev hfi k (by omega)
    rw [kp_cl]
    simp only [List.length_map]
    omega
theorem kp_ln_le {S : Nat → List kp_N} {cs : List kp_C} {top p : Nat} {ys : List Nat} (hlev : kp_lev S cs top) (hfi : ∀ j, j < top → ∀ n ∈ S j, 7 ≤ n.2.length) (hr : S top = [(p, ys)]) : 6 * kp_ln top S cs ≤ cs.length + 6 + 6 * (cs.flatMap (·.2.1)).length := by
  unfold kp_ln
  rw [kp_cl]
  simp only [List.length_map, hr, List.length_singleton]
  cases top with
  | zero => rw [kp_cl]; omega
  | succ k =>
    have := kp_nodes hlev hfi k (by omega)
    omega
theorem kp_deep {S : Nat → List kp_N} {cs : List kp_C} {top p : Nat} {ys : List Nat} (hlev : kp_lev S cs top) (hfi : ∀ j, j < top → ∀ n ∈ S j, 7 ≤ n.2.length) (hr : S top = [(p, ys)]) (h2 : 0 < top → 2 ≤ ys.length) (hc : cs.length ≤ 2168) : top ≤ 3 := by
  by_cases z : top ≤ 3
  · exact z
  · exfalso
    have st : ∀ j, j < top → 7 * (S j).length ≤ (kp_its S cs j).length := fun j hj => by
      have e := kp_fl_ge (hfi j hj)
      rw [hlev j (by omega)] at e; exact e
    have lt : ∀ j, (kp_its S cs (j + 1)).length = (S j).length := fun j => by simp [kp_its]
    have l0 : (kp_its S cs 0).length = cs.length := by simp [kp_its]
    have ht : (kp_its S cs top).length = ys.length := by rw [← hlev top (Nat.le_refl _), hr]; simp [kp_fl]
    obtain ⟨k, rfl⟩ : ∃ k, top = k + 4 := ⟨top - 4, by omega⟩
    have h0 := h2 (by omega)
    have a1 := st (k + 3) (by omega)
    have a2 := st (k + 2) (by omega)
    have a3 := st (k + 1) (by omega)
    have a4 := st k (by omega)
    have b1 : (kp_its S cs (k + 4)).length = (S (k + 3)).length := lt (k + 3)
    have b2 : (kp_its S cs (k + 3)).length = (S (k + 2)).length := lt (k + 2)
    have b3 : (kp_its S cs (k + 2)).length = (S (k + 1)).length := lt (k + 1)
    have b4 : (kp_its S cs (k + 1)).length = (S k).length := lt k
    have mono : ∀ j, j ≤ k → (kp_its S cs j).length ≤ cs.length := by
      intro j
      induction j with
      | zero => intro _; omega
      | succ j ih =>
        intro hj
        have := ih (by omega)
        have := st j (by omega)
        have := lt j
        omega
    have := mono k (Nat.le_refl _)
    omega
theorem kp_pf_17 {n : Nat} (h : 1 ≤ n) : 17 * kp_pf n ≤ 16 + n := by
  unfold kp_pf
  split <;> omega
theorem kp_flat_17 : ∀ {cs : List kp_C}, (∀ c ∈ cs, c.2.1.length = kp_pf (c.2.2.1.length + c.2.2.2.length) ∧ 1 ≤ c.2.2.1.length) → 17 * (cs.flatMap (·.2.1)).length ≤ kp_szs cs ∧ 17 * cs.length ≤ kp_szs cs
  | [], _ => ⟨by simp, by simp⟩
  | c :: cs, h => by
    obtain ⟨i1, i2⟩ := kp_flat_17 (cs := cs) (fun c' hc' => h c' (List.mem_cons_of_mem _ hc'))
    obtain ⟨h1, h2⟩ := h c List.mem_cons_self
    have h3 := kp_pf_17 (n := c.2.2.1.length + c.2.2.2.length) (by omega)
    rw [List.flatMap_cons, List.length_append, kp_szs_cons, List.length_cons]
    constructor <;> omega
