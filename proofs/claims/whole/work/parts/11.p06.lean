/-! PURE, sixth: a whole row is written; a chain is stored, and freed -/
theorem kp_wrL {R : Nat → UInt8} {len base : Nat} {X : List UInt8} {c kl vl : Nat} (hX : ∀ j, j < len → some (R j) = X[base + j]?) :
    ∀ (f d : Nat) (M : kv_M) (p a : Nat) (ps fl : List Nat) (u : Nat), (a = 32 → len ≤ d + 30 * f) → (a < 32 → len + (a - 2) ≤ d + 30 * f ∨ len ≤ d) → d ≤ len → kp_ww M.1 ps (base + d) X c kl vl p a → (ps.length = 1 ∨ kp_st (ps.length - 1) < base + d) → ps.Nodup → (∀ q ∈ ps, 9 ≤ q ∧ q < 9 + u) → kp_fr M.1 fl u → fl.Nodup → (∀ q ∈ ps, q ∉ fl) → kp_pf (base + len) ≤ ps.length + fl.length + (2711 - u) →
      ∃ (ps' fl' : List Nat) (u' : Nat), kp_ww (kv_wrL R len f M p a d).1.1 ps' (base + len) X c kl vl (kv_wrL R len f M p a d).2.1 (kv_wrL R len f M p a d).2.2 ∧ (ps'.length = 1 ∨ kp_st (ps'.length - 1) < base + len) ∧ ps'.Nodup ∧ (∀ q ∈ ps', 9 ≤ q ∧ q < 9 + u') ∧ kp_fr (kv_wrL R len f M p a d).1.1 fl' u' ∧ fl'.Nodup ∧ (∀ q ∈ ps', q ∉ fl') ∧ kp_keep M.1 (kv_wrL R len f M p a d).1.1 ps' ∧ (∀ q, fl'.count q + ps'.count q + kp_ind u q = fl.count q + ps.count q + kp_ind u' q) ∧ fl'.length + ps'.length + u = fl.length + ps.length + u' ∧ u ≤ u' ∧ (∀ q ∈ ps, q ∈ ps') ∧ (∀ q ∈ fl', q ∈ fl) := by
  intro f
  induction f with
  | zero =>
    intro d M p a ps fl u h1 h2 h3 h4 h5 h6 h7 h8 h9 h10 h11
    have hm := h4
    obtain ⟨-, -, -, -, -, m, m1, m2, m3, m4, m5⟩ := hm
    have hso := kp_so_in m
    have hst := kp_st_next m
    have e : d = len := by
      by_cases z : a = 32
      · have := h1 z; omega
      · rcases h2 (by omega) with y | y <;> omega
    subst e
    rw [kv_wrL]
    exact ⟨ps, fl, u, h4, h5, h6, h7, h8, h9, h10, kp_keep_refl _ _, fun q => rfl, rfl, Nat.le_refl _, fun q h => h, fun q h => h⟩
  | succ f ih =>
    intro d M p a ps fl u h1 h2 h3 h4 h5 h6 h7 h8 h9 h10 h11
    by_cases hd : d < len
    · have step : ∀ (M : kv_M) (p a : Nat) (ps fl : List Nat) (u : Nat), a < 32 → len + (a - 2) ≤ d + 30 * (f + 1) → kp_ww M.1 ps (base + d) X c kl vl p a → ps.Nodup → (∀ q ∈ ps, 9 ≤ q ∧ q < 9 + u) → kp_fr M.1 fl u → fl.Nodup → (∀ q ∈ ps, q ∉ fl) → kp_pf (base + len) ≤ ps.length + fl.length + (2711 - u) →
          ∃ (ps' fl' : List Nat) (u' : Nat), kp_ww (kv_wrL R len (f + 1) M p a d).1.1 ps' (base + len) X c kl vl (kv_wrL R len (f + 1) M p a d).2.1 (kv_wrL R len (f + 1) M p a d).2.2 ∧ (ps'.length = 1 ∨ kp_st (ps'.length - 1) < base + len) ∧ ps'.Nodup ∧ (∀ q ∈ ps', 9 ≤ q ∧ q < 9 + u') ∧ kp_fr (kv_wrL R len (f + 1) M p a d).1.1 fl' u' ∧ fl'.Nodup ∧ (∀ q ∈ ps', q ∉ fl') ∧ kp_keep M.1 (kv_wrL R len (f + 1) M p a d).1.1 ps' ∧ (∀ q, fl'.count q + ps'.count q + kp_ind u q = fl.count q + ps.count q + kp_ind u' q) ∧ fl'.length + ps'.length + u = fl.length + ps.length + u' ∧ u ≤ u' ∧ (∀ q ∈ ps, q ∈ ps') ∧ (∀ q ∈ fl', q ∈ fl) := by
        intro M p a ps fl u ha hf h4 h6 h7 h8 h9 h10 h11
        have hub := h8.2.2.2.2.1
        have hm := h4
        obtain ⟨-, -, -, -, -, m, m1, m2, m3, m4, m5⟩ := hm
        have hso := kp_so_in m
        have hst := kp_st_next m
        rw [kv_wrL, if_pos hd, if_neg (by omega)]
        have t1 : min (32 - a) (len - d) ≤ 32 - a := Nat.min_le_left _ _
        have t2 : min (32 - a) (len - d) ≤ len - d := Nat.min_le_right _ _
        have t3 : min (32 - a) (len - d) = 32 - a ∨ min (32 - a) (len - d) = len - d := by omega
        generalize min (32 - a) (len - d) = t at t1 t2 t3
        obtain ⟨w1, w2⟩ := kp_wr1 (M := M) (R := R) (len := len) (d := d) (t := t) h4 h6 (fun q hq => ⟨(h7 q hq).1, by have := (h7 q hq).2; omega⟩) (by omega) (by omega) (by omega) (fun i hi => by rw [hX (d + i) (by omega)]; congr 1; omega)
        have hpm : p ∈ ps := List.mem_of_getElem? m2
        have hp9 := h7 p hpm
        have hfr : kp_fr (kv_writeR M R len d t (p * 32 + a)).1 fl u := by
          have hp0 : ∀ j, j < 6 → (kv_writeR M R len d t (p * 32 + a)).1 j = M.1 j := by
            intro j hj
            unfold kv_writeR
            split
            · rfl
            · exact pk_cpy_out (by omega)
          have hn0 : ∀ j, j < 5 → kv_num (kv_writeR M R len d t (p * 32 + a)).1 j = kv_num M.1 j := by
            intro j hj
            unfold kv_num
            rw [hp0 j (by omega), hp0 (j + 1) (by omega)]
          refine ⟨kp_lk_frame (fun q hq => ?_) h8.1, by rw [hn0 2 (by omega)]; exact h8.2.1, by rw [hn0 4 (by omega)]; exact h8.2.2.1, by rw [hn0 0 (by omega)]; exact h8.2.2.2.1, h8.2.2.2.2⟩
          have hq2 := h8.2.2.2.2.2 q hq
          exact kp_keep_nx w2 (by omega) (by simp; intro z; exact h10 p hpm (by rw [← z]; exact hq))
        obtain ⟨ps', fl', u', r1, r2, r3, r4, r5, r6, r7, r8, r9, r10, r11, r12, r13⟩ := ih (d + t) (kv_writeR M R len d t (p * 32 + a)) p (a + t) ps fl u (fun z => by omega) (fun z => Or.inr (by omega)) (by omega) (by rw [← Nat.add_assoc]; exact w1) (by right; rw [m1]; simp; omega) h6 h7 hfr h9 h10 h11
        exact ⟨ps', fl', u', r1, r2, r3, r4, r5, r6, r7, kp_keep_trans (kp_keep_mono w2 (fun q hq => by rw [List.mem_singleton.mp hq]; exact r12 p hpm)) r8, r9, r10, r11, r12, r13⟩
      by_cases z : a = 32
      · subst z
        rw [kv_wrL_32 hd]
        have hf := h1 rfl
        have hm := h4
        obtain ⟨-, -, -, -, -, m, m1, m2, m3, m4, m5⟩ := hm
        have hso := kp_so_in m
        have hst := kp_st_next m
        have hpf : m + 1 < kp_pf (base + len) := kp_pf_lt (by omega)
        have hub := h8.2.2.2.2.1
        have hroom : fl ≠ [] ∨ u < 2711 := by
          cases fl with
          | nil => right; simp at h11; omega
          | cons _ _ => left; simp
        obtain ⟨p2, fl2, u2, n1, n2, n3, n4, n5, n6, n7, n8, n9, n10, n11, n12, n13⟩ := kp_wrN h4 h6 h7 h8 h9 h10 hroom
        rw [n1]
        obtain ⟨ps', fl', u', r1, r2, r3, r4, r5, r6, r7, r8, r9, r10, r11, r12, r13⟩ := step (kv_setN (kv_newP M).2 (p * 32) p2) p2 2 (ps ++ [p2]) fl2 u2 (by omega) (by omega) n2 (by
            rw [List.nodup_append]
            exact ⟨h6, by simp, fun x hx y hy e => by rw [List.mem_singleton.mp hy] at e; exact n7 (by rw [← e]; exact hx)⟩)
          (fun q hq => by
            rcases List.mem_append.mp hq with y | y
            · have := h7 q y; omega
            · rw [List.mem_singleton.mp y]; exact ⟨n5, n6⟩) n3 n4
          (fun q hq => by
            rcases List.mem_append.mp hq with y | y
            · exact fun x => h10 q y (n10 q x)
            · rw [List.mem_singleton.mp y]; exact n8) (by simp; omega)
        refine ⟨ps', fl', u', r1, r2, r3, r4, r5, r6, r7, kp_keep_trans (kp_keep_mono n11 (fun q hq => r12 q hq)) r8, fun q => ?_, by simp at r10; omega, by omega, fun q hq => r12 q (List.mem_append_left _ hq), fun q hq => n10 q (r13 q hq)⟩
        have a1 := r9 q
        have a2 := n12 q
        rw [List.count_append] at a1
        omega
      · have ha : a < 32 := by
          have hm := h4
          obtain ⟨-, -, -, -, -, m, m1, m2, m3, m4, m5⟩ := hm
          have hso := kp_so_in m
          have hst := kp_st_next m
          omega
        rcases h2 ha with y | y
        · exact step M p a ps fl u ha y h4 h6 h7 h8 h9 h10 h11
        · omega
    · have e : d = len := by omega
      subst e
      rw [kv_wrL_end hd]
      exact ⟨ps, fl, u, h4, h5, h6, h7, h8, h9, h10, kp_keep_refl _ _, fun q => rfl, rfl, Nat.le_refl _, fun q h => h, fun q h => h⟩
/-- Chains.free -/
theorem kp_freeL : ∀ (ps : List Nat) (f : Nat) (M : kv_M) (fl : List Nat) (u : Nat), ps.length ≤ f → kp_lk M.1 ps 0 → kp_fr M.1 fl u → ps.Nodup → (∀ q ∈ ps, 9 ≤ q ∧ q < 9 + u) → (∀ q ∈ ps, q ∉ fl) → ps.length + fl.length ≤ 2711 →
    kp_fr (kv_freeL f M (ps.headD 0)).1 (ps.reverse ++ fl) u ∧ kp_keep M.1 (kv_freeL f M (ps.headD 0)).1 ps
  | [], f, M, fl, u, h1, h2, h3, h4, h5, h6, h7 => by
    have e : kv_freeL f M (([] : List Nat).headD 0) = M := by cases f <;> rfl
    rw [e]
    exact ⟨h3, kp_keep_refl _ _⟩
  | p :: ps, 0, M, fl, u, h1, h2, h3, h4, h5, h6, h7 => by simp at h1
  | p :: ps, f + 1, M, fl, u, h1, h2, h3, h4, h5, h6, h7 => by
    have hp := h5 p List.mem_cons_self
    have hpn : p ∉ ps := (List.nodup_cons.mp h4).1
    have e : kv_freeL (f + 1) M ((p :: ps).headD 0) = kv_freeL f (kv_freeP M p) (ps.headD 0) := by
      show kv_freeL (f + 1) M p = _
      rw [kv_freeL, if_neg (by omega), h2.1]
    rw [e]
    obtain ⟨g1, g2⟩ := kp_freeP h3 hp.1 hp.2 (h6 p List.mem_cons_self) (by simp at h7; omega)
    have hlk : kp_lk (kv_freeP M p).1 ps 0 := kp_lk_frame (fun q hq => kp_keep_nx g2 (by have := h5 q (List.mem_cons_of_mem _ hq); omega) (by simp; intro z; exact hpn (by rw [← z]; exact hq))) h2.2
    obtain ⟨r1, r2⟩ := kp_freeL ps f (kv_freeP M p) (p :: fl) u (by simpa using h1) hlk g1 (List.nodup_cons.mp h4).2 (fun q hq => h5 q (List.mem_cons_of_mem _ hq)) (fun q hq z => by
      rcases List.mem_cons.mp z with y | y
      · exact hpn (by rw [← y]; exact hq)
      · exact h6 q (List.mem_cons_of_mem _ hq) y) (by simp at h7 ⊢; omega)
    refine ⟨by simpa using r1, kp_keep_trans (kp_keep_mono g2 (fun q hq => by rw [List.mem_singleton.mp hq]; exact List.mem_cons_self)) (kp_keep_mono r2 (fun q hq => List.mem_cons_of_mem _ hq))⟩
