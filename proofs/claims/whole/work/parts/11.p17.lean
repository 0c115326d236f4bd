/-! PURE, seventeenth: Trees.insertSlot -/
/-- the path from level l up -/
def kp_pa (S : Nat → List kp_N) (top l : Nat) (pn ps nu : Nat → Nat) : Prop :=
  (∀ j, l ≤ j → j ≤ top → ((S j)[nu j]?).map (·.1) = some (pn j)) ∧ ∀ j, l ≤ j → j < top → nu j = kp_off (S (j + 1)) (nu (j + 1)) + ps (j + 1) ∧ ∃ n, (S (j + 1))[nu (j + 1)]? = some n ∧ ps (j + 1) < n.2.length
/-- a tree whose levels are right -/
def kp_wh (B : Nat → UInt8) (t top : Nat) (S : Nat → List kp_N) (cs : List kp_C) (fl : List Nat) (u : Nat) (ex : Nat → Nat) : Prop :=
  kp_on B top S cs fl u ex ∧ kp_lev S cs top ∧ (∃ ys, S top = [(kv_root B t, ys)] ∧ (0 < top → 2 ≤ ys.length)) ∧ ∀ j, j < top → ∀ n ∈ S j, 7 ≤ n.2.length
theorem kp_setroot {M : kv_M} {t n : Nat} (ht : t < 64) (hn : n < 65536) : kv_root (kv_setRoot M t n).1 t = n ∧ (∀ q, 9 ≤ q → kp_pg M.1 (kv_setRoot M t n).1 q) ∧ kp_h6 M.1 (kv_setRoot M t n).1 ∧ ∀ a, a % 2 = 0 → a ≠ 32 + 4 * t → kv_num (kv_setRoot M t n).1 a = kv_num M.1 a := by
  refine ⟨?_, fun q hq => kp_pg_setN (by omega) (by omega), kp_h6_setN (by omega), fun a ha h => ?_⟩
  · unfold kv_root kv_setRoot
    rw [kv_num_setN (by omega) (by omega), if_pos ⟨rfl, by omega⟩]; omega
  · unfold kv_setRoot
    rw [kv_num_setN (by omega) ha, if_neg (fun z => h z.1)]
/-- all of a tree over a change of the head alone -/
theorem kp_on_pg {B B' : Nat → UInt8} {top : Nat} {S : Nat → List kp_N} {cs : List kp_C} {fl : List Nat} {u : Nat} {ex : Nat → Nat} (h : kp_on B top S cs fl u ex) (hp : ∀ q, 9 ≤ q → kp_pg B B' q) (hh : kp_h6 B B') : kp_on B' top S cs fl u ex := by
  refine ⟨?_, h.2.1, fun j hj n hn => kp_nd_frame (h.2.2.1 j hj n hn) (hp _ (kp_on_node h hj hn).1), fun c hc => kp_ch_frame (h.2.2.2 c hc) (fun q hq => hp q (kp_on_page h (kp_ct_chain (top := top) (S := S) hc hq)).1)⟩
  obtain ⟨h1, h2, h3, h4, h5, h6⟩ := h.1
  exact ⟨kp_lk_frame (fun q hq => kp_pg_num0 (hp q (h6 q hq).1)) h1, by rw [kp_h6_num hh (by omega)]; exact h2, by rw [kp_h6_num hh (by omega)]; exact h3, by rw [kp_h6_num hh (by omega)]; exact h4, h5, h6⟩
theorem kp_ct_top {top : Nat} {S : Nat → List kp_N} {cs : List kp_C} {L : List kp_N} (q : Nat) : kp_ct (top + 1) (va_up S (top + 1) L) cs q = kp_ct top S cs q + (L.map (·.1)).count q := by
  unfold kp_ct
  have e : kp_cn (fun j => (va_up S (top + 1) L j).map (·.1)) q (top + 1) = kp_cn (fun j => (S j).map (·.1)) q (top + 1) := kp_cn_congr (fun j hj => by simp only [va_up_ne S L (show j ≠ top + 1 by omega)])
  rw [kp_cn, e, va_up_self]
  omega
theorem kp_raise {M : kv_M} {t top s : Nat} {S : Nat → List kp_N} {cs : List kp_C} {fl : List Nat} {u : Nat} {ex : Nat → Nat} (ht : t < 64) (h : kp_on M.1 top S cs fl u ex) (hl : kp_lev S cs top) (hi : kp_its S cs (top + 1) = [kv_root M.1 t, s]) (hfi : ∀ j, j ≤ top → ∀ n ∈ S j, 7 ≤ n.2.length) (hr : 1 ≤ fl.length + (2711 - u)) (htop : top ≤ 3) :
    ∃ (S' : Nat → List kp_N) (fl' : List Nat) (u' : Nat), kp_wh (kv_raise M t s top).1 t (top + 1) S' cs fl' u' ex ∧ kp_kh M.1 (kv_raise M t s top).1 ex t := by
  have hu := h.1.2.2.2.2.1
  have hro : 1 ≤ kp_ct top S cs (kv_root M.1 t) ∧ 1 ≤ kp_ct top S cs s := by
    have : ∀ x ∈ kp_its S cs (top + 1), 1 ≤ kp_ct top S cs x := fun x hx => by
      obtain ⟨n, n1, n2⟩ := List.mem_map.mp hx
      rw [← n2]; exact kp_ct_node (Nat.le_refl _) n1
    exact ⟨this _ (by rw [hi]; simp), this _ (by rw [hi]; simp)⟩
  have pr := kp_on_page h hro.1
  have pS := kp_on_page h hro.2
  obtain ⟨r, f1, u1, n1, n2, n3, n4, n5, n6, n7, n8, n9, n10, n11, n12⟩ := kp_make (l := top + 1) h.1 (kp_on_nd h) hr (by omega)
  have hu1 := n2.2.2.2.2.1
  have hrt : ∀ x, 1 ≤ kp_ct top S cs x → x ≠ r := by
    intro x hx z
    subst z
    have a1 := h.2.1 x
    have a2 := n8 x
    have a3 := kp_ind_le u1 x
    have a4 : [x].count x = 1 := by simp
    omega
  have hxr : ex r = 0 := by
    have a1 := h.2.1 r
    have a2 := n8 r
    have a3 := kp_ind_le u1 r
    have a4 : [r].count r = 1 := by simp
    omega
  have kxr : kp_kx M.1 (kv_make M (top + 1)).2.1 ex := ⟨[r], n7, fun q hq => by rw [List.mem_singleton.mp hq]; exact ⟨n3, hxr⟩⟩
  have er : kv_root (kv_make M (top + 1)).2.1 t = kv_root M.1 t := kp_kx_root kxr ht
  unfold kv_raise
  rw [n1, er]
  obtain ⟨i1, i2⟩ := kp_insert (i := 0) (s := kv_root M.1 t) n12 (by omega) (by omega) (Nat.zero_le _) (by simp) (by omega)
  obtain ⟨j1, j2⟩ := kp_insert (i := 1) (s := s) i1 (by omega) (by omega) (by simp) (by simp) (by omega)
  have h61 : kp_h6 (kv_make M (top + 1)).2.1 (kv_insert (kv_insert (kv_make M (top + 1)).2 r 0 (kv_root M.1 t)) r 1 s).1 := kp_h6_trans (kp_h6_insert (by omega)) (kp_h6_insert (by omega))
  have k2 : kp_keep (kv_make M (top + 1)).2.1 (kv_insert (kv_insert (kv_make M (top + 1)).2 r 0 (kv_root M.1 t)) r 1 s).1 [r] := kp_keep_trans i2 j2
  have kk := kp_keep_trans n7 k2
  have f2 : kp_fr (kv_insert (kv_insert (kv_make M (top + 1)).2 r 0 (kv_root M.1 t)) r 1 s).1 f1 u1 := kp_fr_keep n2 k2 h61 (fun q hq z => n5 ((List.mem_singleton.mp z) ▸ hq))
  simp only [List.take_zero, List.drop_zero, List.nil_append] at j1
  rw [show List.take 1 [kv_root M.1 t] ++ s :: List.drop 1 [kv_root M.1 t] = [kv_root M.1 t, s] from rfl] at j1
  generalize hM2 : kv_insert (kv_insert (kv_make M (top + 1)).2 r 0 (kv_root M.1 t)) r 1 s = M2 at *
  obtain ⟨s1, s2, s3, s4⟩ := kp_setroot (M := M2) ht (show r < 65536 by omega)
  have on2 : kp_on M2.1 (top + 1) (va_up S (top + 1) [(r, [kv_root M.1 t, s])]) cs f1 u1 ex := by
    refine ⟨f2, fun q => ?_, fun j hj n hn => ?_, kp_chs_keep h.2.2.2 kk (fun c hc q hq => ?_)⟩
    · rw [kp_ct_top]
      have := h.2.1 q
      have := n8 q
      simp only [List.map_cons, List.map_nil]
      omega
    · by_cases z : j = top + 1
      · subst z
        rw [va_up_self] at hn
        rw [List.mem_singleton.mp hn]; exact j1
      · rw [va_up_ne _ _ z] at hn
        refine kp_nd_frame (h.2.2.1 j (by omega) n hn) (kk.1 _ (by have := kp_on_node h (show j ≤ top by omega) hn; omega) (fun y => hrt _ (kp_ct_node (show j ≤ top by omega) hn) (List.mem_singleton.mp y)))
    · have c1 := kp_ct_chain (top := top) (S := S) hc hq
      exact ⟨by have := kp_on_page h c1; omega, fun y => hrt _ c1 (List.mem_singleton.mp y)⟩
  refine ⟨va_up S (top + 1) [(r, [kv_root M.1 t, s])], f1, u1, ⟨kp_on_pg on2 s2 s3, fun j hj => ?_, ⟨[kv_root M.1 t, s], by rw [va_up_self, s1], fun _ => by simp⟩, fun j hj n hn => ?_⟩, kp_kh_trans (kp_kx_kh ⟨[r], kk, fun q hq => by rw [List.mem_singleton.mp hq]; exact ⟨n3, hxr⟩⟩) ⟨fun q hq _ => s2 q hq, fun a ha h6 _ hn => s4 a ha hn⟩⟩
  · by_cases z : j = top + 1
    · subst z
      rw [va_up_self, kp_its_up (by omega), hi]
      simp [kp_fl]
    · rw [va_up_ne _ _ z, kp_its_up (by omega)]; exact hl j (by omega)
  · rw [va_up_ne _ _ (by omega)] at hn; exact hfi j (by omega) n hn
theorem kp_insL {t top : Nat} {cs : List kp_C} {ex : Nat → Nat} {pn ps nu : Nat → Nat} (ht : t < 64) (htop : top ≤ 3) :
    ∀ (f l : Nat) (M : kv_M) (S : Nat → List kp_N) (fl : List Nat) (u : Nat) (P : Nat → Nat) (s i : Nat), f + l = top + 1 → kp_on M.1 top S cs fl u ex → (∀ j, j ≤ top → j ≠ l → kp_fl (S j) = kp_its S cs j) →
      (l ≤ top → (∃ xs, (S l)[nu l]? = some (pn l, xs) ∧ i ≤ xs.length) ∧ kp_in (kp_fl (S l)) (kp_off (S l) (nu l) + i) s = kp_its S cs l ∧ ∃ ys, S top = [(kv_root M.1 t, ys)] ∧ (0 < top → 2 ≤ ys.length)) → (l = top + 1 → kp_its S cs (top + 1) = [kv_root M.1 t, s]) →
      kp_pa S top l pn ps nu → (∀ j, j ≤ top → (j < top ∨ l = top + 1) → ∀ n ∈ S j, 7 ≤ n.2.length) → s < 65536 → top + 2 ≤ fl.length + (2711 - u) + l → (∀ j, P j < 65536) →
      ∃ (top' : Nat) (S' : Nat → List kp_N) (fl' : List Nat) (u' : Nat), kp_wh (kv_insL t top pn ps f l M P s i).1.1 t top' S' cs fl' u' ex ∧ kp_kh M.1 (kv_insL t top pn ps f l M P s i).1.1 ex t ∧ (∀ j, (kv_insL t top pn ps f l M P s i).2 j < 65536) ∧ top' ≤ top + 1
  | 0, l, M, S, fl, u, P, s, i, h1, h2, h3, h4, h5, h6, h7, h8, h9, h10 => by
    have e : l = top + 1 := by omega
    subst e
    obtain ⟨S', fl', u', r1, r2⟩ := kp_raise ht h2 (fun j hj => h3 j hj (by omega)) (h5 rfl) (fun j hj => h7 j hj (.inr rfl)) (by omega) htop
    exact ⟨top + 1, S', fl', u', r1, r2, h10, Nat.le_refl _⟩
  | f + 1, l, M, S, fl, u, P, s, i, h1, h2, h3, h4, h5, h6, h7, h8, h9, h10 => by
    have hl : l ≤ top := by omega
    obtain ⟨⟨xs, a1, a2⟩, a3, ys, a4, a5⟩ := h4 hl
    have hm : (pn l, xs) ∈ S l := List.mem_of_getElem? a1
    have hnd := h2.2.2.1 l hl _ hm
    have hp := kp_on_node h2 hl hm
    have hu := h2.1.2.2.2.2.1
    have hx14 : xs.length ≤ 14 := hnd.2.2.1
    rw [kv_insL, kp_nd_count hnd]
    by_cases z : xs.length = 14
    · rw [if_pos z]
      obtain ⟨q, f1, u1, ys', zs', r0, r1, r2, r3, r4, r5, r6, r7, r8, r9, r10, r11, r12, r13, r14, r15, r16⟩ := kp_splitI (i := i) (s := s) (P := P) hnd z h2.1 (kp_on_nd h2) (by omega) hp.1 hp.2.1 hp.2.2.1 (by omega) h8 (by omega) h10
      rw [r0]
      have hu1 := r6.2.2.2.2.1
      have on1 := kp_on_split h2 hl a1 r8 r6 r9 r11 r1 r2 r13
      have hxq : ex q = 0 := by
        have b1 := h2.2.1 q
        have b2 := r9 q
        have b3 := kp_ind_le u1 q
        have b4 : [q].count q = 1 := by simp
        omega
      have kx : kp_kx M.1 (kv_insB (kv_split M (pn l) P).2.1 (pn l) q i s).1 ex := ⟨[pn l, q], r8, fun x hx => by
        simp at hx
        rcases hx with y | y
        · rw [y]; exact ⟨hp.1, hp.2.2.2⟩
        · rw [y]; exact ⟨r13, hxq⟩⟩
      generalize hL1 : kp_in ((S l).set (nu l) (pn l, ys')) (nu l + 1) (q, zs') = L1 at *
      have efl : kp_fl L1 = kp_its S cs l := by
        rw [← hL1, kp_fl_split a1 (by simpa using a2) r3]; exact a3
      have emap : L1.map (·.1) = kp_in ((S l).map (·.1)) (nu l + 1) q := by
        rw [← hL1, kp_in_map, kp_map_set a1]
      have Y1 : q < 65536 := by omega
      have Y2 : top + 2 ≤ f1.length + (2711 - u1) + (l + 1) := by omega
      have Y3 : f + (l + 1) = top + 1 := by omega
      have X1 : ∀ j, j ≤ top → j ≠ l + 1 → kp_fl (va_up S l L1 j) = kp_its (va_up S l L1) cs j := by
        intro j hj hne
        rw [kp_its_up (by omega)]
        by_cases y : j = l
        · subst y; rw [va_up_self]; exact efl
        · rw [va_up_ne _ _ y]; exact h3 j hj y
      have X2 : l + 1 ≤ top → (∃ xs, (va_up S l L1 (l + 1))[nu (l + 1)]? = some (pn (l + 1), xs) ∧ ps (l + 1) + 1 ≤ xs.length) ∧ kp_in (kp_fl (va_up S l L1 (l + 1))) (kp_off (va_up S l L1 (l + 1)) (nu (l + 1)) + (ps (l + 1) + 1)) q = kp_its (va_up S l L1) cs (l + 1) ∧ ∃ ys, va_up S l L1 top = [(kv_root (kv_insB (kv_split M (pn l) P).2.1 (pn l) q i s).1 t, ys)] ∧ (0 < top → 2 ≤ ys.length) := by
        intro hle
        have hlt : l < top := by omega
        obtain ⟨b1, n, b2, b3⟩ := h6.2 l (Nat.le_refl _) hlt
        have b4 := h6.1 (l + 1) (by omega) hle
        rw [b2] at b4
        have b5 : n.1 = pn (l + 1) := by simpa using b4
        refine ⟨⟨n.2, ?_, by omega⟩, ?_, ys, ?_, a5⟩
        · rw [va_up_ne _ _ (by omega), b2, ← b5]
        · rw [va_up_ne _ _ (by omega), kp_its_at, emap, h3 (l + 1) hle (by omega), b1]
          show kp_in ((S l).map (·.1)) _ q = _
          rw [Nat.add_assoc]
        · rw [va_up_ne _ _ (by omega), kp_kx_root kx ht]; exact a4
      have X3 : l + 1 = top + 1 → kp_its (va_up S l L1) cs (top + 1) = [kv_root (kv_insB (kv_split M (pn l) P).2.1 (pn l) q i s).1 t, q] := by
        intro heq
        have e : l = top := by omega
        subst e
        rw [kp_its_at, emap, kp_kx_root kx ht]
        have v0 : nu l = 0 := by
          rw [a4] at a1
          rcases hv : nu l with _ | v
          · rfl
          · rw [hv] at a1; simp at a1
        rw [a4, v0]
        rfl
      have X4 : kp_pa (va_up S l L1) top (l + 1) pn ps nu := by
        refine ⟨fun j hj hj2 => ?_, fun j hj hj2 => ?_⟩
        · rw [va_up_ne _ _ (by omega)]; exact h6.1 j (by omega) hj2
        · rw [va_up_ne _ _ (by omega)]; exact h6.2 j (by omega) hj2
      have X5 : ∀ j, j ≤ top → (j < top ∨ l + 1 = top + 1) → ∀ n ∈ va_up S l L1 j, 7 ≤ n.2.length := by
        intro j hj hor n hn
        by_cases y : j = l
        · subst y
          rw [va_up_self, ← hL1] at hn
          unfold kp_in at hn
          rcases List.mem_append.mp hn with w | w
          · have w2 := List.mem_of_mem_take w
            rcases List.mem_or_eq_of_mem_set w2 with w3 | w3
            · by_cases jt : j < top
              · exact h7 j hj (.inl jt) n w3
              · have e : j = top := by omega
                subst e
                rw [a4] at w3
                have hv := a1
                rw [a4] at hv
                have v0 : nu j = 0 := by
                  rcases hv' : nu j with _ | v
                  · rfl
                  · rw [hv'] at hv; simp at hv
                have hn2 : n = (kv_root M.1 t, ys) := List.mem_singleton.mp w3
                rw [v0] at hv
                have hv3 : (kv_root M.1 t, ys) = (pn j, xs) := by simpa using hv
                rw [hn2, hv3]; simp only; omega
            · rw [w3]; exact r4
          · rcases List.mem_cons.mp w with w2 | w2
            · rw [w2]; exact r5
            · have w4 := List.mem_of_mem_drop w2
              rcases List.mem_or_eq_of_mem_set w4 with w3 | w3
              · by_cases jt : j < top
                · exact h7 j hj (.inl jt) n w3
                · have e : j = top := by omega
                  subst e
                  rw [a4] at w3
                  have hv := a1
                  rw [a4] at hv
                  have v0 : nu j = 0 := by
                    rcases hv' : nu j with _ | v
                    · rfl
                    · rw [hv'] at hv; simp at hv
                  have hn2 : n = (kv_root M.1 t, ys) := List.mem_singleton.mp w3
                  rw [v0] at hv
                  have hv3 : (kv_root M.1 t, ys) = (pn j, xs) := by simpa using hv
                  rw [hn2, hv3]; simp only; omega
              · rw [w3]; exact r4
        · rw [va_up_ne _ _ y] at hn
          exact h7 j hj (by omega) n hn
      obtain ⟨top', S', fl', u', g1, g2, g3, g4⟩ := kp_insL (cs := cs) (ex := ex) (nu := nu) ht htop f (l + 1) (kv_insB (kv_split M (pn l) P).2.1 (pn l) q i s) (va_up S l L1) f1 u1 (kv_split M (pn l) P).2.2 q (ps (l + 1) + 1) Y3 on1 X1 X2 X3 X4 X5 Y1 Y2 r16
      exact ⟨top', S', fl', u', g1, kp_kh_trans (kp_kx_kh kx) g2, g3, g4⟩
    · rw [if_neg z]
      obtain ⟨k1, k2⟩ := kp_insert (i := i) (s := s) hnd (by omega) (by omega) a2 (by show xs.length < 14; omega) h8
      have on1 := kp_on_set h2 hl a1 k2 (kp_h6_insert (by have := hp.1; omega)) k1
      have kx : kp_kx M.1 (kv_insert M (pn l) i s).1 ex := ⟨[pn l], k2, fun q hq => by rw [List.mem_singleton.mp hq]; exact ⟨hp.1, hp.2.2.2⟩⟩
      refine ⟨top, va_up S l ((S l).set (nu l) (pn l, kp_in xs i s)), fl, u, ⟨on1, fun j hj => ?_, ?_, fun j hj n hn => ?_⟩, kp_kx_kh kx, h10, by omega⟩
      · by_cases y : j = l
        · subst y
          rw [va_up_self, kp_its_up (by omega), kp_fl_set a1 a2]; exact a3
        · rw [va_up_ne _ _ y]
          by_cases w : j = l + 1
          · subst w
            rw [kp_its_at, kp_map_set a1]; exact h3 (l + 1) hj (by omega)
          · rw [kp_its_up w]; exact h3 j hj y
      · rw [kp_kx_root kx ht]
        by_cases y : top = l
        · subst y
          rw [va_up_self]
          have hv := a1
          rw [a4] at hv
          have v0 : nu top = 0 := by
            rcases hv' : nu top with _ | v
            · rfl
            · rw [hv'] at hv; simp at hv
          rw [v0] at hv
          have hv3 : (kv_root M.1 t, ys) = (pn top, xs) := by simpa using hv
          refine ⟨kp_in xs i s, ?_, fun h0 => ?_⟩
          · rw [a4, v0, (Prod.mk.inj hv3).1]; rfl
          · rw [kp_in_len, ← (Prod.mk.inj hv3).2]; have := a5 h0; omega
        · rw [va_up_ne _ _ y]; exact ⟨ys, a4, a5⟩
      · by_cases y : j = l
        · subst y
          rw [va_up_self] at hn
          rcases List.mem_or_eq_of_mem_set hn with w3 | w3
          · exact h7 j (by omega) (.inl hj) n w3
          · rw [w3]; show 7 ≤ (kp_in xs i s).length; rw [kp_in_len]; have := h7 j (by omega) (.inl hj) _ hm; simp only at this; omega
        · rw [va_up_ne _ _ y] at hn; exact h7 j (by omega) (.inl hj) n hn
