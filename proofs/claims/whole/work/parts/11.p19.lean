/-! PURE, nineteenth: Trees.mendPath and lowerRoot -/
theorem kp_two {S : Nat → List kp_N} {cs : List kp_C} {l v i : Nat} {p : Nat} {zs : List Nat} (hl : kp_fl (S (l + 1)) = kp_its S cs (l + 1)) (hv : (S (l + 1))[v]? = some (p, zs)) (hi : i < zs.length) : ∃ n, (S l)[kp_off (S (l + 1)) v + i]? = some n ∧ zs[i]? = some n.1 := by
  have e := kp_fl_at hv hi
  rw [hl] at e
  have e2 : ((S l).map (·.1))[kp_off (S (l + 1)) v + i]? = zs[i]? := e
  rw [List.getElem?_map] at e2
  cases hn : (S l)[kp_off (S (l + 1)) v + i]? with
  | none => rw [hn] at e2; simp at e2; omega
  | some n => rw [hn] at e2; exact ⟨n, rfl, e2.symm⟩
theorem kp_slot_eq {B : Nat → UInt8} {p lv i x : Nat} {zs : List Nat} (h : kp_nd B p lv zs) (hi : zs[i]? = some x) : kv_slot B p i = x := by
  have := h.2.2.2 i (List.getElem?_eq_some_iff.mp hi).1
  rw [hi] at this
  exact Option.some.inj this
theorem kp_era {α : Type} : ∀ (A : List α) (x y : α) (C : List α), (A ++ x :: y :: C).take (A.length + 1) ++ (A ++ x :: y :: C).drop (A.length + 1 + 1) = A ++ x :: C
  | [], _, _, _ => rfl
  | a :: A, x, y, C => by
    show a :: ((A ++ x :: y :: C).take (A.length + 1) ++ (A ++ x :: y :: C).drop (A.length + 1 + 1)) = a :: (A ++ x :: C)
    rw [kp_era A x y C]
theorem kp_erase_two {L : List kp_N} {v p : Nat} {xs : List Nat} {n : kp_N} {q : Nat} (h : L[v]? = some (p, xs)) (h2 : L[v + 1]? = some n) : ∃ A C, L = A ++ (p, xs) :: n :: C ∧ A.length = v ∧ ∀ ys zs, (((L.set v (p, ys)).set (v + 1) (q, zs)).take (v + 1) ++ ((L.set v (p, ys)).set (v + 1) (q, zs)).drop (v + 1 + 1)) = A ++ (p, ys) :: C := by
  obtain ⟨A, C, rfl, rfl⟩ := kp_dec h
  have h3 : C[0]? = some n := by
    rw [List.getElem?_append_right (by omega), show A.length + 1 - A.length = 0 + 1 by omega, List.getElem?_cons_succ] at h2
    exact h2
  cases C with
  | nil => simp at h3
  | cons c C =>
    have h4 : c = n := by simpa using h3
    subst h4
    refine ⟨A, C, rfl, rfl, fun ys zs => ?_⟩
    have e : ((A ++ (p, xs) :: c :: C).set A.length (p, ys)).set (A.length + 1) (q, zs) = A ++ (p, ys) :: (q, zs) :: C := by
      rw [kp_set_dec, List.set_append_right _ _ (by omega), show A.length + 1 - A.length = 0 + 1 by omega]
      rfl
    rw [e]
    exact kp_era A _ _ C
theorem kp_mendL {top root : Nat} {cs : List kp_C} {ex : Nat → Nat} {pn ps nu : Nat → Nat} {u : Nat} :
    ∀ (f l : Nat) (M : kv_M) (S : Nat → List kp_N) (fl : List Nat) (P : Nat → Nat), f + l = top → kp_on M.1 top S cs fl u ex → kp_lev S cs top →
      (∃ ys, S top = [(root, ys)] ∧ (0 < top → (if l = top then 1 else 2) ≤ ys.length)) → kp_pa S top l pn ps nu →
      (∀ j v n, j < top → (S j)[v]? = some n → 7 ≤ n.2.length ∨ (j = l ∧ v = nu l ∧ 6 ≤ n.2.length)) → (∀ j, P j < 65536) →
      ∃ (S' : Nat → List kp_N) (fl' : List Nat), kp_on (kv_mendL pn ps f l M P).1.1 top S' cs fl' u ex ∧ kp_lev S' cs top ∧ (∃ ys, S' top = [(root, ys)] ∧ (0 < top → 1 ≤ ys.length)) ∧ (∀ j, j < top → ∀ n ∈ S' j, 7 ≤ n.2.length) ∧ kp_kx M.1 (kv_mendL pn ps f l M P).1.1 ex ∧ (∀ j, (kv_mendL pn ps f l M P).2 j < 65536)
  | 0, l, M, S, fl, P, h1, h2, h3, h4, h5, h6, h7 => by
    have e : l = top := by omega
    subst e
    obtain ⟨ys, a1, a2⟩ := h4
    refine ⟨S, fl, h2, h3, ⟨ys, a1, fun h => ?_⟩, fun j hj n hn => ?_, kp_kx_refl _ _, h7⟩
    · have := a2 h; rw [if_pos rfl] at this; exact this
    · obtain ⟨v, hv⟩ := List.getElem?_of_mem hn
      have := h6 j v n hj hv
      omega
  | f + 1, l, M, S, fl, P, h1, h2, h3, h4, h5, h6, h7 => by
    have hlt : l < top := by omega
    have hu := h2.1.2.2.2.2.1
    obtain ⟨ys, y1, y2⟩ := h4
    obtain ⟨b1, n0, b2, b3⟩ := h5.2 l (Nat.le_refl _) hlt
    have b4 := h5.1 (l + 1) (by omega) (by omega)
    rw [b2] at b4
    obtain ⟨n01, zs⟩ := n0
    have b5 : n01 = pn (l + 1) := by simpa using b4
    subst b5
    have hm0 := List.mem_of_getElem? b2
    have hp0 := kp_on_node h2 (show l + 1 ≤ top by omega) hm0
    have hnp := h2.2.2.1 (l + 1) (by omega) _ hm0
    simp only at hp0 hnp b3
    have c4 := h5.1 l (Nat.le_refl _) (by omega)
    cases hc : (S l)[nu l]? with
    | none => rw [hc] at c4; simp at c4
    | some nl =>
    rw [hc] at c4
    obtain ⟨nl1, xl⟩ := nl
    have c5 : nl1 = pn l := by simpa using c4
    subst c5
    have hnl := h2.2.2.1 l (by omega) _ (List.mem_of_getElem? hc)
    simp only at hnl
    rw [kv_mendL, kp_nd_count hnl]
    by_cases z : xl.length < 7
    · rw [if_pos z]
      -- the parent has two slots at least
      have hz2 : 2 ≤ zs.length := by
        by_cases y : l + 1 = top
        · rw [y, y1] at b2
          have v0 : nu top = 0 := by
            rcases hv' : nu top with _ | v
            · rfl
            · rw [hv'] at b2; simp at b2
          rw [v0] at b2
          have e : ys = zs := by have := Option.some.inj b2; exact (Prod.mk.inj this).2
          have := y2 (by omega)
          rw [if_neg (by omega), e] at this
          exact this
        · have := h6 (l + 1) _ _ (by omega) b2
          simp only at this
          omega
      have hi : ps (l + 1) - 1 + 1 < zs.length := by omega
      obtain ⟨nL, d1, d2⟩ := kp_two (i := ps (l + 1) - 1) (h3 (l + 1) (by omega)) b2 (by omega)
      obtain ⟨nR, d3, d4⟩ := kp_two (i := ps (l + 1) - 1 + 1) (h3 (l + 1) (by omega)) b2 hi
      obtain ⟨L, as⟩ := nL
      obtain ⟨R, bs⟩ := nR
      simp only at d2 d4
      rw [kp_slot_eq hnp d2, kp_slot_eq hnp d4]
      generalize hw : kp_off (S (l + 1)) (nu (l + 1)) + (ps (l + 1) - 1) = w at *
      rw [show kp_off (S (l + 1)) (nu (l + 1)) + (ps (l + 1) - 1 + 1) = w + 1 by omega] at d3
      have hwl : nu l = w ∨ nu l = w + 1 := by omega
      have hmL := List.mem_of_getElem? d1
      have hmR := List.mem_of_getElem? d3
      have pL := kp_on_node h2 (show l ≤ top by omega) hmL
      have pR := kp_on_node h2 (show l ≤ top by omega) hmR
      have gL := h2.2.2.1 l (by omega) _ hmL
      have gR := h2.2.2.1 l (by omega) _ hmR
      simp only at pL pR gL gR
      have hLR : L ≠ R := fun y => by
        subst y
        have := (kp_uniq (kp_on_ct h2 L) (show l ≤ top by omega) (show l ≤ top by omega) d1 d3).2
        omega
      have e14 := gL.2.2.1
      have e14' := gR.2.2.1
      have lens : 13 ≤ as.length + bs.length := by
        have q1 := h6 l w _ hlt d1
        have q2 := h6 l (w + 1) _ hlt d3
        simp only at q1 q2
        omega
      have hPar : pn (l + 1) ≠ L ∧ pn (l + 1) ≠ R := by
        refine ⟨fun y => ?_, fun y => ?_⟩
        · rw [y] at b2
          have := (kp_uniq (kp_on_ct h2 L) (show l + 1 ≤ top by omega) (show l ≤ top by omega) b2 d1).1
          omega
        · rw [y] at b2
          have := (kp_uniq (kp_on_ct h2 R) (show l + 1 ≤ top by omega) (show l ≤ top by omega) b2 d3).1
          omega
      by_cases y14 : 14 < as.length + bs.length
      · -- they share
        have em : kv_merge M L R P = (false, kv_share M L R ((as.length + bs.length) / 2) P) := by
          unfold kv_merge
          rw [kp_nd_count gL, kp_nd_count gR, if_pos y14]
        rw [em]
        simp only [kv_mendD, if_neg (show ¬ (false = true) by decide)]
        obtain ⟨s1, s2, s3, s4⟩ := kp_share (toL := (as.length + bs.length) / 2) (P := P) gL gR h7 hLR (by omega) (by omega) (by omega) (by omega) (by omega) (by omega) (by omega)
        have s5 : kp_h6 M.1 (kv_share M L R ((as.length + bs.length) / 2) P).1.1 := kp_h6_share (by omega) (by omega)
        have on1 := kp_on_set2 h2 (show l ≤ top by omega) d1 d3 s3 s5 s1 s2
        have t1 : ((as ++ bs).take ((as.length + bs.length) / 2)).length = (as.length + bs.length) / 2 := by simp; omega
        have t2 : ((as ++ bs).drop ((as.length + bs.length) / 2)).length = (as.length + bs.length) - (as.length + bs.length) / 2 := by simp
        have efl := kp_fl_two d1 d3 (List.take_append_drop ((as.length + bs.length) / 2) (as ++ bs))
        have emap : ((((S l).set w (L, (as ++ bs).take ((as.length + bs.length) / 2))).set (w + 1) (R, (as ++ bs).drop ((as.length + bs.length) / 2)))).map (·.1) = (S l).map (·.1) := by
          rw [kp_map_set (xs := bs) (by rw [List.getElem?_set_ne (by omega)]; exact d3), kp_map_set d1]
        have kx : kp_kx M.1 (kv_share M L R ((as.length + bs.length) / 2) P).1.1 ex := ⟨[L, R], s3, fun x hx => by
          simp at hx
          rcases hx with y | y
          · rw [y]; exact ⟨pL.1, pL.2.2.2⟩
          · rw [y]; exact ⟨pR.1, pR.2.2.2⟩⟩
        generalize hX : ((S l).set w (L, (as ++ bs).take ((as.length + bs.length) / 2))).set (w + 1) (R, (as ++ bs).drop ((as.length + bs.length) / 2)) = X at *
        have X1 : kp_lev (va_up S l X) cs top := by
          intro j hj
          by_cases jl : j = l
          · subst jl
            rw [va_up_self, kp_its_up (by omega), efl]; exact h3 j hj
          · rw [va_up_ne _ _ jl]
            by_cases jl1 : j = l + 1
            · subst jl1
              rw [kp_its_at, emap]; exact h3 (l + 1) hj
            · rw [kp_its_up jl1]; exact h3 j hj
        have X2 : ∃ ys, va_up S l X top = [(root, ys)] ∧ (0 < top → (if l + 1 = top then 1 else 2) ≤ ys.length) := by
          rw [va_up_ne _ _ (by omega)]
          refine ⟨ys, y1, fun h => ?_⟩
          have := y2 h
          rw [if_neg (by omega)] at this
          split <;> omega
        have X3 : kp_pa (va_up S l X) top (l + 1) pn ps nu := by
          refine ⟨fun j hj hj2 => ?_, fun j hj hj2 => ?_⟩
          · rw [va_up_ne _ _ (by omega)]; exact h5.1 j (by omega) hj2
          · rw [va_up_ne _ _ (by omega)]; exact h5.2 j (by omega) hj2
        have X4 : ∀ j v n, j < top → (va_up S l X j)[v]? = some n → 7 ≤ n.2.length ∨ (j = l + 1 ∧ v = nu (l + 1) ∧ 6 ≤ n.2.length) := by
          intro j v n hj hv
          by_cases jl : j = l
          · subst jl
            rw [va_up_self, ← hX] at hv
            left
            by_cases w1 : v = w + 1
            · subst w1
              rw [List.getElem?_set_self (by rw [List.length_set]; exact (List.getElem?_eq_some_iff.mp d3).1)] at hv
              rw [← Option.some.inj hv]; simp only; omega
            · rw [List.getElem?_set_ne (fun y => w1 y.symm)] at hv
              by_cases w2 : v = w
              · subst w2
                rw [List.getElem?_set_self (List.getElem?_eq_some_iff.mp d1).1] at hv
                rw [← Option.some.inj hv]; simp only; omega
              · rw [List.getElem?_set_ne (fun y => w2 y.symm)] at hv
                have := h6 j v n hj hv
                omega
          · rw [va_up_ne _ _ jl] at hv
            left
            have := h6 j v n hj hv
            omega
        obtain ⟨S', fl', g1, g2, g3, g4, g5, g6⟩ := kp_mendL (root := root) (nu := nu) (ex := ex) (cs := cs) f (l + 1) (kv_share M L R ((as.length + bs.length) / 2) P).1 (va_up S l X) fl (kv_share M L R ((as.length + bs.length) / 2) P).2 (by clear X2; omega) on1 X1 X2 X3 X4 s4
        exact ⟨S', fl', g1, g2, g3, g4, kp_kx_trans kx g5, g6⟩
      · -- the left one takes all
        have em : kv_merge M L R P = (true, kv_freeP (kv_share M L R (as.length + bs.length) P).1 R, (kv_share M L R (as.length + bs.length) P).2) := by
          unfold kv_merge
          rw [kp_nd_count gL, kp_nd_count gR, if_neg y14]
        rw [em]
        simp only [kv_mendD, if_true]
        obtain ⟨s1, s2, s3, s4⟩ := kp_share (toL := as.length + bs.length) (P := P) gL gR h7 hLR (by omega) (by omega) (by omega) (by omega) (by omega) (by omega) (by omega)
        have s5 : kp_h6 M.1 (kv_share M L R (as.length + bs.length) P).1.1 := kp_h6_share (by omega) (by omega)
        rw [List.take_of_length_le (by simp)] at s1
        have on1 := kp_on_set2 h2 (show l ≤ top by omega) d1 d3 s3 s5 s1 s2
        have kx1 : kp_kx M.1 (kv_share M L R (as.length + bs.length) P).1.1 ex := ⟨[L, R], s3, fun x hx => by
          simp at hx
          rcases hx with y | y
          · rw [y]; exact ⟨pL.1, pL.2.2.2⟩
          · rw [y]; exact ⟨pR.1, pR.2.2.2⟩⟩
        generalize hrs : (as ++ bs).drop (as.length + bs.length) = rs at *
        have hv2 : (va_up S l (((S l).set w (L, as ++ bs)).set (w + 1) (R, rs)) l)[w + 1]? = some (R, rs) := by
          rw [va_up_self, List.getElem?_set_self (by rw [List.length_set]; exact (List.getElem?_eq_some_iff.mp d3).1)]
        obtain ⟨on2, k2⟩ := kp_on_drop on1 (show l ≤ top by omega) hv2
        obtain ⟨A, C, eA, eA2, eA3⟩ := kp_erase_two (q := R) d1 d3
        rw [va_up_self, eA3 (as ++ bs) rs] at on2
        have kx2 : kp_kx (kv_share M L R (as.length + bs.length) P).1.1 (kv_freeP (kv_share M L R (as.length + bs.length) P).1 R).1 ex := ⟨[R], k2, fun x hx => by rw [List.mem_singleton.mp hx]; exact ⟨pR.1, pR.2.2.2⟩⟩
        have eup : va_up (va_up S l (((S l).set w (L, as ++ bs)).set (w + 1) (R, rs))) l (A ++ (L, as ++ bs) :: C) = va_up S l (A ++ (L, as ++ bs) :: C) := by
          funext j; unfold va_up; split <;> rfl
        rw [eup] at on2
        generalize hS1 : va_up S l (A ++ (L, as ++ bs) :: C) = S1 at *
        have hS1l : S1 l = A ++ (L, as ++ bs) :: C := by rw [← hS1, va_up_self]
        have hS1n : ∀ j, j ≠ l → S1 j = S j := fun j hj => by rw [← hS1, va_up_ne _ _ hj]
        have np2 : kp_nd (kv_freeP (kv_share M L R (as.length + bs.length) P).1 R).1 (pn (l + 1)) (l + 1) zs := kp_nd_frame (kp_nd_frame hnp (s3.1 _ (by omega) (by simp; exact ⟨hPar.1, hPar.2⟩))) (k2.1 _ (by omega) (by simp; exact hPar.2))
        generalize hM2 : kv_freeP (kv_share M L R (as.length + bs.length) P).1 R = M2 at *
        obtain ⟨k3, k4⟩ := kp_delete (i := ps (l + 1) - 1 + 1) np2 (by omega) (by omega) hi
        have b2' : (S1 (l + 1))[nu (l + 1)]? = some (pn (l + 1), zs) := by rw [hS1n _ (by omega)]; exact b2
        have on3 := kp_on_set on2 (show l + 1 ≤ top by omega) b2' k4 (kp_h6_delete (by omega)) k3
        have kx3 : kp_kx M2.1 (kv_delete M2 (pn (l + 1)) (ps (l + 1) - 1 + 1)).1 ex := ⟨[pn (l + 1)], k4, fun x hx => by rw [List.mem_singleton.mp hx]; exact ⟨hp0.1, hp0.2.2.2⟩⟩
        have efe := kp_fl_erase b2' hi
        rw [hS1n _ (by omega : l + 1 ≠ l)] at efe on3
        generalize hzs' : zs.take (ps (l + 1) - 1 + 1) ++ zs.drop (ps (l + 1) - 1 + 1 + 1) = zs' at *
        have lzs' : zs'.length + 1 = zs.length := by rw [← hzs']; simp; omega
        generalize hX : (S (l + 1)).set (nu (l + 1)) (pn (l + 1), zs') = X at *
        have eflX : kp_fl X = (A ++ (L, as ++ bs) :: C).map (·.1) := by
          rw [efe, show kp_off (S (l + 1)) (nu (l + 1)) + (ps (l + 1) - 1 + 1) = w + 1 by omega, h3 (l + 1) (by omega)]
          show List.take (w + 1) ((S l).map (·.1)) ++ List.drop (w + 1 + 1) ((S l).map (·.1)) = _
          rw [eA, ← eA2, List.map_append, List.map_cons, List.map_cons, ← List.length_map (f := fun x : kp_N => x.1), kp_era, List.map_append, List.map_cons]
        have emX : X.map (·.1) = (S (l + 1)).map (·.1) := by rw [← hX]; exact kp_map_set b2
        have eflS : kp_fl (A ++ (L, as ++ bs) :: C) = kp_fl (S l) := by
          rw [eA, kp_fl_app, kp_fl_app, kp_fl_cons, kp_fl_cons, kp_fl_cons]
          simp
        have X1 : kp_lev (va_up S1 (l + 1) X) cs top := by
          intro j hj
          by_cases jl : j = l
          · subst jl
            rw [va_up_ne _ _ (by omega), kp_its_up (by omega), hS1l, eflS, ← hS1, kp_its_up (by omega)]; exact h3 j hj
          · by_cases jl1 : j = l + 1
            · subst jl1
              rw [va_up_self, kp_its_up (by omega), eflX, ← hS1, kp_its_at]
            · rw [va_up_ne _ _ jl1, hS1n j jl]
              by_cases jl2 : j = l + 2
              · subst jl2
                rw [kp_its_at, emX]; exact h3 (l + 2) hj
              · rw [kp_its_up (by omega), ← hS1, kp_its_up (by omega)]; exact h3 j hj
        have X2 : ∃ ys, va_up S1 (l + 1) X top = [(root, ys)] ∧ (0 < top → (if l + 1 = top then 1 else 2) ≤ ys.length) := by
          by_cases y : l + 1 = top
          · rw [y, va_up_self, ← hX]
            have b2t := b2
            rw [y, y1] at b2t
            have v0 : nu top = 0 := by
              rcases hv' : nu top with _ | v
              · rfl
              · rw [hv'] at b2t; simp at b2t
            rw [v0] at b2t
            have e := Prod.mk.inj (Option.some.inj b2t)
            rw [y, y1, v0, ← e.1]
            refine ⟨zs', rfl, fun _ => ?_⟩
            rw [if_pos rfl]; omega
          · rw [va_up_ne _ _ (fun q => y q.symm), hS1n _ (by omega)]
            refine ⟨ys, y1, fun h => ?_⟩
            have := y2 h
            rw [if_neg (by omega)] at this
            rw [if_neg y]; exact this
        have X3 : kp_pa (va_up S1 (l + 1) X) top (l + 1) pn ps nu := by
          have hXat : X[nu (l + 1)]? = some (pn (l + 1), zs') := by rw [← hX, List.getElem?_set_self (List.getElem?_eq_some_iff.mp b2).1]
          refine ⟨fun j hj hj2 => ?_, fun j hj hj2 => ?_⟩
          · by_cases y : j = l + 1
            · subst y; rw [va_up_self, hXat]; rfl
            · rw [va_up_ne _ _ y, hS1n _ (by omega)]; exact h5.1 j (by omega) hj2
          · rw [va_up_ne _ _ (by omega), hS1n _ (by omega)]; exact h5.2 j (by omega) hj2
        have X4 : ∀ j v n, j < top → (va_up S1 (l + 1) X j)[v]? = some n → 7 ≤ n.2.length ∨ (j = l + 1 ∧ v = nu (l + 1) ∧ 6 ≤ n.2.length) := by
          intro j v n hj hv
          by_cases jl : j = l
          · subst jl
            rw [va_up_ne _ _ (by omega), hS1l] at hv
            left
            have hmem : n ∈ A ++ (L, as ++ bs) :: C := List.mem_of_getElem? hv
            have hAC : ∀ v', v' ≠ w → v' ≠ w + 1 → (S j)[v']? = some n → 7 ≤ n.2.length := fun v' h1 h2 h3 => by
              have := h6 j v' n hj h3
              omega
            rcases Nat.lt_trichotomy v w with y | y | y
            · refine hAC v (by omega) (by omega) ?_
              rw [eA, List.getElem?_append_left (by omega)]
              rw [List.getElem?_append_left (by omega)] at hv; exact hv
            · rw [List.getElem?_append_right (by omega), show v - A.length = 0 by omega] at hv
              have : n = (L, as ++ bs) := (Option.some.inj hv).symm
              rw [this]; simp; omega
            · refine hAC (v + 1) (by omega) (by omega) ?_
              rw [eA, List.getElem?_append_right (by omega), show v + 1 - A.length = (v - A.length - 1) + 1 + 1 by omega, List.getElem?_cons_succ, List.getElem?_cons_succ]
              rw [List.getElem?_append_right (by omega), show v - A.length = (v - A.length - 1) + 1 by omega, List.getElem?_cons_succ] at hv
              exact hv
          · by_cases jl1 : j = l + 1
            · subst jl1
              rw [va_up_self, ← hX] at hv
              by_cases vv : v = nu (l + 1)
              · right
                subst vv
                rw [List.getElem?_set_self (List.getElem?_eq_some_iff.mp b2).1] at hv
                refine ⟨rfl, rfl, ?_⟩
                rw [← Option.some.inj hv]
                have := h6 (l + 1) _ _ hj b2
                simp only at this ⊢
                omega
              · left
                rw [List.getElem?_set_ne (fun y => vv y.symm)] at hv
                have := h6 (l + 1) v n hj hv
                omega
            · rw [va_up_ne _ _ jl1, hS1n j jl] at hv
              left
              have := h6 j v n hj hv
              omega
        obtain ⟨S', fl', g1, g2, g3, g4, g5, g6⟩ := kp_mendL (root := root) (nu := nu) (ex := ex) (cs := cs) f (l + 1) (kv_delete M2 (pn (l + 1)) (ps (l + 1) - 1 + 1)) (va_up S1 (l + 1) X) (R :: fl) (kv_share M L R (as.length + bs.length) P).2 (by clear X2; omega) on3 X1 X2 X3 X4 s4
        exact ⟨S', fl', g1, g2, g3, g4, kp_kx_trans kx1 (kp_kx_trans kx2 (kp_kx_trans kx3 g5)), g6⟩
    · rw [if_neg z]
      refine ⟨S, fl, h2, h3, ⟨ys, y1, fun h => ?_⟩, fun j hj n hn => ?_, kp_kx_refl _ _, h7⟩
      · have := y2 h; rw [if_neg (by omega)] at this; omega
      · obtain ⟨v, hv⟩ := List.getElem?_of_mem hn
        rcases h6 j v n hj hv with y | ⟨q1, q2, q3⟩
        · exact y
        · subst q1; subst q2
          rw [hc] at hv
          rw [← Option.some.inj hv]; simp only; omega
