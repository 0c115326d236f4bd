/-! PURE, the 21st: insertHere, deleteHere, replaceHere on one tree -/
theorem kp_ch_size {B : Nat → UInt8} {c : Nat} {ps : List Nat} {k v : List UInt8} (h : kp_ch B c ps k v) (hc : c ≠ 0) : kv_size B c = 16 + k.length + v.length := by
  unfold kv_size
  rw [if_neg hc, h.2.2.2.1, h.2.2.2.2.1]
theorem kp_pa_of {S : Nat → List kp_N} {top : Nat} {pn ps nu : Nat → Nat} (h : kp_path S top pn ps nu) : kp_pa S top 0 pn ps nu := ⟨fun j _ hj => h.1 j hj, fun j _ hj => h.2 j hj⟩
theorem kp_path_0 {S : Nat → List kp_N} {top : Nat} {pn ps nu : Nat → Nat} (h : kp_path S top pn ps nu) : ∃ xs, (S 0)[nu 0]? = some (pn 0, xs) := by
  have := h.1 0 (Nat.zero_le _)
  cases hc : (S 0)[nu 0]? with
  | none => rw [hc] at this; simp at this
  | some n =>
    rw [hc] at this
    obtain ⟨a, xs⟩ := n
    have e : a = pn 0 := by simpa using this
    exact ⟨xs, by rw [e]⟩
theorem kp_in_dec {α : Type} (A C : List α) (a : α) : kp_in (A ++ C) A.length a = A ++ a :: C := by
  unfold kp_in
  rw [List.take_append_of_le_length (Nat.le_refl _), List.take_length, List.drop_append_of_le_length (Nat.le_refl _), List.drop_length, List.nil_append]
theorem kp_insH {M : kv_M} {t top : Nat} {S : Nat → List kp_N} {cs : List kp_C} {fl : List Nat} {u : Nat} {ex : Nat → Nat} {pn ps nu P : Nat → Nat} {r : Nat} {xs : List Nat} {K V : Nat → UInt8} {kl vl : Nat} {key val : List UInt8} (ht : t < 64) (htop : top ≤ 3) (h : kp_wh M.1 t top S cs fl u ex) (hp : kp_path S top pn ps nu) (hx : (S 0)[nu 0]? = some (pn 0, xs)) (hi : ps 0 ≤ xs.length) (hr : kp_off (S 0) (nu 0) + ps 0 = r) (hK : kp_row K kl key) (hV : kp_row V vl val) (hk : key.length ≤ 8448) (hv : val.length ≤ 8448) (hroom : kp_pf (key.length + val.length) + top + 2 ≤ fl.length + (2711 - u)) (hP : ∀ j, P j < 65536) :
    ∃ (top' : Nat) (S' : Nat → List kp_N) (fl' : List Nat) (u' c : Nat) (pgs : List Nat), kp_wh (kv_insH M P t top pn ps K kl V vl).1.1.1 t top' S' (kp_in cs r (c, pgs, key, val)) fl' u' ex ∧ kp_kg M.1 (kv_insH M P t top pn ps K kl V vl).1.1.1 ex [32 + 4 * t, 32 + 4 * t + 2, 8] ∧ kv_num (kv_insH M P t top pn ps K kl V vl).1.1.1 8 = (kv_num M.1 8 + (16 + key.length + val.length)) % 65536 ∧ kv_ents (kv_insH M P t top pn ps K kl V vl).1.1.1 t = (kv_ents M.1 t + 1) % 65536 ∧ (∀ j, (kv_insH M P t top pn ps K kl V vl).1.2 j < 65536) ∧ top' ≤ top + 1 := by
  obtain ⟨hon, hlev, ⟨ys, y1, y2⟩, hfi⟩ := h
  have hrl : r ≤ cs.length := by
    have e1 : (kp_fl (S 0)).length = cs.length := by rw [hlev 0 (Nat.zero_le _)]; simp [kp_its]
    have e2 := kp_off_mono (S 0) (v := nu 0 + 1) (w := (S 0).length) (List.getElem?_eq_some_iff.mp hx).1
    rw [kp_off_s hx, kp_off_len (S 0) (Nat.le_refl _), e1] at e2
    simp only at e2
    omega
  obtain ⟨A, C, eA, eL⟩ : ∃ A C, cs = A ++ C ∧ A.length = r := ⟨cs.take r, cs.drop r, (List.take_append_drop _ _).symm, by simp; omega⟩
  subst eA
  obtain ⟨pgs, f1, u1, o1, o2, o3, o4, o5, o6, o7⟩ := kp_on_addC hon hK hV hk hv (by omega)
  unfold kv_insH kv_insSlot kv_insA
  simp only
  generalize hc : (kv_store M K kl V vl).1 = c at *
  generalize hM1 : (kv_store M K kl V vl).2.1 = M1 at *
  have hch := o1.2.2.2 (c, pgs, key, val) (by simp)
  simp only at hch
  rw [kp_ch_size hch (by omega)]
  obtain ⟨a1, a2, a3, a4⟩ := kp_addH (M := M1) (a := 8) (n := 16 + key.length + val.length) rfl (by omega) (by omega)
  have on2 := kp_on_pg o1 a1 a2
  have g1 : kp_kg M1.1 (kv_addTo M1 8 (16 + key.length + val.length)).1 ex [32 + 4 * t, 32 + 4 * t + 2, 8] := kp_addH_kg rfl (by omega) (by omega) (by simp)
  generalize hM2 : kv_addTo M1 8 (16 + key.length + val.length) = M2 at *
  obtain ⟨b1, b2, b3, b4⟩ := kp_addH (M := M2) (a := 32 + 4 * t + 2) (n := 1) (by omega) (by omega) (by omega)
  have on3 := kp_on_pg on2 b1 b2
  have g2 : kp_kg M2.1 (kv_addTo M2 (32 + 4 * t + 2) 1).1 ex [32 + 4 * t, 32 + 4 * t + 2, 8] := kp_addH_kg (by omega) (by omega) (by omega) (by simp)
  generalize hM3 : kv_addTo M2 (32 + 4 * t + 2) 1 = M3 at *
  have ero : kv_root M3.1 t = kv_root M.1 t := by
    have e1 : kv_root M3.1 t = kv_root M2.1 t := b4 _ (by omega) (by omega)
    have e2 : kv_root M2.1 t = kv_root M1.1 t := a4 _ (by omega) (by omega)
    rw [e1, e2]; exact kp_kx_root o2 ht
  have e8 : kv_num M3.1 8 = (kv_num M.1 8 + (16 + key.length + val.length)) % 65536 := by
    rw [b4 8 rfl (by omega), a3, (kp_kx_kg (E := []) o2).2 8 rfl (by omega) (by omega) (by simp)]
  have een : kv_ents M3.1 t = (kv_ents M.1 t + 1) % 65536 := by
    have e1 : kv_ents M3.1 t = (kv_num M2.1 (32 + 4 * t + 2) + 1) % 65536 := b3
    have e2 : kv_num M2.1 (32 + 4 * t + 2) = kv_num M1.1 (32 + 4 * t + 2) := a4 _ (by omega) (by omega)
    rw [e1, e2, (kp_kx_kg (E := []) o2).2 _ (by omega) (by omega) (by omega) (by simp)]
    rfl
  have ekin : kp_in (A ++ C) r (c, pgs, key, val) = A ++ (c, pgs, key, val) :: C := by rw [← eL]; exact kp_in_dec _ _ _
  obtain ⟨top', S', fl', u', r1, r2, r3, r4⟩ := kp_insL (cs := A ++ (c, pgs, key, val) :: C) (nu := nu) (ex := ex) ht htop (top + 1) 0 M3 S f1 u1 P c (ps 0) (by omega) on3 (fun j hj hne => by
      rw [hlev j hj]
      cases j with
      | zero => omega
      | succ j => rfl) (fun _ => ⟨⟨xs, hx, hi⟩, by
      rw [hr, hlev 0 (Nat.zero_le _)]
      show kp_in ((A ++ C).map (·.1)) r c = (A ++ (c, pgs, key, val) :: C).map (·.1)
      rw [← ekin, kp_in_map], ys, by rw [ero]; exact y1, y2⟩) (fun hh => by omega) (kp_pa_of hp) (fun j hj hor n hn => hfi j (by omega) n hn) o7 (by omega) hP
  refine ⟨top', S', fl', u', c, pgs, ?_, kp_kg_trans (kp_kx_kg o2) (kp_kg_trans g1 (kp_kg_trans g2 (kp_kh_kg r2 (by simp)))), ?_, ?_, r3, r4⟩
  · rw [ekin]; exact r1
  · rw [r2.2 8 rfl (by omega) (by omega) (by omega)]; exact e8
  · have : kv_ents (kv_insL t top pn ps (top + 1) 0 M3 P c (ps 0)).1.1 t = kv_ents M3.1 t := r2.2 _ (by omega) (by omega) (by omega) (by omega)
    rw [this]; exact een
theorem kp_delH {M : kv_M} {t top : Nat} {S : Nat → List kp_N} {A C : List kp_C} {c : kp_C} {fl : List Nat} {u : Nat} {ex : Nat → Nat} {pn ps nu P : Nat → Nat} {xs : List Nat} (ht : t < 64) (htop : top ≤ 4) (h : kp_wh M.1 t top S (A ++ c :: C) fl u ex) (hp : kp_path S top pn ps nu) (hx : (S 0)[nu 0]? = some (pn 0, xs)) (hi : ps 0 < xs.length) (hr : kp_off (S 0) (nu 0) + ps 0 = A.length) (hP : ∀ j, P j < 65536) :
    ∃ (top' : Nat) (S' : Nat → List kp_N) (fl' : List Nat), kp_wh (kv_delH M P t top pn ps).1.1 t top' S' (A ++ C) fl' u ex ∧ kp_kg M.1 (kv_delH M P t top pn ps).1.1 ex [32 + 4 * t, 32 + 4 * t + 2, 8] ∧ kv_num (kv_delH M P t top pn ps).1.1 8 = (kv_num M.1 8 + (4294967296 - (16 + c.2.2.1.length + c.2.2.2.length))) % 65536 ∧ kv_ents (kv_delH M P t top pn ps).1.1 t = (kv_ents M.1 t + 4294967295) % 65536 ∧ (∀ j, (kv_delH M P t top pn ps).2 j < 65536) ∧ top' ≤ top := by
  obtain ⟨hon, hlev, ⟨ys, y1, y2⟩, hfi⟩ := h
  have hm : (pn 0, xs) ∈ S 0 := List.mem_of_getElem? hx
  have hn0 := hon.2.2.1 0 (Nat.zero_le _) _ hm
  have hp0 := kp_on_node hon (Nat.zero_le _) hm
  simp only at hn0 hp0
  have hu := hon.1.2.2.2.2.1
  have eslot : kv_slot M.1 (pn 0) (ps 0) = c.1 := by
    have e := kp_fl_at hx hi
    rw [hr, hlev 0 (Nat.zero_le _)] at e
    have e2 : ((A ++ c :: C).map (·.1))[A.length]? = xs[ps 0]? := e
    rw [List.map_append, List.map_cons, List.getElem?_append_right (by simp), show A.length - (A.map (·.1)).length = 0 by simp] at e2
    exact kp_slot_eq hn0 e2.symm
  have hch := hon.2.2.2 c (by simp)
  have hc9 : 9 ≤ c.1 := (kp_on_page hon (kp_ct_chain (c := c) (by simp) (List.mem_of_getElem? hch.1))).1
  unfold kv_delH kv_delA
  rw [eslot, kp_ch_size hch (by omega)]
  obtain ⟨a1, a2, a3, a4⟩ := kp_addH (M := M) (a := 8) (n := 4294967296 - (16 + c.2.2.1.length + c.2.2.2.length)) rfl (by omega) (by omega)
  have on2 := kp_on_pg hon a1 a2
  have g1 : kp_kg M.1 (kv_addTo M 8 (4294967296 - (16 + c.2.2.1.length + c.2.2.2.length))).1 ex [32 + 4 * t, 32 + 4 * t + 2, 8] := kp_addH_kg rfl (by omega) (by omega) (by simp)
  generalize hM2 : kv_addTo M 8 (4294967296 - (16 + c.2.2.1.length + c.2.2.2.length)) = M2 at *
  obtain ⟨b1, b2, b3, b4⟩ := kp_addH (M := M2) (a := 32 + 4 * t + 2) (n := 4294967295) (by omega) (by omega) (by omega)
  have on3 := kp_on_pg on2 b1 b2
  have g2 : kp_kg M2.1 (kv_addTo M2 (32 + 4 * t + 2) 4294967295).1 ex [32 + 4 * t, 32 + 4 * t + 2, 8] := kp_addH_kg (by omega) (by omega) (by omega) (by simp)
  generalize hM3 : kv_addTo M2 (32 + 4 * t + 2) 4294967295 = M3 at *
  have ero3 : kv_root M3.1 t = kv_root M.1 t := by
    have e1 : kv_root M3.1 t = kv_root M2.1 t := b4 _ (by omega) (by omega)
    have e2 : kv_root M2.1 t = kv_root M.1 t := a4 _ (by omega) (by omega)
    rw [e1, e2]
  have e83 : kv_num M3.1 8 = (kv_num M.1 8 + (4294967296 - (16 + c.2.2.1.length + c.2.2.2.length))) % 65536 := by
    rw [b4 8 rfl (by omega), a3]
  have een3 : kv_ents M3.1 t = (kv_ents M.1 t + 4294967295) % 65536 := by
    have e1 : kv_ents M3.1 t = (kv_num M2.1 (32 + 4 * t + 2) + 4294967295) % 65536 := b3
    have e2 : kv_num M2.1 (32 + 4 * t + 2) = kv_num M.1 (32 + 4 * t + 2) := a4 _ (by omega) (by omega)
    rw [e1, e2]
    rfl
  obtain ⟨d1, d2, d3⟩ := kp_on_dropC on3
  have kx1 : kp_kx M3.1 (kv_freeC M3 c.1).1 ex := ⟨c.2.1, d2, d3⟩
  have hn3 := d1.2.2.1 0 (Nat.zero_le _) _ hm
  simp only at hn3
  generalize hM4 : kv_freeC M3 c.1 = M4 at *
  obtain ⟨k1, k2⟩ := kp_delete (i := ps 0) hn3 (by omega) (by omega) hi
  have on5 := kp_on_set d1 (Nat.zero_le _) hx k2 (kp_h6_delete (by omega)) k1
  have kx2 : kp_kx M4.1 (kv_delete M4 (pn 0) (ps 0)).1 ex := ⟨[pn 0], k2, fun q hq => by rw [List.mem_singleton.mp hq]; exact ⟨hp0.1, hp0.2.2.2⟩⟩
  generalize hM5 : kv_delete M4 (pn 0) (ps 0) = M5 at *
  have efe := kp_fl_erase hx hi
  generalize hxs' : xs.take (ps 0) ++ xs.drop (ps 0 + 1) = xs' at *
  have lxs' : xs'.length + 1 = xs.length := by rw [← hxs']; simp; omega
  have emX : ((S 0).set (nu 0) (pn 0, xs')).map (·.1) = (S 0).map (·.1) := kp_map_set hx
  have X0 : ((S 0).set (nu 0) (pn 0, xs'))[nu 0]? = some (pn 0, xs') := List.getElem?_set_self (List.getElem?_eq_some_iff.mp hx).1
  have Xne : ∀ v, v ≠ nu 0 → ((S 0).set (nu 0) (pn 0, xs'))[v]? = (S 0)[v]? := fun v hv => List.getElem?_set_ne (fun y => hv y.symm)
  have X1 : kp_lev (va_up S 0 ((S 0).set (nu 0) (pn 0, xs'))) (A ++ C) top := by
    intro j hj
    cases j with
    | zero =>
      rw [va_up_self, efe, hr, hlev 0 (Nat.zero_le _)]
      show ((A ++ c :: C).map (·.1)).take A.length ++ ((A ++ c :: C).map (·.1)).drop (A.length + 1) = (A ++ C).map (·.1)
      rw [← List.map_take, ← List.map_drop, ← List.map_append, kp_erase_dec]
    | succ j =>
      rw [va_up_ne _ _ (by omega), hlev (j + 1) hj]
      show (S j).map (·.1) = (va_up S 0 _ j).map (·.1)
      by_cases z : j = 0
      · subst z; rw [va_up_self, emX]
      · rw [va_up_ne _ _ z]
  have X2 : ∃ ys, va_up S 0 ((S 0).set (nu 0) (pn 0, xs')) top = [(kv_root M.1 t, ys)] ∧ (0 < top → (if 0 = top then 1 else 2) ≤ ys.length) := by
    by_cases z : top = 0
    · subst z
      rw [va_up_self]
      have hv := hx
      rw [y1] at hv
      have v0 : nu 0 = 0 := by
        rcases hv' : nu 0 with _ | v
        · rfl
        · rw [hv'] at hv; simp at hv
      rw [v0] at hv
      have e := Prod.mk.inj (Option.some.inj hv)
      rw [y1, v0, ← e.1]
      exact ⟨xs', rfl, fun h => by omega⟩
    · rw [va_up_ne _ _ z]
      exact ⟨ys, y1, fun h => by rw [if_neg (fun y => z y.symm)]; exact y2 h⟩
  have X3 : kp_pa (va_up S 0 ((S 0).set (nu 0) (pn 0, xs'))) top 0 pn ps nu := by
    refine ⟨fun j _ hj => ?_, fun j _ hj => ?_⟩
    · by_cases z : j = 0
      · subst z; rw [va_up_self, X0]; rfl
      · rw [va_up_ne _ _ z]; exact hp.1 j hj
    · rw [va_up_ne _ _ (by omega)]; exact hp.2 j hj
  have X4 : ∀ j v n, j < top → (va_up S 0 ((S 0).set (nu 0) (pn 0, xs')) j)[v]? = some n → 7 ≤ n.2.length ∨ (j = 0 ∧ v = nu 0 ∧ 6 ≤ n.2.length) := by
    intro j v n hj hv
    by_cases z : j = 0
    · subst z
      rw [va_up_self] at hv
      by_cases w : v = nu 0
      · subst w
        rw [X0] at hv
        right
        rw [← Option.some.inj hv]
        have q7 := hfi 0 hj _ hm
        refine ⟨rfl, rfl, ?_⟩
        show 6 ≤ xs'.length
        have q8 : 7 ≤ xs.length := q7
        omega
      · rw [Xne v w] at hv
        left; exact hfi 0 hj n (List.mem_of_getElem? hv)
    · rw [va_up_ne _ _ z] at hv
      left; exact hfi j hj n (List.mem_of_getElem? hv)
  obtain ⟨S6, f6, m1, m2, m3, m4, m5, m6⟩ := kp_mendL (root := kv_root M.1 t) (cs := A ++ C) (ex := ex) (nu := nu) (pn := pn) (ps := ps) top 0 M5 _ _ P rfl on5 X1 X2 X3 X4 hP
  have kx3 := kp_kx_trans kx1 (kp_kx_trans kx2 m5)
  have ero6 : kv_root (kv_mendL pn ps top 0 M5 P).1.1 t = kv_root M.1 t := by rw [kp_kx_root kx3 ht, ero3]
  rw [← ero6] at m3
  obtain ⟨top', S', fl', w1, w2, w3⟩ := kp_lower ht htop m1 m2 m3 m4
  refine ⟨top', S', fl', w1, kp_kg_trans g1 (kp_kg_trans g2 (kp_kg_trans (kp_kx_kg kx3) (kp_kh_kg w2 (by simp)))), ?_, ?_, m6, w3⟩
  · rw [w2.2 8 rfl (by omega) (by omega) (by omega), (kp_kx_kg (E := []) kx3).2 8 rfl (by omega) (by omega) (by simp)]; exact e83
  · have e1 : kv_ents (kv_lower (kv_mendL pn ps top 0 M5 P).1 t).1 t = kv_ents (kv_mendL pn ps top 0 M5 P).1.1 t := w2.2 _ (by omega) (by omega) (by omega) (by omega)
    have e2 : kv_ents (kv_mendL pn ps top 0 M5 P).1.1 t = kv_ents M3.1 t := (kp_kx_kg (E := []) kx3).2 _ (by omega) (by omega) (by omega) (by simp)
    simp only
    rw [e1, e2]; exact een3
