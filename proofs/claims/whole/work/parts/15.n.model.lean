/-! the reference's calls, further -/
/-- a KEY's place in the reference's list -/
theorem zN_is {P : km_P} {MY : Nat → Nat} {TR : Nat → Int64} {A : kp_A} (h : kq_S P MY TR 0 A) {KY : Nat → UInt8} {kn k t : Nat} (hi : km_is P.1.1 P.1.2 P.2.1.1 P.2.2.1.2 KY P.2.2.2.1 kn (MY 0) k t = true) : t < 64 ∧ ∃ l, A t = some l := by
  obtain ⟨v, hv⟩ := (kq_is (VS := P.2.1.2)).mp hi
  have e : kq_ls P.1.1 P.1.2 P.2.1.1 P.2.1.2 P.2.2.1.2 P.2.2.2.1 0 (MY 0) = kq_flat A := h.1
  rw [e] at hv
  obtain ⟨h1, l, h2, -⟩ := kq_mem (List.mem_of_getElem? hv)
  exact ⟨h1, l, h2⟩
theorem zN_entry {P : km_P} {MY : Nat → Nat} {TR : Nat → Int64} {A : kp_A} (h : kq_S P MY TR 0 A) (hok : kp_okA A) {t : Nat} (ht : t < 64) {l : List kp_KV} (hA : A t = some l) {i : Nat} {e : kp_KV} (he : l[i]? = some e) : (kq_up A t).length + i < MY 0 ∧ P.1.1 (P.2.2.2.1 ((kq_up A t).length + i)) = t ∧ kq_bl P.2.2.1.2 (P.1.2 (P.2.2.2.1 ((kq_up A t).length + i))) (P.2.1.1 (P.2.2.2.1 ((kq_up A t).length + i))) = e.1 ∧ kq_bl P.2.2.1.2 (P.1.2 (P.2.2.2.1 ((kq_up A t).length + i)) + P.2.1.1 (P.2.2.2.1 ((kq_up A t).length + i))) (P.2.1.2 (P.2.2.2.1 ((kq_up A t).length + i))) = e.2 ∧ P.2.1.1 (P.2.2.2.1 ((kq_up A t).length + i)) = e.1.length ∧ P.2.1.2 (P.2.2.2.1 ((kq_up A t).length + i)) = e.2.length := by
  have hi := (List.getElem?_eq_some_iff.mp he).1
  have hl : kq_l (A t) = l := by rw [hA]; rfl
  have hm := (kq_S_len h hok).1
  have hat := kq_flat_at (A := A) ht i (by rw [hl]; exact hi)
  rw [hl, he] at hat
  have hlt : (kq_up A t).length + i < MY 0 := by rw [hm]; exact (List.getElem?_eq_some_iff.mp hat).1
  have hs := kq_S_at h hlt
  rw [hat, Nat.mul_zero, Nat.zero_add] at hs
  have hs' : (t, e) = kq_ent P.1.1 P.1.2 P.2.1.1 P.2.1.2 P.2.2.1.2 (P.2.2.2.1 ((kq_up A t).length + i)) := Option.some.inj hs
  unfold kq_ent at hs'
  have e1 := (Prod.mk.inj hs').1
  have e2 := (Prod.mk.inj hs').2
  have e3 : e.1 = _ := congrArg Prod.fst e2
  have e4 : e.2 = _ := congrArg Prod.snd e2
  exact ⟨hlt, e1.symm, e3.symm, e4.symm, by rw [e3, kq_bl_len], by rw [e4, kq_bl_len]⟩
theorem zN_noentry {P : km_P} {MY : Nat → Nat} {TR : Nat → Int64} {A : kp_A} (h : kq_S P MY TR 0 A) {t : Nat} (ht : t < 64) {l : List kp_KV} (hA : A t = some l) : ¬ ((kq_up A t).length + l.length < MY 0 ∧ P.1.1 (P.2.2.2.1 ((kq_up A t).length + l.length)) = t) := by
  intro ⟨h1, h2⟩
  have hl : kq_l (A t) = l := by rw [hA]; rfl
  have hs := kq_S_at h h1
  rw [Nat.mul_zero, Nat.zero_add] at hs
  subst hl
  exact kq_flat_out ht hs h2
theorem zN_erased {A : kp_A} (h : kp_okA A) {t : Nat} (ht : t < 64) {l : List kp_KV} (hA : A t = some l) {i : Nat} (hi : i < l.length) : kp_okA (va_up A t (some (l.take i ++ l.drop (i + 1)))) := by
  obtain ⟨l1, l2, e1, e2⟩ := kp_dec (List.getElem?_eq_getElem hi)
  have hkv := h.1 t l ht hA
  have es : kp_sizeA A = kp_szO (A t) + kp_sumx t (fun s => kp_szO (A s)) 64 := kp_sum_x ht
  rw [hA] at es
  generalize l[i] = x at e1
  subst e1
  subst e2
  rw [kp_erase_dec]
  refine kp_okA_up h (fun l' hl' => by rw [← Option.some.inj hl']; exact kp_kv_sub hkv) ?_
  rw [kp_sizeA_up ht]
  have e3 : kp_szO (some (l1 ++ l2)) = kp_szl l1 + kp_szl l2 := kp_szl_app _ _
  have e4 : kp_szO (some (l1 ++ x :: l2)) = kp_szl l1 + ((16 + x.1.length + x.2.length) + kp_szl l2) := by
    show kp_szl (l1 ++ x :: l2) = _
    rw [kp_szl_app, kp_szl_cons]
  have := h.2
  omega
theorem va_up_up {α : Type} (f : Nat → α) (k : Nat) (v w : α) : va_up (va_up f k v) k w = va_up f k w := by
  funext j; unfold va_up; split <;> rfl
set_option maxRecDepth 100000 in
set_option maxHeartbeats 4000000 in
theorem g_Model_put (l : Launch) (D : va_G) (K : Nat → ClassId) (a0 a1 a2 a3 a4 a5 a6 a7 a8 a9 a10 a11 a12 a13 : Nat) (e : kz_E) (s : kz_S) (t : Nat) (h : kz_N e s) (hn : t < 4294967296) (hok : (kz_aPut t s).1 = 0 → kp_okA (kz_aPut t s).2.2.1.1) : ks_M l D (ks_T K) (ks_R 2) y_Model_put b_Model_put 7 (some .boolean) [.ref a0, .int (nI t)] (kz_V K a0 a1 a2 a3 a4 a5 a6 a7 a8 a9 a10 a11 a12 a13 e) (kz_Q K a0 a1 a2 a3 a4 a5 a6 a7 a8 a9 a10 a11 a12 a13 (kz_aPut t s)) := by
  obtain ⟨⟨⟨TO, PL⟩, ⟨KS, VS⟩, ⟨MV, Y⟩, LI, rn, us⟩, ⟨MY, TR⟩, ⟨⟨KY, kn⟩, ⟨VY, vn⟩, ⟨FK, fkn⟩, FV, fvn⟩, mq, ⟨off, opn, fnd⟩, wh, af, th⟩ := e
  obtain ⟨⟨A, L, Ms⟩, ⟨key, val, fd⟩, ⟨son, sop⟩, ⟨sw, sk⟩⟩ := s
  have hh := h
  obtain ⟨⟨r1, r2, r3, r4, r5, r6⟩, ⟨b1, b2, b3, b4, b5, b6⟩, hM, ⟨w1, w2, w3⟩⟩ := h
  obtain ⟨hL1, hL2, hL3, hL4⟩ := zN_lists hM b4
  obtain ⟨hS0, hok0⟩ := zN_now hM
  have hg := kq_g hM.1 hS0 hok0
  have eg := kz_treeG hM t
  obtain ⟨r1_, r2_, r3_, r4_⟩ := id hM.1
  have hmk : (A :: L :: Ms).length = 2 + mq := by simp; omega
  have esz := kq_size hS0
  have hcap := (kq_pk0 (kn := kn) (vn := vn) hM hmk r1 r2).2
  have hcapO : km_is TO PL KS Y KY LI kn (MY 0) (km_find TO PL KS Y KY LI kn t (MY 0)) t = true → km_cap (km_pk0 mq (va_up MY 0 (MY 0 - 1)) kn vn ((TO, PL), (KS, VS), (MV, Y), (km_out LI (km_find TO PL KS Y KY LI kn t (MY 0)) (MY 0 - 1)), (rn, us))) kn vn := fun hi => by
    obtain ⟨ht, x9, hA⟩ := zN_is hS0 hi
    obtain ⟨f1, f2⟩ := kq_S_find hS0 w1 ht hA
    have f1' : km_find TO PL KS Y KY LI kn t (MY 0) = (kq_up A t).length + kp_lo x9 key := f1
    rw [f1'] at hi ⊢
    have hi2 : kp_is x9 key = true := by rw [← f2]; exact hi
    obtain ⟨w, hw⟩ := kp_is_iff.mp hi2
    have hlt := (List.getElem?_eq_some_iff.mp hw).1
    exact (kq_pk0 (kn := kn) (vn := vn) (zN_out hM ht hA hlt (zN_erased hok0 ht hA hlt)) (by simpa using hmk) r1 r2).2
  refine ks_mono (c_Model_put l D K a0 a1 a2 a3 a4 a5 a6 a7 a8 a9 a10 a11 a12 a13 TO PL KS VS MV Y LI MY TR KY VY FK FV rn us kn vn fkn fvn mq off opn fnd wh af th t hn hg r1_ hL1 hL2 (fun j hj => Nat.le_trans (r3_ j hj) r2_) r4_ hcap hcapO r1 r2 r2_ (by rw [show km_size LI KS VS (MY 0) = kp_sizeA A from esz]; exact hok0.2)) (fun v x h => ?_)
  have ek := w1.1
  have ev := w2.1
  rw [show km_size LI KS VS (MY 0) = kp_sizeA A from esz] at h
  rcases h with ⟨c, rfl, rfl⟩ | ⟨⟨c1, c2⟩, rfl, rfl⟩ | ⟨⟨⟨c1, c2⟩, c3⟩, rfl, rfl⟩ | ⟨⟨⟨⟨c1, c2⟩, c3⟩, c4⟩, rfl, rfl⟩ | ⟨⟨⟨⟨⟨c1, c2⟩, c3⟩, c4⟩, c5⟩, rfl, rfl⟩ | ⟨⟨⟨⟨⟨c1, c2⟩, c3⟩, c4⟩, c5⟩, rfl, rfl⟩
  · have c1 : son = false ∨ sop = false := by rw [b1, b2] at c; simpa using c
    have e : kz_aPut t (((A, L, Ms), (key, val, fd), (son, sop), (sw, sk))) = (1, 0, ((A, L, Ms), (key, val, fd), (son, sop), (sw, sk))) := by simp only [kz_aPut]; rw [if_pos c1]
    rw [e]
    exact ⟨(((TO, PL), (KS, VS), (MV, Y), LI, (rn, us)), (MY, TR), ((KY, kn), (VY, vn), (FK, fkn), (FV, fvn)), mq, (off, opn, fnd), (wh, af, 1)), _, rfl, rfl, hh, rfl, fun z => absurd z (Nat.succ_ne_zero _)⟩
  · skip
    have d1 : son = true := by rw [b1] at c1; simpa using c1.1
    have d2 : sop = true := by rw [← b2]; exact c1.2
    subst d1
    subst d2
    rw [eg] at c2
    have hg0 : kz_get A t = none := by cases z : kz_get A t <;> simp_all
    have e : kz_aPut t (((A, L, Ms), (key, val, fd), (true, true), (sw, sk))) = (2, 0, ((A, L, Ms), (key, val, fd), (true, true), (sw, sk))) := by simp [kz_aPut, hg0]
    rw [e]
    exact ⟨(((TO, PL), (KS, VS), (MV, Y), LI, (rn, us)), (MY, TR), ((KY, kn), (VY, vn), (FK, fkn), (FV, fvn)), mq, (off, opn, fnd), (wh, af, 2)), _, rfl, rfl, hh, rfl, fun z => absurd z (Nat.succ_ne_zero _)⟩
  · skip
    have d1 : son = true := by rw [b1] at c1; simpa using c1.1
    have d2 : sop = true := by rw [← b2]; exact c1.2
    subst d1
    subst d2
    rw [eg] at c2
    obtain ⟨x9, hx⟩ : ∃ l, kz_get A t = some l := by cases z : kz_get A t <;> simp_all
    obtain ⟨ht, hA⟩ := kz_get_some hx
    obtain ⟨f1, f2⟩ := kq_S_find hS0 w1 ht hA
    have k0 : key = [] := List.length_eq_zero_iff.mp (by omega)
    have e : kz_aPut t (((A, L, Ms), (key, val, fd), (true, true), (sw, sk))) = (3, 0, ((A, L, Ms), (key, val, fd), (true, true), (sw, sk))) := by simp [kz_aPut, hx, k0]
    rw [e]
    exact ⟨(((TO, PL), (KS, VS), (MV, Y), LI, (rn, us)), (MY, TR), ((KY, kn), (VY, vn), (FK, fkn), (FV, fvn)), mq, (off, opn, fnd), (wh, af, 3)), _, rfl, rfl, hh, rfl, fun z => absurd z (Nat.succ_ne_zero _)⟩
  · skip
    have d1 : son = true := by rw [b1] at c1; simpa using c1.1
    have d2 : sop = true := by rw [← b2]; exact c1.2
    subst d1
    subst d2
    rw [eg] at c2
    obtain ⟨x9, hx⟩ : ∃ l, kz_get A t = some l := by cases z : kz_get A t <;> simp_all
    obtain ⟨ht, hA⟩ := kz_get_some hx
    obtain ⟨f1, f2⟩ := kq_S_find hS0 w1 ht hA
    have k0 : key ≠ [] := fun y => c3 (by rw [ek, y]; rfl)
    have f2' : km_is TO PL KS Y KY LI kn (MY 0) ((kq_up A t).length + kp_lo x9 key) t = kp_is x9 key := f2
    rw [show km_find TO PL KS Y KY LI kn t (MY 0) = (kq_up A t).length + kp_lo x9 key from f1, f2'] at c4
    have e : kz_aPut t (((A, L, Ms), (key, val, fd), (true, true), (sw, sk))) = (1, 0, ((A, L, Ms), (key, val, fd), (true, true), (sw, sk))) := by
      have hc : 36864 < kp_sizeA A - kz_old x9 key + (16 + key.length + val.length) := by
        rcases c4 with ⟨q1, q2⟩ | ⟨q1, q2⟩
        · rw [kz_old_no q1]; omega
        · obtain ⟨w, hw⟩ := kp_is_iff.mp q1
          obtain ⟨-, -, -, -, g5, g6⟩ := zN_entry hS0 hok0 ht hA hw
          have g5' : KS (LI ((kq_up A t).length + kp_lo x9 key)) = key.length := g5
          have g6' : VS (LI ((kq_up A t).length + kp_lo x9 key)) = w.length := g6
          rw [g5', g6'] at q2
          rw [kz_old_eq hw]; omega
      simp [kz_aPut, hx, k0, hc]
    rw [e]
    exact ⟨(((TO, PL), (KS, VS), (MV, Y), LI, (rn, us)), (MY, TR), ((KY, kn), (VY, vn), (FK, fkn), (FV, fvn)), mq, (off, opn, fnd), (wh, af, 1)), _, rfl, rfl, hh, rfl, fun z => absurd z (Nat.succ_ne_zero _)⟩
  · skip
    have d1 : son = true := by rw [b1] at c1; simpa using c1.1
    have d2 : sop = true := by rw [← b2]; exact c1.2
    subst d1
    subst d2
    rw [eg] at c2
    obtain ⟨x9, hx⟩ : ∃ l, kz_get A t = some l := by cases z : kz_get A t <;> simp_all
    obtain ⟨ht, hA⟩ := kz_get_some hx
    obtain ⟨f1, f2⟩ := kq_S_find hS0 w1 ht hA
    have k0 : key ≠ [] := fun y => c3 (by rw [ek, y]; rfl)
    have f2' : km_is TO PL KS Y KY LI kn (MY 0) ((kq_up A t).length + kp_lo x9 key) t = kp_is x9 key := f2
    rw [show km_find TO PL KS Y KY LI kn t (MY 0) = (kq_up A t).length + kp_lo x9 key from f1, f2'] at c4
    have hc : ¬ 36864 < kp_sizeA A - kz_old x9 key + (16 + key.length + val.length) := by rw [kz_old_no c4]; omega
    have e : kz_aPut t (((A, L, Ms), (key, val, fd), (true, true), (sw, sk))) = (0, 0, ((va_up A t (some (kp_in x9 (kp_lo x9 key) (key, val))), L, Ms), (key, val, fd), (true, true), (sw, sk))) := by simp [kz_aPut, hx, k0, hc, kz_put, c4, kz_b]
    rw [e] at hok ⊢
    rw [show km_find TO PL KS Y KY LI kn t (MY 0) = (kq_up A t).length + kp_lo x9 key from f1]
    exact ⟨(((km_ent t KY VY kn vn mq MY ((TO, PL), (KS, VS), (MV, Y), LI, (rn, us))).1, (km_ent t KY VY kn vn mq MY ((TO, PL), (KS, VS), (MV, Y), LI, (rn, us))).2.1, (km_ent t KY VY kn vn mq MY ((TO, PL), (KS, VS), (MV, Y), LI, (rn, us))).2.2.1, va_up (km_shift (km_ent t KY VY kn vn mq MY ((TO, PL), (KS, VS), (MV, Y), LI, (rn, us))).2.2.2.1 ((kq_up A t).length + kp_lo x9 key) (MY 0)) ((kq_up A t).length + kp_lo x9 key) (km_pk0 mq MY kn vn ((TO, PL), (KS, VS), (MV, Y), LI, (rn, us))).2.2.2.2.1, (km_ent t KY VY kn vn mq MY ((TO, PL), (KS, VS), (MV, Y), LI, (rn, us))).2.2.2.2), ((va_up MY 0 (MY 0 + 1)), TR), ((KY, kn), (VY, vn), (FK, fkn), (FV, fvn)), mq, (off, opn, fnd), (wh, af, 0)), _, rfl, rfl, ⟨⟨r1, r2, r3, r4, r5, r6⟩, ⟨b1, b2, b3, b4, b5, b6⟩, (zN_in (mk := mq) hM hmk ht hA (kp_lo_le x9 key) w1 w2 r1 r2 (hok rfl)).2, ⟨w1, w2, w3⟩⟩, rfl, fun _ => rfl⟩
  · skip
    have d1 : son = true := by rw [b1] at c1; simpa using c1.1
    have d2 : sop = true := by rw [← b2]; exact c1.2
    subst d1
    subst d2
    rw [eg] at c2
    obtain ⟨x9, hx⟩ : ∃ l, kz_get A t = some l := by cases z : kz_get A t <;> simp_all
    obtain ⟨ht, hA⟩ := kz_get_some hx
    obtain ⟨f1, f2⟩ := kq_S_find hS0 w1 ht hA
    have k0 : key ≠ [] := fun y => c3 (by rw [ek, y]; rfl)
    have f2' : km_is TO PL KS Y KY LI kn (MY 0) ((kq_up A t).length + kp_lo x9 key) t = kp_is x9 key := f2
    rw [show km_find TO PL KS Y KY LI kn t (MY 0) = (kq_up A t).length + kp_lo x9 key from f1, f2'] at c4
    rw [show km_find TO PL KS Y KY LI kn t (MY 0) = (kq_up A t).length + kp_lo x9 key from f1] at c5
    obtain ⟨w, hw⟩ := kp_is_iff.mp c4
    have hlt := (List.getElem?_eq_some_iff.mp hw).1
    obtain ⟨-, -, -, -, g5, g6⟩ := zN_entry hS0 hok0 ht hA hw
    have g5' : KS (LI ((kq_up A t).length + kp_lo x9 key)) = key.length := g5
    have g6' : VS (LI ((kq_up A t).length + kp_lo x9 key)) = w.length := g6
    rw [g5', g6'] at c5
    have hc : ¬ 36864 < kp_sizeA A - kz_old x9 key + (16 + key.length + val.length) := by rw [kz_old_eq hw]; omega
    have e : kz_aPut t (((A, L, Ms), (key, val, fd), (true, true), (sw, sk))) = (0, 1, ((va_up A t (some (x9.set (kp_lo x9 key) (key, val))), L, Ms), (key, val, fd), (true, true), (sw, sk))) := by simp [kz_aPut, hx, k0, hc, kz_put, c4, kz_b]
    rw [e] at hok ⊢
    rw [show km_find TO PL KS Y KY LI kn t (MY 0) = (kq_up A t).length + kp_lo x9 key from f1]
    have hOut := zN_out hM ht hA hlt (zN_erased hok0 ht hA hlt)
    have eUp : (kq_up (va_up A t (some (x9.take (kp_lo x9 key) ++ x9.drop (kp_lo x9 key + 1)))) t).length = (kq_up A t).length := by rw [kq_up_ne (Nat.le_refl _)]
    have eA : va_up (va_up A t (some (x9.take (kp_lo x9 key) ++ x9.drop (kp_lo x9 key + 1)))) t (some (kp_in (x9.take (kp_lo x9 key) ++ x9.drop (kp_lo x9 key + 1)) (kp_lo x9 key) (key, val))) = va_up A t (some (x9.set (kp_lo x9 key) (key, val))) := by rw [va_up_up, kp_in_erase hlt]
    have hIn := (zN_in (mk := mq) (i := kp_lo x9 key) (KY := KY) (VY := VY) hOut (by simpa using hmk) ht (va_up_self _ _ _) (by rw [List.length_append, List.length_take, List.length_drop]; omega) w1 w2 r1 r2 (by rw [eA]; exact hok rfl)).2
    rw [eUp, eA] at hIn
    exact ⟨(((km_ent t KY VY kn vn mq (va_up MY 0 (MY 0 - 1)) ((TO, PL), (KS, VS), (MV, Y), (km_out LI ((kq_up A t).length + kp_lo x9 key) (MY 0 - 1)), (rn, us))).1, (km_ent t KY VY kn vn mq (va_up MY 0 (MY 0 - 1)) ((TO, PL), (KS, VS), (MV, Y), (km_out LI ((kq_up A t).length + kp_lo x9 key) (MY 0 - 1)), (rn, us))).2.1, (km_ent t KY VY kn vn mq (va_up MY 0 (MY 0 - 1)) ((TO, PL), (KS, VS), (MV, Y), (km_out LI ((kq_up A t).length + kp_lo x9 key) (MY 0 - 1)), (rn, us))).2.2.1, va_up (km_shift (km_ent t KY VY kn vn mq (va_up MY 0 (MY 0 - 1)) ((TO, PL), (KS, VS), (MV, Y), (km_out LI ((kq_up A t).length + kp_lo x9 key) (MY 0 - 1)), (rn, us))).2.2.2.1 ((kq_up A t).length + kp_lo x9 key) ((va_up MY 0 (MY 0 - 1)) 0)) ((kq_up A t).length + kp_lo x9 key) (km_pk0 mq (va_up MY 0 (MY 0 - 1)) kn vn ((TO, PL), (KS, VS), (MV, Y), (km_out LI ((kq_up A t).length + kp_lo x9 key) (MY 0 - 1)), (rn, us))).2.2.2.2.1, (km_ent t KY VY kn vn mq (va_up MY 0 (MY 0 - 1)) ((TO, PL), (KS, VS), (MV, Y), (km_out LI ((kq_up A t).length + kp_lo x9 key) (MY 0 - 1)), (rn, us))).2.2.2.2), ((va_up (va_up MY 0 (MY 0 - 1)) 0 ((va_up MY 0 (MY 0 - 1)) 0 + 1)), TR), ((KY, kn), (VY, vn), (FK, fkn), (FV, fvn)), mq, (off, opn, fnd), (wh, af, 0)), _, rfl, rfl, ⟨⟨r1, r2, r3, r4, r5, r6⟩, ⟨b1, b2, b3, b4, b5, b6⟩, hIn, ⟨w1, w2, w3⟩⟩, rfl, fun _ => rfl⟩
set_option maxRecDepth 100000 in
set_option maxHeartbeats 4000000 in
theorem g_Model_remove (l : Launch) (D : va_G) (K : Nat → ClassId) (a0 a1 a2 a3 a4 a5 a6 a7 a8 a9 a10 a11 a12 a13 : Nat) (e : kz_E) (s : kz_S) (t : Nat) (h : kz_N e s) (hn : t < 4294967296) : ks_M l D (ks_T K) (ks_R 2) y_Model_remove b_Model_remove 4 (some .boolean) [.ref a0, .int (nI t)] (kz_V K a0 a1 a2 a3 a4 a5 a6 a7 a8 a9 a10 a11 a12 a13 e) (kz_Q K a0 a1 a2 a3 a4 a5 a6 a7 a8 a9 a10 a11 a12 a13 (kz_aRemove t s)) := by
  obtain ⟨⟨⟨TO, PL⟩, ⟨KS, VS⟩, ⟨MV, Y⟩, LI, rn, us⟩, ⟨MY, TR⟩, ⟨⟨KY, kn⟩, ⟨VY, vn⟩, ⟨FK, fkn⟩, FV, fvn⟩, mq, ⟨off, opn, fnd⟩, wh, af, th⟩ := e
  obtain ⟨⟨A, L, Ms⟩, ⟨key, val, fd⟩, ⟨son, sop⟩, ⟨sw, sk⟩⟩ := s
  have hh := h
  obtain ⟨⟨r1, r2, r3, r4, r5, r6⟩, ⟨b1, b2, b3, b4, b5, b6⟩, hM, ⟨w1, w2, w3⟩⟩ := h
  obtain ⟨hL1, hL2, hL3, hL4⟩ := zN_lists hM b4
  obtain ⟨hS0, hok0⟩ := zN_now hM
  have hg := kq_g hM.1 hS0 hok0
  have eg := kz_treeG hM t
  refine ks_mono (c_Model_remove l D K a0 a1 a2 a3 a4 a5 a6 a7 a8 a9 a10 a11 a12 a13 TO PL KS VS MV Y LI MY TR KY VY FK FV rn us kn vn fkn fvn mq off opn fnd wh af th t hn r1 hg) (fun v x h => ?_)
  rcases h with ⟨c, rfl, rfl⟩ | ⟨⟨c1, c2⟩, rfl, rfl⟩ | ⟨⟨⟨c1, c2⟩, c4⟩, rfl, rfl⟩ | ⟨⟨⟨c1, c2⟩, c4⟩, rfl, rfl⟩
  · have c1 : son = false ∨ sop = false := by rw [b1, b2] at c; simpa using c
    have e : kz_aRemove t (((A, L, Ms), (key, val, fd), (son, sop), (sw, sk))) = (1, 0, ((A, L, Ms), (key, val, fd), (son, sop), (sw, sk))) := by simp only [kz_aRemove]; rw [if_pos c1]
    rw [e]
    exact ⟨(((TO, PL), (KS, VS), (MV, Y), LI, (rn, us)), (MY, TR), ((KY, kn), (VY, vn), (FK, fkn), (FV, fvn)), mq, (off, opn, fnd), (wh, af, 1)), _, rfl, rfl, hh, rfl, fun z => absurd z (Nat.succ_ne_zero _)⟩
  · skip
    have d1 : son = true := by rw [b1] at c1; simpa using c1.1
    have d2 : sop = true := by rw [← b2]; exact c1.2
    subst d1
    subst d2
    rw [eg] at c2
    have hg0 : kz_get A t = none := by cases z : kz_get A t <;> simp_all
    have e : kz_aRemove t (((A, L, Ms), (key, val, fd), (true, true), (sw, sk))) = (2, 0, ((A, L, Ms), (key, val, fd), (true, true), (sw, sk))) := by simp [kz_aRemove, hg0]
    rw [e]
    exact ⟨(((TO, PL), (KS, VS), (MV, Y), LI, (rn, us)), (MY, TR), ((KY, kn), (VY, vn), (FK, fkn), (FV, fvn)), mq, (off, opn, fnd), (wh, af, 2)), _, rfl, rfl, hh, rfl, fun z => absurd z (Nat.succ_ne_zero _)⟩
  · skip
    have d1 : son = true := by rw [b1] at c1; simpa using c1.1
    have d2 : sop = true := by rw [← b2]; exact c1.2
    subst d1
    subst d2
    rw [eg] at c2
    obtain ⟨x9, hx⟩ : ∃ l, kz_get A t = some l := by cases z : kz_get A t <;> simp_all
    obtain ⟨ht, hA⟩ := kz_get_some hx
    obtain ⟨f1, f2⟩ := kq_S_find hS0 w1 ht hA
    have f2' : km_is TO PL KS Y KY LI kn (MY 0) ((kq_up A t).length + kp_lo x9 key) t = kp_is x9 key := f2
    rw [show km_find TO PL KS Y KY LI kn t (MY 0) = (kq_up A t).length + kp_lo x9 key from f1, f2'] at c4
    have e : kz_aRemove t (((A, L, Ms), (key, val, fd), (true, true), (sw, sk))) = (0, 0, ((A, L, Ms), (key, val, fd), (true, true), (sw, sk))) := by simp [kz_aRemove, hx, c4, kz_b]
    rw [e]
    exact ⟨(((TO, PL), (KS, VS), (MV, Y), LI, (rn, us)), (MY, TR), ((KY, kn), (VY, vn), (FK, fkn), (FV, fvn)), mq, (off, opn, fnd), (wh, af, 0)), _, rfl, rfl, hh, rfl, fun _ => rfl⟩
  · skip
    have d1 : son = true := by rw [b1] at c1; simpa using c1.1
    have d2 : sop = true := by rw [← b2]; exact c1.2
    subst d1
    subst d2
    rw [eg] at c2
    obtain ⟨x9, hx⟩ : ∃ l, kz_get A t = some l := by cases z : kz_get A t <;> simp_all
    obtain ⟨ht, hA⟩ := kz_get_some hx
    obtain ⟨f1, f2⟩ := kq_S_find hS0 w1 ht hA
    have f2' : km_is TO PL KS Y KY LI kn (MY 0) ((kq_up A t).length + kp_lo x9 key) t = kp_is x9 key := f2
    rw [show km_find TO PL KS Y KY LI kn t (MY 0) = (kq_up A t).length + kp_lo x9 key from f1, f2'] at c4
    obtain ⟨w, hw⟩ := kp_is_iff.mp c4
    have hlt := (List.getElem?_eq_some_iff.mp hw).1
    have e : kz_aRemove t (((A, L, Ms), (key, val, fd), (true, true), (sw, sk))) = (0, 1, ((va_up A t (some (x9.take (kp_lo x9 key) ++ x9.drop (kp_lo x9 key + 1))), L, Ms), (key, val, fd), (true, true), (sw, sk))) := by simp [kz_aRemove, hx, c4, kz_b]
    rw [e]
    rw [show km_find TO PL KS Y KY LI kn t (MY 0) = (kq_up A t).length + kp_lo x9 key from f1]
    exact ⟨(((TO, PL), (KS, VS), (MV, Y), (km_out LI ((kq_up A t).length + kp_lo x9 key) (MY 0 - 1)), (rn, us)), ((va_up MY 0 (MY 0 - 1)), TR), ((KY, kn), (VY, vn), (FK, fkn), (FV, fvn)), mq, (off, opn, fnd), (wh, af, 0)), _, rfl, rfl, ⟨⟨r1, r2, r3, r4, r5, r6⟩, ⟨b1, b2, b3, b4, b5, b6⟩, zN_out hM ht hA hlt (zN_erased hok0 ht hA hlt), ⟨w1, w2, w3⟩⟩, rfl, fun _ => rfl⟩
set_option maxRecDepth 100000 in
set_option maxHeartbeats 4000000 in
theorem g_Model_seek (l : Launch) (D : va_G) (K : Nat → ClassId) (a0 a1 a2 a3 a4 a5 a6 a7 a8 a9 a10 a11 a12 a13 : Nat) (e : kz_E) (s : kz_S) (t : Nat) (after : Bool) (h : kz_N e s) (hn : t < 4294967296) : ks_M l D (ks_T K) (ks_R 2) y_Model_seek b_Model_seek 6 (some .boolean) [.ref a0, .int (nI t), .int (ks_b after)] (kz_V K a0 a1 a2 a3 a4 a5 a6 a7 a8 a9 a10 a11 a12 a13 e) (kz_Q K a0 a1 a2 a3 a4 a5 a6 a7 a8 a9 a10 a11 a12 a13 (kz_aSeek t after s)) := by
  obtain ⟨⟨⟨TO, PL⟩, ⟨KS, VS⟩, ⟨MV, Y⟩, LI, rn, us⟩, ⟨MY, TR⟩, ⟨⟨KY, kn⟩, ⟨VY, vn⟩, ⟨FK, fkn⟩, FV, fvn⟩, mq, ⟨off, opn, fnd⟩, wh, af, th⟩ := e
  obtain ⟨⟨A, L, Ms⟩, ⟨key, val, fd⟩, ⟨son, sop⟩, ⟨sw, sk⟩⟩ := s
  have hh := h
  obtain ⟨⟨r1, r2, r3, r4, r5, r6⟩, ⟨b1, b2, b3, b4, b5, b6⟩, hM, ⟨w1, w2, w3⟩⟩ := h
  obtain ⟨hL1, hL2, hL3, hL4⟩ := zN_lists hM b4
  obtain ⟨hS0, hok0⟩ := zN_now hM
  have hg := kq_g hM.1 hS0 hok0
  have eg := kz_treeG hM t
  refine ks_mono (c_Model_seek l D K a0 a1 a2 a3 a4 a5 a6 a7 a8 a9 a10 a11 a12 a13 TO PL KS VS MV Y LI MY TR KY VY FK FV rn us kn vn fkn fvn mq off opn fnd wh af th t after hn r1 hg) (fun v x h => ?_)
  rcases h with ⟨c, rfl, rfl⟩ | ⟨⟨c1, c2⟩, rfl, rfl⟩ | ⟨⟨⟨c1, c2⟩, c4⟩, rfl, rfl⟩ | ⟨⟨⟨c1, c2⟩, c4⟩, rfl, rfl⟩
  · have c1 : son = false := by rw [b1] at c; simpa using c
    have e : kz_aSeek t after (((A, L, Ms), (key, val, fd), (son, sop), (sw, sk))) = (1, 0, ((A, L, Ms), (key, val, fd), (son, sop), (sw, sk))) := by simp only [kz_aSeek]; rw [if_pos c1]
    rw [e]
    exact ⟨(((TO, PL), (KS, VS), (MV, Y), LI, (rn, us)), (MY, TR), ((KY, kn), (VY, vn), (FK, fkn), (FV, fvn)), mq, (off, opn, fnd), (wh, af, 1)), _, rfl, rfl, hh, rfl, fun z => absurd z (Nat.succ_ne_zero _)⟩
  · skip
    have d1 : son = true := by rw [b1] at c1; simpa using c1
    subst d1
    rw [eg] at c2
    have hg0 : kz_get A t = none := by cases z : kz_get A t <;> simp_all
    have e : kz_aSeek t after (((A, L, Ms), (key, val, fd), (true, sop), (sw, sk))) = (2, 0, ((A, L, Ms), (key, val, fd), (true, sop), (sw, sk))) := by simp [kz_aSeek, hg0]
    rw [e]
    exact ⟨(((TO, PL), (KS, VS), (MV, Y), LI, (rn, us)), (MY, TR), ((KY, kn), (VY, vn), (FK, fkn), (FV, fvn)), mq, (off, opn, fnd), (wh, af, 2)), _, rfl, rfl, hh, rfl, fun z => absurd z (Nat.succ_ne_zero _)⟩
  · skip
    have d1 : son = true := by rw [b1] at c1; simpa using c1
    subst d1
    rw [eg] at c2
    obtain ⟨x9, hx⟩ : ∃ l, kz_get A t = some l := by cases z : kz_get A t <;> simp_all
    obtain ⟨ht, hA⟩ := kz_get_some hx
    obtain ⟨f1, f2⟩ := kq_S_find hS0 w1 ht hA
    have hat : km_at TO PL KS Y KY LI kn (MY 0) t after = (kq_up A t).length + (if after = true then kp_hi x9 key else kp_lo x9 key) := by
      unfold km_at
      rw [show km_find TO PL KS Y KY LI kn t (MY 0) = (kq_up A t).length + kp_lo x9 key from f1, show km_is TO PL KS Y KY LI kn (MY 0) ((kq_up A t).length + kp_lo x9 key) t = kp_is x9 key from f2]
      unfold kp_hi
      cases after <;> cases kp_is x9 key <;> simp <;> omega
    rw [hat] at c4
    have hle : (if after = true then kp_hi x9 key else kp_lo x9 key) ≤ x9.length := by
      have := kp_lo_le x9 key
      split
      · unfold kp_hi
        split
        · rename_i q1 q2
          obtain ⟨w, hw⟩ := kp_is_iff.mp q2
          have := (List.getElem?_eq_some_iff.mp hw).1
          omega
        · omega
      · exact this
    generalize hix : (if after = true then kp_hi x9 key else kp_lo x9 key) = ix at *
    have hnone : x9[ix]? = none := by
      cases hx9 : x9[ix]? with
      | none => rfl
      | some e9 => exact absurd ⟨(zN_entry hS0 hok0 ht hA hx9).1, (zN_entry hS0 hok0 ht hA hx9).2.1⟩ c4
    have e : kz_aSeek t after (((A, L, Ms), (key, val, fd), (true, sop), (sw, sk))) = (0, 0, ((A, L, Ms), (key, val, none), (true, sop), (sw, sk))) := by simp [kz_aSeek, hx, hix, hnone, kz_b]
    rw [e]
    exact ⟨(((TO, PL), (KS, VS), (MV, Y), LI, (rn, us)), (MY, TR), ((KY, kn), (VY, vn), (FK, fkn), (FV, fvn)), mq, (off, opn, false), (wh, af, 0)), _, rfl, rfl, ⟨⟨r1, r2, r3, r4, r5, r6⟩, ⟨b1, b2, rfl, b4, b5, b6⟩, hM, ⟨w1, w2, trivial⟩⟩, rfl, fun _ => rfl⟩
  · skip
    have d1 : son = true := by rw [b1] at c1; simpa using c1
    subst d1
    rw [eg] at c2
    obtain ⟨x9, hx⟩ : ∃ l, kz_get A t = some l := by cases z : kz_get A t <;> simp_all
    obtain ⟨ht, hA⟩ := kz_get_some hx
    obtain ⟨f1, f2⟩ := kq_S_find hS0 w1 ht hA
    have hat : km_at TO PL KS Y KY LI kn (MY 0) t after = (kq_up A t).length + (if after = true then kp_hi x9 key else kp_lo x9 key) := by
      unfold km_at
      rw [show km_find TO PL KS Y KY LI kn t (MY 0) = (kq_up A t).length + kp_lo x9 key from f1, show km_is TO PL KS Y KY LI kn (MY 0) ((kq_up A t).length + kp_lo x9 key) t = kp_is x9 key from f2]
      unfold kp_hi
      cases after <;> cases kp_is x9 key <;> simp <;> omega
    rw [hat] at c4
    have hle : (if after = true then kp_hi x9 key else kp_lo x9 key) ≤ x9.length := by
      have := kp_lo_le x9 key
      split
      · unfold kp_hi
        split
        · rename_i q1 q2
          obtain ⟨w, hw⟩ := kp_is_iff.mp q2
          have := (List.getElem?_eq_some_iff.mp hw).1
          omega
        · omega
      · exact this
    generalize hix : (if after = true then kp_hi x9 key else kp_lo x9 key) = ix at *
    obtain ⟨e9, he9⟩ : ∃ e, x9[ix]? = some e := by
      by_cases y : ix < x9.length
      · exact ⟨_, List.getElem?_eq_getElem y⟩
      · have : ix = x9.length := by omega
        rw [this] at c4
        exact absurd c4 (zN_noentry hS0 ht hA)
    obtain ⟨g1, g2, g3, g4, g5, g6⟩ := zN_entry hS0 hok0 ht hA he9
    have g3' : kq_bl Y (PL (LI ((kq_up A t).length + ix))) (KS (LI ((kq_up A t).length + ix))) = e9.1 := g3
    have g4' : kq_bl Y (PL (LI ((kq_up A t).length + ix)) + KS (LI ((kq_up A t).length + ix))) (VS (LI ((kq_up A t).length + ix))) = e9.2 := g4
    have hkv := (hok0.1 t x9 ht hA).2 e9 (List.mem_of_getElem? he9)
    have e : kz_aSeek t after (((A, L, Ms), (key, val, fd), (true, sop), (sw, sk))) = (0, 1, ((A, L, Ms), (key, val, some e9), (true, sop), (sw, sk))) := by simp [kz_aSeek, hx, hix, he9, kz_b]
    rw [e, hat]
    refine ⟨(((TO, PL), (KS, VS), (MV, Y), LI, (rn, us)), (MY, TR), ((KY, kn), (VY, vn), ((va_cpy Y FK (PL (LI ((kq_up A t).length + ix))) 0 (KS (LI ((kq_up A t).length + ix)))), (KS (LI ((kq_up A t).length + ix)))), ((va_cpy Y FV (PL (LI ((kq_up A t).length + ix)) + KS (LI ((kq_up A t).length + ix))) 0 (VS (LI ((kq_up A t).length + ix)))), (VS (LI ((kq_up A t).length + ix))))), mq, (off, opn, true), (wh, af, 0)), _, rfl, rfl, ⟨⟨r1, r2, ?_, ?_, r5, r6⟩, ⟨b1, b2, rfl, b4, b5, b6⟩, hM, ⟨w1, w2, ?_, ?_⟩⟩, rfl, fun _ => rfl⟩
    · rw [show KS (LI ((kq_up A t).length + ix)) = e9.1.length from g5]; exact hkv.2.1
    · rw [show VS (LI ((kq_up A t).length + ix)) = e9.2.length from g6]; exact hkv.2.2
    · rw [← g3']; exact kz_cpy
    · rw [← g4']; exact kz_cpy
