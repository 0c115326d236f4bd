/-! the reference's calls, one contract each -/
theorem ks_mono {l : Launch} {D : va_G} {tys : List (ClassId × FieldType)} {rm : Room} {y : MethodName} {cc : ByteArray} {nL : Nat} {ret : Option FieldType} {vs : List Value} {wc : va_W} {P Q : Option Value → va_W → Prop} (M : ks_M l D tys rm y cc nL ret vs wc P) (h : ∀ v w, P v w → Q v w) : ks_M l D tys rm y cc nL ret vs wc Q := fun sz => by
  intro p e ha hc hk s m args below hf happ hP hK
  obtain ⟨n, o, h1, h2, h3, ⟨v, w1, q1, q2⟩, h5⟩ := M sz p e ha hc hk s m args below hf happ hP hK
  exact ⟨n, o, h1, h2, h3, ⟨v, w1, h _ _ q1, q2⟩, h5⟩
def kz_V (K : Nat → ClassId) (a0 a1 a2 a3 a4 a5 a6 a7 a8 a9 a10 a11 a12 a13 : Nat) : kz_E → va_W
  | (((TO, PL), (KS, VS), (MV, Y), LI, (rn, us)), (MY, TR), ((KY, kn), (VY, vn), (FK, fkn), (FV, fvn)), mq, (off, opn, fnd), (wh, af, th)) => kw_model K a0 a1 a2 a3 a4 a5 a6 a7 a8 a9 a10 a11 a12 a13 TO PL KS VS MV Y LI MY TR KY VY FK FV rn us kn vn fkn fvn mq off opn fnd wh af th
def kz_th : kz_E → Nat
  | (((TO, PL), (KS, VS), (MV, Y), LI, (rn, us)), (MY, TR), ((KY, kn), (VY, vn), (FK, fkn), (FV, fvn)), mq, (off, opn, fnd), (wh, af, th)) => th
def kz_Q (K : Nat → ClassId) (a0 a1 a2 a3 a4 a5 a6 a7 a8 a9 a10 a11 a12 a13 : Nat) (r : Nat × Nat × kz_S) : Option Value → va_W → Prop := fun v w => ∃ (e : kz_E) (x : Int32), w = kz_V K a0 a1 a2 a3 a4 a5 a6 a7 a8 a9 a10 a11 a12 a13 e ∧ v = some (.int x) ∧ kz_N e r.2.2 ∧ kz_th e = r.1 ∧ (r.1 = 0 → x = nI r.2.1)
def kz_QV (K : Nat → ClassId) (a0 a1 a2 a3 a4 a5 a6 a7 a8 a9 a10 a11 a12 a13 : Nat) (r : Nat × Nat × kz_S) : Option Value → va_W → Prop := fun v w => ∃ (e : kz_E), w = kz_V K a0 a1 a2 a3 a4 a5 a6 a7 a8 a9 a10 a11 a12 a13 e ∧ v = none ∧ kz_N e r.2.2 ∧ kz_th e = r.1
def kz_QL (K : Nat → ClassId) (a0 a1 a2 a3 a4 a5 a6 a7 a8 a9 a10 a11 a12 a13 : Nat) (r : Nat × Int64 × kz_S) : Option Value → va_W → Prop := fun v w => ∃ (e : kz_E) (x : Int64), w = kz_V K a0 a1 a2 a3 a4 a5 a6 a7 a8 a9 a10 a11 a12 a13 e ∧ v = some (.long x) ∧ kz_N e r.2.2 ∧ kz_th e = r.1 ∧ (r.1 = 0 → x = r.2.1)
theorem ks_b_kz (b : Bool) : ks_b b = nI (kz_b b) := by cases b <;> rfl
set_option maxRecDepth 100000 in
set_option maxHeartbeats 4000000 in
theorem g_Model_key (l : Launch) (D : va_G) (K : Nat → ClassId) (a0 a1 a2 a3 a4 a5 a6 a7 a8 a9 a10 a11 a12 a13 : Nat) (e : kz_E) (s : kz_S) (w : Int64) (n : Nat) (h : kz_N e s) (hn : n < 4294967296) : ks_M l D (ks_T K) (ks_R 2) y_Model_key b_Model_key 4 (some .int) [.ref a0, .long w, .int (nI n)] (kz_V K a0 a1 a2 a3 a4 a5 a6 a7 a8 a9 a10 a11 a12 a13 e) (kz_Q K a0 a1 a2 a3 a4 a5 a6 a7 a8 a9 a10 a11 a12 a13 (kz_aKey w n s)) := by
  obtain ⟨⟨⟨TO, PL⟩, ⟨KS, VS⟩, ⟨MV, Y⟩, LI, rn, us⟩, ⟨MY, TR⟩, ⟨⟨KY, kn⟩, ⟨VY, vn⟩, ⟨FK, fkn⟩, FV, fvn⟩, mq, ⟨off, opn, fnd⟩, wh, af, th⟩ := e
  obtain ⟨⟨A, L, Ms⟩, ⟨key, val, fd⟩, ⟨son, sop⟩, ⟨sw, sk⟩⟩ := s
  have hh := h
  obtain ⟨⟨r1, r2, r3, r4, r5, r6⟩, ⟨b1, b2, b3, b4, b5, b6⟩, hM, ⟨w1, w2, w3⟩⟩ := h
  obtain ⟨hL1, hL2, hL3, hL4⟩ := zN_lists hM b4
  obtain ⟨hS0, hok0⟩ := zN_now hM
  have hg := kq_g hM.1 hS0 hok0
  refine ks_mono (c_Model_key l D K a0 a1 a2 a3 a4 a5 a6 a7 a8 a9 a10 a11 a12 a13 TO PL KS VS MV Y LI MY TR KY VY FK FV rn us kn vn fkn fvn mq off opn fnd wh af th w n hn r1) (fun v x h => ?_)
  have el := w1.1
  by_cases c1 : 8 < n
  · have er : km_room off kn n 8 = 1 := if_pos c1
    have ew : km_wd off KY kn w n = (KY, kn) := by unfold km_wd; rw [er]; rfl
    rw [er, ew] at h
    obtain ⟨rfl, rfl⟩ := h
    have e : kz_aKey w n (((A, L, Ms), (key, val, fd), (son, sop), (sw, sk))) = (1, 0, ((A, L, Ms), (key, val, fd), (son, sop), (sw, sk))) := by simp only [kz_aKey, if_pos c1]
    rw [e]
    exact ⟨(((TO, PL), (KS, VS), (MV, Y), LI, (rn, us)), (MY, TR), ((KY, kn), (VY, vn), (FK, fkn), (FV, fvn)), mq, (off, opn, fnd), (wh, af, 1)), _, rfl, rfl, hh, rfl, fun z => absurd z (Nat.succ_ne_zero _)⟩
  · by_cases c2 : son = false ∨ 8448 < key.length + n
    · have er : km_room off kn n 8 = 2 := by unfold km_room; rw [if_neg c1, if_pos (by rw [b1, el]; simpa using c2)]
      have ew : km_wd off KY kn w n = (KY, kn) := by unfold km_wd; rw [er]; rfl
      rw [er, ew] at h
      obtain ⟨rfl, rfl⟩ := h
      have e : kz_aKey w n (((A, L, Ms), (key, val, fd), (son, sop), (sw, sk))) = (2, 0, ((A, L, Ms), (key, val, fd), (son, sop), (sw, sk))) := by simp only [kz_aKey, if_neg c1, if_pos c2]
      rw [e]
      exact ⟨(((TO, PL), (KS, VS), (MV, Y), LI, (rn, us)), (MY, TR), ((KY, kn), (VY, vn), (FK, fkn), (FV, fvn)), mq, (off, opn, fnd), (wh, af, 2)), _, rfl, rfl, hh, rfl, fun z => absurd z (Nat.succ_ne_zero _)⟩
    · have er : km_room off kn n 8 = 0 := by unfold km_room; rw [if_neg c1, if_neg (by rw [b1, el]; simpa using c2)]
      have ew : km_wd off KY kn w n = kv_app w n KY (if n = 0 then 0 else kn) := by unfold km_wd; rw [er]; rfl
      rw [er, ew] at h
      obtain ⟨rfl, rfl⟩ := h
      have e : kz_aKey w n (((A, L, Ms), (key, val, fd), (son, sop), (sw, sk))) = (0, (kz_nk key w n).length, ((A, L, Ms), (kz_nk key w n, val, fd), (son, sop), (sw, sk))) := by simp only [kz_aKey, if_neg c1, if_neg c2]
      rw [e]
      refine ⟨(((TO, PL), (KS, VS), (MV, Y), LI, (rn, us)), (MY, TR), (((kv_app w n KY (if n = 0 then 0 else kn)).1, (kv_app w n KY (if n = 0 then 0 else kn)).2), (VY, vn), (FK, fkn), (FV, fvn)), mq, (off, opn, fnd), (wh, af, 0)), _, rfl, rfl, ⟨⟨?_, r2, r3, r4, r5, r6⟩, ⟨b1, b2, b3, b4, b5, b6⟩, hM, ⟨kz_nk_row w1 w n, w2, w3⟩⟩, rfl, fun _ => ?_⟩
      · rw [kz_app_len]; rw [not_or] at c2; split <;> omega
      · rw [← (kz_nk_row w1 w n).1]; rfl
set_option maxRecDepth 100000 in
set_option maxHeartbeats 4000000 in
theorem g_Model_value (l : Launch) (D : va_G) (K : Nat → ClassId) (a0 a1 a2 a3 a4 a5 a6 a7 a8 a9 a10 a11 a12 a13 : Nat) (e : kz_E) (s : kz_S) (w : Int64) (n : Nat) (h : kz_N e s) (hn : n < 4294967296) : ks_M l D (ks_T K) (ks_R 2) y_Model_value b_Model_value 4 (some .int) [.ref a0, .long w, .int (nI n)] (kz_V K a0 a1 a2 a3 a4 a5 a6 a7 a8 a9 a10 a11 a12 a13 e) (kz_Q K a0 a1 a2 a3 a4 a5 a6 a7 a8 a9 a10 a11 a12 a13 (kz_aVal w n s)) := by
  obtain ⟨⟨⟨TO, PL⟩, ⟨KS, VS⟩, ⟨MV, Y⟩, LI, rn, us⟩, ⟨MY, TR⟩, ⟨⟨KY, kn⟩, ⟨VY, vn⟩, ⟨FK, fkn⟩, FV, fvn⟩, mq, ⟨off, opn, fnd⟩, wh, af, th⟩ := e
  obtain ⟨⟨A, L, Ms⟩, ⟨key, val, fd⟩, ⟨son, sop⟩, ⟨sw, sk⟩⟩ := s
  have hh := h
  obtain ⟨⟨r1, r2, r3, r4, r5, r6⟩, ⟨b1, b2, b3, b4, b5, b6⟩, hM, ⟨w1, w2, w3⟩⟩ := h
  obtain ⟨hL1, hL2, hL3, hL4⟩ := zN_lists hM b4
  obtain ⟨hS0, hok0⟩ := zN_now hM
  have hg := kq_g hM.1 hS0 hok0
  refine ks_mono (c_Model_value l D K a0 a1 a2 a3 a4 a5 a6 a7 a8 a9 a10 a11 a12 a13 TO PL KS VS MV Y LI MY TR KY VY FK FV rn us kn vn fkn fvn mq off opn fnd wh af th w n hn r2) (fun v x h => ?_)
  have el := w2.1
  by_cases c1 : 8 < n
  · have er : km_room off vn n 8 = 1 := if_pos c1
    have ew : km_wd off VY vn w n = (VY, vn) := by unfold km_wd; rw [er]; rfl
    rw [er, ew] at h
    obtain ⟨rfl, rfl⟩ := h
    have e : kz_aVal w n (((A, L, Ms), (key, val, fd), (son, sop), (sw, sk))) = (1, 0, ((A, L, Ms), (key, val, fd), (son, sop), (sw, sk))) := by simp only [kz_aVal, if_pos c1]
    rw [e]
    exact ⟨(((TO, PL), (KS, VS), (MV, Y), LI, (rn, us)), (MY, TR), ((KY, kn), (VY, vn), (FK, fkn), (FV, fvn)), mq, (off, opn, fnd), (wh, af, 1)), _, rfl, rfl, hh, rfl, fun z => absurd z (Nat.succ_ne_zero _)⟩
  · by_cases c2 : son = false ∨ 8448 < val.length + n
    · have er : km_room off vn n 8 = 2 := by unfold km_room; rw [if_neg c1, if_pos (by rw [b1, el]; simpa using c2)]
      have ew : km_wd off VY vn w n = (VY, vn) := by unfold km_wd; rw [er]; rfl
      rw [er, ew] at h
      obtain ⟨rfl, rfl⟩ := h
      have e : kz_aVal w n (((A, L, Ms), (key, val, fd), (son, sop), (sw, sk))) = (2, 0, ((A, L, Ms), (key, val, fd), (son, sop), (sw, sk))) := by simp only [kz_aVal, if_neg c1, if_pos c2]
      rw [e]
      exact ⟨(((TO, PL), (KS, VS), (MV, Y), LI, (rn, us)), (MY, TR), ((KY, kn), (VY, vn), (FK, fkn), (FV, fvn)), mq, (off, opn, fnd), (wh, af, 2)), _, rfl, rfl, hh, rfl, fun z => absurd z (Nat.succ_ne_zero _)⟩
    · have er : km_room off vn n 8 = 0 := by unfold km_room; rw [if_neg c1, if_neg (by rw [b1, el]; simpa using c2)]
      have ew : km_wd off VY vn w n = kv_app w n VY (if n = 0 then 0 else vn) := by unfold km_wd; rw [er]; rfl
      rw [er, ew] at h
      obtain ⟨rfl, rfl⟩ := h
      have e : kz_aVal w n (((A, L, Ms), (key, val, fd), (son, sop), (sw, sk))) = (0, (kz_nk val w n).length, ((A, L, Ms), (key, kz_nk val w n, fd), (son, sop), (sw, sk))) := by simp only [kz_aVal, if_neg c1, if_neg c2]
      rw [e]
      refine ⟨(((TO, PL), (KS, VS), (MV, Y), LI, (rn, us)), (MY, TR), ((KY, kn), ((kv_app w n VY (if n = 0 then 0 else vn)).1, (kv_app w n VY (if n = 0 then 0 else vn)).2), (FK, fkn), (FV, fvn)), mq, (off, opn, fnd), (wh, af, 0)), _, rfl, rfl, ⟨⟨r1, ?_, r3, r4, r5, r6⟩, ⟨b1, b2, b3, b4, b5, b6⟩, hM, ⟨w1, kz_nk_row w2 w n, w3⟩⟩, rfl, fun _ => ?_⟩
      · rw [kz_app_len]; rw [not_or] at c2; split <;> omega
      · rw [← (kz_nk_row w2 w n).1]; rfl
set_option maxRecDepth 100000 in
set_option maxHeartbeats 4000000 in
theorem g_Model_fill_k (l : Launch) (D : va_G) (K : Nat → ClassId) (a0 a1 a2 a3 a4 a5 a6 a7 a8 a9 a10 a11 a12 a13 : Nat) (e : kz_E) (s : kz_S) (n c : Nat) (h : kz_N e s) (hn : n < 4294967296) : ks_M l D (ks_T K) (ks_R 1) y_Model_fill b_Model_fill 5 (some .int) [.ref a0, .int (ks_b true), .int (nI n), .int (nI c)] (kz_V K a0 a1 a2 a3 a4 a5 a6 a7 a8 a9 a10 a11 a12 a13 e) (kz_Q K a0 a1 a2 a3 a4 a5 a6 a7 a8 a9 a10 a11 a12 a13 (kz_aFillK n (UInt8.ofNat c) s)) := by
  obtain ⟨⟨⟨TO, PL⟩, ⟨KS, VS⟩, ⟨MV, Y⟩, LI, rn, us⟩, ⟨MY, TR⟩, ⟨⟨KY, kn⟩, ⟨VY, vn⟩, ⟨FK, fkn⟩, FV, fvn⟩, mq, ⟨off, opn, fnd⟩, wh, af, th⟩ := e
  obtain ⟨⟨A, L, Ms⟩, ⟨key, val, fd⟩, ⟨son, sop⟩, ⟨sw, sk⟩⟩ := s
  have hh := h
  obtain ⟨⟨r1, r2, r3, r4, r5, r6⟩, ⟨b1, b2, b3, b4, b5, b6⟩, hM, ⟨w1, w2, w3⟩⟩ := h
  obtain ⟨hL1, hL2, hL3, hL4⟩ := zN_lists hM b4
  obtain ⟨hS0, hok0⟩ := zN_now hM
  have hg := kq_g hM.1 hS0 hok0
  refine ks_mono (c_Model_fill_k l D K a0 a1 a2 a3 a4 a5 a6 a7 a8 a9 a10 a11 a12 a13 TO PL KS VS MV Y LI MY TR KY VY FK FV rn us kn vn fkn fvn mq off opn fnd wh af th n c hn r1) (fun v x h => ?_)
  have el := w1.1
  by_cases c1 : 8448 < n
  · have er : km_room off kn n 8448 = 1 := if_pos c1
    rw [er] at h
    obtain ⟨rfl, rfl⟩ := h
    have e : kz_aFillK n (UInt8.ofNat c) (((A, L, Ms), (key, val, fd), (son, sop), (sw, sk))) = (1, 0, ((A, L, Ms), (key, val, fd), (son, sop), (sw, sk))) := by simp only [kz_aFillK, if_pos c1]
    rw [e]
    exact ⟨(((TO, PL), (KS, VS), (MV, Y), LI, (rn, us)), (MY, TR), ((KY, kn), (VY, vn), (FK, fkn), (FV, fvn)), mq, (off, opn, fnd), (wh, af, 1)), _, rfl, rfl, hh, rfl, fun z => absurd z (Nat.succ_ne_zero _)⟩
  · by_cases c2 : son = false ∨ 8448 < key.length + n
    · have er : km_room off kn n 8448 = 2 := by unfold km_room; rw [if_neg c1, if_pos (by rw [b1, el]; simpa using c2)]
      rw [er] at h
      obtain ⟨rfl, rfl⟩ := h
      have e : kz_aFillK n (UInt8.ofNat c) (((A, L, Ms), (key, val, fd), (son, sop), (sw, sk))) = (2, 0, ((A, L, Ms), (key, val, fd), (son, sop), (sw, sk))) := by simp only [kz_aFillK, if_neg c1, if_pos c2]
      rw [e]
      exact ⟨(((TO, PL), (KS, VS), (MV, Y), LI, (rn, us)), (MY, TR), ((KY, kn), (VY, vn), (FK, fkn), (FV, fvn)), mq, (off, opn, fnd), (wh, af, 2)), _, rfl, rfl, hh, rfl, fun z => absurd z (Nat.succ_ne_zero _)⟩
    · have er : km_room off kn n 8448 = 0 := by unfold km_room; rw [if_neg c1, if_neg (by rw [b1, el]; simpa using c2)]
      rw [er] at h
      obtain ⟨rfl, rfl⟩ := h
      have e : kz_aFillK n (UInt8.ofNat c) (((A, L, Ms), (key, val, fd), (son, sop), (sw, sk))) = (0, key.length + n, ((A, L, Ms), (key ++ List.replicate n (UInt8.ofNat c), val, fd), (son, sop), (sw, sk))) := by simp only [kz_aFillK, if_neg c1, if_neg c2]
      rw [e]
      refine ⟨(((TO, PL), (KS, VS), (MV, Y), LI, (rn, us)), (MY, TR), (((kv_same KY kn (UInt8.ofNat c) n), (kn + n)), (VY, vn), (FK, fkn), (FV, fvn)), mq, (off, opn, fnd), (wh, af, 0)), _, rfl, rfl, ⟨⟨?_, r2, r3, r4, r5, r6⟩, ⟨b1, b2, b3, b4, b5, b6⟩, hM, ⟨kz_fil w1, w2, w3⟩⟩, rfl, fun _ => ?_⟩
      · rw [not_or] at c2; omega
      · rw [← el]; rfl
set_option maxRecDepth 100000 in
set_option maxHeartbeats 4000000 in
theorem g_Model_fill_v (l : Launch) (D : va_G) (K : Nat → ClassId) (a0 a1 a2 a3 a4 a5 a6 a7 a8 a9 a10 a11 a12 a13 : Nat) (e : kz_E) (s : kz_S) (n c : Nat) (h : kz_N e s) (hn : n < 4294967296) : ks_M l D (ks_T K) (ks_R 1) y_Model_fill b_Model_fill 5 (some .int) [.ref a0, .int (ks_b false), .int (nI n), .int (nI c)] (kz_V K a0 a1 a2 a3 a4 a5 a6 a7 a8 a9 a10 a11 a12 a13 e) (kz_Q K a0 a1 a2 a3 a4 a5 a6 a7 a8 a9 a10 a11 a12 a13 (kz_aFillV n (UInt8.ofNat c) s)) := by
  obtain ⟨⟨⟨TO, PL⟩, ⟨KS, VS⟩, ⟨MV, Y⟩, LI, rn, us⟩, ⟨MY, TR⟩, ⟨⟨KY, kn⟩, ⟨VY, vn⟩, ⟨FK, fkn⟩, FV, fvn⟩, mq, ⟨off, opn, fnd⟩, wh, af, th⟩ := e
  obtain ⟨⟨A, L, Ms⟩, ⟨key, val, fd⟩, ⟨son, sop⟩, ⟨sw, sk⟩⟩ := s
  have hh := h
  obtain ⟨⟨r1, r2, r3, r4, r5, r6⟩, ⟨b1, b2, b3, b4, b5, b6⟩, hM, ⟨w1, w2, w3⟩⟩ := h
  obtain ⟨hL1, hL2, hL3, hL4⟩ := zN_lists hM b4
  obtain ⟨hS0, hok0⟩ := zN_now hM
  have hg := kq_g hM.1 hS0 hok0
  refine ks_mono (c_Model_fill_v l D K a0 a1 a2 a3 a4 a5 a6 a7 a8 a9 a10 a11 a12 a13 TO PL KS VS MV Y LI MY TR KY VY FK FV rn us kn vn fkn fvn mq off opn fnd wh af th n c hn r2) (fun v x h => ?_)
  have el := w2.1
  by_cases c1 : 8448 < n
  · have er : km_room off vn n 8448 = 1 := if_pos c1
    rw [er] at h
    obtain ⟨rfl, rfl⟩ := h
    have e : kz_aFillV n (UInt8.ofNat c) (((A, L, Ms), (key, val, fd), (son, sop), (sw, sk))) = (1, 0, ((A, L, Ms), (key, val, fd), (son, sop), (sw, sk))) := by simp only [kz_aFillV, if_pos c1]
    rw [e]
    exact ⟨(((TO, PL), (KS, VS), (MV, Y), LI, (rn, us)), (MY, TR), ((KY, kn), (VY, vn), (FK, fkn), (FV, fvn)), mq, (off, opn, fnd), (wh, af, 1)), _, rfl, rfl, hh, rfl, fun z => absurd z (Nat.succ_ne_zero _)⟩
  · by_cases c2 : son = false ∨ 8448 < val.length + n
    · have er : km_room off vn n 8448 = 2 := by unfold km_room; rw [if_neg c1, if_pos (by rw [b1, el]; simpa using c2)]
      rw [er] at h
      obtain ⟨rfl, rfl⟩ := h
      have e : kz_aFillV n (UInt8.ofNat c) (((A, L, Ms), (key, val, fd), (son, sop), (sw, sk))) = (2, 0, ((A, L, Ms), (key, val, fd), (son, sop), (sw, sk))) := by simp only [kz_aFillV, if_neg c1, if_pos c2]
      rw [e]
      exact ⟨(((TO, PL), (KS, VS), (MV, Y), LI, (rn, us)), (MY, TR), ((KY, kn), (VY, vn), (FK, fkn), (FV, fvn)), mq, (off, opn, fnd), (wh, af, 2)), _, rfl, rfl, hh, rfl, fun z => absurd z (Nat.succ_ne_zero _)⟩
    · have er : km_room off vn n 8448 = 0 := by unfold km_room; rw [if_neg c1, if_neg (by rw [b1, el]; simpa using c2)]
      rw [er] at h
      obtain ⟨rfl, rfl⟩ := h
      have e : kz_aFillV n (UInt8.ofNat c) (((A, L, Ms), (key, val, fd), (son, sop), (sw, sk))) = (0, val.length + n, ((A, L, Ms), (key, val ++ List.replicate n (UInt8.ofNat c), fd), (son, sop), (sw, sk))) := by simp only [kz_aFillV, if_neg c1, if_neg c2]
      rw [e]
      refine ⟨(((TO, PL), (KS, VS), (MV, Y), LI, (rn, us)), (MY, TR), ((KY, kn), ((kv_same VY vn (UInt8.ofNat c) n), (vn + n)), (FK, fkn), (FV, fvn)), mq, (off, opn, fnd), (wh, af, 0)), _, rfl, rfl, ⟨⟨r1, ?_, r3, r4, r5, r6⟩, ⟨b1, b2, b3, b4, b5, b6⟩, hM, ⟨w1, kz_fil w2, w3⟩⟩, rfl, fun _ => ?_⟩
      · rw [not_or] at c2; omega
      · rw [← el]; rfl
set_option maxRecDepth 100000 in
set_option maxHeartbeats 4000000 in
theorem g_Model_tree (l : Launch) (D : va_G) (K : Nat → ClassId) (a0 a1 a2 a3 a4 a5 a6 a7 a8 a9 a10 a11 a12 a13 : Nat) (e : kz_E) (s : kz_S)  (h : kz_N e s) (hok : (kz_aTree s).1 = 0 → kp_okA (kz_aTree s).2.2.1.1) : ks_M l D (ks_T K) (ks_R 1) y_Model_tree b_Model_tree 2 (some .int) [.ref a0] (kz_V K a0 a1 a2 a3 a4 a5 a6 a7 a8 a9 a10 a11 a12 a13 e) (kz_Q K a0 a1 a2 a3 a4 a5 a6 a7 a8 a9 a10 a11 a12 a13 (kz_aTree s)) := by
  obtain ⟨⟨⟨TO, PL⟩, ⟨KS, VS⟩, ⟨MV, Y⟩, LI, rn, us⟩, ⟨MY, TR⟩, ⟨⟨KY, kn⟩, ⟨VY, vn⟩, ⟨FK, fkn⟩, FV, fvn⟩, mq, ⟨off, opn, fnd⟩, wh, af, th⟩ := e
  obtain ⟨⟨A, L, Ms⟩, ⟨key, val, fd⟩, ⟨son, sop⟩, ⟨sw, sk⟩⟩ := s
  have hh := h
  obtain ⟨⟨r1, r2, r3, r4, r5, r6⟩, ⟨b1, b2, b3, b4, b5, b6⟩, hM, ⟨w1, w2, w3⟩⟩ := h
  obtain ⟨hL1, hL2, hL3, hL4⟩ := zN_lists hM b4
  obtain ⟨hS0, hok0⟩ := zN_now hM
  have hg := kq_g hM.1 hS0 hok0
  have ef := kq_first hS0.2.1 64 0 rfl
  have ef2 : km_first (TR 0) = kq_fst A 64 0 := ef
  refine ks_mono (c_Model_tree l D K a0 a1 a2 a3 a4 a5 a6 a7 a8 a9 a10 a11 a12 a13 TO PL KS VS MV Y LI MY TR KY VY FK FV rn us kn vn fkn fvn mq off opn fnd wh af th) (fun v x h => ?_)
  rw [ef2] at h
  rcases h with ⟨c, rfl, rfl⟩ | ⟨c, rfl, rfl⟩
  · have c1 : son = false ∨ sop = false ∨ kq_fst A 64 0 = 64 := by rw [b1, b2] at c; simpa using c
    have e : kz_aTree (((A, L, Ms), (key, val, fd), (son, sop), (sw, sk))) = (1, 0, ((A, L, Ms), (key, val, fd), (son, sop), (sw, sk))) := by simp only [kz_aTree]; rw [if_pos c1]
    rw [e]
    exact ⟨(((TO, PL), (KS, VS), (MV, Y), LI, (rn, us)), (MY, TR), ((KY, kn), (VY, vn), (FK, fkn), (FV, fvn)), mq, (off, opn, fnd), (wh, af, 1)), _, rfl, rfl, hh, rfl, fun z => absurd z (Nat.succ_ne_zero _)⟩
  · have c1 : son = true ∧ sop = true := by rw [b1, b2] at c; simpa using c.1
    obtain ⟨rfl, rfl⟩ := c1
    have hn := kq_fst_none (A := A) 64 0 (by omega)
    have e : kz_aTree (((A, L, Ms), (key, val, fd), (true, true), (sw, sk))) = (0, kq_fst A 64 0, ((va_up A (kq_fst A 64 0) (some []), L, Ms), (key, val, fd), (true, true), (sw, sk))) := by simp only [kz_aTree]; rw [if_neg (by simp; omega)]
    rw [e] at hok ⊢
    exact ⟨(((TO, PL), (KS, VS), (MV, Y), LI, (rn, us)), (MY, (va_up TR 0 (km_on (TR 0) (kq_fst A 64 0)))), ((KY, kn), (VY, vn), (FK, fkn), (FV, fvn)), mq, (off, opn, fnd), (wh, af, 0)), _, rfl, rfl, ⟨⟨r1, r2, r3, r4, r5, r6⟩, ⟨b1, b2, b3, b4, b5, b6⟩, zN_addTree hM (by omega) hn.1 (hok rfl), ⟨w1, w2, w3⟩⟩, rfl, fun _ => rfl⟩
theorem kz_treeG {P : km_P} {MY : Nat → Nat} {TR : Nat → Int64} {A : kp_A} {L : List kp_A} (h : kq_M P MY TR (A :: L)) (t : Nat) : km_tree (TR 0) t = (kz_get A t).isSome := by
  unfold kz_get
  by_cases ht : t < 64
  · rw [if_pos ht]; exact zN_tree h ht
  · rw [if_neg ht]
    unfold km_tree
    exact decide_eq_false (fun y => ht y.1)
set_option maxRecDepth 100000 in
set_option maxHeartbeats 4000000 in
theorem g_Model_drop (l : Launch) (D : va_G) (K : Nat → ClassId) (a0 a1 a2 a3 a4 a5 a6 a7 a8 a9 a10 a11 a12 a13 : Nat) (e : kz_E) (s : kz_S) (t : Nat) (h : kz_N e s) (hn : t < 4294967296) (hok : (kz_aDrop t s).1 = 0 → kp_okA (kz_aDrop t s).2.2.1.1) : ks_M l D (ks_T K) (ks_R 2) y_Model_drop b_Model_drop 5 (some .int) [.ref a0, .int (nI t)] (kz_V K a0 a1 a2 a3 a4 a5 a6 a7 a8 a9 a10 a11 a12 a13 e) (kz_Q K a0 a1 a2 a3 a4 a5 a6 a7 a8 a9 a10 a11 a12 a13 (kz_aDrop t s)) := by
  obtain ⟨⟨⟨TO, PL⟩, ⟨KS, VS⟩, ⟨MV, Y⟩, LI, rn, us⟩, ⟨MY, TR⟩, ⟨⟨KY, kn⟩, ⟨VY, vn⟩, ⟨FK, fkn⟩, FV, fvn⟩, mq, ⟨off, opn, fnd⟩, wh, af, th⟩ := e
  obtain ⟨⟨A, L, Ms⟩, ⟨key, val, fd⟩, ⟨son, sop⟩, ⟨sw, sk⟩⟩ := s
  have hh := h
  obtain ⟨⟨r1, r2, r3, r4, r5, r6⟩, ⟨b1, b2, b3, b4, b5, b6⟩, hM, ⟨w1, w2, w3⟩⟩ := h
  obtain ⟨hL1, hL2, hL3, hL4⟩ := zN_lists hM b4
  obtain ⟨hS0, hok0⟩ := zN_now hM
  have hg := kq_g hM.1 hS0 hok0
  have eg := kz_treeG hM t
  refine ks_mono (c_Model_drop l D K a0 a1 a2 a3 a4 a5 a6 a7 a8 a9 a10 a11 a12 a13 TO PL KS VS MV Y LI MY TR KY VY FK FV rn us kn vn fkn fvn mq off opn fnd wh af th t hn hg) (fun v x h => ?_)
  rcases h with ⟨c, rfl, rfl⟩ | ⟨c, rfl, rfl⟩ | ⟨c, rfl, rfl⟩
  · have c1 : son = false ∨ sop = false := by rw [b1, b2] at c; simpa using c
    have e : kz_aDrop t (((A, L, Ms), (key, val, fd), (son, sop), (sw, sk))) = (1, 0, ((A, L, Ms), (key, val, fd), (son, sop), (sw, sk))) := by simp only [kz_aDrop]; rw [if_pos c1]
    rw [e]
    exact ⟨(((TO, PL), (KS, VS), (MV, Y), LI, (rn, us)), (MY, TR), ((KY, kn), (VY, vn), (FK, fkn), (FV, fvn)), mq, (off, opn, fnd), (wh, af, 1)), _, rfl, rfl, hh, rfl, fun z => absurd z (Nat.succ_ne_zero _)⟩
  · obtain ⟨⟨c1, c2⟩, c3⟩ := c
    have d1 : son = true := by rw [b1] at c1; simpa using c1
    have d2 : sop = true := by rw [← b2]; exact c2
    subst d1
    subst d2
    rw [eg] at c3
    have hg0 : kz_get A t = none := by cases z : kz_get A t <;> simp_all
    have e : kz_aDrop t (((A, L, Ms), (key, val, fd), (true, true), (sw, sk))) = (2, 0, ((A, L, Ms), (key, val, fd), (true, true), (sw, sk))) := by simp [kz_aDrop, hg0]
    rw [e]
    exact ⟨(((TO, PL), (KS, VS), (MV, Y), LI, (rn, us)), (MY, TR), ((KY, kn), (VY, vn), (FK, fkn), (FV, fvn)), mq, (off, opn, fnd), (wh, af, 2)), _, rfl, rfl, hh, rfl, fun z => absurd z (Nat.succ_ne_zero _)⟩
  · obtain ⟨⟨c1, c2⟩, c3⟩ := c
    have d1 : son = true := by rw [b1] at c1; simpa using c1
    have d2 : sop = true := by rw [← b2]; exact c2
    subst d1
    subst d2
    rw [eg] at c3
    obtain ⟨x9, hx⟩ : ∃ l, kz_get A t = some l := by cases z : kz_get A t <;> simp_all
    obtain ⟨ht, hA⟩ := kz_get_some hx
    have e : kz_aDrop t (((A, L, Ms), (key, val, fd), (true, true), (sw, sk))) = (0, x9.length, ((va_up A t none, L, Ms), (key, val, fd), (true, true), (sw, sk))) := by simp [kz_aDrop, hx]
    rw [e] at hok ⊢
    have he := kq_ents hS0 ht
    rw [hA] at he
    refine ⟨(((TO, PL), (KS, VS), (MV, Y), (km_dropL TO t (MY 0) 0 LI 0).1, (rn, us)), ((va_up MY 0 (km_dropL TO t (MY 0) 0 LI 0).2), (va_up TR 0 (km_off (TR 0) t))), ((KY, kn), (VY, vn), (FK, fkn), (FV, fvn)), mq, (off, opn, fnd), (wh, af, 0)), _, rfl, rfl, ⟨⟨r1, r2, r3, r4, r5, r6⟩, ⟨b1, b2, b3, b4, b5, b6⟩, zN_drop hM ht (hok rfl), ⟨w1, w2, w3⟩⟩, rfl, fun _ => ?_⟩
    show nI (km_ents LI TO t (MY 0)) = nI x9.length
    rw [show km_ents LI TO t (MY 0) = x9.length from he]
