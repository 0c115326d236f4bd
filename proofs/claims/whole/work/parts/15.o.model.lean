/-! the reference's calls, the rest -/
set_option maxRecDepth 100000 in
set_option maxHeartbeats 4000000 in
theorem g_Model_take (l : Launch) (D : va_G) (K : Nat → ClassId) (a0 a1 a2 a3 a4 a5 a6 a7 a8 a9 a10 a11 a12 a13 : Nat) (e : kz_E) (s : kz_S)  (h : kz_N e s) : ks_M l D (ks_T K) (ks_R 0) y_Model_take b_Model_take 2 (some .int) [.ref a0] (kz_V K a0 a1 a2 a3 a4 a5 a6 a7 a8 a9 a10 a11 a12 a13 e) (kz_Q K a0 a1 a2 a3 a4 a5 a6 a7 a8 a9 a10 a11 a12 a13 (kz_aTake s)) := by
  obtain ⟨⟨⟨TO, PL⟩, ⟨KS, VS⟩, ⟨MV, Y⟩, LI, rn, us⟩, ⟨MY, TR⟩, ⟨⟨KY, kn⟩, ⟨VY, vn⟩, ⟨FK, fkn⟩, FV, fvn⟩, mq, ⟨off, opn, fnd⟩, wh, af, th⟩ := e
  obtain ⟨⟨A, L, Ms⟩, ⟨key, val, fd⟩, ⟨son, sop⟩, ⟨sw, sk⟩⟩ := s
  have hh := h
  obtain ⟨⟨r1, r2, r3, r4, r5, r6⟩, ⟨b1, b2, b3, b4, b5, b6⟩, hM, ⟨w1, w2, w3⟩⟩ := h
  obtain ⟨hL1, hL2, hL3, hL4⟩ := zN_lists hM b4
  obtain ⟨hS0, hok0⟩ := zN_now hM
  have hg := kq_g hM.1 hS0 hok0
  refine ks_mono (c_Model_take l D K a0 a1 a2 a3 a4 a5 a6 a7 a8 a9 a10 a11 a12 a13 TO PL KS VS MV Y LI MY TR KY VY FK FV rn us kn vn fkn fvn mq off opn fnd wh af th r3) (fun v x h => ?_)
  subst b3
  rcases h with ⟨c, rfl, rfl⟩ | ⟨c, rfl, rfl⟩
  · cases fd with
    | some e9 => simp at c
    | none =>
      exact ⟨(((TO, PL), (KS, VS), (MV, Y), LI, (rn, us)), (MY, TR), ((KY, kn), (VY, vn), (FK, fkn), (FV, fvn)), mq, (off, opn, (none : Option kp_KV).isSome), (wh, af, 1)), _, rfl, rfl, hh, rfl, fun z => absurd z (Nat.succ_ne_zero _)⟩
  · cases fd with
    | none => simp at c
    | some e9 =>
      refine ⟨(((TO, PL), (KS, VS), (MV, Y), LI, (rn, us)), (MY, TR), (((va_cpy FK KY 0 0 fkn), fkn), (VY, vn), (FK, fkn), (FV, fvn)), mq, (off, opn, (some e9).isSome), (wh, af, 0)), _, rfl, rfl, ⟨⟨r3, r2, r3, r4, r5, r6⟩, ⟨b1, b2, rfl, b4, b5, b6⟩, hM, ⟨?_, w2, w3⟩⟩, rfl, fun _ => ?_⟩
      · have q := kz_cpy (Y := FK) (FK := KY) (p := 0) (n := fkn)
        rw [kq_bl_row w3.1] at q; exact q
      · show nI fkn = nI e9.1.length
        rw [w3.1.1]
set_option maxRecDepth 100000 in
set_option maxHeartbeats 4000000 in
theorem g_Model_found (l : Launch) (D : va_G) (K : Nat → ClassId) (a0 a1 a2 a3 a4 a5 a6 a7 a8 a9 a10 a11 a12 a13 : Nat) (e : kz_E) (s : kz_S) (wt fr : Nat) (h : kz_N e s) (hn : wt < 4294967296) (hf : fr < 4294967296) : ks_M l D (ks_T K) (ks_R 0) y_Model_found b_Model_found 6 (some .long) [.ref a0, .int (nI wt), .int (nI fr)] (kz_V K a0 a1 a2 a3 a4 a5 a6 a7 a8 a9 a10 a11 a12 a13 e) (kz_QL K a0 a1 a2 a3 a4 a5 a6 a7 a8 a9 a10 a11 a12 a13 (kz_aFound wt fr s)) := by
  obtain ⟨⟨⟨TO, PL⟩, ⟨KS, VS⟩, ⟨MV, Y⟩, LI, rn, us⟩, ⟨MY, TR⟩, ⟨⟨KY, kn⟩, ⟨VY, vn⟩, ⟨FK, fkn⟩, FV, fvn⟩, mq, ⟨off, opn, fnd⟩, wh, af, th⟩ := e
  obtain ⟨⟨A, L, Ms⟩, ⟨key, val, fd⟩, ⟨son, sop⟩, ⟨sw, sk⟩⟩ := s
  have hh := h
  obtain ⟨⟨r1, r2, r3, r4, r5, r6⟩, ⟨b1, b2, b3, b4, b5, b6⟩, hM, ⟨w1, w2, w3⟩⟩ := h
  obtain ⟨hL1, hL2, hL3, hL4⟩ := zN_lists hM b4
  obtain ⟨hS0, hok0⟩ := zN_now hM
  have hg := kq_g hM.1 hS0 hok0
  refine ks_mono (c_Model_found l D K a0 a1 a2 a3 a4 a5 a6 a7 a8 a9 a10 a11 a12 a13 TO PL KS VS MV Y LI MY TR KY VY FK FV rn us kn vn fkn fvn mq off opn fnd wh af th wt fr hn hf r3 r4) (fun v x h => ?_)
  subst b3
  rcases h with ⟨c, rfl, rfl⟩ | ⟨c, rfl, rfl⟩ | ⟨c, rfl, rfl⟩ | ⟨c, rfl, rfl⟩ | ⟨c, rfl, rfl⟩
  · have e : kz_aFound wt fr (((A, L, Ms), (key, val, fd), (son, sop), (sw, sk))) = (1, 0, ((A, L, Ms), (key, val, fd), (son, sop), (sw, sk))) := by simp only [kz_aFound]; rw [if_pos c]
    rw [e]
    exact ⟨(((TO, PL), (KS, VS), (MV, Y), LI, (rn, us)), (MY, TR), ((KY, kn), (VY, vn), (FK, fkn), (FV, fvn)), mq, (off, opn, fd.isSome), (wh, af, 1)), _, rfl, rfl, hh, rfl, fun z => absurd z (Nat.succ_ne_zero _)⟩
  · cases fd with
    | some e9 => simp at c
    | none =>
      have e : kz_aFound wt fr (((A, L, Ms), (key, val, none), (son, sop), (sw, sk))) = (2, 0, ((A, L, Ms), (key, val, none), (son, sop), (sw, sk))) := by simp only [kz_aFound]; rw [if_neg (by omega)]
      rw [e]
      exact ⟨(((TO, PL), (KS, VS), (MV, Y), LI, (rn, us)), (MY, TR), ((KY, kn), (VY, vn), (FK, fkn), (FV, fvn)), mq, (off, opn, (none : Option kp_KV).isSome), (wh, af, 2)), _, rfl, rfl, hh, rfl, fun z => absurd z (Nat.succ_ne_zero _)⟩
  · cases fd with
    | none => simp at c
    | some e9 =>
      have e : kz_aFound wt fr (((A, L, Ms), (key, val, some e9), (son, sop), (sw, sk))) = (0, if wt = 0 then kz_word e9.1 fr else kz_word e9.2 fr, ((A, L, Ms), (key, val, some e9), (son, sop), (sw, sk))) := by simp only [kz_aFound]; rw [if_neg (by omega)]
      rw [e]
      refine ⟨(((TO, PL), (KS, VS), (MV, Y), LI, (rn, us)), (MY, TR), ((KY, kn), (VY, vn), (FK, fkn), (FV, fvn)), mq, (off, opn, (some e9).isSome), (wh, af, 0)), _, rfl, rfl, hh, rfl, fun _ => ?_⟩
      have q1 : kz_word e9.1 fr = 0 := by unfold kz_word kv_wordAt; rw [if_neg (by rw [← w3.1.1]; omega)]
      have q2 : kz_word e9.2 fr = 0 := by unfold kz_word kv_wordAt; rw [if_neg (by rw [← w3.2.1]; omega)]
      show (0 : Int64) = if wt = 0 then kz_word e9.1 fr else kz_word e9.2 fr
      rw [q1, q2]; split <;> rfl
  · cases fd with
    | none => simp at c
    | some e9 =>
      have e : kz_aFound wt fr (((A, L, Ms), (key, val, some e9), (son, sop), (sw, sk))) = (0, if wt = 0 then kz_word e9.1 fr else kz_word e9.2 fr, ((A, L, Ms), (key, val, some e9), (son, sop), (sw, sk))) := by simp only [kz_aFound]; rw [if_neg (by omega)]
      rw [e]
      refine ⟨(((TO, PL), (KS, VS), (MV, Y), LI, (rn, us)), (MY, TR), ((KY, kn), (VY, vn), (FK, fkn), (FV, fvn)), mq, (off, opn, (some e9).isSome), (wh, af, 0)), _, rfl, rfl, hh, rfl, fun _ => ?_⟩
      show km_fw FK fkn fr = if wt = 0 then kz_word e9.1 fr else kz_word e9.2 fr
      rw [if_pos c.1, ← kz_fw w3.1 w3.1 r3, kz_word_row w3.1 fr]
  · cases fd with
    | none => simp at c
    | some e9 =>
      have e : kz_aFound wt fr (((A, L, Ms), (key, val, some e9), (son, sop), (sw, sk))) = (0, if wt = 0 then kz_word e9.1 fr else kz_word e9.2 fr, ((A, L, Ms), (key, val, some e9), (son, sop), (sw, sk))) := by simp only [kz_aFound]; rw [if_neg (by omega)]
      rw [e]
      refine ⟨(((TO, PL), (KS, VS), (MV, Y), LI, (rn, us)), (MY, TR), ((KY, kn), (VY, vn), (FK, fkn), (FV, fvn)), mq, (off, opn, (some e9).isSome), (wh, af, 0)), _, rfl, rfl, hh, rfl, fun _ => ?_⟩
      show km_fw FV fvn fr = if wt = 0 then kz_word e9.1 fr else kz_word e9.2 fr
      rw [if_neg (by omega), ← kz_fw w3.2 w3.2 r4, kz_word_row w3.2 fr]
set_option maxRecDepth 100000 in
set_option maxHeartbeats 4000000 in
theorem g_Model_begin (l : Launch) (D : va_G) (K : Nat → ClassId) (a0 a1 a2 a3 a4 a5 a6 a7 a8 a9 a10 a11 a12 a13 : Nat) (e : kz_E) (s : kz_S)  (h : kz_N e s) : ks_M l D (ks_T K) (ks_R 1) y_Model_begin b_Model_begin 1 none [.ref a0] (kz_V K a0 a1 a2 a3 a4 a5 a6 a7 a8 a9 a10 a11 a12 a13 e) (kz_QV K a0 a1 a2 a3 a4 a5 a6 a7 a8 a9 a10 a11 a12 a13 (kz_aBegin s)) := by
  obtain ⟨⟨⟨TO, PL⟩, ⟨KS, VS⟩, ⟨MV, Y⟩, LI, rn, us⟩, ⟨MY, TR⟩, ⟨⟨KY, kn⟩, ⟨VY, vn⟩, ⟨FK, fkn⟩, FV, fvn⟩, mq, ⟨off, opn, fnd⟩, wh, af, th⟩ := e
  obtain ⟨⟨A, L, Ms⟩, ⟨key, val, fd⟩, ⟨son, sop⟩, ⟨sw, sk⟩⟩ := s
  have hh := h
  obtain ⟨⟨r1, r2, r3, r4, r5, r6⟩, ⟨b1, b2, b3, b4, b5, b6⟩, hM, ⟨w1, w2, w3⟩⟩ := h
  obtain ⟨hL1, hL2, hL3, hL4⟩ := zN_lists hM b4
  obtain ⟨hS0, hok0⟩ := zN_now hM
  have hg := kq_g hM.1 hS0 hok0
  refine ks_mono (c_Model_begin l D K a0 a1 a2 a3 a4 a5 a6 a7 a8 a9 a10 a11 a12 a13 TO PL KS VS MV Y LI MY TR KY VY FK FV rn us kn vn fkn fvn mq off opn fnd wh af th) (fun v x h => ?_)
  rcases h with ⟨c, rfl, rfl⟩ | ⟨c, rfl, rfl⟩
  · have c1 : son = false ∨ sop = true := by rw [b1, b2] at c; simpa using c
    have e : kz_aBegin (((A, L, Ms), (key, val, fd), (son, sop), (sw, sk))) = (1, 0, ((A, L, Ms), (key, val, fd), (son, sop), (sw, sk))) := by simp only [kz_aBegin]; rw [if_pos c1]
    rw [e]
    exact ⟨(((TO, PL), (KS, VS), (MV, Y), LI, (rn, us)), (MY, TR), ((KY, kn), (VY, vn), (FK, fkn), (FV, fvn)), mq, (off, opn, fnd), (wh, af, 1)), rfl, rfl, hh, rfl⟩
  · have d1 : son = true := by rw [b1] at c; simpa using c.1
    have d2 : sop = false := by rw [← b2]; exact c.2
    subst d1
    subst d2
    have e : kz_aBegin (((A, L, Ms), (key, val, fd), (true, false), (sw, sk))) = (0, 0, ((A, L, []), (key, val, fd), (true, true), (sw, sk))) := by simp [kz_aBegin]
    rw [e]
    exact ⟨(((TO, PL), (KS, VS), (MV, Y), LI, (rn, us)), (MY, TR), ((KY, kn), (VY, vn), (FK, fkn), (FV, fvn)), 0, (off, true, fnd), (wh, af, 0)), rfl, rfl, ⟨⟨r1, r2, r3, r4, r5, r6⟩, ⟨b1, rfl, b3, rfl, b5, b6⟩, kq_M_take 2 hM, ⟨w1, w2, w3⟩⟩, rfl⟩
set_option maxRecDepth 100000 in
set_option maxHeartbeats 4000000 in
theorem g_Model_rollback (l : Launch) (D : va_G) (K : Nat → ClassId) (a0 a1 a2 a3 a4 a5 a6 a7 a8 a9 a10 a11 a12 a13 : Nat) (e : kz_E) (s : kz_S)  (h : kz_N e s) : ks_M l D (ks_T K) (ks_R 1) y_Model_rollback b_Model_rollback 1 none [.ref a0] (kz_V K a0 a1 a2 a3 a4 a5 a6 a7 a8 a9 a10 a11 a12 a13 e) (kz_QV K a0 a1 a2 a3 a4 a5 a6 a7 a8 a9 a10 a11 a12 a13 (kz_aRollback s)) := by
  obtain ⟨⟨⟨TO, PL⟩, ⟨KS, VS⟩, ⟨MV, Y⟩, LI, rn, us⟩, ⟨MY, TR⟩, ⟨⟨KY, kn⟩, ⟨VY, vn⟩, ⟨FK, fkn⟩, FV, fvn⟩, mq, ⟨off, opn, fnd⟩, wh, af, th⟩ := e
  obtain ⟨⟨A, L, Ms⟩, ⟨key, val, fd⟩, ⟨son, sop⟩, ⟨sw, sk⟩⟩ := s
  have hh := h
  obtain ⟨⟨r1, r2, r3, r4, r5, r6⟩, ⟨b1, b2, b3, b4, b5, b6⟩, hM, ⟨w1, w2, w3⟩⟩ := h
  obtain ⟨hL1, hL2, hL3, hL4⟩ := zN_lists hM b4
  obtain ⟨hS0, hok0⟩ := zN_now hM
  have hg := kq_g hM.1 hS0 hok0
  refine ks_mono (c_Model_rollback l D K a0 a1 a2 a3 a4 a5 a6 a7 a8 a9 a10 a11 a12 a13 TO PL KS VS MV Y LI MY TR KY VY FK FV rn us kn vn fkn fvn mq off opn fnd wh af th hL4) (fun v x h => ?_)
  rcases h with ⟨c, rfl, rfl⟩ | ⟨c, rfl, rfl⟩
  · have c1 : son = false ∨ sop = false := by rw [b1, b2] at c; simpa using c
    have e : kz_aRollback (((A, L, Ms), (key, val, fd), (son, sop), (sw, sk))) = (1, 0, ((A, L, Ms), (key, val, fd), (son, sop), (sw, sk))) := by simp only [kz_aRollback]; rw [if_pos c1]
    rw [e]
    exact ⟨(((TO, PL), (KS, VS), (MV, Y), LI, (rn, us)), (MY, TR), ((KY, kn), (VY, vn), (FK, fkn), (FV, fvn)), mq, (off, opn, fnd), (wh, af, 1)), rfl, rfl, hh, rfl⟩
  · skip
    have d1 : son = true := by rw [b1] at c; simpa using c.1
    have d2 : sop = true := by rw [← b2]; exact c.2
    subst d1
    subst d2
    have e : kz_aRollback (((A, L, Ms), (key, val, fd), (true, true), (sw, sk))) = (0, 0, ((L, L, []), (key, val, fd), (true, false), (sw, sk))) := by simp [kz_aRollback]
    rw [e]
    exact ⟨(((TO, PL), (KS, VS), (MV, Y), (va_cpy LI LI (2900 * 1) (2900 * 0) (MY 1)), (rn, us)), ((va_up MY 0 (MY 1)), (va_up TR 0 (TR 1))), ((KY, kn), (VY, vn), (FK, fkn), (FV, fvn)), 0, (off, false, fnd), (wh, af, 0)), rfl, rfl, ⟨⟨r1, r2, r3, r4, r5, r6⟩, ⟨b1, rfl, b3, rfl, b5, b6⟩, kq_M_take 2 (kq_M_copy (a := 1) (b := 0) hM rfl (by simp)), ⟨w1, w2, w3⟩⟩, rfl⟩
set_option maxRecDepth 100000 in
set_option maxHeartbeats 4000000 in
theorem g_Model_commit (l : Launch) (D : va_G) (K : Nat → ClassId) (a0 a1 a2 a3 a4 a5 a6 a7 a8 a9 a10 a11 a12 a13 : Nat) (e : kz_E) (s : kz_S)  (h : kz_N e s) : ks_M l D (ks_T K) (ks_R 2) y_Model_commit b_Model_commit 2 none [.ref a0] (kz_V K a0 a1 a2 a3 a4 a5 a6 a7 a8 a9 a10 a11 a12 a13 e) (kz_QV K a0 a1 a2 a3 a4 a5 a6 a7 a8 a9 a10 a11 a12 a13 (kz_aCommit s)) := by
  obtain ⟨⟨⟨TO, PL⟩, ⟨KS, VS⟩, ⟨MV, Y⟩, LI, rn, us⟩, ⟨MY, TR⟩, ⟨⟨KY, kn⟩, ⟨VY, vn⟩, ⟨FK, fkn⟩, FV, fvn⟩, mq, ⟨off, opn, fnd⟩, wh, af, th⟩ := e
  obtain ⟨⟨A, L, Ms⟩, ⟨key, val, fd⟩, ⟨son, sop⟩, ⟨sw, sk⟩⟩ := s
  have hh := h
  obtain ⟨⟨r1, r2, r3, r4, r5, r6⟩, ⟨b1, b2, b3, b4, b5, b6⟩, hM, ⟨w1, w2, w3⟩⟩ := h
  obtain ⟨hL1, hL2, hL3, hL4⟩ := zN_lists hM b4
  obtain ⟨hS0, hok0⟩ := zN_now hM
  have hg := kq_g hM.1 hS0 hok0
  refine ks_mono (c_Model_commit l D K a0 a1 a2 a3 a4 a5 a6 a7 a8 a9 a10 a11 a12 a13 TO PL KS VS MV Y LI MY TR KY VY FK FV rn us kn vn fkn fvn mq off opn fnd wh af th hL4 hL3 r5 r6) (fun v x h => ?_)
  rcases h with ⟨c, rfl, rfl⟩ | ⟨⟨c, c2⟩, rfl, rfl⟩ | ⟨⟨c, c2, c3⟩, rfl, rfl⟩ | ⟨⟨c, c2, c3⟩, rfl, rfl⟩
  · have c1 : son = false ∨ sop = false := by rw [b1, b2] at c; simpa using c
    have e : kz_aCommit (((A, L, Ms), (key, val, fd), (son, sop), (sw, sk))) = (1, 0, ((A, L, Ms), (key, val, fd), (son, sop), (sw, sk))) := by simp only [kz_aCommit]; rw [if_pos c1]
    rw [e]
    exact ⟨(((TO, PL), (KS, VS), (MV, Y), LI, (rn, us)), (MY, TR), ((KY, kn), (VY, vn), (FK, fkn), (FV, fvn)), mq, (off, opn, fnd), (wh, af, 1)), rfl, rfl, hh, rfl⟩
  · skip
    have d1 : son = true := by rw [b1] at c; simpa using c.1
    have d2 : sop = true := by rw [← b2]; exact c.2
    subst d1
    subst d2
    have c4 : ¬ sw < 3 := by omega
    have e : kz_aCommit (((A, L, Ms), (key, val, fd), (true, true), (sw, sk))) = (0, 0, ((A, A, []), (key, val, fd), (true, false), (sw, sk))) := by simp [kz_aCommit, c4]
    rw [e]
    exact ⟨(((TO, PL), (KS, VS), (MV, Y), (va_cpy LI LI (2900 * 0) (2900 * 1) (MY 0)), (rn, us)), ((va_up MY 1 (MY 0)), (va_up TR 1 (TR 0))), ((KY, kn), (VY, vn), (FK, fkn), (FV, fvn)), 0, (off, false, fnd), (wh, af, 0)), rfl, rfl, ⟨⟨r1, r2, r3, r4, r5, r6⟩, ⟨b1, rfl, b3, rfl, b5, b6⟩, kq_M_take 2 (kq_M_copy (a := 0) (b := 1) hM rfl (by simp)), ⟨w1, w2, w3⟩⟩, rfl⟩
  · skip
    have d1 : son = true := by rw [b1] at c; simpa using c.1
    have d2 : sop = true := by rw [← b2]; exact c.2
    subst d1
    subst d2
    have c5 : sw = 2 ∧ 0 < sk := by omega
    have e : kz_aCommit (((A, L, Ms), (key, val, fd), (true, true), (sw, sk))) = (2, 0, ((A, A, []), ([], [], none), (false, false), (4, sk))) := by simp [kz_aCommit, c5]
    rw [e]
    exact ⟨(((TO, PL), (KS, VS), (MV, Y), (va_cpy (va_cpy LI LI (2900 * 0) (2900 * 1) (MY 0)) (va_cpy LI LI (2900 * 0) (2900 * 1) (MY 0)) (2900 * 1) (2900 * 0) ((va_up MY 1 (MY 0)) 1)), (rn, us)), ((va_up (va_up MY 1 (MY 0)) 0 ((va_up MY 1 (MY 0)) 1)), (va_up (va_up TR 1 (TR 0)) 0 ((va_up TR 1 (TR 0)) 1))), ((KY, 0), (VY, 0), (FK, fkn), (FV, fvn)), 0, (true, false, false), (4, af, 2)), rfl, rfl, ⟨⟨Nat.zero_le _, Nat.zero_le _, r3, r4, by omega, r6⟩, ⟨rfl, rfl, rfl, rfl, rfl, b6⟩, kq_M_take 2 (kq_M_copy (a := 1) (b := 0) (kq_M_copy (a := 0) (b := 1) hM rfl (by simp)) rfl (by simp)), ⟨kp_row_nil _, kp_row_nil _, trivial⟩⟩, rfl⟩
  · skip
    have d1 : son = true := by rw [b1] at c; simpa using c.1
    have d2 : sop = true := by rw [← b2]; exact c.2
    subst d1
    subst d2
    have c5 : sw < 3 := by omega
    have c6 : ¬ (sw = 2 ∧ 0 < sk) := by omega
    have e : kz_aCommit (((A, L, Ms), (key, val, fd), (true, true), (sw, sk))) = (2, 0, ((L, L, []), ([], [], none), (false, false), (4, sk))) := by simp [kz_aCommit, c5, c6]
    rw [e]
    exact ⟨(((TO, PL), (KS, VS), (MV, Y), (va_cpy LI LI (2900 * 1) (2900 * 0) (MY 1)), (rn, us)), ((va_up MY 0 (MY 1)), (va_up TR 0 (TR 1))), ((KY, 0), (VY, 0), (FK, fkn), (FV, fvn)), 0, (true, false, false), (4, af, 2)), rfl, rfl, ⟨⟨Nat.zero_le _, Nat.zero_le _, r3, r4, by omega, r6⟩, ⟨rfl, rfl, rfl, rfl, rfl, b6⟩, kq_M_take 2 (kq_M_copy (a := 1) (b := 0) hM rfl (by simp)), ⟨kp_row_nil _, kp_row_nil _, trivial⟩⟩, rfl⟩
set_option maxRecDepth 100000 in
set_option maxHeartbeats 4000000 in
theorem g_Model_mark (l : Launch) (D : va_G) (K : Nat → ClassId) (a0 a1 a2 a3 a4 a5 a6 a7 a8 a9 a10 a11 a12 a13 : Nat) (e : kz_E) (s : kz_S)  (h : kz_N e s) : ks_M l D (ks_T K) (ks_R 1) y_Model_mark b_Model_mark 1 (some .int) [.ref a0] (kz_V K a0 a1 a2 a3 a4 a5 a6 a7 a8 a9 a10 a11 a12 a13 e) (kz_Q K a0 a1 a2 a3 a4 a5 a6 a7 a8 a9 a10 a11 a12 a13 (kz_aMark s)) := by
  obtain ⟨⟨⟨TO, PL⟩, ⟨KS, VS⟩, ⟨MV, Y⟩, LI, rn, us⟩, ⟨MY, TR⟩, ⟨⟨KY, kn⟩, ⟨VY, vn⟩, ⟨FK, fkn⟩, FV, fvn⟩, mq, ⟨off, opn, fnd⟩, wh, af, th⟩ := e
  obtain ⟨⟨A, L, Ms⟩, ⟨key, val, fd⟩, ⟨son, sop⟩, ⟨sw, sk⟩⟩ := s
  have hh := h
  obtain ⟨⟨r1, r2, r3, r4, r5, r6⟩, ⟨b1, b2, b3, b4, b5, b6⟩, hM, ⟨w1, w2, w3⟩⟩ := h
  obtain ⟨hL1, hL2, hL3, hL4⟩ := zN_lists hM b4
  obtain ⟨hS0, hok0⟩ := zN_now hM
  have hg := kq_g hM.1 hS0 hok0
  refine ks_mono (c_Model_mark l D K a0 a1 a2 a3 a4 a5 a6 a7 a8 a9 a10 a11 a12 a13 TO PL KS VS MV Y LI MY TR KY VY FK FV rn us kn vn fkn fvn mq off opn fnd wh af th hL3 hL1) (fun v x h => ?_)
  rcases h with ⟨c, rfl, rfl⟩ | ⟨⟨c, c2⟩, rfl, rfl⟩
  · have c1 : son = false ∨ sop = false ∨ Ms.length = 5 := by rw [b1, b2, b4] at c; simpa using c
    have e : kz_aMark (((A, L, Ms), (key, val, fd), (son, sop), (sw, sk))) = (1, 0, ((A, L, Ms), (key, val, fd), (son, sop), (sw, sk))) := by simp only [kz_aMark]; rw [if_pos c1]
    rw [e]
    exact ⟨(((TO, PL), (KS, VS), (MV, Y), LI, (rn, us)), (MY, TR), ((KY, kn), (VY, vn), (FK, fkn), (FV, fvn)), mq, (off, opn, fnd), (wh, af, 1)), _, rfl, rfl, hh, rfl, fun z => absurd z (Nat.succ_ne_zero _)⟩
  · skip
    have d1 : son = true := by rw [b1] at c; simpa using c.1
    have d2 : sop = true := by rw [← b2]; exact c.2
    subst d1
    subst d2
    have c5 : ¬ Ms.length = 5 := by omega
    have hp := kq_M_push (a := 0) hM rfl (by simp; omega)
    rw [show (A :: L :: Ms).length = 2 + mq by simp; omega] at hp
    have e : kz_aMark (((A, L, Ms), (key, val, fd), (true, true), (sw, sk))) = (0, Ms.length + 1, ((A, L, Ms ++ [A]), (key, val, fd), (true, true), (sw, sk))) := by simp [kz_aMark, c5]
    rw [e]
    exact ⟨(((TO, PL), (KS, VS), (MV, Y), (va_cpy LI LI (2900 * 0) (2900 * (2 + mq)) (MY 0)), (rn, us)), ((va_up MY (2 + mq) (MY 0)), (va_up TR (2 + mq) (TR 0))), ((KY, kn), (VY, vn), (FK, fkn), (FV, fvn)), (mq + 1), (off, opn, fnd), (wh, af, 0)), _, rfl, rfl, ⟨⟨r1, r2, r3, r4, r5, r6⟩, ⟨b1, b2, b3, by rw [b4, List.length_append]; rfl, b5, b6⟩, hp, ⟨w1, w2, w3⟩⟩, rfl, fun _ => by rw [b4]⟩
set_option maxRecDepth 100000 in
set_option maxHeartbeats 4000000 in
theorem g_Model_back (l : Launch) (D : va_G) (K : Nat → ClassId) (a0 a1 a2 a3 a4 a5 a6 a7 a8 a9 a10 a11 a12 a13 : Nat) (e : kz_E) (s : kz_S) (m : Nat) (h : kz_N e s) (hn : m < 4294967296) : ks_M l D (ks_T K) (ks_R 1) y_Model_back b_Model_back 2 none [.ref a0, .int (nI m)] (kz_V K a0 a1 a2 a3 a4 a5 a6 a7 a8 a9 a10 a11 a12 a13 e) (kz_QV K a0 a1 a2 a3 a4 a5 a6 a7 a8 a9 a10 a11 a12 a13 (kz_aBack m s)) := by
  obtain ⟨⟨⟨TO, PL⟩, ⟨KS, VS⟩, ⟨MV, Y⟩, LI, rn, us⟩, ⟨MY, TR⟩, ⟨⟨KY, kn⟩, ⟨VY, vn⟩, ⟨FK, fkn⟩, FV, fvn⟩, mq, ⟨off, opn, fnd⟩, wh, af, th⟩ := e
  obtain ⟨⟨A, L, Ms⟩, ⟨key, val, fd⟩, ⟨son, sop⟩, ⟨sw, sk⟩⟩ := s
  have hh := h
  obtain ⟨⟨r1, r2, r3, r4, r5, r6⟩, ⟨b1, b2, b3, b4, b5, b6⟩, hM, ⟨w1, w2, w3⟩⟩ := h
  obtain ⟨hL1, hL2, hL3, hL4⟩ := zN_lists hM b4
  obtain ⟨hS0, hok0⟩ := zN_now hM
  have hg := kq_g hM.1 hS0 hok0
  have em : km_mth off opn mq m = if son = false ∨ sop = false then 1 else if m < 1 ∨ Ms.length < m then 2 else 0 := by
    unfold km_mth
    rw [b1, b2, b4]
    cases son <;> cases sop <;> simp
  refine ks_mono (c_Model_back l D K a0 a1 a2 a3 a4 a5 a6 a7 a8 a9 a10 a11 a12 a13 TO PL KS VS MV Y LI MY TR KY VY FK FV rn us kn vn fkn fvn mq off opn fnd wh af th m hn hL1 (fun s hs => (hL2 s hs).1)) (fun v x h => ?_)
  rw [em] at h
  by_cases c1 : son = false ∨ sop = false
  · rw [if_pos c1] at h
    rcases h with ⟨c, rfl, rfl⟩ | ⟨c, rfl, rfl⟩
    · have e : kz_aBack m (((A, L, Ms), (key, val, fd), (son, sop), (sw, sk))) = (1, 0, ((A, L, Ms), (key, val, fd), (son, sop), (sw, sk))) := by simp only [kz_aBack]; rw [if_pos c1]
      rw [e]
      exact ⟨(((TO, PL), (KS, VS), (MV, Y), LI, (rn, us)), (MY, TR), ((KY, kn), (VY, vn), (FK, fkn), (FV, fvn)), mq, (off, opn, fnd), (wh, af, 1)), rfl, rfl, hh, rfl⟩
    · exact absurd c (by decide)
  · rw [if_neg c1] at h
    by_cases c2 : m < 1 ∨ Ms.length < m
    · rw [if_pos c2] at h
      rcases h with ⟨c, rfl, rfl⟩ | ⟨c, rfl, rfl⟩
      · have e : kz_aBack m (((A, L, Ms), (key, val, fd), (son, sop), (sw, sk))) = (2, 0, ((A, L, Ms), (key, val, fd), (son, sop), (sw, sk))) := by simp only [kz_aBack]; rw [if_neg c1, if_pos c2]
        rw [e]
        exact ⟨(((TO, PL), (KS, VS), (MV, Y), LI, (rn, us)), (MY, TR), ((KY, kn), (VY, vn), (FK, fkn), (FV, fvn)), mq, (off, opn, fnd), (wh, af, 2)), rfl, rfl, hh, rfl⟩
      · exact absurd c (by decide)
    · rw [if_neg c2] at h
      rcases h with ⟨c, rfl, rfl⟩ | ⟨c, rfl, rfl⟩
      · exact absurd rfl c
      · obtain ⟨a9, ha⟩ : ∃ a, Ms[m - 1]? = some a := ⟨_, List.getElem?_eq_getElem (by omega)⟩
        have ha2 : (A :: L :: Ms)[1 + m]? = some a9 := by rw [show 1 + m = (m - 1) + 1 + 1 by omega, List.getElem?_cons_succ, List.getElem?_cons_succ]; exact ha
        have hp := kq_M_take (m + 2) (kq_M_copy (a := 1 + m) (b := 0) hM ha2 (by simp))
        have e : kz_aBack m (((A, L, Ms), (key, val, fd), (son, sop), (sw, sk))) = (0, 0, ((a9, L, Ms.take m), (key, val, fd), (son, sop), (sw, sk))) := by simp only [kz_aBack]; rw [if_neg c1, if_neg c2, ha]; rfl
        rw [e]
        exact ⟨(((TO, PL), (KS, VS), (MV, Y), (va_cpy LI LI (2900 * (1 + m)) (2900 * 0) (MY (1 + m))), (rn, us)), ((va_up MY 0 (MY (1 + m))), (va_up TR 0 (TR (1 + m)))), ((KY, kn), (VY, vn), (FK, fkn), (FV, fvn)), m, (off, opn, fnd), (wh, af, 0)), rfl, rfl, ⟨⟨r1, r2, r3, r4, r5, r6⟩, ⟨b1, b2, b3, by rw [List.length_take]; omega, b5, b6⟩, hp, ⟨w1, w2, w3⟩⟩, rfl⟩
set_option maxRecDepth 100000 in
set_option maxHeartbeats 4000000 in
theorem g_Model_keep (l : Launch) (D : va_G) (K : Nat → ClassId) (a0 a1 a2 a3 a4 a5 a6 a7 a8 a9 a10 a11 a12 a13 : Nat) (e : kz_E) (s : kz_S) (m : Nat) (h : kz_N e s) (hn : m < 4294967296) : ks_M l D (ks_T K) (ks_R 1) y_Model_keep b_Model_keep 2 none [.ref a0, .int (nI m)] (kz_V K a0 a1 a2 a3 a4 a5 a6 a7 a8 a9 a10 a11 a12 a13 e) (kz_QV K a0 a1 a2 a3 a4 a5 a6 a7 a8 a9 a10 a11 a12 a13 (kz_aKeep m s)) := by
  obtain ⟨⟨⟨TO, PL⟩, ⟨KS, VS⟩, ⟨MV, Y⟩, LI, rn, us⟩, ⟨MY, TR⟩, ⟨⟨KY, kn⟩, ⟨VY, vn⟩, ⟨FK, fkn⟩, FV, fvn⟩, mq, ⟨off, opn, fnd⟩, wh, af, th⟩ := e
  obtain ⟨⟨A, L, Ms⟩, ⟨key, val, fd⟩, ⟨son, sop⟩, ⟨sw, sk⟩⟩ := s
  have hh := h
  obtain ⟨⟨r1, r2, r3, r4, r5, r6⟩, ⟨b1, b2, b3, b4, b5, b6⟩, hM, ⟨w1, w2, w3⟩⟩ := h
  obtain ⟨hL1, hL2, hL3, hL4⟩ := zN_lists hM b4
  obtain ⟨hS0, hok0⟩ := zN_now hM
  have hg := kq_g hM.1 hS0 hok0
  have em : km_mth off opn mq m = if son = false ∨ sop = false then 1 else if m < 1 ∨ Ms.length < m then 2 else 0 := by
    unfold km_mth
    rw [b1, b2, b4]
    cases son <;> cases sop <;> simp
  refine ks_mono (c_Model_keep l D K a0 a1 a2 a3 a4 a5 a6 a7 a8 a9 a10 a11 a12 a13 TO PL KS VS MV Y LI MY TR KY VY FK FV rn us kn vn fkn fvn mq off opn fnd wh af th m hn hL1) (fun v x h => ?_)
  rw [em] at h
  by_cases c1 : son = false ∨ sop = false
  · rw [if_pos c1] at h
    rcases h with ⟨c, rfl, rfl⟩ | ⟨c, rfl, rfl⟩
    · have e : kz_aKeep m (((A, L, Ms), (key, val, fd), (son, sop), (sw, sk))) = (1, 0, ((A, L, Ms), (key, val, fd), (son, sop), (sw, sk))) := by simp only [kz_aKeep]; rw [if_pos c1]
      rw [e]
      exact ⟨(((TO, PL), (KS, VS), (MV, Y), LI, (rn, us)), (MY, TR), ((KY, kn), (VY, vn), (FK, fkn), (FV, fvn)), mq, (off, opn, fnd), (wh, af, 1)), rfl, rfl, hh, rfl⟩
    · exact absurd c (by decide)
  · rw [if_neg c1] at h
    by_cases c2 : m < 1 ∨ Ms.length < m
    · rw [if_pos c2] at h
      rcases h with ⟨c, rfl, rfl⟩ | ⟨c, rfl, rfl⟩
      · have e : kz_aKeep m (((A, L, Ms), (key, val, fd), (son, sop), (sw, sk))) = (2, 0, ((A, L, Ms), (key, val, fd), (son, sop), (sw, sk))) := by simp only [kz_aKeep]; rw [if_neg c1, if_pos c2]
        rw [e]
        exact ⟨(((TO, PL), (KS, VS), (MV, Y), LI, (rn, us)), (MY, TR), ((KY, kn), (VY, vn), (FK, fkn), (FV, fvn)), mq, (off, opn, fnd), (wh, af, 2)), rfl, rfl, hh, rfl⟩
      · exact absurd c (by decide)
    · rw [if_neg c2] at h
      rcases h with ⟨c, rfl, rfl⟩ | ⟨c, rfl, rfl⟩
      · exact absurd rfl c
      · have hp := kq_M_take (m - 1 + 2) hM
        have e : kz_aKeep m (((A, L, Ms), (key, val, fd), (son, sop), (sw, sk))) = (0, 0, ((A, L, Ms.take (m - 1)), (key, val, fd), (son, sop), (sw, sk))) := by simp only [kz_aKeep]; rw [if_neg c1, if_neg c2]
        rw [e]
        exact ⟨(((TO, PL), (KS, VS), (MV, Y), LI, (rn, us)), (MY, TR), ((KY, kn), (VY, vn), (FK, fkn), (FV, fvn)), (m - 1), (off, opn, fnd), (wh, af, 0)), rfl, rfl, ⟨⟨r1, r2, r3, r4, r5, r6⟩, ⟨b1, b2, b3, by rw [List.length_take]; omega, b5, b6⟩, hp, ⟨w1, w2, w3⟩⟩, rfl⟩
set_option maxRecDepth 100000 in
set_option maxHeartbeats 4000000 in
theorem g_Model_power (l : Launch) (D : va_G) (K : Nat → ClassId) (a0 a1 a2 a3 a4 a5 a6 a7 a8 a9 a10 a11 a12 a13 : Nat) (e : kz_E) (s : kz_S) (w k b : Nat) (h : kz_N e s) (hw : w < 4294967296) (hk : k < 4294967296) (hb : b < 4294967296) : ks_M l D (ks_T K) (ks_R 0) y_Model_power b_Model_power 4 none [.ref a0, .int (nI w), .int (nI k), .int (nI b)] (kz_V K a0 a1 a2 a3 a4 a5 a6 a7 a8 a9 a10 a11 a12 a13 e) (kz_QV K a0 a1 a2 a3 a4 a5 a6 a7 a8 a9 a10 a11 a12 a13 (kz_aPower w k b s)) := by
  obtain ⟨⟨⟨TO, PL⟩, ⟨KS, VS⟩, ⟨MV, Y⟩, LI, rn, us⟩, ⟨MY, TR⟩, ⟨⟨KY, kn⟩, ⟨VY, vn⟩, ⟨FK, fkn⟩, FV, fvn⟩, mq, ⟨off, opn, fnd⟩, wh, af, th⟩ := e
  obtain ⟨⟨A, L, Ms⟩, ⟨key, val, fd⟩, ⟨son, sop⟩, ⟨sw, sk⟩⟩ := s
  have hh := h
  obtain ⟨⟨r1, r2, r3, r4, r5, r6⟩, ⟨b1, b2, b3, b4, b5, b6⟩, hM, ⟨w1, w2, w3⟩⟩ := h
  obtain ⟨hL1, hL2, hL3, hL4⟩ := zN_lists hM b4
  obtain ⟨hS0, hok0⟩ := zN_now hM
  have hg := kq_g hM.1 hS0 hok0
  refine ks_mono (c_Model_power l D K a0 a1 a2 a3 a4 a5 a6 a7 a8 a9 a10 a11 a12 a13 TO PL KS VS MV Y LI MY TR KY VY FK FV rn us kn vn fkn fvn mq off opn fnd wh af th w k b hw hk hb) (fun v x h => ?_)
  rcases h with ⟨c, rfl, rfl⟩ | ⟨c, rfl, rfl⟩
  · have e : kz_aPower w k b (((A, L, Ms), (key, val, fd), (son, sop), (sw, sk))) = (1, 0, ((A, L, Ms), (key, val, fd), (son, sop), (sw, sk))) := by simp only [kz_aPower]; rw [if_pos c]
    rw [e]
    exact ⟨(((TO, PL), (KS, VS), (MV, Y), LI, (rn, us)), (MY, TR), ((KY, kn), (VY, vn), (FK, fkn), (FV, fvn)), mq, (off, opn, fnd), (wh, af, 1)), rfl, rfl, hh, rfl⟩
  · have e : kz_aPower w k b (((A, L, Ms), (key, val, fd), (son, sop), (sw, sk))) = (0, 0, ((A, L, Ms), (key, val, fd), (son, sop), (w, k))) := by simp only [kz_aPower]; rw [if_neg (by omega)]
    rw [e]
    exact ⟨(((TO, PL), (KS, VS), (MV, Y), LI, (rn, us)), (MY, TR), ((KY, kn), (VY, vn), (FK, fkn), (FV, fvn)), mq, (off, opn, fnd), (w, k, 0)), rfl, rfl, ⟨⟨r1, r2, r3, r4, c.1, c.2.1⟩, ⟨b1, b2, b3, b4, rfl, rfl⟩, hM, ⟨w1, w2, w3⟩⟩, rfl⟩
set_option maxRecDepth 100000 in
set_option maxHeartbeats 4000000 in
theorem g_Model_reopen (l : Launch) (D : va_G) (K : Nat → ClassId) (a0 a1 a2 a3 a4 a5 a6 a7 a8 a9 a10 a11 a12 a13 : Nat) (e : kz_E) (s : kz_S)  (h : kz_N e s) : ks_M l D (ks_T K) (ks_R 2) y_Model_reopen b_Model_reopen 2 (some .int) [.ref a0] (kz_V K a0 a1 a2 a3 a4 a5 a6 a7 a8 a9 a10 a11 a12 a13 e) (kz_Q K a0 a1 a2 a3 a4 a5 a6 a7 a8 a9 a10 a11 a12 a13 (kz_aReopen s)) := by
  obtain ⟨⟨⟨TO, PL⟩, ⟨KS, VS⟩, ⟨MV, Y⟩, LI, rn, us⟩, ⟨MY, TR⟩, ⟨⟨KY, kn⟩, ⟨VY, vn⟩, ⟨FK, fkn⟩, FV, fvn⟩, mq, ⟨off, opn, fnd⟩, wh, af, th⟩ := e
  obtain ⟨⟨A, L, Ms⟩, ⟨key, val, fd⟩, ⟨son, sop⟩, ⟨sw, sk⟩⟩ := s
  have hh := h
  obtain ⟨⟨r1, r2, r3, r4, r5, r6⟩, ⟨b1, b2, b3, b4, b5, b6⟩, hM, ⟨w1, w2, w3⟩⟩ := h
  obtain ⟨hL1, hL2, hL3, hL4⟩ := zN_lists hM b4
  obtain ⟨hS0, hok0⟩ := zN_now hM
  have hg := kq_g hM.1 hS0 hok0
  have hSL := hM.2.2 1 L rfl
  have ec := kq_count hSL.1.2.1
  refine ks_mono (c_Model_reopen l D K a0 a1 a2 a3 a4 a5 a6 a7 a8 a9 a10 a11 a12 a13 TO PL KS VS MV Y LI MY TR KY VY FK FV rn us kn vn fkn fvn mq off opn fnd wh af th hL4 r5) (fun v x h => ?_)
  rcases h with ⟨c, rfl, rfl⟩ | ⟨c, rfl, rfl⟩
  · have c1 : sw = 3 := by omega
    have e : kz_aReopen (((A, L, Ms), (key, val, fd), (son, sop), (sw, sk))) = (1, 0, ((L, L, []), ([], [], none), (false, false), (4, sk))) := by simp only [kz_aReopen]; rw [if_pos c1]
    rw [e]
    exact ⟨(((TO, PL), (KS, VS), (MV, Y), (va_cpy LI LI (2900 * 1) (2900 * 0) (MY 1)), (rn, us)), ((va_up MY 0 (MY 1)), (va_up TR 0 (TR 1))), ((KY, 0), (VY, 0), (FK, fkn), (FV, fvn)), 0, (true, false, false), (4, af, 1)), _, rfl, rfl, ⟨⟨Nat.zero_le _, Nat.zero_le _, r3, r4, by omega, r6⟩, ⟨rfl, rfl, rfl, rfl, rfl, b6⟩, kq_M_take 2 (kq_M_copy (a := 1) (b := 0) hM rfl (by simp)), ⟨kp_row_nil _, kp_row_nil _, trivial⟩⟩, rfl, fun z => absurd z (Nat.succ_ne_zero _)⟩
  · have c1 : ¬ sw = 3 := by omega
    have e : kz_aReopen (((A, L, Ms), (key, val, fd), (son, sop), (sw, sk))) = (0, kp_cntA L, ((L, L, []), ([], [], none), (true, false), (4, sk))) := by simp only [kz_aReopen]; rw [if_neg c1]
    rw [e]
    exact ⟨(((TO, PL), (KS, VS), (MV, Y), (va_cpy LI LI (2900 * 1) (2900 * 0) (MY 1)), (rn, us)), ((va_up MY 0 (MY 1)), (va_up TR 0 (TR 1))), ((KY, 0), (VY, 0), (FK, fkn), (FV, fvn)), 0, (false, false, false), (4, af, 0)), _, rfl, rfl, ⟨⟨Nat.zero_le _, Nat.zero_le _, r3, r4, by omega, r6⟩, ⟨rfl, rfl, rfl, rfl, rfl, b6⟩, kq_M_take 2 (kq_M_copy (a := 1) (b := 0) hM rfl (by simp)), ⟨kp_row_nil _, kp_row_nil _, trivial⟩⟩, rfl, fun _ => by rw [ec]⟩
set_option maxRecDepth 100000 in
set_option maxHeartbeats 4000000 in
theorem g_Model_told (l : Launch) (D : va_G) (K : Nat → ClassId) (a0 a1 a2 a3 a4 a5 a6 a7 a8 a9 a10 a11 a12 a13 : Nat) (e : kz_E) (s : kz_S) (w : Nat) (h : kz_N e s) (hn : w < 4294967296) : ks_M l D (ks_T K) (ks_R 2) y_Model_told b_Model_told 2 (some .int) [.ref a0, .int (nI w)] (kz_V K a0 a1 a2 a3 a4 a5 a6 a7 a8 a9 a10 a11 a12 a13 e) (kz_Q K a0 a1 a2 a3 a4 a5 a6 a7 a8 a9 a10 a11 a12 a13 (kz_aTold w s)) := by
  obtain ⟨⟨⟨TO, PL⟩, ⟨KS, VS⟩, ⟨MV, Y⟩, LI, rn, us⟩, ⟨MY, TR⟩, ⟨⟨KY, kn⟩, ⟨VY, vn⟩, ⟨FK, fkn⟩, FV, fvn⟩, mq, ⟨off, opn, fnd⟩, wh, af, th⟩ := e
  obtain ⟨⟨A, L, Ms⟩, ⟨key, val, fd⟩, ⟨son, sop⟩, ⟨sw, sk⟩⟩ := s
  have hh := h
  obtain ⟨⟨r1, r2, r3, r4, r5, r6⟩, ⟨b1, b2, b3, b4, b5, b6⟩, hM, ⟨w1, w2, w3⟩⟩ := h
  obtain ⟨hL1, hL2, hL3, hL4⟩ := zN_lists hM b4
  obtain ⟨hS0, hok0⟩ := zN_now hM
  have hg := kq_g hM.1 hS0 hok0
  refine ks_mono (c_Model_told l D K a0 a1 a2 a3 a4 a5 a6 a7 a8 a9 a10 a11 a12 a13 TO PL KS VS MV Y LI MY TR KY VY FK FV rn us kn vn fkn fvn mq off opn fnd wh af th w hn hg) (fun v x h => ?_)
  obtain ⟨rfl, rfl⟩ := h
  have esz : km_size LI KS VS (MY 0) = kp_sizeA A := kq_size hS0
  have ecn := kq_count hS0.2.1
  by_cases c1 : w = 9 ∨ 73 < w
  · have e : kz_aTold w (((A, L, Ms), (key, val, fd), (son, sop), (sw, sk))) = (1, 0, ((A, L, Ms), (key, val, fd), (son, sop), (sw, sk))) := by simp only [kz_aTold]; rw [if_pos c1]
    rw [e, if_pos c1]
    exact ⟨(((TO, PL), (KS, VS), (MV, Y), LI, (rn, us)), (MY, TR), ((KY, kn), (VY, vn), (FK, fkn), (FV, fvn)), mq, (off, opn, fnd), (wh, af, 1)), _, rfl, rfl, hh, rfl, fun z => absurd z (Nat.succ_ne_zero _)⟩
  · rw [if_neg c1]
    have e : (kz_aTold w (((A, L, Ms), (key, val, fd), (son, sop), (sw, sk)))).1 = 0 ∧ (kz_aTold w (((A, L, Ms), (key, val, fd), (son, sop), (sw, sk)))).2.2 = ((A, L, Ms), (key, val, fd), (son, sop), (sw, sk)) := by simp only [kz_aTold]; rw [if_neg c1]; exact ⟨rfl, rfl⟩
    refine ⟨(((TO, PL), (KS, VS), (MV, Y), LI, (rn, us)), (MY, TR), ((KY, kn), (VY, vn), (FK, fkn), (FV, fvn)), mq, (off, opn, fnd), (wh, af, 0)), _, rfl, rfl, by rw [e.2]; exact hh, by rw [e.1]; rfl, fun _ => ?_⟩
    congr 1
    unfold km_told
    simp only [kz_aTold]
    rw [if_neg c1, if_neg c1, b1, b2, b3, b4, esz, ecn]
    cases son with
    | false => by_cases c2 : w = 0 <;> simp [c2]
    | true =>
      by_cases c2 : 10 ≤ w
      · have ht : w - 10 < 64 := by omega
        have ea := zN_tree hM ht
        have ee : km_ents LI TO (w - 10) (MY 0) = (kq_l (A (w - 10))).length := kq_ents hS0 ht
        have q0 : w ≠ 0 ∧ w ≠ 1 ∧ w ≠ 2 ∧ w ≠ 3 ∧ w ≠ 4 ∧ w ≠ 5 ∧ w ≠ 6 ∧ w ≠ 7 ∧ w ≠ 8 := by omega
        obtain ⟨q0, q1, q2, q3, q4, q5, q6, q7, q8⟩ := q0
        simp only [q0, q1, q2, q3, q4, q5, q6, q7, q8, c2, ea, ee, Bool.not_true, Bool.false_eq_true, Bool.true_eq_false, if_false, if_true]
        cases A (w - 10) <;> simp [kq_l]
      · have e1 := w1.1
        have e2 := w2.1
        rcases (by omega : w = 0 ∨ w = 1 ∨ w = 2 ∨ w = 3 ∨ w = 4 ∨ w = 5 ∨ w = 6 ∨ w = 7 ∨ w = 8) with rfl | rfl | rfl | rfl | rfl | rfl | rfl | rfl | rfl
        · simp
        · cases sop <;> simp [kz_b]
        · simp
        · simp
        · simp
        · simp [e1]
        · simp [e2]
        · cases fd with
          | none => simp
          | some e9 => simp [w3.1.1]
        · cases fd with
          | none => simp
          | some e9 => simp [w3.2.1]
set_option maxRecDepth 100000 in
set_option maxHeartbeats 4000000 in
theorem g_Model_check (l : Launch) (D : va_G) (K : Nat → ClassId) (a0 a1 a2 a3 a4 a5 a6 a7 a8 a9 a10 a11 a12 a13 : Nat) (e : kz_E) (s : kz_S)  (h : kz_N e s) : ks_M l D (ks_T K) (ks_R 0) y_Model_check b_Model_check 1 (some .int) [.ref a0] (kz_V K a0 a1 a2 a3 a4 a5 a6 a7 a8 a9 a10 a11 a12 a13 e) (kz_Q K a0 a1 a2 a3 a4 a5 a6 a7 a8 a9 a10 a11 a12 a13 (kz_aCheck s)) := by
  obtain ⟨⟨⟨TO, PL⟩, ⟨KS, VS⟩, ⟨MV, Y⟩, LI, rn, us⟩, ⟨MY, TR⟩, ⟨⟨KY, kn⟩, ⟨VY, vn⟩, ⟨FK, fkn⟩, FV, fvn⟩, mq, ⟨off, opn, fnd⟩, wh, af, th⟩ := e
  obtain ⟨⟨A, L, Ms⟩, ⟨key, val, fd⟩, ⟨son, sop⟩, ⟨sw, sk⟩⟩ := s
  have hh := h
  obtain ⟨⟨r1, r2, r3, r4, r5, r6⟩, ⟨b1, b2, b3, b4, b5, b6⟩, hM, ⟨w1, w2, w3⟩⟩ := h
  obtain ⟨hL1, hL2, hL3, hL4⟩ := zN_lists hM b4
  obtain ⟨hS0, hok0⟩ := zN_now hM
  have hg := kq_g hM.1 hS0 hok0
  refine ks_mono (c_Model_check l D K a0 a1 a2 a3 a4 a5 a6 a7 a8 a9 a10 a11 a12 a13 TO PL KS VS MV Y LI MY TR KY VY FK FV rn us kn vn fkn fvn mq off opn fnd wh af th) (fun v x h => ?_)
  obtain ⟨rfl, rfl⟩ := h
  cases son with
  | false =>
    rw [b1]
    exact ⟨(((TO, PL), (KS, VS), (MV, Y), LI, (rn, us)), (MY, TR), ((KY, kn), (VY, vn), (FK, fkn), (FV, fvn)), mq, ((!false), opn, fnd), (wh, af, 1)), _, rfl, rfl, by have q := hh; rw [b1] at q; exact q, rfl, fun z => absurd z (Nat.succ_ne_zero _)⟩
  | true =>
    rw [b1]
    exact ⟨(((TO, PL), (KS, VS), (MV, Y), LI, (rn, us)), (MY, TR), ((KY, kn), (VY, vn), (FK, fkn), (FV, fvn)), mq, ((!true), opn, fnd), (wh, af, 0)), _, rfl, rfl, by have q := hh; rw [b1] at q; exact q, rfl, fun _ => rfl⟩
theorem g_Model_thrown (l : Launch) (D : va_G) (K : Nat → ClassId) (a0 a1 a2 a3 a4 a5 a6 a7 a8 a9 a10 a11 a12 a13 : Nat) (e : kz_E) : ks_M l D (ks_T K) (ks_R 0) y_Model_thrown b_Model_thrown 1 (some .int) [.ref a0] (kz_V K a0 a1 a2 a3 a4 a5 a6 a7 a8 a9 a10 a11 a12 a13 e) (ks_f (some (.int (nI (kz_th e)))) (kz_V K a0 a1 a2 a3 a4 a5 a6 a7 a8 a9 a10 a11 a12 a13 e)) := by
  obtain ⟨⟨⟨TO, PL⟩, ⟨KS, VS⟩, ⟨MV, Y⟩, LI, rn, us⟩, ⟨MY, TR⟩, ⟨⟨KY, kn⟩, ⟨VY, vn⟩, ⟨FK, fkn⟩, FV, fvn⟩, mq, ⟨off, opn, fnd⟩, wh, af, th⟩ := e
  exact c_Model_thrown l D K a0 a1 a2 a3 a4 a5 a6 a7 a8 a9 a10 a11 a12 a13 TO PL KS VS MV Y LI MY TR KY VY FK FV rn us kn vn fkn fvn mq off opn fnd wh af th
