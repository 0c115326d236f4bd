/-! the law's loop: one lemma a call -/
theorem pl_out (V Wd Ot : va_W) : (V ++ (Wd ++ Ot)).Perm (Ot ++ (V ++ Wd)) := by rw [← List.append_assoc]; exact List.perm_append_comm
theorem pl_back (Ot V Wd : va_W) : (Ot ++ (V ++ Wd)).Perm ((Wd ++ Ot) ++ V) := by
  refine (List.perm_append_comm).trans ?_
  rw [List.append_assoc]
  exact (List.perm_append_comm).trans (by rw [List.append_assoc])
theorem sb_ofNat (n : Nat) : (nI n).toInt8.toInt32 = sb_b (UInt8.ofNat n).toNat := by
  rw [ks_sbi, show (UInt8.ofNat n).toNat = n % 256 from rfl]
  refine (ks_sbi n).trans (congrArg Int8.toInt32 ?_)
  apply Int8.toBitVec_inj.mp
  rw [Int8.toBitVec_ofNat', Int8.toBitVec_ofNat']
  exact BitVec.eq_of_toNat_eq (by simp)
theorem kl_0 {n : Nat} (h : n ≤ 3) (z : nI n = 0) : n = 0 := by
  rcases (by omega : n = 0 ∨ n = 1 ∨ n = 2 ∨ n = 3) with rfl | rfl | rfl | rfl
  · rfl
  · exact absurd z (by decide)
  · exact absurd z (by decide)
  · exact absurd z (by decide)
theorem kl_1 {n : Nat} (h : n ≤ 1) (z : n ≠ 0) : (nI n).toInt64 = 1 := by
  have : n = 1 := by omega
  subst this; rfl
theorem zC_ok {d : kz_D} {s : kz_S} (h : kz_C d s) (ho : s.2.2.1.1 = true) : kp_okA s.1.1 := by
  obtain ⟨⟨fnd, on, opn⟩, ⟨⟨Kb, kl⟩, ⟨Vb, vl⟩, ⟨Gb, gl⟩, ⟨Eb, el⟩⟩, ⟨F, J, Rc, jl, fw, fk, fb⟩, ⟨B, G⟩, ⟨S0, S1, S2, S3, S4, cnt⟩, ⟨pg, ca⟩, P, ⟨pn, ps, top⟩, ⟨Cl, cw, cen, csz⟩, ⟨Lr, ll⟩⟩ := d
  obtain ⟨⟨A, L, Ms⟩, ⟨key, val, fd⟩, ⟨son, sop⟩, ⟨sw, sk⟩⟩ := s
  obtain ⟨-, -, -, -, nn, -⟩ := h
  exact (kp_numsA (nn ho).2.2.1.1).2.2
theorem kl_ckey {w : Int64} {n : Nat} (s : kz_S) : (kz_aKey w n s).1 ≤ 3 := by
  obtain ⟨⟨A, L, Ms⟩, ⟨key, val, fd⟩, ⟨son, sop⟩, ⟨sw, sk⟩⟩ := s
  simp only [kz_aKey]
  repeat' split
  all_goals simp
theorem kl_cvalue {w : Int64} {n : Nat} (s : kz_S) : (kz_aVal w n s).1 ≤ 3 := by
  obtain ⟨⟨A, L, Ms⟩, ⟨key, val, fd⟩, ⟨son, sop⟩, ⟨sw, sk⟩⟩ := s
  simp only [kz_aVal]
  repeat' split
  all_goals simp
theorem kl_ctree (s : kz_S) : (kz_aTree  s).1 ≤ 3 := by
  obtain ⟨⟨A, L, Ms⟩, ⟨key, val, fd⟩, ⟨son, sop⟩, ⟨sw, sk⟩⟩ := s
  simp only [kz_aTree]
  repeat' split
  all_goals simp
theorem kl_otree (s : kz_S) : (kz_aTree  s).1 = 0 → (kz_aTree  s).2.2.2.2.1.1 = true := by
  obtain ⟨⟨A, L, Ms⟩, ⟨key, val, fd⟩, ⟨son, sop⟩, ⟨sw, sk⟩⟩ := s
  simp only [kz_aTree]
  cases son
  · simp
  · repeat' split
    all_goals simp
theorem kl_cdrop {t : Nat} (s : kz_S) : (kz_aDrop t s).1 ≤ 3 := by
  obtain ⟨⟨A, L, Ms⟩, ⟨key, val, fd⟩, ⟨son, sop⟩, ⟨sw, sk⟩⟩ := s
  simp only [kz_aDrop]
  repeat' split
  all_goals simp
theorem kl_odrop {t : Nat} (s : kz_S) : (kz_aDrop t s).1 = 0 → (kz_aDrop t s).2.2.2.2.1.1 = true := by
  obtain ⟨⟨A, L, Ms⟩, ⟨key, val, fd⟩, ⟨son, sop⟩, ⟨sw, sk⟩⟩ := s
  simp only [kz_aDrop]
  cases son
  · simp
  · repeat' split
    all_goals simp
theorem kl_cput {t : Nat} (s : kz_S) : (kz_aPut t s).1 ≤ 3 := by
  obtain ⟨⟨A, L, Ms⟩, ⟨key, val, fd⟩, ⟨son, sop⟩, ⟨sw, sk⟩⟩ := s
  simp only [kz_aPut]
  repeat' split
  all_goals simp
theorem kl_oput {t : Nat} (s : kz_S) : (kz_aPut t s).1 = 0 → (kz_aPut t s).2.2.2.2.1.1 = true := by
  obtain ⟨⟨A, L, Ms⟩, ⟨key, val, fd⟩, ⟨son, sop⟩, ⟨sw, sk⟩⟩ := s
  simp only [kz_aPut]
  cases son
  · simp
  · repeat' split
    all_goals simp
theorem kl_bput {t : Nat} (s : kz_S) : (kz_aPut t s).2.1 ≤ 1 := by
  obtain ⟨⟨A, L, Ms⟩, ⟨key, val, fd⟩, ⟨son, sop⟩, ⟨sw, sk⟩⟩ := s
  simp only [kz_aPut]
  repeat' split
  all_goals (try simp)
  all_goals (unfold kz_b; split <;> simp)
theorem kl_cremove {t : Nat} (s : kz_S) : (kz_aRemove t s).1 ≤ 3 := by
  obtain ⟨⟨A, L, Ms⟩, ⟨key, val, fd⟩, ⟨son, sop⟩, ⟨sw, sk⟩⟩ := s
  simp only [kz_aRemove]
  repeat' split
  all_goals simp
theorem kl_bremove {t : Nat} (s : kz_S) : (kz_aRemove t s).2.1 ≤ 1 := by
  obtain ⟨⟨A, L, Ms⟩, ⟨key, val, fd⟩, ⟨son, sop⟩, ⟨sw, sk⟩⟩ := s
  simp only [kz_aRemove]
  repeat' split
  all_goals (try simp)
  all_goals (unfold kz_b; split <;> simp)
theorem kl_cseek {t : Nat} {a : Bool} (s : kz_S) : (kz_aSeek t a s).1 ≤ 3 := by
  obtain ⟨⟨A, L, Ms⟩, ⟨key, val, fd⟩, ⟨son, sop⟩, ⟨sw, sk⟩⟩ := s
  simp only [kz_aSeek]
  repeat' split
  all_goals simp
theorem kl_bseek {t : Nat} {a : Bool} (s : kz_S) : (kz_aSeek t a s).2.1 ≤ 1 := by
  obtain ⟨⟨A, L, Ms⟩, ⟨key, val, fd⟩, ⟨son, sop⟩, ⟨sw, sk⟩⟩ := s
  simp only [kz_aSeek]
  repeat' split
  all_goals (try simp)
  all_goals (unfold kz_b; split <;> simp)
theorem kl_ctake (s : kz_S) : (kz_aTake  s).1 ≤ 3 := by
  obtain ⟨⟨A, L, Ms⟩, ⟨key, val, fd⟩, ⟨son, sop⟩, ⟨sw, sk⟩⟩ := s
  simp only [kz_aTake]
  repeat' split
  all_goals simp
theorem kl_cfound {a b : Nat} (s : kz_S) : (kz_aFound a b s).1 ≤ 3 := by
  obtain ⟨⟨A, L, Ms⟩, ⟨key, val, fd⟩, ⟨son, sop⟩, ⟨sw, sk⟩⟩ := s
  simp only [kz_aFound]
  repeat' split
  all_goals simp
theorem kl_cmark (s : kz_S) : (kz_aMark  s).1 ≤ 3 := by
  obtain ⟨⟨A, L, Ms⟩, ⟨key, val, fd⟩, ⟨son, sop⟩, ⟨sw, sk⟩⟩ := s
  simp only [kz_aMark]
  repeat' split
  all_goals simp
theorem kl_creopen (s : kz_S) : (kz_aReopen  s).1 ≤ 3 := by
  obtain ⟨⟨A, L, Ms⟩, ⟨key, val, fd⟩, ⟨son, sop⟩, ⟨sw, sk⟩⟩ := s
  simp only [kz_aReopen]
  repeat' split
  all_goals simp
theorem kl_ctold {w : Nat} (s : kz_S) : (kz_aTold w s).1 ≤ 3 := by
  obtain ⟨⟨A, L, Ms⟩, ⟨key, val, fd⟩, ⟨son, sop⟩, ⟨sw, sk⟩⟩ := s
  simp only [kz_aTold]
  repeat' split
  all_goals simp
theorem kl_ccheck (s : kz_S) : (kz_aCheck  s).1 ≤ 3 := by
  obtain ⟨⟨A, L, Ms⟩, ⟨key, val, fd⟩, ⟨son, sop⟩, ⟨sw, sk⟩⟩ := s
  simp only [kz_aCheck]
  repeat' split
  all_goals simp
theorem kl_cfillK {n : Nat} {c : UInt8} (s : kz_S) : (kz_aFillK n c s).1 ≤ 3 := by
  obtain ⟨⟨A, L, Ms⟩, ⟨key, val, fd⟩, ⟨son, sop⟩, ⟨sw, sk⟩⟩ := s
  simp only [kz_aFillK]
  repeat' split
  all_goals simp
theorem kl_cfillV {n : Nat} {c : UInt8} (s : kz_S) : (kz_aFillV n c s).1 ≤ 3 := by
  obtain ⟨⟨A, L, Ms⟩, ⟨key, val, fd⟩, ⟨son, sop⟩, ⟨sw, sk⟩⟩ := s
  simp only [kz_aFillV]
  repeat' split
  all_goals simp
