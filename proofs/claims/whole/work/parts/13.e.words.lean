/-! the words of the throws, by their places -/
def kt_n2 : List String := ["java/lang/RuntimeException", "java/lang/Exception"]
def kt_at (k i : Nat) : Option Cond := match k with
  | 1 => tables_1_1[i]?
  | 2 => tables_1_2[i]?
  | 3 => tables_1_3[i]?
  | 4 => tables_1_4[i]?
  | 99 => kt_sp[i]?
  | _ => none
theorem kt_at_in {k i : Nat} {w : Cond} (h : kt_at k i = some w) : w ∈ lw_tbl ∨ w ∈ kt_sp := by
  unfold kt_at at h
  split at h
  · exact Or.inl (tb_1 w (List.mem_of_getElem? h))
  · exact Or.inl (tb_2 w (List.mem_of_getElem? h))
  · exact Or.inl (tb_3 w (List.mem_of_getElem? h))
  · exact Or.inl (tb_4 w (List.mem_of_getElem? h))
  · exact Or.inr (List.mem_of_getElem? h)
  · cases h
theorem kt_grp {L : List Cond} (ps : List (Nat × Nat)) (hp : L = ps.filterMap (fun q => kt_at q.1 q.2)) (hk : L.all (fun w => kt_ok w || decide (w ∈ kt_sp)) = true) : ∀ w ∈ L, (w ∈ lw_tbl ∧ kt_ok w = true) ∨ w ∈ kt_sp := by
  intro w hw
  have h1 := List.all_eq_true.mp hk w hw
  rw [hp] at hw
  obtain ⟨q, -, hq⟩ := List.mem_filterMap.mp hw
  rcases kt_at_in hq with h | h
  · rcases Bool.or_eq_true_iff.mp h1 with h2 | h2
    · exact Or.inl ⟨h, h2⟩
    · exact Or.inr (of_decide_eq_true h2)
  · exact Or.inr h
theorem kt_site {a b s : Cond} {L : List Cond} (h : ∀ w ∈ a :: b :: L, (w ∈ lw_tbl ∧ kt_ok w = true) ∨ w ∈ kt_sp) (hs : (s ∈ lw_tbl ∧ kt_ok s = true) ∨ s ∈ kt_sp) : ∀ w ∈ a :: b :: s :: L, (w ∈ lw_tbl ∧ kt_ok w = true) ∨ w ∈ kt_sp := by
  intro w hw
  simp only [List.mem_cons] at hw
  rcases hw with rfl | rfl | rfl | hw
  · exact h _ List.mem_cons_self
  · exact h _ (List.mem_cons_of_mem _ List.mem_cons_self)
  · exact hs
  · exact h _ (List.mem_cons_of_mem _ (List.mem_cons_of_mem _ hw))
set_option maxRecDepth 100000 in
set_option maxHeartbeats 4000000 in
theorem kt_wIAE : ∀ w ∈ Cond.classLink "KeyStore" 90 "java/lang/IllegalArgumentException" :: Cond.initialized "java/lang/IllegalArgumentException" :: Bundle.ownAtoms "KeyStore" 94 "java/lang/IllegalArgumentException" kt_n2, (w ∈ lw_tbl ∧ kt_ok w = true) ∨ w ∈ kt_sp := kt_grp [(2, 9), (1, 14), (1, 11), (2, 31), (2, 40), (2, 46), (2, 49), (2, 51), (2, 32), (2, 33), (1, 27), (1, 28), (2, 34), (2, 39), (2, 47), (2, 67), (2, 21), (2, 68), (2, 23), (2, 69), (2, 25), (2, 35), (99, 0), (2, 37), (99, 1), (2, 27), (2, 63), (2, 64), (2, 66), (2, 27), (2, 54), (2, 55), (2, 56), (2, 57), (2, 13), (2, 57), (2, 58), (2, 59), (2, 60), (2, 15), (2, 60), (2, 61), (2, 62), (2, 63), (2, 17), (2, 53), (2, 10), (2, 11), (2, 18), (2, 19), (2, 20), (2, 22), (2, 24), (2, 26), (99, 2), (99, 3), (2, 30), (2, 29), (2, 28)] rfl (by decide +kernel)
set_option maxRecDepth 100000 in
set_option maxHeartbeats 4000000 in
theorem kt_wISE : ∀ w ∈ Cond.classLink "KeyStore" 115 "java/lang/IllegalStateException" :: Cond.initialized "java/lang/IllegalStateException" :: Bundle.ownAtoms "KeyStore" 119 "java/lang/IllegalStateException" kt_n2, (w ∈ lw_tbl ∧ kt_ok w = true) ∨ w ∈ kt_sp := kt_grp [(2, 86), (1, 15), (1, 11), (2, 31), (2, 40), (2, 46), (2, 49), (2, 51), (2, 32), (2, 33), (1, 27), (1, 28), (2, 34), (2, 39), (2, 47), (2, 67), (2, 21), (2, 68), (2, 23), (2, 69), (2, 25), (2, 35), (99, 0), (2, 37), (99, 1), (2, 27), (2, 63), (2, 64), (2, 66), (2, 27), (2, 97), (2, 98), (2, 99), (2, 57), (2, 13), (2, 57), (2, 58), (2, 59), (2, 60), (2, 15), (2, 60), (2, 61), (2, 62), (2, 63), (2, 17), (2, 96), (2, 87), (2, 88), (2, 89), (2, 43), (2, 90), (2, 91), (2, 92), (2, 93), (99, 2), (99, 3), (2, 30), (2, 29), (2, 94)] rfl (by decide +kernel)
set_option maxRecDepth 100000 in
set_option maxHeartbeats 4000000 in
theorem kt_wAE : ∀ w ∈ Cond.classLink "KeyStore" 195 "java/lang/ArithmeticException" :: Cond.initialized "java/lang/ArithmeticException" :: Bundle.ownAtoms "KeyStore" 199 "java/lang/ArithmeticException" kt_n2, (w ∈ lw_tbl ∧ kt_ok w = true) ∨ w ∈ kt_sp := kt_grp [(4, 68), (1, 19), (1, 11), (2, 31), (2, 40), (2, 46), (2, 49), (2, 51), (2, 32), (2, 33), (1, 27), (1, 28), (2, 34), (2, 39), (2, 47), (2, 67), (2, 21), (2, 68), (2, 23), (2, 69), (2, 25), (2, 35), (99, 0), (2, 37), (99, 1), (2, 27), (2, 63), (2, 64), (2, 66), (2, 27), (4, 79), (4, 80), (4, 81), (2, 57), (2, 13), (2, 57), (2, 58), (2, 59), (2, 60), (2, 15), (2, 60), (2, 61), (2, 62), (2, 63), (2, 17), (4, 78), (4, 69), (4, 70), (4, 71), (2, 42), (4, 72), (4, 73), (4, 74), (4, 75), (99, 2), (99, 3), (2, 30), (2, 29), (4, 76)] rfl (by decide +kernel)
set_option maxRecDepth 100000 in
set_option maxHeartbeats 4000000 in
theorem kt_wNSE : ∀ w ∈ Cond.classLink "KeyStore" 264 "java/util/NoSuchElementException" :: Cond.initialized "java/util/NoSuchElementException" :: Bundle.ownAtomsX "KeyStore" 268 "java/util/NoSuchElementException" 13 prog_22_method_4_code kt_n2, (w ∈ lw_tbl ∧ kt_ok w = true) ∨ w ∈ kt_sp := kt_grp [(2, 212), (1, 17), (1, 11), (2, 31), (2, 40), (2, 46), (2, 49), (2, 51), (2, 32), (2, 33), (1, 27), (1, 28), (2, 34), (2, 39), (2, 47), (2, 67), (2, 21), (2, 68), (2, 23), (2, 69), (2, 25), (2, 35), (99, 0), (2, 37), (99, 1), (2, 27), (2, 63), (2, 64), (2, 66), (2, 27), (2, 223), (2, 224), (2, 225), (2, 57), (2, 13), (2, 57), (2, 58), (2, 59), (2, 60), (2, 15), (2, 60), (2, 61), (2, 62), (2, 63), (2, 17), (2, 222), (2, 213), (2, 214), (2, 215), (2, 45), (2, 216), (2, 217), (2, 218), (2, 219), (99, 2), (99, 3), (2, 30), (2, 29), (2, 220)] rfl (by decide +kernel)
set_option maxRecDepth 100000 in
set_option maxHeartbeats 4000000 in
theorem kt_wIOB : ∀ w ∈ Cond.classLink "KeyStore" 271 "java/lang/IndexOutOfBoundsException" :: Cond.initialized "java/lang/IndexOutOfBoundsException" :: Bundle.ownAtoms "KeyStore" 275 "java/lang/IndexOutOfBoundsException" kt_n2, (w ∈ lw_tbl ∧ kt_ok w = true) ∨ w ∈ kt_sp := kt_grp [(4, 135), (1, 20), (1, 11), (2, 31), (2, 40), (2, 46), (2, 49), (2, 51), (2, 32), (2, 33), (1, 27), (1, 28), (2, 34), (2, 39), (2, 47), (2, 67), (2, 21), (2, 68), (2, 23), (2, 69), (2, 25), (2, 35), (99, 0), (2, 37), (99, 1), (2, 27), (2, 63), (2, 64), (2, 66), (2, 27), (4, 146), (4, 147), (4, 148), (2, 57), (2, 13), (2, 57), (2, 58), (2, 59), (2, 60), (2, 15), (2, 60), (2, 61), (2, 62), (2, 63), (2, 17), (4, 145), (4, 136), (4, 137), (4, 138), (2, 44), (4, 139), (4, 140), (4, 141), (4, 142), (99, 2), (99, 3), (2, 30), (2, 29), (4, 143)] rfl (by decide +kernel)
theorem kt_s117 : (Cond.stringRef "KeyStore" 117 "all TREES are there" ∈ lw_tbl ∧ kt_ok (Cond.stringRef "KeyStore" 117 "all TREES are there") = true) ∨ Cond.stringRef "KeyStore" 117 "all TREES are there" ∈ kt_sp := Or.inl ⟨tb_2 _ (List.mem_of_getElem? (i := 163) rfl), rfl⟩
theorem kt_s131 : (Cond.stringRef "KeyStore" 131 "THE KEY is empty" ∈ lw_tbl ∧ kt_ok (Cond.stringRef "KeyStore" 131 "THE KEY is empty") = true) ∨ Cond.stringRef "KeyStore" 131 "THE KEY is empty" ∈ kt_sp := Or.inl ⟨tb_3 _ (List.mem_of_getElem? (i := 43) rfl), rfl⟩
theorem kt_s144 : (Cond.stringRef "KeyStore" 144 "SIZE would be above 36864" ∈ lw_tbl ∧ kt_ok (Cond.stringRef "KeyStore" 144 "SIZE would be above 36864") = true) ∨ Cond.stringRef "KeyStore" 144 "SIZE would be above 36864" ∈ kt_sp := Or.inl ⟨tb_3 _ (List.mem_of_getElem? (i := 80) rfl), rfl⟩
theorem kt_s177 : (Cond.stringRef "KeyStore" 177 "what is not 0 or 1" ∈ lw_tbl ∧ kt_ok (Cond.stringRef "KeyStore" 177 "what is not 0 or 1") = true) ∨ Cond.stringRef "KeyStore" 177 "what is not 0 or 1" ∈ kt_sp := Or.inl ⟨tb_3 _ (List.mem_of_getElem? (i := 235) rfl), rfl⟩
theorem kt_s183 : (Cond.stringRef "KeyStore" 183 "a TRANSACTION is open" ∈ lw_tbl ∧ kt_ok (Cond.stringRef "KeyStore" 183 "a TRANSACTION is open") = true) ∨ Cond.stringRef "KeyStore" 183 "a TRANSACTION is open" ∈ kt_sp := Or.inl ⟨tb_4 _ (List.mem_of_getElem? (i := 8) rfl), rfl⟩
theorem kt_s197 : (Cond.stringRef "KeyStore" 197 "power failed" ∈ lw_tbl ∧ kt_ok (Cond.stringRef "KeyStore" 197 "power failed") = true) ∨ Cond.stringRef "KeyStore" 197 "power failed" ∈ kt_sp := Or.inl ⟨tb_4 _ (List.mem_of_getElem? (i := 77) rfl), rfl⟩
theorem kt_s209 : (Cond.stringRef "KeyStore" 209 "there are 5 MARKS" ∈ lw_tbl ∧ kt_ok (Cond.stringRef "KeyStore" 209 "there are 5 MARKS") = true) ∨ Cond.stringRef "KeyStore" 209 "there are 5 MARKS" ∈ kt_sp := Or.inl ⟨tb_4 _ (List.mem_of_getElem? (i := 114) rfl), rfl⟩
theorem kt_s224 : (Cond.stringRef "KeyStore" 224 "when is not 0 to 4, k not 0 to 1000, or b not 0 to 300" ∈ lw_tbl ∧ kt_ok (Cond.stringRef "KeyStore" 224 "when is not 0 to 4, k not 0 to 1000, or b not 0 to 300") = true) ∨ Cond.stringRef "KeyStore" 224 "when is not 0 to 4, k not 0 to 1000, or b not 0 to 300" ∈ kt_sp := Or.inl ⟨tb_4 _ (List.mem_of_getElem? (i := 173) rfl), rfl⟩
theorem kt_s237 : (Cond.stringRef "KeyStore" 237 "what is not 0 to 8 or 10 to 73" ∈ lw_tbl ∧ kt_ok (Cond.stringRef "KeyStore" 237 "what is not 0 to 8 or 10 to 73") = true) ∨ Cond.stringRef "KeyStore" 237 "what is not 0 to 8 or 10 to 73" ∈ kt_sp := Or.inl ⟨tb_4 _ (List.mem_of_getElem? (i := 202) rfl), rfl⟩
theorem kt_s249 : (Cond.stringRef "KeyStore" 249 "n is not 0 to 8" ∈ lw_tbl ∧ kt_ok (Cond.stringRef "KeyStore" 249 "n is not 0 to 8") = true) ∨ Cond.stringRef "KeyStore" 249 "n is not 0 to 8" ∈ kt_sp := Or.inl ⟨tb_2 _ (List.mem_of_getElem? (i := 52) rfl), rfl⟩
theorem kt_s255 : (Cond.stringRef "KeyStore" 255 "it is OFF" ∈ lw_tbl ∧ kt_ok (Cond.stringRef "KeyStore" 255 "it is OFF") = true) ∨ Cond.stringRef "KeyStore" 255 "it is OFF" ∈ kt_sp := Or.inl ⟨tb_3 _ (List.mem_of_getElem? (i := 187) rfl), rfl⟩
theorem kt_s257 : (Cond.stringRef "KeyStore" 257 "it is OFF, or no TRANSACTION is open" ∈ lw_tbl ∧ kt_ok (Cond.stringRef "KeyStore" 257 "it is OFF, or no TRANSACTION is open") = true) ∨ Cond.stringRef "KeyStore" 257 "it is OFF, or no TRANSACTION is open" ∈ kt_sp := Or.inl ⟨tb_2 _ (List.mem_of_getElem? (i := 145) rfl), rfl⟩
theorem kt_s262 : (Cond.stringRef "KeyStore" 262 "it is OFF, or there would be more than 8448 bytes" ∈ lw_tbl ∧ kt_ok (Cond.stringRef "KeyStore" 262 "it is OFF, or there would be more than 8448 bytes") = true) ∨ Cond.stringRef "KeyStore" 262 "it is OFF, or there would be more than 8448 bytes" ∈ kt_sp := Or.inl ⟨tb_2 _ (List.mem_of_getElem? (i := 95) rfl), rfl⟩
theorem kt_s266 : (Cond.stringRef "KeyStore" 266 "there is no such TREE" ∈ lw_tbl ∧ kt_ok (Cond.stringRef "KeyStore" 266 "there is no such TREE") = true) ∨ Cond.stringRef "KeyStore" 266 "there is no such TREE" ∈ kt_sp := Or.inl ⟨tb_2 _ (List.mem_of_getElem? (i := 221) rfl), rfl⟩
theorem kt_s269 : (Cond.stringRef "KeyStore" 269 "FOUND is none" ∈ lw_tbl ∧ kt_ok (Cond.stringRef "KeyStore" 269 "FOUND is none") = true) ∨ Cond.stringRef "KeyStore" 269 "FOUND is none" ∈ kt_sp := Or.inl ⟨tb_3 _ (List.mem_of_getElem? (i := 221) rfl), rfl⟩
theorem kt_s273 : (Cond.stringRef "KeyStore" 273 "there is no such MARK" ∈ lw_tbl ∧ kt_ok (Cond.stringRef "KeyStore" 273 "there is no such MARK") = true) ∨ Cond.stringRef "KeyStore" 273 "there is no such MARK" ∈ kt_sp := Or.inl ⟨tb_4 _ (List.mem_of_getElem? (i := 144) rfl), rfl⟩
theorem kt_s92 : (Cond.stringRef "KeyStore" 92 "n is not 0 to 8448" ∈ lw_tbl ∧ kt_ok (Cond.stringRef "KeyStore" 92 "n is not 0 to 8448") = true) ∨ Cond.stringRef "KeyStore" 92 "n is not 0 to 8448" ∈ kt_sp := Or.inl ⟨tb_2 _ (List.mem_of_getElem? (i := 129) rfl), rfl⟩
theorem kt_cIAE : Cond.castable "java/lang/IllegalArgumentException" "java/lang/IllegalArgumentException" ∈ lw_tbl := tb_2 _ (List.mem_of_getElem? (i := 11) rfl)
theorem kt_cISE : Cond.castable "java/lang/IllegalStateException" "java/lang/IllegalStateException" ∈ lw_tbl := tb_2 _ (List.mem_of_getElem? (i := 88) rfl)
theorem kt_cNSE : Cond.castable "java/util/NoSuchElementException" "java/util/NoSuchElementException" ∈ lw_tbl := tb_2 _ (List.mem_of_getElem? (i := 214) rfl)
theorem kt_cIOB : Cond.castable "java/lang/IndexOutOfBoundsException" "java/lang/IndexOutOfBoundsException" ∈ lw_tbl := tb_4 _ (List.mem_of_getElem? (i := 137) rfl)
theorem kt_cAE : Cond.castable "java/lang/ArithmeticException" "java/lang/ArithmeticException" ∈ lw_tbl := tb_4 _ (List.mem_of_getElem? (i := 70) rfl)
