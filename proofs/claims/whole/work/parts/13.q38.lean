/-! PURE, the 38th: the calls on the store: what is thrown, what is answered, the store behind -/
def kz_get (A : kp_A) (t : Nat) : Option (List kp_KV) := if t < 64 then A t else none
theorem kz_get_some {A : kp_A} {t : Nat} {l : List kp_KV} (h : kz_get A t = some l) : t < 64 ∧ A t = some l := by
  unfold kz_get at h
  split at h
  · exact ⟨by assumption, h⟩
  · cases h
theorem kz_get_none {A : kp_A} {t : Nat} (h : kz_get A t = none) (ht : t < 64) : A t = none := by
  unfold kz_get at h
  rw [if_pos ht] at h; exact h
def kz_old (l : List kp_KV) (K : List UInt8) : Nat := if kp_is l K = true then 16 + K.length + (((l[kp_lo l K]?).map (fun e => e.2.length)).getD 0) else 0
def kz_put (l : List kp_KV) (K V : List UInt8) : List kp_KV := if kp_is l K = true then l.set (kp_lo l K) (K, V) else kp_in l (kp_lo l K) (K, V)
def kz_b (b : Bool) : Nat := if b = true then 1 else 0
def kz_word (X : List UInt8) (fr : Nat) : Int64 := kv_wordAt (fun i => (X[i]?).getD 0) X.length fr
def kz_aKey (w : Int64) (n : Nat) : kz_S → Nat × Nat × kz_S
  | ((A, L, Ms), (key, val, fd), (son, sop), (sw, sk)) => if 8 < n then (1, 0, ((A, L, Ms), (key, val, fd), (son, sop), (sw, sk))) else if son = false ∨ 8448 < key.length + n then (2, 0, ((A, L, Ms), (key, val, fd), (son, sop), (sw, sk))) else (0, (kz_nk key w n).length, ((A, L, Ms), (kz_nk key w n, val, fd), (son, sop), (sw, sk)))
def kz_aVal (w : Int64) (n : Nat) : kz_S → Nat × Nat × kz_S
  | ((A, L, Ms), (key, val, fd), (son, sop), (sw, sk)) => if 8 < n then (1, 0, ((A, L, Ms), (key, val, fd), (son, sop), (sw, sk))) else if son = false ∨ 8448 < val.length + n then (2, 0, ((A, L, Ms), (key, val, fd), (son, sop), (sw, sk))) else (0, (kz_nk val w n).length, ((A, L, Ms), (key, kz_nk val w n, fd), (son, sop), (sw, sk)))
def kz_aFillK (n : Nat) (c : UInt8) : kz_S → Nat × Nat × kz_S
  | ((A, L, Ms), (key, val, fd), (son, sop), (sw, sk)) => if 8448 < n then (1, 0, ((A, L, Ms), (key, val, fd), (son, sop), (sw, sk))) else if son = false ∨ 8448 < key.length + n then (2, 0, ((A, L, Ms), (key, val, fd), (son, sop), (sw, sk))) else (0, key.length + n, ((A, L, Ms), (key ++ List.replicate n c, val, fd), (son, sop), (sw, sk)))
def kz_aFillV (n : Nat) (c : UInt8) : kz_S → Nat × Nat × kz_S
  | ((A, L, Ms), (key, val, fd), (son, sop), (sw, sk)) => if 8448 < n then (1, 0, ((A, L, Ms), (key, val, fd), (son, sop), (sw, sk))) else if son = false ∨ 8448 < val.length + n then (2, 0, ((A, L, Ms), (key, val, fd), (son, sop), (sw, sk))) else (0, val.length + n, ((A, L, Ms), (key, val ++ List.replicate n c, fd), (son, sop), (sw, sk)))
def kz_aTree : kz_S → Nat × Nat × kz_S
  | ((A, L, Ms), (key, val, fd), (son, sop), (sw, sk)) => if son = false ∨ sop = false ∨ kq_fst A 64 0 = 64 then (1, 0, ((A, L, Ms), (key, val, fd), (son, sop), (sw, sk))) else (0, kq_fst A 64 0, ((va_up A (kq_fst A 64 0) (some []), L, Ms), (key, val, fd), (son, sop), (sw, sk)))
def kz_aDrop (t : Nat) : kz_S → Nat × Nat × kz_S
  | ((A, L, Ms), (key, val, fd), (son, sop), (sw, sk)) => if son = false ∨ sop = false then (1, 0, ((A, L, Ms), (key, val, fd), (son, sop), (sw, sk))) else match kz_get A t with
    | none => (2, 0, ((A, L, Ms), (key, val, fd), (son, sop), (sw, sk)))
    | some l => (0, l.length, ((va_up A t none, L, Ms), (key, val, fd), (son, sop), (sw, sk)))
def kz_aPut (t : Nat) : kz_S → Nat × Nat × kz_S
  | ((A, L, Ms), (key, val, fd), (son, sop), (sw, sk)) => if son = false ∨ sop = false then (1, 0, ((A, L, Ms), (key, val, fd), (son, sop), (sw, sk))) else match kz_get A t with
    | none => (2, 0, ((A, L, Ms), (key, val, fd), (son, sop), (sw, sk)))
    | some l => if key = [] then (3, 0, ((A, L, Ms), (key, val, fd), (son, sop), (sw, sk))) else if 36864 < kp_sizeA A - kz_old l key + (16 + key.length + val.length) then (1, 0, ((A, L, Ms), (key, val, fd), (son, sop), (sw, sk))) else (0, kz_b (kp_is l key), ((va_up A t (some (kz_put l key val)), L, Ms), (key, val, fd), (son, sop), (sw, sk)))
def kz_aRemove (t : Nat) : kz_S → Nat × Nat × kz_S
  | ((A, L, Ms), (key, val, fd), (son, sop), (sw, sk)) => if son = false ∨ sop = false then (1, 0, ((A, L, Ms), (key, val, fd), (son, sop), (sw, sk))) else match kz_get A t with
    | none => (2, 0, ((A, L, Ms), (key, val, fd), (son, sop), (sw, sk)))
    | some l => (0, kz_b (kp_is l key), ((if kp_is l key = true then va_up A t (some (l.take (kp_lo l key) ++ l.drop (kp_lo l key + 1))) else A, L, Ms), (key, val, fd), (son, sop), (sw, sk)))
def kz_aSeek (t : Nat) (after : Bool) : kz_S → Nat × Nat × kz_S
  | ((A, L, Ms), (key, val, fd), (son, sop), (sw, sk)) => if son = false then (1, 0, ((A, L, Ms), (key, val, fd), (son, sop), (sw, sk))) else match kz_get A t with
    | none => (2, 0, ((A, L, Ms), (key, val, fd), (son, sop), (sw, sk)))
    | some l => (0, kz_b (l[if after = true then kp_hi l key else kp_lo l key]?).isSome, ((A, L, Ms), (key, val, l[if after = true then kp_hi l key else kp_lo l key]?), (son, sop), (sw, sk)))
def kz_aTake : kz_S → Nat × Nat × kz_S
  | ((A, L, Ms), (key, val, fd), (son, sop), (sw, sk)) => match fd with
    | none => (1, 0, ((A, L, Ms), (key, val, none), (son, sop), (sw, sk)))
    | some e => (0, e.1.length, ((A, L, Ms), (e.1, val, some e), (son, sop), (sw, sk)))
def kz_aFound (wt fr : Nat) : kz_S → Nat × Int64 × kz_S
  | ((A, L, Ms), (key, val, fd), (son, sop), (sw, sk)) => if 1 < wt then (1, 0, ((A, L, Ms), (key, val, fd), (son, sop), (sw, sk))) else match fd with
    | none => (2, 0, ((A, L, Ms), (key, val, none), (son, sop), (sw, sk)))
    | some e => (0, if wt = 0 then kz_word e.1 fr else kz_word e.2 fr, ((A, L, Ms), (key, val, some e), (son, sop), (sw, sk)))
def kz_aBegin : kz_S → Nat × Nat × kz_S
  | ((A, L, Ms), (key, val, fd), (son, sop), (sw, sk)) => if son = false ∨ sop = true then (1, 0, ((A, L, Ms), (key, val, fd), (son, sop), (sw, sk))) else (0, 0, ((A, L, []), (key, val, fd), (son, true), (sw, sk)))
def kz_aCommit : kz_S → Nat × Nat × kz_S
  | ((A, L, Ms), (key, val, fd), (son, sop), (sw, sk)) => if son = false ∨ sop = false then (1, 0, ((A, L, Ms), (key, val, fd), (son, sop), (sw, sk))) else if sw < 3 then (2, 0, ((if sw = 2 ∧ 0 < sk then A else L, if sw = 2 ∧ 0 < sk then A else L, []), ([], [], none), (false, false), (4, sk))) else (0, 0, ((A, A, []), (key, val, fd), (son, false), (sw, sk)))
def kz_aRollback : kz_S → Nat × Nat × kz_S
  | ((A, L, Ms), (key, val, fd), (son, sop), (sw, sk)) => if son = false ∨ sop = false then (1, 0, ((A, L, Ms), (key, val, fd), (son, sop), (sw, sk))) else (0, 0, ((L, L, []), (key, val, fd), (son, false), (sw, sk)))
def kz_aMark : kz_S → Nat × Nat × kz_S
  | ((A, L, Ms), (key, val, fd), (son, sop), (sw, sk)) => if son = false ∨ sop = false ∨ Ms.length = 5 then (1, 0, ((A, L, Ms), (key, val, fd), (son, sop), (sw, sk))) else (0, Ms.length + 1, ((A, L, Ms ++ [A]), (key, val, fd), (son, sop), (sw, sk)))
def kz_aBack (m : Nat) : kz_S → Nat × Nat × kz_S
  | ((A, L, Ms), (key, val, fd), (son, sop), (sw, sk)) => if son = false ∨ sop = false then (1, 0, ((A, L, Ms), (key, val, fd), (son, sop), (sw, sk))) else if m < 1 ∨ Ms.length < m then (2, 0, ((A, L, Ms), (key, val, fd), (son, sop), (sw, sk))) else (0, 0, (((Ms[m - 1]?).getD A, L, Ms.take m), (key, val, fd), (son, sop), (sw, sk)))
def kz_aKeep (m : Nat) : kz_S → Nat × Nat × kz_S
  | ((A, L, Ms), (key, val, fd), (son, sop), (sw, sk)) => if son = false ∨ sop = false then (1, 0, ((A, L, Ms), (key, val, fd), (son, sop), (sw, sk))) else if m < 1 ∨ Ms.length < m then (2, 0, ((A, L, Ms), (key, val, fd), (son, sop), (sw, sk))) else (0, 0, ((A, L, Ms.take (m - 1)), (key, val, fd), (son, sop), (sw, sk)))
def kz_aPower (a b c : Nat) : kz_S → Nat × Nat × kz_S
  | ((A, L, Ms), (key, val, fd), (son, sop), (sw, sk)) => if 4 < a ∨ 1000 < b ∨ 300 < c then (1, 0, ((A, L, Ms), (key, val, fd), (son, sop), (sw, sk))) else (0, 0, ((A, L, Ms), (key, val, fd), (son, sop), (a, b)))
def kz_aReopen : kz_S → Nat × Nat × kz_S
  | ((A, L, Ms), (key, val, fd), (son, sop), (sw, sk)) => if sw = 3 then (1, 0, ((L, L, []), ([], [], none), (false, false), (4, sk))) else (0, kp_cntA L, ((L, L, []), ([], [], none), (true, false), (4, sk)))
def kz_aTold (w : Nat) : kz_S → Nat × Nat × kz_S
  | ((A, L, Ms), (key, val, fd), (son, sop), (sw, sk)) => if w = 9 ∨ 73 < w then (1, 0, ((A, L, Ms), (key, val, fd), (son, sop), (sw, sk))) else (0, if son = false then 0 else if w = 0 then 1 else if w = 1 then kz_b sop else if w = 2 then Ms.length else if w = 3 then kp_cntA A else if w = 4 then kp_sizeA A else if w = 5 then key.length else if w = 6 then val.length else if w = 7 then (fd.map (fun e => e.1.length)).getD 0 else if w = 8 then (fd.map (fun e => e.2.length)).getD 0 else ((A (w - 10)).map List.length).getD 4294967295, ((A, L, Ms), (key, val, fd), (son, sop), (sw, sk)))
def kz_aCheck : kz_S → Nat × Nat × kz_S
  | ((A, L, Ms), (key, val, fd), (son, sop), (sw, sk)) => if son = false then (1, 0, ((A, L, Ms), (key, val, fd), (son, sop), (sw, sk))) else (0, 0, ((A, L, Ms), (key, val, fd), (son, sop), (sw, sk)))
theorem kz_word_row {R : Nat → UInt8} {len : Nat} {X : List UInt8} (h : kp_row R len X) (fr : Nat) : kv_wordAt R len fr = kz_word X fr := by
  unfold kz_word kv_wordAt
  rw [← h.1]
  by_cases z : fr < len
  · rw [if_pos z, if_pos z]
    exact kv_word_congr _ _ _ (fun j h1 h2 => by have := h.2 j (by omega); rw [← this]; rfl)
  · rw [if_neg z, if_neg z]
theorem kz_old_eq {l : List kp_KV} {K w : List UInt8} (h : l[kp_lo l K]? = some (K, w)) : kz_old l K = 16 + K.length + w.length := by
  unfold kz_old
  rw [if_pos (kp_is_iff.mpr ⟨w, h⟩), h]; rfl
theorem kz_old_no {l : List kp_KV} {K : List UInt8} (h : kp_is l K = false) : kz_old l K = 0 := by
  unfold kz_old
  rw [if_neg (by rw [h]; simp)]
theorem kz_old_le {A : kp_A} {t : Nat} (ht : t < 64) {l : List kp_KV} (hA : A t = some l) {K w : List UInt8} (h : l[kp_lo l K]? = some (K, w)) : 16 + K.length + w.length ≤ kp_sizeA A := by
  have e : kp_szO (A t) ≤ kp_sizeA A := kp_sum_ge (f := fun s => kp_szO (A s)) ht
  rw [hA] at e
  have e' : kp_szO (some l) = kp_szl l := rfl
  obtain ⟨l1, l2, e1, e2⟩ := kp_dec h
  have : kp_szl l = kp_szl l1 + ((16 + K.length + w.length) + kp_szl l2) := by rw [e1, kp_szl_app, kp_szl_cons]
  omega
