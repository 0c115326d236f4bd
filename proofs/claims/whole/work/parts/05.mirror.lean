/-! THE MIRROR: what each method does, over numbers; B: the bytes of an array; M: bytes in memory and which pages are changed -/
abbrev kv_M : Type := (Nat → UInt8) × (Nat → Bool)
def kv_num (B : Nat → UInt8) (a : Nat) : Nat := if a ≤ 87038 then (B a).toNat * 256 + (B (a + 1)).toNat else 0
theorem kv_num_lt (B : Nat → UInt8) (a : Nat) : kv_num B a < 65536 := by
  unfold kv_num
  have h1 := (B a).toNat_lt
  have h2 := (B (a + 1)).toNat_lt
  split <;> omega
def kv_setN (M : kv_M) (a n : Nat) : kv_M := if a ≤ 87038 then (va_up (va_up M.1 a (UInt8.ofNat (n / 256))) (a + 1) (UInt8.ofNat n), va_up M.2 (a / 32) true) else M
def kv_addTo (M : kv_M) (a n : Nat) : kv_M := kv_setN M a (kv_num M.1 a + n)
def kv_used (B : Nat → UInt8) : Nat := min (kv_num B 0) 2711
/-- a page off the free ones, or a new one: before it is cleared -/
def kv_takeP (M : kv_M) : Nat × kv_M := if kv_num M.1 2 ≠ 0 then (kv_num M.1 2, kv_addTo (kv_setN M 2 (kv_num M.1 (kv_num M.1 2 * 32))) 4 4294967295) else (9 + kv_used M.1, kv_addTo M 0 1)
def kv_newP (M : kv_M) : Nat × kv_M := ((kv_takeP M).1, kv_setN (kv_setN (kv_takeP M).2 ((kv_takeP M).1 * 32) 0) ((kv_takeP M).1 * 32 + 2) 0)
def kv_freeP (M : kv_M) (p : Nat) : kv_M := kv_addTo (kv_setN (kv_setN M (p * 32) (kv_num M.1 2)) 2 p) 4 1
def kv_writeR (M : kv_M) (R : Nat → UInt8) (len start n at_ : Nat) : kv_M := if n < 1 ∨ len < start + n ∨ 87040 < at_ + n then M else (va_cpy R M.1 start at_ n, va_up M.2 (at_ / 32) true)
def kv_load (B F : Nat → UInt8) : Nat → UInt8 := va_cpy F (va_cpy F B 0 0 288) 288 288 (kv_used (va_cpy F B 0 0 288) * 32)
def kv_clr (G : Nat → Bool) (n : Nat) : Nat → Bool := fun q => if q < n then false else G q
def kv_undo (B : Nat → UInt8) (G : Nat → Bool) (F : Nat → UInt8) (n : Nat) : Nat → UInt8 := fun j => if j / 32 < n ∧ G (j / 32) = true then F j else B j
/-! rows: bytes and how many -/
def kv_byte (w : Int64) (i : Nat) : UInt8 := UInt8.ofNat (w.toBitVec.toNat / 256 ^ i)
def kv_app (w : Int64) : Nat → (Nat → UInt8) → Nat → (Nat → UInt8) × Nat
  | 0, R, len => (R, len)
  | i + 1, R, len => kv_app w i (va_up R len (kv_byte w i)) (len + 1)
def kv_same (R : Nat → UInt8) (len : Nat) (c : UInt8) (n : Nat) : Nat → UInt8 := fun j => if len ≤ j ∧ j < len + n then c else R j
def kv_from (R : Nat → UInt8) (len : Nat) (F : Nat → UInt8) (fl at_ n : Nat) : (Nat → UInt8) × Nat := if n ≤ 8448 - len ∧ at_ + n ≤ fl then (va_cpy F R at_ len n, len + n) else (R, len)
def kv_word (R : Nat → UInt8) : Nat → Nat → Int64 → Int64
  | 0, _, w => w
  | k + 1, i, w => kv_word R k (i + 1) (w <<< ((nI 8).toInt64 &&& 63) ||| (nI (R i).toNat).toInt64)
def kv_wordAt (R : Nat → UInt8) (len f : Nat) : Int64 := if f < len then kv_word R (min len (f + 8) - f) f 0 else 0
def kv_dif (R : Nat → UInt8) (s : Nat) (O : Nat → UInt8) (a : Nat) : Nat → Nat → Int
  | 0, _ => 0
  | k + 1, i => if (R (s + i)).toNat = (O (a + i)).toNat then kv_dif R s O a k (i + 1) else ((R (s + i)).toNat : Int) - (O (a + i)).toNat
def kv_diff (R : Nat → UInt8) (len s n : Nat) (O : Nat → UInt8) (ol a : Nat) : Int := if s + n ≤ len ∧ a + n ≤ ol then kv_dif R s O a n 0 else 0
/-! chains -/
def kv_size (B : Nat → UInt8) (c : Nat) : Nat := if c = 0 then 0 else 16 + kv_num B (c * 32 + 2) + kv_num B (c * 32 + 4)
def kv_pagesFor (B : Nat → UInt8) (c : Nat) : Nat := if kv_num B (c * 32 + 2) + kv_num B (c * 32 + 4) ≤ 26 then 1 else 1 + (kv_num B (c * 32 + 2) + kv_num B (c * 32 + 4) - 26 + 29) / 30
def kv_cmpL (B R : Nat → UInt8) (len kl both : Nat) : Nat → Nat → Nat → Nat → Int
  | 0, _, _, _ => (len : Int) - kl
  | f + 1, pl, s, d => if d < both then (if kv_diff R len d (min (32 - s) (both - d)) B 87040 (pl * 32 + s) = 0 then kv_cmpL B R len kl both f (kv_num B (pl * 32)) 2 (d + min (32 - s) (both - d)) else kv_diff R len d (min (32 - s) (both - d)) B 87040 (pl * 32 + s)) else (len : Int) - kl
def kv_cmp (B R : Nat → UInt8) (len c : Nat) : Int := kv_cmpL B R len (kv_num B (c * 32 + 2)) (min len (kv_num B (c * 32 + 2))) 2720 c 6 0
def kv_freeL : Nat → kv_M → Nat → kv_M
  | 0, M, _ => M
  | f + 1, M, g => if g = 0 then M else kv_freeL f (kv_freeP M g) (kv_num M.1 (g * 32))
def kv_freeC (M : kv_M) (c : Nat) : kv_M := kv_freeL 2720 M c
/-- Chains.write: memory, page, at -/
def kv_wrL (R : Nat → UInt8) (len : Nat) : Nat → kv_M → Nat → Nat → Nat → kv_M × Nat × Nat
  | 0, M, p, a, _ => (M, p, a)
  | f + 1, M, p, a, d => if d < len then
      (if a = 32 then kv_wrL R len f (kv_writeR (kv_setN (kv_newP M).2 (p * 32) (kv_newP M).1) R len d (min 30 (len - d)) ((kv_newP M).1 * 32 + 2)) (kv_newP M).1 (2 + min 30 (len - d)) (d + min 30 (len - d))
       else kv_wrL R len f (kv_writeR M R len d (min (32 - a) (len - d)) (p * 32 + a)) p (a + min (32 - a) (len - d)) (d + min (32 - a) (len - d)))
    else (M, p, a)
def kv_store (M : kv_M) (K : Nat → UInt8) (kl : Nat) (V : Nat → UInt8) (vl : Nat) : Nat × kv_M × Nat × Nat :=
  ((kv_newP M).1, kv_wrL V vl 2720 (kv_wrL K kl 2720 (kv_setN (kv_setN (kv_newP M).2 ((kv_newP M).1 * 32 + 2) kl) ((kv_newP M).1 * 32 + 4) vl) (kv_newP M).1 6 0).1 (kv_wrL K kl 2720 (kv_setN (kv_setN (kv_newP M).2 ((kv_newP M).1 * 32 + 2) kl) ((kv_newP M).1 * 32 + 4) vl) (kv_newP M).1 6 0).2.1 (kv_wrL K kl 2720 (kv_setN (kv_setN (kv_newP M).2 ((kv_newP M).1 * 32 + 2) kl) ((kv_newP M).1 * 32 + 4) vl) (kv_newP M).1 6 0).2.2 0)
/-- Chains.read: the row's bytes and length, page, at -/
def kv_rdL (B : Nat → UInt8) (n : Nat) : Nat → (Nat → UInt8) → Nat → Nat → Nat → ((Nat → UInt8) × Nat) × Nat × Nat
  | 0, R, len, p, a => ((R, len), p, a)
  | f + 1, R, len, p, a => if len < n then
      (if a = 32 then kv_rdL B n f (kv_from R len B 87040 (kv_num B (p * 32) * 32 + 2) (min 30 (n - len))).1 (kv_from R len B 87040 (kv_num B (p * 32) * 32 + 2) (min 30 (n - len))).2 (kv_num B (p * 32)) (2 + min 30 (n - len))
       else kv_rdL B n f (kv_from R len B 87040 (p * 32 + a) (min (32 - a) (n - len))).1 (kv_from R len B 87040 (p * 32 + a) (min (32 - a) (n - len))).2 p (a + min (32 - a) (n - len)))
    else ((R, len), p, a)
/-! nodes -/
def kv_level (B : Nat → UInt8) (p : Nat) : Nat := min (kv_num B (p * 32)) 4
def kv_count (B : Nat → UInt8) (p : Nat) : Nat := min (kv_num B (p * 32 + 2)) 14
def kv_slot (B : Nat → UInt8) (p i : Nat) : Nat := kv_num B (p * 32 + 4 + 2 * i)
def kv_least (B : Nat → UInt8) : Nat → Nat → Nat
  | 0, s => s
  | l + 1, s => kv_least B l (kv_num B (s * 32 + 4))
def kv_make (M : kv_M) (l : Nat) : Nat × kv_M := ((kv_newP M).1, kv_setN (kv_newP M).2 ((kv_newP M).1 * 32) l)
def kv_setSlot (M : kv_M) (p i s : Nat) : kv_M := kv_setN M (p * 32 + 4 + 2 * i) s
def kv_setCount (M : kv_M) (p n : Nat) : kv_M := kv_setN M (p * 32 + 2) n
/-- for (j = i + k; j > i; j--) the slot moves up -/
def kv_upL (p i : Nat) : Nat → kv_M → kv_M
  | 0, M => M
  | k + 1, M => kv_upL p i k (kv_setSlot M p (i + k + 1) (kv_slot M.1 p (i + k)))
def kv_insert (M : kv_M) (p i s : Nat) : kv_M := if kv_count M.1 p < i ∨ 14 ≤ kv_count M.1 p then M else kv_setCount (kv_setSlot (kv_upL p i (kv_count M.1 p - i) M) p i s) p (kv_count M.1 p + 1)
/-- k slots from j + 1 on move down -/
def kv_dnL (p : Nat) : Nat → Nat → kv_M → kv_M
  | 0, _, M => M
  | k + 1, j, M => kv_dnL p k (j + 1) (kv_setSlot M p j (kv_slot M.1 p (j + 1)))
def kv_delete (M : kv_M) (p i : Nat) : kv_M := if kv_count M.1 p ≤ i then M else kv_setCount (kv_dnL p (kv_count M.1 p - 1 - i) i M) p (kv_count M.1 p - 1)
/-- gathered[i], i below 'all' -/
def kv_gath (B : Nat → UInt8) (l r ofl all : Nat) (P : Nat → Nat) : Nat → Nat := fun j => if j < all then (if j < ofl then kv_slot B l j else kv_slot B r (j - ofl)) else P j
/-- k slots from i on are written, out of P from 'off' on -/
def kv_layL (p : Nat) (P : Nat → Nat) (off : Nat) : Nat → Nat → kv_M → kv_M
  | 0, _, M => M
  | k + 1, i, M => kv_layL p P off k (i + 1) (kv_setSlot M p i (P (off + i)))
def kv_share (M : kv_M) (l r toL : Nat) (P : Nat → Nat) : kv_M × (Nat → Nat) :=
  (kv_setCount (kv_setCount (kv_layL r (kv_gath M.1 l r (kv_count M.1 l) (kv_count M.1 l + kv_count M.1 r) P) toL (kv_count M.1 l + kv_count M.1 r - toL) 0 (kv_layL l (kv_gath M.1 l r (kv_count M.1 l) (kv_count M.1 l + kv_count M.1 r) P) 0 toL 0 M)) l toL) r (kv_count M.1 l + kv_count M.1 r - toL),
   kv_gath M.1 l r (kv_count M.1 l) (kv_count M.1 l + kv_count M.1 r) P)
def kv_split (M : kv_M) (p : Nat) (P : Nat → Nat) : Nat × kv_M × (Nat → Nat) :=
  ((kv_make M (kv_level M.1 p)).1, kv_share (kv_make M (kv_level M.1 p)).2 p (kv_make M (kv_level M.1 p)).1 (kv_count (kv_make M (kv_level M.1 p)).2.1 p / 2) P)
def kv_merge (M : kv_M) (l r : Nat) (P : Nat → Nat) : Bool × kv_M × (Nat → Nat) :=
  if 14 < kv_count M.1 l + kv_count M.1 r then (false, kv_share M l r ((kv_count M.1 l + kv_count M.1 r) / 2) P)
  else (true, kv_freeP (kv_share M l r (kv_count M.1 l + kv_count M.1 r) P).1 r, (kv_share M l r (kv_count M.1 l + kv_count M.1 r) P).2)
/-! trees -/
def kv_root (B : Nat → UInt8) (t : Nat) : Nat := kv_num B (32 + 4 * t)
def kv_ents (B : Nat → UInt8) (t : Nat) : Nat := kv_num B (32 + 4 * t + 2)
def kv_has (B : Nat → UInt8) (t : Nat) : Bool := decide (t < 64) && decide (kv_root B t ≠ 0)
def kv_rankL (B R : Nat → UInt8) (len p lv : Nat) (orAt : Bool) : Nat → Nat → Nat → Nat
  | 0, lo, _ => lo
  | f + 1, lo, hi => if lo < hi then (if 0 < kv_cmp B R len (kv_least B lv (kv_slot B p ((lo + hi) / 2))) ∨ (kv_cmp B R len (kv_least B lv (kv_slot B p ((lo + hi) / 2))) = 0 ∧ orAt = true) then kv_rankL B R len p lv orAt f ((lo + hi) / 2 + 1) hi else kv_rankL B R len p lv orAt f lo ((lo + hi) / 2)) else lo
def kv_rank (B R : Nat → UInt8) (len p : Nat) (orAt : Bool) : Nat := kv_rankL B R len p (kv_level B p) orAt 14 0 (kv_count B p)
/-- the path from a node of level l down -/
def kv_desL (B R : Nat → UInt8) (len : Nat) : Nat → Nat → (Nat → Nat) → (Nat → Nat) → (Nat → Nat) × (Nat → Nat)
  | 0, n, pn, ps => (va_up pn 0 n, va_up ps 0 (kv_rank B R len n false))
  | l + 1, n, pn, ps => kv_desL B R len l (kv_slot B n (kv_rank B R len n true - 1)) (va_up pn (l + 1) n) (va_up ps (l + 1) (kv_rank B R len n true - 1))
def kv_desc (B R : Nat → UInt8) (len t : Nat) (pn ps : Nat → Nat) : (Nat → Nat) × (Nat → Nat) := kv_desL B R len (kv_level B (kv_root B t)) (kv_root B t) pn ps
def kv_look (B R : Nat → UInt8) (len t : Nat) (pn ps : Nat → Nat) : Nat :=
  if kv_count B ((kv_desc B R len t pn ps).1 0) ≤ (kv_desc B R len t pn ps).2 0 then 0
  else if kv_cmp B R len (kv_slot B ((kv_desc B R len t pn ps).1 0) ((kv_desc B R len t pn ps).2 0)) = 0 then kv_slot B ((kv_desc B R len t pn ps).1 0) ((kv_desc B R len t pn ps).2 0) else 0
/-- up the path: the first chain behind, from level l on, k levels -/
def kv_upF (B : Nat → UInt8) (pn ps : Nat → Nat) : Nat → Nat → Nat
  | 0, _ => 0
  | k + 1, l => if ps l + 1 < kv_count B (pn l) then kv_least B l (kv_slot B (pn l) (ps l + 1)) else kv_upF B pn ps k (l + 1)
def kv_first (B R : Nat → UInt8) (len t : Nat) (after : Bool) (pn ps : Nat → Nat) : Nat :=
  if (if after = true then kv_rank B R len ((kv_desc B R len t pn ps).1 0) true else (kv_desc B R len t pn ps).2 0) < kv_count B ((kv_desc B R len t pn ps).1 0)
  then kv_slot B ((kv_desc B R len t pn ps).1 0) (if after = true then kv_rank B R len ((kv_desc B R len t pn ps).1 0) true else (kv_desc B R len t pn ps).2 0)
  else kv_upF B (kv_desc B R len t pn ps).1 (kv_desc B R len t pn ps).2 (kv_level B (kv_root B t)) 1
def kv_luL (B : Nat → UInt8) : Nat → Nat → Nat
  | 0, _ => 64
  | f + 1, i => if kv_has B i = true then kv_luL B f (i + 1) else i
def kv_lu (B : Nat → UInt8) : Nat := kv_luL B 64 0
def kv_setRoot (M : kv_M) (t p : Nat) : kv_M := kv_setN M (32 + 4 * t) p
def kv_addTree (M : kv_M) (t : Nat) : kv_M := kv_addTo (kv_setRoot (kv_make M 0).2 t (kv_make M 0).1) 6 1
def kv_raise (M : kv_M) (t s top : Nat) : kv_M :=
  kv_setRoot (kv_insert (kv_insert (kv_make M (top + 1)).2 (kv_make M (top + 1)).1 0 (kv_root (kv_make M (top + 1)).2.1 t)) (kv_make M (top + 1)).1 1 s) t (kv_make M (top + 1)).1
/-- where a full node was split: the slot comes left or right -/
def kv_insB (M : kv_M) (p r i s : Nat) : kv_M := if i ≤ kv_count M.1 p then kv_insert M p i s else kv_insert M r (i - kv_count M.1 p) s
def kv_insL (t top : Nat) (pn ps : Nat → Nat) : Nat → Nat → kv_M → (Nat → Nat) → Nat → Nat → kv_M × (Nat → Nat)
  | 0, _, M, P, s, _ => (kv_raise M t s top, P)
  | f + 1, l, M, P, s, i => if kv_count M.1 (pn l) = 14 then kv_insL t top pn ps f (l + 1) (kv_insB (kv_split M (pn l) P).2.1 (pn l) (kv_split M (pn l) P).1 i s) (kv_split M (pn l) P).2.2 (kv_split M (pn l) P).1 (ps (l + 1) + 1) else (kv_insert M (pn l) i s, P)
def kv_insSlot (M : kv_M) (P : Nat → Nat) (t c top : Nat) (pn ps : Nat → Nat) : kv_M × (Nat → Nat) := kv_insL t top pn ps (top + 1) 0 M P c (ps 0)
def kv_mendD (M : kv_M) (b : Bool) (p i : Nat) : kv_M := if b = true then kv_delete M p (i + 1) else M
def kv_mendL (pn ps : Nat → Nat) : Nat → Nat → kv_M → (Nat → Nat) → kv_M × (Nat → Nat)
  | 0, _, M, P => (M, P)
  | f + 1, l, M, P => if kv_count M.1 (pn l) < 7 then kv_mendL pn ps f (l + 1) (kv_mendD (kv_merge M (kv_slot M.1 (pn (l + 1)) (ps (l + 1) - 1)) (kv_slot M.1 (pn (l + 1)) (ps (l + 1) - 1 + 1)) P).2.1 (kv_merge M (kv_slot M.1 (pn (l + 1)) (ps (l + 1) - 1)) (kv_slot M.1 (pn (l + 1)) (ps (l + 1) - 1 + 1)) P).1 (pn (l + 1)) (ps (l + 1) - 1)) (kv_merge M (kv_slot M.1 (pn (l + 1)) (ps (l + 1) - 1)) (kv_slot M.1 (pn (l + 1)) (ps (l + 1) - 1 + 1)) P).2.2 else (M, P)
def kv_lower (M : kv_M) (t : Nat) : kv_M := if 0 < kv_level M.1 (kv_root M.1 t) ∧ kv_count M.1 (kv_root M.1 t) = 1 then kv_freeP (kv_setRoot M t (kv_slot M.1 (kv_root M.1 t) 0)) (kv_root M.1 t) else M
/-- Trees.replaceHere: memory, and what the chains' own fields hold -/
def kv_replA (M : kv_M) (old : Nat) : kv_M := kv_freeC (kv_addTo M 8 (4294967296 - kv_size M.1 old)) old
def kv_repl (M : kv_M) (p i : Nat) (K : Nat → UInt8) (kl : Nat) (V : Nat → UInt8) (vl : Nat) : kv_M × Nat × Nat :=
  (kv_setSlot (kv_addTo (kv_store (kv_replA M (kv_slot M.1 p i)) K kl V vl).2.1 8 (kv_size (kv_store (kv_replA M (kv_slot M.1 p i)) K kl V vl).2.1.1 (kv_store (kv_replA M (kv_slot M.1 p i)) K kl V vl).1)) p i (kv_store (kv_replA M (kv_slot M.1 p i)) K kl V vl).1, (kv_store (kv_replA M (kv_slot M.1 p i)) K kl V vl).2.2)
def kv_insA (M : kv_M) (t c : Nat) : kv_M := kv_addTo (kv_addTo M 8 (kv_size M.1 c)) (32 + 4 * t + 2) 1
def kv_insH (M : kv_M) (P : Nat → Nat) (t top : Nat) (pn ps : Nat → Nat) (K : Nat → UInt8) (kl : Nat) (V : Nat → UInt8) (vl : Nat) : (kv_M × (Nat → Nat)) × Nat × Nat :=
  (kv_insSlot (kv_insA (kv_store M K kl V vl).2.1 t (kv_store M K kl V vl).1) P t (kv_store M K kl V vl).1 top pn ps, (kv_store M K kl V vl).2.2)
def kv_delA (M : kv_M) (t old : Nat) : kv_M := kv_freeC (kv_addTo (kv_addTo M 8 (4294967296 - kv_size M.1 old)) (32 + 4 * t + 2) 4294967295) old
def kv_delH (M : kv_M) (P : Nat → Nat) (t top : Nat) (pn ps : Nat → Nat) : kv_M × (Nat → Nat) :=
  (kv_lower (kv_mendL pn ps top 0 (kv_delete (kv_delA M t (kv_slot M.1 (pn 0) (ps 0))) (pn 0) (ps 0)) P).1 t, (kv_mendL pn ps top 0 (kv_delete (kv_delA M t (kv_slot M.1 (pn 0) (ps 0))) (pn 0) (ps 0)) P).2)
def kv_frL (F : kv_M → Nat → kv_M) (p : Nat) : Nat → Nat → kv_M → kv_M
  | 0, _, M => M
  | k + 1, i, M => kv_frL F p k (i + 1) (F M (kv_slot M.1 p i))
def kv_freeT : Nat → kv_M → Nat → kv_M
  | 0, M, p => kv_freeP (kv_frL kv_replA p (kv_count M.1 p) 0 M) p
  | l + 1, M, p => kv_freeP (kv_frL (kv_freeT l) p (kv_count M.1 p) 0 M) p
def kv_drop (M : kv_M) (t : Nat) : kv_M := kv_addTo (kv_addTo (kv_setRoot (kv_freeT (kv_level M.1 (kv_root M.1 t)) M (kv_root M.1 t)) t 0) (32 + 4 * t + 2) (4294967296 - kv_ents M.1 t)) 6 4294967295
