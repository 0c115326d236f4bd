/-! the walker's own rows -/
abbrev ks_R (d : Nat) : Room := { frames := d, cells := 0, slots := 0, locals := 60 * d }
abbrev ks_T (K : Nat → ClassId) : List (ClassId × FieldType) := [(K 0, .byte), (K 1, .boolean), (K 2, .int), (K 3, .long), (K 4, .array .byte)]
section KSW
variable {E : ks_E} {l0 : Launch} {D : va_G} {tys : List (ClassId × FieldType)} {R0 : Room} {cc : ByteArray} {nL : Nat} {own : String} {ws : va_W} {lo : List (Option Value)} {cs ss pc : Nat} {st : List Value}
theorem ks_cv {y : MethodName} {bytes : ByteArray} {maxL : Nat} {ret : Option FieldType} {rm : Room} {n idx b : Nat} {As rest : List Value} {wc w1 : va_W} {q0 ci : Nat} {fs : List Value} {qc : vw_C} (ws' : va_W) (C : ks_ok E l0 D tys R0 cc nL own) (M : ks_M l0 D tys rm y bytes maxL ret (.ref b :: As) wc (ks_f none w1)) (Y : ks_y y bytes maxL ret n) (hsel : Cond.selects y.cls y y ∈ ks_tbl) (hlink : Cond.methodLink own idx y ∈ ks_tbl) (hd : decode cc pc = .ok (.invokevirtual idx, 3)) (hst : st = As.reverse ++ .ref b :: rest) (hci : vwCl[ci]? = some qc) (hqc : qc.1 = y.cls) (isC isR is3 : List Nat) (hC : isC.map (fun i => ws[i]?) = wc.map some) (hR : isR.map (fun i => ws[i]?) = (isR.filterMap (fun i => ws[i]?)).map some) (hnC : va_nd isC = true) (hnR : va_nd isR = true) (hdis : ∀ i ∈ isR, i ∉ isC) (hn3 : va_nd is3 = true) (hw3 : is3.map (fun i => (isR.filterMap (fun i => ws[i]?) ++ w1)[i]?) = ws'.map some) (hrecv : wc[q0]? = some (b, .inr (ci, fs))) (hc0 : rm.cells = 0) (hs0 : rm.slots = 0) (hroom : rm.frames + 1 ≤ R0.frames ∧ 8 + (maxL + 11) + rm.locals ≤ R0.locals) (hcell : cs + rm.cells ≤ R0.cells ∧ ss + rm.slots ≤ R0.slots) (hAs : As.length = n) (hcat : (rest.map fun v => v.category).sum ≤ 8) (k : ks_w E D nL ws' lo cs ss (pc + 3) rest) : ks_w E D nL ws lo cs ss pc st :=
  ks_callVv C M Y hsel hlink hci hqc hrecv isC isR hC hR hnC hnR hdis is3 hn3 hw3 hc0 hs0 hroom hcell hst hAs hcat hd k
theorem ks_cx {y : MethodName} {bytes : ByteArray} {maxL : Nat} {ret : Option FieldType} {rm : Room} {n idx b : Nat} {As rest : List Value} {wc w1 : va_W} {x : Value} {q0 ci : Nat} {fs : List Value} {qc : vw_C} (ws' : va_W) (C : ks_ok E l0 D tys R0 cc nL own) (M : ks_M l0 D tys rm y bytes maxL ret (.ref b :: As) wc (ks_f (some x) w1)) (Y : ks_y y bytes maxL ret n) (hsel : Cond.selects y.cls y y ∈ ks_tbl) (hlink : Cond.methodLink own idx y ∈ ks_tbl) (hd : decode cc pc = .ok (.invokevirtual idx, 3)) (hst : st = As.reverse ++ .ref b :: rest) (hci : vwCl[ci]? = some qc) (hqc : qc.1 = y.cls) (isC isR is3 : List Nat) (hC : isC.map (fun i => ws[i]?) = wc.map some) (hR : isR.map (fun i => ws[i]?) = (isR.filterMap (fun i => ws[i]?)).map some) (hnC : va_nd isC = true) (hnR : va_nd isR = true) (hdis : ∀ i ∈ isR, i ∉ isC) (hn3 : va_nd is3 = true) (hw3 : is3.map (fun i => (isR.filterMap (fun i => ws[i]?) ++ w1)[i]?) = ws'.map some) (hrecv : wc[q0]? = some (b, .inr (ci, fs))) (hc0 : rm.cells = 0) (hs0 : rm.slots = 0) (hroom : rm.frames + 1 ≤ R0.frames ∧ 8 + (maxL + 11) + rm.locals ≤ R0.locals) (hcell : cs + rm.cells ≤ R0.cells ∧ ss + rm.slots ≤ R0.slots) (hAs : As.length = n) (hcat : (rest.map fun v => v.category).sum ≤ 8) (k : ks_w E D nL ws' lo cs ss (pc + 3) (x :: rest)) : ks_w E D nL ws lo cs ss pc st :=
  ks_callVx C M Y hsel hlink hci hqc hrecv isC isR hC hR hnC hnR hdis is3 hn3 hw3 hc0 hs0 hroom hcell hst hAs hcat hd k
/-- an answer of the callee that is known by another name -/
theorem ks_xr {x x' : Value} (h : x = x') (k : ks_w E D nL ws lo cs ss pc (x' :: st)) : ks_w E D nL ws lo cs ss pc (x :: st) := h ▸ k
theorem ks_top_num {B : Nat → UInt8} {a : Nat} (k : kv_num B a < 65536 → ks_w E D nL ws lo cs ss pc (.int (nI (kv_num B a)) :: st)) : ks_w E D nL ws lo cs ss pc (.int (nI (kv_num B a)) :: st) := k (kv_num_lt B a)
theorem ks_top_byte {x : UInt8} (k : x.toNat < 256 → ks_w E D nL ws lo cs ss pc (.int (nI x.toNat) :: st)) : ks_w E D nL ws lo cs ss pc (.int (nI x.toNat) :: st) := k x.toNat_lt
theorem kv_used_le (B : Nat → UInt8) : kv_used B ≤ 2711 := Nat.min_le_right _ _
theorem ks_top_used {B : Nat → UInt8} (k : kv_used B ≤ 2711 → ks_w E D nL ws lo cs ss pc (.int (nI (kv_used B)) :: st)) : ks_w E D nL ws lo cs ss pc (.int (nI (kv_used B)) :: st) := k (kv_used_le B)
theorem kv_newP_lt (M : kv_M) : (kv_newP M).1 < 65536 := by
  show (kv_takeP M).1 < 65536
  unfold kv_takeP
  have := kv_used_le M.1
  split
  · exact kv_num_lt M.1 2
  · show 9 + kv_used M.1 < 65536; omega
theorem ks_top_newP {M : kv_M} (k : (kv_newP M).1 < 65536 → ks_w E D nL ws lo cs ss pc (.int (nI (kv_newP M).1) :: st)) : ks_w E D nL ws lo cs ss pc (.int (nI (kv_newP M).1) :: st) := k (kv_newP_lt M)
theorem kv_dif_in (R : Nat → UInt8) (s : Nat) (O : Nat → UInt8) (a : Nat) : ∀ n i : Nat, -256 < kv_dif R s O a n i ∧ kv_dif R s O a n i < 256
  | 0, i => by simp [kv_dif]
  | n + 1, i => by
    rw [kv_dif]
    have h1 := (R (s + i)).toNat_lt
    have h2 := (O (a + i)).toNat_lt
    split
    · exact kv_dif_in R s O a n (i + 1)
    · omega
theorem kv_diff_in (R : Nat → UInt8) (len s n : Nat) (O : Nat → UInt8) (ol a : Nat) : -256 < kv_diff R len s n O ol a ∧ kv_diff R len s n O ol a < 256 := by
  unfold kv_diff
  split
  · exact kv_dif_in R s O a n 0
  · omega
theorem ks_top_diff {R : Nat → UInt8} {len s n : Nat} {O : Nat → UInt8} {ol a : Nat} (k : (-256 < kv_diff R len s n O ol a ∧ kv_diff R len s n O ol a < 256) → ks_w E D nL ws lo cs ss pc (.int (Int32.ofInt (kv_diff R len s n O ol a)) :: st)) : ks_w E D nL ws lo cs ss pc (.int (Int32.ofInt (kv_diff R len s n O ol a)) :: st) := k (kv_diff_in R len s n O ol a)
theorem kv_size_lt (B : Nat → UInt8) (c : Nat) : kv_size B c < 131087 := by
  unfold kv_size
  have h1 := kv_num_lt B (c * 32 + 2)
  have h2 := kv_num_lt B (c * 32 + 4)
  split <;> omega
theorem ks_top_size {B : Nat → UInt8} {c : Nat} (k : kv_size B c < 131087 → ks_w E D nL ws lo cs ss pc (.int (nI (kv_size B c)) :: st)) : ks_w E D nL ws lo cs ss pc (.int (nI (kv_size B c)) :: st) := k (kv_size_lt B c)
theorem kv_pagesFor_lt (B : Nat → UInt8) (c : Nat) : kv_pagesFor B c < 65536 := by
  unfold kv_pagesFor
  have h1 := kv_num_lt B (c * 32 + 2)
  have h2 := kv_num_lt B (c * 32 + 4)
  split <;> omega
theorem ks_top_pagesFor {B : Nat → UInt8} {c : Nat} (k : kv_pagesFor B c < 65536 → ks_w E D nL ws lo cs ss pc (.int (nI (kv_pagesFor B c)) :: st)) : ks_w E D nL ws lo cs ss pc (.int (nI (kv_pagesFor B c)) :: st) := k (kv_pagesFor_lt B c)
theorem kv_cmpL_in (B R : Nat → UInt8) (len kl both : Nat) (h1 : len ≤ 8448) (h2 : kl < 65536) : ∀ f pl s d : Nat, -70000 < kv_cmpL B R len kl both f pl s d ∧ kv_cmpL B R len kl both f pl s d < 70000
  | 0, _, _, _ => by rw [kv_cmpL]; omega
  | f + 1, pl, s, d => by
    rw [kv_cmpL]
    have h3 := kv_diff_in R len d (min (32 - s) (both - d)) B 87040 (pl * 32 + s)
    split
    · split
      · exact kv_cmpL_in B R len kl both h1 h2 f _ _ _
      · omega
    · omega
theorem ks_top_cmp {B R : Nat → UInt8} {len c : Nat} (h : len ≤ 8448) (k : (-70000 < kv_cmp B R len c ∧ kv_cmp B R len c < 70000) → ks_w E D nL ws lo cs ss pc (.int (Int32.ofInt (kv_cmp B R len c)) :: st)) : ks_w E D nL ws lo cs ss pc (.int (Int32.ofInt (kv_cmp B R len c)) :: st) := k (kv_cmpL_in B R len _ _ h (kv_num_lt _ _) 2720 c 6 0)
theorem kv_from_le {R : Nat → UInt8} {len : Nat} {F : Nat → UInt8} {fl a n : Nat} (h : len ≤ 8448) : (kv_from R len F fl a n).2 ≤ 8448 := by
  unfold kv_from
  split
  · show len + n ≤ 8448; omega
  · exact h
theorem ks_subZ (a b : Nat) : nI a - nI b = Int32.ofInt ((a : Int) - b) := by
  rw [Int32.ofInt_sub, Int32.ofInt_eq_ofNat, Int32.ofInt_eq_ofNat]
  rfl
theorem ks_Zloc {i a b : Nat} (hv : lo[i]? = some (some (.int (Int32.ofInt ((a : Int) - b))))) (h : b ≤ a) (k : ks_w E D nL ws (lo.set i (some (.int (nI (a - b))))) cs ss pc st) : ks_w E D nL ws lo cs ss pc st := by
  have e : lo.set i (some (.int (nI (a - b)))) = lo := by
    rw [show nI (a - b) = Int32.ofInt ((a : Int) - b) by rw [← ks_subZ, pk_sub h]]
    apply List.ext_getElem?
    intro j
    rw [List.getElem?_set]
    by_cases z : i = j
    · subst z
      rw [if_pos rfl, if_pos (List.getElem?_eq_some_iff.mp hv).1, hv]
    · rw [if_neg z]
  rw [e] at k
  exact k
theorem ks_top_count {B : Nat → UInt8} {p : Nat} (k : kv_count B p ≤ 14 → ks_w E D nL ws lo cs ss pc (.int (nI (kv_count B p)) :: st)) : ks_w E D nL ws lo cs ss pc (.int (nI (kv_count B p)) :: st) := k (Nat.min_le_right _ _)
theorem ks_top_level {B : Nat → UInt8} {p : Nat} (k : kv_level B p ≤ 4 → ks_w E D nL ws lo cs ss pc (.int (nI (kv_level B p)) :: st)) : ks_w E D nL ws lo cs ss pc (.int (nI (kv_level B p)) :: st) := k (Nat.min_le_right _ _)
theorem ks_top_slot {B : Nat → UInt8} {p i : Nat} (k : kv_slot B p i < 65536 → ks_w E D nL ws lo cs ss pc (.int (nI (kv_slot B p i)) :: st)) : ks_w E D nL ws lo cs ss pc (.int (nI (kv_slot B p i)) :: st) := k (kv_num_lt _ _)
theorem kv_least_lt (B : Nat → UInt8) : ∀ l s : Nat, s < 65536 → kv_least B l s < 65536
  | 0, _, h => h
  | l + 1, _, _ => kv_least_lt B l _ (kv_num_lt _ _)
theorem ks_top_least {B : Nat → UInt8} {l s : Nat} (h : s < 65536) (k : kv_least B l s < 65536 → ks_w E D nL ws lo cs ss pc (.int (nI (kv_least B l s)) :: st)) : ks_w E D nL ws lo cs ss pc (.int (nI (kv_least B l s)) :: st) := k (kv_least_lt B l s h)
theorem ks_top_make {M : kv_M} {l : Nat} (k : (kv_make M l).1 < 65536 → ks_w E D nL ws lo cs ss pc (.int (nI (kv_make M l).1) :: st)) : ks_w E D nL ws lo cs ss pc (.int (nI (kv_make M l).1) :: st) := k (kv_newP_lt M)
theorem ks_top_store {M : kv_M} {K : Nat → UInt8} {kl : Nat} {V : Nat → UInt8} {vl : Nat} (k : (kv_store M K kl V vl).1 < 65536 → ks_w E D nL ws lo cs ss pc (.int (nI (kv_store M K kl V vl).1) :: st)) : ks_w E D nL ws lo cs ss pc (.int (nI (kv_store M K kl V vl).1) :: st) := k (kv_newP_lt M)
theorem ks_top_split {M : kv_M} {p : Nat} {P : Nat → Nat} (k : (kv_split M p P).1 < 65536 → ks_w E D nL ws lo cs ss pc (.int (nI (kv_split M p P).1) :: st)) : ks_w E D nL ws lo cs ss pc (.int (nI (kv_split M p P).1) :: st) := k (kv_newP_lt M)
theorem ks_top_root {B : Nat → UInt8} {t : Nat} (k : kv_root B t < 65536 → ks_w E D nL ws lo cs ss pc (.int (nI (kv_root B t)) :: st)) : ks_w E D nL ws lo cs ss pc (.int (nI (kv_root B t)) :: st) := k (kv_num_lt _ _)
theorem ks_top_ents {B : Nat → UInt8} {t : Nat} (k : kv_ents B t < 65536 → ks_w E D nL ws lo cs ss pc (.int (nI (kv_ents B t)) :: st)) : ks_w E D nL ws lo cs ss pc (.int (nI (kv_ents B t)) :: st) := k (kv_num_lt _ _)
theorem kv_rankL_le (B R : Nat → UInt8) (len p lv : Nat) (orAt : Bool) : ∀ f lo hi m : Nat, lo ≤ m → hi ≤ m → kv_rankL B R len p lv orAt f lo hi ≤ m
  | 0, lo, hi, m, h1, h2 => h1
  | f + 1, lo, hi, m, h1, h2 => by
    rw [kv_rankL]
    split
    · split
      · exact kv_rankL_le B R len p lv orAt f _ _ m (by omega) h2
      · exact kv_rankL_le B R len p lv orAt f _ _ m h1 (by omega)
    · exact h1
theorem kv_rank_le (B R : Nat → UInt8) (len p : Nat) (orAt : Bool) : kv_rank B R len p orAt ≤ 14 := kv_rankL_le B R len p _ orAt 14 0 _ 14 (by omega) (Nat.min_le_right _ _)
theorem ks_top_rank {B R : Nat → UInt8} {len p : Nat} {orAt : Bool} (k : kv_rank B R len p orAt ≤ 14 → ks_w E D nL ws lo cs ss pc (.int (nI (kv_rank B R len p orAt)) :: st)) : ks_w E D nL ws lo cs ss pc (.int (nI (kv_rank B R len p orAt)) :: st) := k (kv_rank_le B R len p orAt)
theorem kv_desL_in (B R : Nat → UInt8) (len : Nat) : ∀ (l n : Nat) (pn ps : Nat → Nat), n < 65536 → (kv_desL B R len l n pn ps).1 0 < 65536 ∧ (kv_desL B R len l n pn ps).2 0 ≤ 14
  | 0, n, pn, ps, h => by simp [kv_desL, va_up, h, kv_rank_le]
  | l + 1, n, pn, ps, h => kv_desL_in B R len l _ _ _ (kv_num_lt _ _)
theorem kv_desL_all (B R : Nat → UInt8) (len : Nat) : ∀ (l n : Nat) (pn ps : Nat → Nat), n < 65536 → (∀ j, pn j < 65536) → (∀ j, ps j < 65536) → ∀ j, (kv_desL B R len l n pn ps).1 j < 65536 ∧ (kv_desL B R len l n pn ps).2 j < 65536
  | 0, n, pn, ps, h, h1, h2, j => by
    have := kv_rank_le B R len n false
    simp only [kv_desL, va_up]
    split
    · omega
    · exact ⟨h1 j, h2 j⟩
  | l + 1, n, pn, ps, h, h1, h2, j => by
    rw [kv_desL]
    refine kv_desL_all B R len l _ _ _ (kv_num_lt _ _) (fun i => ?_) (fun i => ?_) j
    · simp only [va_up]; split
      · exact h
      · exact h1 i
    · have := kv_rank_le B R len n true
      simp only [va_up]; split
      · omega
      · exact h2 i
theorem kv_desc_in (B R : Nat → UInt8) (len t : Nat) (pn ps : Nat → Nat) : (kv_desc B R len t pn ps).1 0 < 65536 ∧ (kv_desc B R len t pn ps).2 0 ≤ 14 := kv_desL_in B R len _ _ pn ps (kv_num_lt _ _)
theorem kv_desc_all (B R : Nat → UInt8) (len t : Nat) (pn ps : Nat → Nat) (h1 : ∀ j, pn j < 65536) (h2 : ∀ j, ps j < 65536) : ∀ j, (kv_desc B R len t pn ps).1 j < 65536 ∧ (kv_desc B R len t pn ps).2 j < 65536 := kv_desL_all B R len _ _ pn ps (kv_num_lt _ _) h1 h2
theorem ks_up_self {f : Nat → Nat} {k v : Nat} : va_up f k v k = v := by simp [va_up]
theorem ks_maxZ {a : Nat} (h : a < 65536) : (if Int32.ofInt ((a : Int) - (1 : Nat)) < nI 0 then nI 0 else Int32.ofInt ((a : Int) - (1 : Nat))) = nI (a - 1) := by
  by_cases z : a = 0
  · subst z; rfl
  · rw [← ks_subZ, pk_sub (by omega), if_neg (nI_nlt (by omega) (by omega))]
theorem ks_max0 {a idx : Nat} (C : ks_ok E l0 D tys R0 cc nL own) (hlink : Cond.methodLink own idx Lib.Math.max.name ∈ ks_tbl) (hwm : Cond.static Lib.Math.max.name ∈ ks_tbl ∧ Cond.initialized "java/lang/Math" ∈ ks_tbl ∧ Cond.code Lib.Math.max.name Lib.Math.max.code 2 (some .int) ∈ ks_tbl) (ha : a < 65536) (hfr : 1 ≤ R0.frames) (hlo : (st.map fun v => v.category).sum + 13 ≤ R0.locals) (hc : cs ≤ R0.cells) (hs : ss ≤ R0.slots) (hd : decode cc pc = .ok (.invokestatic idx, 3)) (k : ks_w E D nL ws lo cs ss (pc + 3) (.int (nI (a - 1)) :: st)) : ks_w E D nL ws lo cs ss pc (.int (nI 0) :: .int (Int32.ofInt ((a : Int) - (1 : Nat))) :: st) := by
  obtain ⟨p, l, e, R, s, m, args, below, meth, c, Q, A⟩ := E
  obtain ⟨-, rfl, hx, hb, hml, hown, hts, hK, hA, hlocks, hNw⟩ := C
  intro H locs ls hP hD hS hl
  refine va_mmax hx hb (hml.trans hl.1.symm) hown (hts _ hlink) (hts _ hwm.1) (hts _ hwm.2.1) (hts _ hwm.2.2) hfr hlo hc hs hd ?_
  rw [ks_maxZ ha]
  exact k H locs ls hP hD hS hl
theorem ks_inegN {a : Nat} (h : a ≤ 4294967296) (C : ks_ok E l0 D tys R0 cc nL own) (hd : decode cc pc = .ok (.ineg, 1)) (k : ks_w E D nL ws lo cs ss (pc + 1) (.int (nI (4294967296 - a)) :: st)) : ks_w E D nL ws lo cs ss pc (.int (nI a) :: st) := ks_ineg C hd (by
  have e : -nI a = nI (4294967296 - a) := by
    rw [← pk_sub h]
    show -nI a = (0 : Int32) - nI a
    rw [Int32.zero_sub]
  rw [e]
  exact k)
theorem kv_luL_le (B : Nat → UInt8) : ∀ f i : Nat, i + f = 64 → kv_luL B f i ≤ 64
  | 0, _, _ => Nat.le_refl _
  | f + 1, i, h => by
    rw [kv_luL]
    split
    · exact kv_luL_le B f (i + 1) (by omega)
    · omega
theorem ks_top_lu {B : Nat → UInt8} (k : kv_lu B ≤ 64 → ks_w E D nL ws lo cs ss pc (.int (nI (kv_lu B)) :: st)) : ks_w E D nL ws lo cs ss pc (.int (nI (kv_lu B)) :: st) := k (kv_luL_le B 64 0 rfl)
theorem kv_look_lt (B R : Nat → UInt8) (len t : Nat) (pn ps : Nat → Nat) : kv_look B R len t pn ps < 65536 := by
  unfold kv_look
  split
  · omega
  · split
    · exact kv_num_lt _ _
    · omega
theorem ks_top_look {B R : Nat → UInt8} {len t : Nat} {pn ps : Nat → Nat} (k : kv_look B R len t pn ps < 65536 → ks_w E D nL ws lo cs ss pc (.int (nI (kv_look B R len t pn ps)) :: st)) : ks_w E D nL ws lo cs ss pc (.int (nI (kv_look B R len t pn ps)) :: st) := k (kv_look_lt B R len t pn ps)
theorem kv_upF_lt (B : Nat → UInt8) (pn ps : Nat → Nat) : ∀ k l : Nat, kv_upF B pn ps k l < 65536
  | 0, _ => by rw [kv_upF]; omega
  | k + 1, l => by
    rw [kv_upF]
    split
    · exact kv_least_lt B l _ (kv_num_lt _ _)
    · exact kv_upF_lt B pn ps k (l + 1)
theorem kv_first_lt (B R : Nat → UInt8) (len t : Nat) (a : Bool) (pn ps : Nat → Nat) : kv_first B R len t a pn ps < 65536 := by
  unfold kv_first
  generalize (if a = true then kv_rank B R len ((kv_desc B R len t pn ps).1 0) true else (kv_desc B R len t pn ps).2 0) = i
  split
  · exact kv_num_lt _ _
  · exact kv_upF_lt _ _ _ _ _
theorem ks_top_first {B R : Nat → UInt8} {len t : Nat} {a : Bool} {pn ps : Nat → Nat} (k : kv_first B R len t a pn ps < 65536 → ks_w E D nL ws lo cs ss pc (.int (nI (kv_first B R len t a pn ps)) :: st)) : ks_w E D nL ws lo cs ss pc (.int (nI (kv_first B R len t a pn ps)) :: st) := k (kv_first_lt B R len t a pn ps)
theorem ks_iconstB {n : Int} (t : Bool) (hv : Int32.ofInt n = ks_b t) (C : ks_ok E l0 D tys R0 cc nL own) (hd : decode cc pc = .ok (.iconst n, 1)) (k : ks_w E D nL ws lo cs ss (pc + 1) (.int (ks_b t) :: st)) : ks_w E D nL ws lo cs ss pc st := ks_iconstI hv C hd k
theorem ks_iflt0 {a : Nat} {off : Int} (C : ks_ok E l0 D tys R0 cc nL own) (ha : a < 2 ^ 31) (hd : decode cc pc = .ok (.ifCond .lt off, 3)) {tgt : Nat} (ht : (pc : Int) + off = (tgt : Int)) (k : ks_w E D nL ws lo cs ss (pc + 3) st) : ks_w E D nL ws lo cs ss pc (.int (nI a) :: st) := ks_if_lt C ha ht hd (fun h => h.elim) (fun _ => k)
theorem ks_ifge0 {a : Nat} {off : Int} (C : ks_ok E l0 D tys R0 cc nL own) (ha : a < 2 ^ 31) (hd : decode cc pc = .ok (.ifCond .ge off, 3)) {tgt : Nat} (ht : (pc : Int) + off = (tgt : Int)) (k : ks_w E D nL ws lo cs ss tgt st) : ks_w E D nL ws lo cs ss pc (.int (nI a) :: st) := ks_if_ge C ha ht hd (fun _ => k) (fun h => absurd trivial h)
theorem ks_sh8 {a : Nat} (h : a < 2 ^ 24) : nI a <<< (nI 8 &&& 31) = nI (a * 256) := pk_shlN _ 8 (by decide) (by omega)
theorem ks_or8 {a b : Nat} (hb : b < 256) : nI (a * 256) ||| nI b = nI (a * 256 + b) := by
  have h : ∀ x y : Nat, nI x ||| nI y = nI (x ||| y) := fun x y => Int32.toBitVec_inj.mp (by
    show BitVec.ofNat 32 x ||| BitVec.ofNat 32 y = BitVec.ofNat 32 (x ||| y)
    apply BitVec.eq_of_getLsbD_eq
    intro i hi
    simp [BitVec.getLsbD_or, BitVec.getLsbD_ofNat, Nat.testBit_or])
  rw [h, Nat.mul_comm a 256]
  exact congrArg nI (Nat.two_pow_add_eq_or_of_lt (i := 8) (b := b) hb a).symm
theorem ks_ishl8 {a : Nat} (h : a < 2 ^ 24) (C : ks_ok E l0 D tys R0 cc nL own) (hd : decode cc pc = .ok (.ishl, 1)) (k : ks_w E D nL ws lo cs ss (pc + 1) (.int (nI (a * 256)) :: st)) : ks_w E D nL ws lo cs ss pc (.int (nI 8) :: .int (nI a) :: st) := ks_ishlI C hd (by rw [ks_sh8 h]; exact k)
theorem ks_ior8 {a b : Nat} (h : b < 256) (C : ks_ok E l0 D tys R0 cc nL own) (hd : decode cc pc = .ok (.ior, 1)) (k : ks_w E D nL ws lo cs ss (pc + 1) (.int (nI (a * 256 + b)) :: st)) : ks_w E D nL ws lo cs ss pc (.int (nI b) :: .int (nI (a * 256)) :: st) := ks_iorI C hd (by rw [ks_or8 h]; exact k)
/-! bytes of numbers -/
theorem ks_sbi (n : Nat) : sb_b n = (Int8.ofNat n).toInt32 := congrArg Int8.toInt32 (Int32.toInt8_ofNat' (n := n))
theorem ks_sbm (n : Nat) : sb_b n = sb_b (n % 256) := by
  rw [ks_sbi, ks_sbi]
  congr 1
  apply Int8.toBitVec_inj.mp
  rw [Int8.toBitVec_ofNat', Int8.toBitVec_ofNat']
  apply BitVec.eq_of_toNat_eq
  simp
theorem ks_nb (n : Nat) : vp_nar .byte ((nI n).toInt8.toInt32) = sb_b (UInt8.ofNat n).toNat := by
  rw [pk_vb]
  show sb_b n = _
  rw [ks_sbm n, UInt8.toNat_ofNat']
theorem ks_nb8 (n : Nat) : vp_nar .byte ((nI n >>> (nI 8 &&& 31)).toInt8.toInt32) = sb_b (UInt8.ofNat (n / 256)).toNat := by
  rw [pk_vb]
  have e : (nI n >>> (nI 8 &&& 31)).toInt8 = Int8.ofNat (n / 256) := by
    apply Int8.toBitVec_inj.mp
    rw [Int32.toBitVec_toInt8, Int8.toBitVec_ofNat']
    have e0 : (nI n >>> (nI 8 &&& 31)).toBitVec = (BitVec.ofNat 32 n).sshiftRight 8 := by
      show (BitVec.ofNat 32 n).sshiftRight ((nI 8 &&& 31).toBitVec.smod 32).toNat = _
      rw [show ((nI 8 &&& 31).toBitVec.smod 32).toNat = 8 by decide]
    rw [e0]
    apply BitVec.eq_of_getLsbD_eq
    intro i hi
    rw [BitVec.getLsbD_signExtend, BitVec.getLsbD_sshiftRight, BitVec.getLsbD_ofNat, BitVec.getLsbD_ofNat]
    have hd : (n / 256).testBit i = n.testBit (8 + i) := by
      rw [show (256 : Nat) = 2 ^ 8 from rfl, Nat.testBit_div_two_pow, Nat.add_comm]
    rw [hd]
    simp [show i < 8 from hi, show i < 32 by omega, show 8 + i < 32 by omega]
  rw [e, ← ks_sbi, ks_sbm (n / 256), UInt8.toNat_ofNat']
theorem ks_nz (t : Bool) : vp_nar .boolean (ks_b t) = ks_b t := by cases t <;> decide
theorem ks_z1 : nI 1 = ks_b true := rfl
theorem ks_z0 : nI 0 = ks_b false := rfl
theorem ks_nb1 (t : Bool) : narrow .boolean (.int (ks_b t)) = .int (ks_b t) := by cases t <;> rfl
theorem ks_fb1 (t : Bool) : fits .boolean (.int (ks_b t)) = true := by cases t <;> rfl
/-! compared with a difference -/
theorem ks_icmpS_gt {a b c : Nat} {off : Int} {tgt : Nat} (C : ks_ok E l0 D tys R0 cc nL own) (ha : a < 2 ^ 30) (hb2 : b < 2 ^ 30) (hc2 : c < 2 ^ 30) (ht : (pc : Int) + off = (tgt : Int)) (hd : decode cc pc = .ok (.if_icmp .gt off, 3)) (kt : b < a + c → ks_w E D nL ws lo cs ss tgt st) (kf : ¬ b < a + c → ks_w E D nL ws lo cs ss (pc + 3) st) : ks_w E D nL ws lo cs ss pc (.int (nI b - nI c) :: .int (nI a) :: st) := by
  refine ks_icmpI_gt C ht hd (fun h => kt ?_) (fun h => kf (fun z => h ?_))
  · have h1 := Int32.lt_iff_toInt_lt.mp h
    rw [pk_sub_toInt hb2 hc2, nI_toInt (by omega)] at h1
    omega
  · apply Int32.lt_iff_toInt_lt.mpr
    rw [pk_sub_toInt hb2 hc2, nI_toInt (by omega)]
    omega
theorem ks_icmpS_le {a b c : Nat} {off : Int} {tgt : Nat} (C : ks_ok E l0 D tys R0 cc nL own) (ha : a < 2 ^ 30) (hb2 : b < 2 ^ 30) (hc2 : c < 2 ^ 30) (ht : (pc : Int) + off = (tgt : Int)) (hd : decode cc pc = .ok (.if_icmp .le off, 3)) (kt : a + c ≤ b → ks_w E D nL ws lo cs ss tgt st) (kf : ¬ a + c ≤ b → ks_w E D nL ws lo cs ss (pc + 3) st) : ks_w E D nL ws lo cs ss pc (.int (nI b - nI c) :: .int (nI a) :: st) := by
  refine ks_icmpI_le C ht hd (fun h => kt ?_) (fun h => kf (fun z => h ?_))
  · have h1 := Int32.le_iff_toInt_le.mp h
    rw [pk_sub_toInt hb2 hc2, nI_toInt (by omega)] at h1
    omega
  · apply Int32.le_iff_toInt_le.mpr
    rw [pk_sub_toInt hb2 hc2, nI_toInt (by omega)]
    omega
theorem ks_ifD_eq {p : Prop} [Decidable p] {off : Int} {tgt : Nat} (C : ks_ok E l0 D tys R0 cc nL own) (ht : (pc : Int) + off = (tgt : Int)) (hd : decode cc pc = .ok (.ifCond .eq off, 3)) (kt : ¬ p → ks_w E D nL ws lo cs ss tgt st) (kf : p → ks_w E D nL ws lo cs ss (pc + 3) st) : ks_w E D nL ws lo cs ss pc (.int (ks_b (decide p)) :: st) := ks_ifB_eq C ht hd (fun h => kt (of_decide_eq_false h)) (fun h => kf (of_decide_eq_true h))
theorem ks_ifD_ne {p : Prop} [Decidable p] {off : Int} {tgt : Nat} (C : ks_ok E l0 D tys R0 cc nL own) (ht : (pc : Int) + off = (tgt : Int)) (hd : decode cc pc = .ok (.ifCond .ne off, 3)) (kt : p → ks_w E D nL ws lo cs ss tgt st) (kf : ¬ p → ks_w E D nL ws lo cs ss (pc + 3) st) : ks_w E D nL ws lo cs ss pc (.int (ks_b (decide p)) :: st) := ks_ifB_ne C ht hd (fun h => kt (of_decide_eq_true h)) (fun h => kf (of_decide_eq_false h))
theorem ks_aret {rm : Room} {ret : Option FieldType} {wc : va_W} {post : Option Value → va_W → Prop} {a : Nat} {t : FieldType} (C : ks_ok E l0 D tys R0 cc nL own) (Z : ks_z E D tys rm ret wc post) (hret : ret = some (.array t)) (hd : decode cc pc = .ok (.areturn, 1)) (hc : cs = rm.cells) (hs : ss = rm.slots) (hp : post (some (.ref a)) ws) : ks_w E D nL ws lo cs ss pc [.ref a] := by
  obtain ⟨p, l, e, R, s, m, args, below, meth, c, Q, A⟩ := E
  obtain ⟨-, -, hx, hb, hml, hown, hts, hK, hA, hlocks, hNw⟩ := C
  intro H locs ls hP hD hS hl
  obtain ⟨hr, rfl, rfl⟩ := Z
  subst hc
  subst hs
  exact W.aret hx hb (hr.trans hret) (Or.inr ⟨_, rfl⟩) (Or.inr ⟨_, rfl⟩) (fun t ht hW => ⟨_, _, hp, rfl, ⟨by rw [ht]; exact hP, va_K.moved hW.alike hK, hD⟩, hS.F ht⟩) hS.2.2 hd
theorem ks_eqN {a b : Nat} (h : a = b) : (some (Value.int (nI a)) : Option Value) = some (.int (nI b)) := by rw [h]
theorem ks_eqB {a b : Bool} (h : a = b) : (some (Value.int (ks_b a)) : Option Value) = some (.int (ks_b b)) := by rw [h]
theorem ks_eqT {p : Prop} [Decidable p] (h : p) : (some (Value.int (ks_b true)) : Option Value) = some (.int (ks_b (decide p))) := by rw [decide_eq_true h]
theorem ks_eqF {p : Prop} [Decidable p] (h : ¬ p) : (some (Value.int (ks_b false)) : Option Value) = some (.int (ks_b (decide p))) := by rw [decide_eq_false h]
/-! whole numbers that may be below 0 -/
theorem ks_isubZ {a b : Nat} (C : ks_ok E l0 D tys R0 cc nL own) (hd : decode cc pc = .ok (.isub, 1)) (k : ks_w E D nL ws lo cs ss (pc + 1) (.int (Int32.ofInt ((a : Int) - b)) :: st)) : ks_w E D nL ws lo cs ss pc (.int (nI b) :: .int (nI a) :: st) := ks_isubI C hd (by rw [ks_subZ]; exact k)
theorem ks_zI {z : Int} (h1 : -2147483648 ≤ z) (h2 : z < 2147483648) : (Int32.ofInt z).toInt = z := Int32.toInt_ofInt_of_le (by omega) (by omega)
theorem ks_z0I : (0 : Int32).toInt = 0 := rfl
theorem ks_ifZ_eq {z : Int} {off : Int} {tgt : Nat} (C : ks_ok E l0 D tys R0 cc nL own) (h1 : -2147483648 ≤ z) (h2 : z < 2147483648) (ht : (pc : Int) + off = (tgt : Int)) (hd : decode cc pc = .ok (.ifCond .eq off, 3)) (kt : z = 0 → ks_w E D nL ws lo cs ss tgt st) (kf : ¬ (z = 0) → ks_w E D nL ws lo cs ss (pc + 3) st) : ks_w E D nL ws lo cs ss pc (.int (Int32.ofInt z) :: st) := ks_ifI_eq C ht hd (fun h => kt (by have := congrArg Int32.toInt h; rw [ks_zI h1 h2, ks_z0I] at this; exact this)) (fun h => kf (fun e => h (by rw [e]; rfl)))
theorem ks_ifZ_ne {z : Int} {off : Int} {tgt : Nat} (C : ks_ok E l0 D tys R0 cc nL own) (h1 : -2147483648 ≤ z) (h2 : z < 2147483648) (ht : (pc : Int) + off = (tgt : Int)) (hd : decode cc pc = .ok (.ifCond .ne off, 3)) (kt : z ≠ 0 → ks_w E D nL ws lo cs ss tgt st) (kf : ¬ (z ≠ 0) → ks_w E D nL ws lo cs ss (pc + 3) st) : ks_w E D nL ws lo cs ss pc (.int (Int32.ofInt z) :: st) := ks_ifI_ne C ht hd (fun h => kt (fun e => h (by rw [e]; rfl))) (fun h => kf (fun e => e (by have := congrArg Int32.toInt h; rw [ks_zI h1 h2, ks_z0I] at this; exact this)))
theorem ks_ifZ_lt {z : Int} {off : Int} {tgt : Nat} (C : ks_ok E l0 D tys R0 cc nL own) (h1 : -2147483648 ≤ z) (h2 : z < 2147483648) (ht : (pc : Int) + off = (tgt : Int)) (hd : decode cc pc = .ok (.ifCond .lt off, 3)) (kt : z < 0 → ks_w E D nL ws lo cs ss tgt st) (kf : ¬ (z < 0) → ks_w E D nL ws lo cs ss (pc + 3) st) : ks_w E D nL ws lo cs ss pc (.int (Int32.ofInt z) :: st) := ks_ifI_lt C ht hd (fun h => kt (by have := Int32.lt_iff_toInt_lt.mp h; rw [ks_zI h1 h2, ks_z0I] at this; exact this)) (fun h => kf (fun e => h (Int32.lt_iff_toInt_lt.mpr (by rw [ks_zI h1 h2, ks_z0I]; exact e))))
theorem ks_ifZ_ge {z : Int} {off : Int} {tgt : Nat} (C : ks_ok E l0 D tys R0 cc nL own) (h1 : -2147483648 ≤ z) (h2 : z < 2147483648) (ht : (pc : Int) + off = (tgt : Int)) (hd : decode cc pc = .ok (.ifCond .ge off, 3)) (kt : 0 ≤ z → ks_w E D nL ws lo cs ss tgt st) (kf : ¬ (0 ≤ z) → ks_w E D nL ws lo cs ss (pc + 3) st) : ks_w E D nL ws lo cs ss pc (.int (Int32.ofInt z) :: st) := ks_ifI_ge C ht hd (fun h => kt (by have := Int32.le_iff_toInt_le.mp h; rw [ks_zI h1 h2, ks_z0I] at this; exact this)) (fun h => kf (fun e => h (Int32.le_iff_toInt_le.mpr (by rw [ks_zI h1 h2, ks_z0I]; exact e))))
theorem ks_ifZ_gt {z : Int} {off : Int} {tgt : Nat} (C : ks_ok E l0 D tys R0 cc nL own) (h1 : -2147483648 ≤ z) (h2 : z < 2147483648) (ht : (pc : Int) + off = (tgt : Int)) (hd : decode cc pc = .ok (.ifCond .gt off, 3)) (kt : 0 < z → ks_w E D nL ws lo cs ss tgt st) (kf : ¬ (0 < z) → ks_w E D nL ws lo cs ss (pc + 3) st) : ks_w E D nL ws lo cs ss pc (.int (Int32.ofInt z) :: st) := ks_ifI_gt C ht hd (fun h => kt (by have := Int32.lt_iff_toInt_lt.mp h; rw [ks_zI h1 h2, ks_z0I] at this; exact this)) (fun h => kf (fun e => h (Int32.lt_iff_toInt_lt.mpr (by rw [ks_zI h1 h2, ks_z0I]; exact e))))
theorem ks_ifZ_le {z : Int} {off : Int} {tgt : Nat} (C : ks_ok E l0 D tys R0 cc nL own) (h1 : -2147483648 ≤ z) (h2 : z < 2147483648) (ht : (pc : Int) + off = (tgt : Int)) (hd : decode cc pc = .ok (.ifCond .le off, 3)) (kt : z ≤ 0 → ks_w E D nL ws lo cs ss tgt st) (kf : ¬ (z ≤ 0) → ks_w E D nL ws lo cs ss (pc + 3) st) : ks_w E D nL ws lo cs ss pc (.int (Int32.ofInt z) :: st) := ks_ifI_le C ht hd (fun h => kt (by have := Int32.le_iff_toInt_le.mp h; rw [ks_zI h1 h2, ks_z0I] at this; exact this)) (fun h => kf (fun e => h (Int32.le_iff_toInt_le.mpr (by rw [ks_zI h1 h2, ks_z0I]; exact e))))
end KSW
/-! worlds: the objects of the system, with what they hold -/
abbrev kw_row (K : Nat → ClassId) (r0 r1 : Nat) (R : Nat → UInt8) (len : Nat) : va_W := [(r0, .inr (0, [.ref r1, .int (nI len)])), (r1, .inl (K 0, 8448, .inl (ks_by R)))]
abbrev kw_arr (K : Nat → ClassId) (a n : Nat) (F : Nat → UInt8) : va_W := [(a, .inl (K 0, n, .inl (ks_by F)))]
abbrev kw_pages (K : Nat → ClassId) (x0 x1 x2 : Nat) (B : Nat → UInt8) (G : Nat → Bool) : va_W := [(x0, .inr (1, [.ref x1, .ref x2])), (x1, .inl (K 0, 87040, .inl (ks_by B))), (x2, .inl (K 1, 2720, .inl (ks_bo G)))]
abbrev kw_chains (c0 x0 pg ca : Nat) : va_W := [(c0, .inr (4, [.ref x0, .int (nI pg), .int (nI ca)]))]
abbrev kw_nodes (K : Nat → ClassId) (n0 n1 x0 : Nat) (P : Nat → Nat) : va_W := [(n0, .inr (5, [.ref x0, .ref n1])), (n1, .inl (K 2, 28, .inl (ks_in P)))]
abbrev kw_trees (K : Nat → ClassId) (t0 t1 t2 x0 n0 c0 : Nat) (pn ps : Nat → Nat) (top : Nat) : va_W := [(t0, .inr (6, [.ref x0, .ref n0, .ref c0, .ref t1, .ref t2, .int (nI top)])), (t1, .inl (K 2, 6, .inl (ks_in pn))), (t2, .inl (K 2, 6, .inl (ks_in ps)))]
