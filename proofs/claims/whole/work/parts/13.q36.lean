/-! PURE, the 36th: one store, as the document has it; the class's data stand for it -/
/-- now, lasting, MARKS; THE KEY, THE VALUE, FOUND; on, open; the plan -/
abbrev kz_S : Type := (kp_A × kp_A × List kp_A) × (List UInt8 × List UInt8 × Option kp_KV) × (Bool × Bool) × (Nat × Nat)
abbrev kz_D : Type := (Bool × Bool × Bool) × (((Nat → UInt8) × Nat) × ((Nat → UInt8) × Nat) × ((Nat → UInt8) × Nat) × ((Nat → UInt8) × Nat)) × ((Nat → UInt8) × (Nat → UInt8) × (Nat → UInt8) × Nat × Nat × Nat × Nat) × kv_M × ((Nat → UInt8) × (Nat → UInt8) × (Nat → UInt8) × (Nat → UInt8) × (Nat → UInt8) × Nat) × (Nat × Nat) × (Nat → Nat) × ((Nat → Nat) × (Nat → Nat) × Nat) × ((Nat → Bool) × Nat × Nat × Nat) × ((Nat → UInt8) × Nat)
def kz_mk (S0 S1 S2 S3 S4 : Nat → UInt8) (i : Nat) : Nat → UInt8 := match i with
  | 0 => S0
  | 1 => S1
  | 2 => S2
  | 3 => S3
  | _ => S4
def kz_fd (Gb : Nat → UInt8) (gl : Nat) (Eb : Nat → UInt8) (el : Nat) : Option kp_KV → Prop
  | none => gl = 0 ∧ el = 0
  | some e => kp_row Gb gl e.1 ∧ kp_row Eb el e.2
def kz_C : kz_D → kz_S → Prop
  | ((fnd, on, opn), ((Kb, kl), (Vb, vl), (Gb, gl), (Eb, el)), (F, J, Rc, jl, fw, fk, fb), (B, G), (S0, S1, S2, S3, S4, cnt), (pg, ca), P, (pn, ps, top), (Cl, cw, cen, csz), (Lr, ll)), ((A, L, Ms), (key, val, fd), (son, sop), (sw, sk)) =>
    (kl ≤ 8448 ∧ vl ≤ 8448 ∧ gl ≤ 8448 ∧ el ≤ 8448 ∧ ll ≤ 8448 ∧ jl ≤ 92480 ∧ fw ≤ 4 ∧ fk ≤ 1000 ∧ fb ≤ 300 ∧ cnt ≤ 5) ∧
    ((∀ j, pn j < 65536) ∧ (∀ j, ps j < 65536) ∧ ∀ j, P j < 65536) ∧
    (on = son ∧ opn = sop ∧ fnd = fd.isSome ∧ cnt = Ms.length ∧ (sop = false → Ms = [])) ∧
    (kp_row Kb kl key ∧ kp_row Vb vl val ∧ kz_fd Gb gl Eb el fd) ∧
    (son = true → jl = 0 ∧ kp_inv F L ∧ kp_mem F B G A ∧ (∀ i a, Ms[i]? = some a → kp_mem F (kz_mk S0 S1 S2 S3 S4 i) G a) ∧ fw = sw ∧ fk = sk) ∧
    (son = false → kp_las F J jl L ∧ (fw = 3 ↔ sw = 3) ∧ fk = sk ∧ A = L ∧ Ms = [] ∧ sop = false ∧ key = [] ∧ val = [] ∧ fd = none)
def kz_nk (X : List UInt8) (w : Int64) (n : Nat) : List UInt8 := if n = 0 then [] else X ++ kz_wd w n
theorem kz_nk_row {R : Nat → UInt8} {len : Nat} {X : List UInt8} (h : kp_row R len X) (w : Int64) (n : Nat) : kp_row (kv_app w n R (if n = 0 then 0 else len)).1 (kv_app w n R (if n = 0 then 0 else len)).2 (kz_nk X w n) := by
  unfold kz_nk
  by_cases z : n = 0
  · subst z; exact kp_row_nil R
  · rw [if_neg z, if_neg z]; exact kz_app n R len X h
theorem zC_key {fnd on opn : Bool} {Kb : Nat → UInt8} {kl : Nat} {Vb : Nat → UInt8} {vl : Nat} {Gb : Nat → UInt8} {gl : Nat} {Eb : Nat → UInt8} {el : Nat} {F J Rc : Nat → UInt8} {jl fw fk fb : Nat} {B : Nat → UInt8} {G : Nat → Bool} {S0 S1 S2 S3 S4 : Nat → UInt8} {cnt pg ca : Nat} {P pn ps : Nat → Nat} {top : Nat} {Cl : Nat → Bool} {cw cen csz : Nat} {Lr : Nat → UInt8} {ll : Nat} {A L : kp_A} {Ms : List kp_A} {key val : List UInt8} {fd : Option kp_KV} {sop : Bool} {sw sk : Nat} {w : Int64} {n : Nat} (h : kz_C (((fnd, on, opn), ((Kb, kl), (Vb, vl), (Gb, gl), (Eb, el)), (F, J, Rc, jl, fw, fk, fb), (B, G), (S0, S1, S2, S3, S4, cnt), (pg, ca), P, (pn, ps, top), (Cl, cw, cen, csz), (Lr, ll)) : kz_D) (((A, L, Ms), (key, val, fd), (true, sop), (sw, sk)) : kz_S)) (h1 : n ≤ 8) (h2 : kl + n ≤ 8448) : kz_C (((fnd, on, opn), (((kv_app w n Kb (if n = 0 then 0 else kl)).1, (kv_app w n Kb (if n = 0 then 0 else kl)).2), (Vb, vl), (Gb, gl), (Eb, el)), (F, J, Rc, jl, fw, fk, fb), (B, G), (S0, S1, S2, S3, S4, cnt), (pg, ca), P, (pn, ps, top), (Cl, cw, cen, csz), (Lr, ll)) : kz_D) (((A, L, Ms), ((kz_nk key w n), val, fd), (true, sop), (sw, sk)) : kz_S) := by
  obtain ⟨⟨r1, r2, r3, r4, r5, r6, r7, r8, r9, r10⟩, ⟨p1, p2, p3⟩, ⟨b1, b2, b3, b4, b5⟩, ⟨w1, w2, w3⟩, nn, f⟩ := h
  refine ⟨⟨?_, r2, r3, r4, r5, r6, r7, r8, r9, r10⟩, ⟨p1, p2, p3⟩, ⟨b1, b2, b3, b4, b5⟩, ⟨kz_nk_row w1 w n, w2, w3⟩, nn, fun z => by simp at z⟩
  rw [kz_app_len]; split <;> omega
theorem zC_fillkey {fnd on opn : Bool} {Kb : Nat → UInt8} {kl : Nat} {Vb : Nat → UInt8} {vl : Nat} {Gb : Nat → UInt8} {gl : Nat} {Eb : Nat → UInt8} {el : Nat} {F J Rc : Nat → UInt8} {jl fw fk fb : Nat} {B : Nat → UInt8} {G : Nat → Bool} {S0 S1 S2 S3 S4 : Nat → UInt8} {cnt pg ca : Nat} {P pn ps : Nat → Nat} {top : Nat} {Cl : Nat → Bool} {cw cen csz : Nat} {Lr : Nat → UInt8} {ll : Nat} {A L : kp_A} {Ms : List kp_A} {key val : List UInt8} {fd : Option kp_KV} {sop : Bool} {sw sk : Nat} {n : Nat} {c : UInt8} (h : kz_C (((fnd, on, opn), ((Kb, kl), (Vb, vl), (Gb, gl), (Eb, el)), (F, J, Rc, jl, fw, fk, fb), (B, G), (S0, S1, S2, S3, S4, cnt), (pg, ca), P, (pn, ps, top), (Cl, cw, cen, csz), (Lr, ll)) : kz_D) (((A, L, Ms), (key, val, fd), (true, sop), (sw, sk)) : kz_S)) (h2 : kl + n ≤ 8448) : kz_C (((fnd, on, opn), (((kv_same Kb kl c n), (kl + n)), (Vb, vl), (Gb, gl), (Eb, el)), (F, J, Rc, jl, fw, fk, fb), (B, G), (S0, S1, S2, S3, S4, cnt), (pg, ca), P, (pn, ps, top), (Cl, cw, cen, csz), (Lr, ll)) : kz_D) (((A, L, Ms), ((key ++ List.replicate n c), val, fd), (true, sop), (sw, sk)) : kz_S) := by
  obtain ⟨⟨r1, r2, r3, r4, r5, r6, r7, r8, r9, r10⟩, ⟨p1, p2, p3⟩, ⟨b1, b2, b3, b4, b5⟩, ⟨w1, w2, w3⟩, nn, f⟩ := h
  exact ⟨⟨h2, r2, r3, r4, r5, r6, r7, r8, r9, r10⟩, ⟨p1, p2, p3⟩, ⟨b1, b2, b3, b4, b5⟩, ⟨kz_fil w1, w2, w3⟩, nn, fun z => by simp at z⟩
theorem zC_val {fnd on opn : Bool} {Kb : Nat → UInt8} {kl : Nat} {Vb : Nat → UInt8} {vl : Nat} {Gb : Nat → UInt8} {gl : Nat} {Eb : Nat → UInt8} {el : Nat} {F J Rc : Nat → UInt8} {jl fw fk fb : Nat} {B : Nat → UInt8} {G : Nat → Bool} {S0 S1 S2 S3 S4 : Nat → UInt8} {cnt pg ca : Nat} {P pn ps : Nat → Nat} {top : Nat} {Cl : Nat → Bool} {cw cen csz : Nat} {Lr : Nat → UInt8} {ll : Nat} {A L : kp_A} {Ms : List kp_A} {key val : List UInt8} {fd : Option kp_KV} {sop : Bool} {sw sk : Nat} {w : Int64} {n : Nat} (h : kz_C (((fnd, on, opn), ((Kb, kl), (Vb, vl), (Gb, gl), (Eb, el)), (F, J, Rc, jl, fw, fk, fb), (B, G), (S0, S1, S2, S3, S4, cnt), (pg, ca), P, (pn, ps, top), (Cl, cw, cen, csz), (Lr, ll)) : kz_D) (((A, L, Ms), (key, val, fd), (true, sop), (sw, sk)) : kz_S)) (h1 : n ≤ 8) (h2 : vl + n ≤ 8448) : kz_C (((fnd, on, opn), ((Kb, kl), ((kv_app w n Vb (if n = 0 then 0 else vl)).1, (kv_app w n Vb (if n = 0 then 0 else vl)).2), (Gb, gl), (Eb, el)), (F, J, Rc, jl, fw, fk, fb), (B, G), (S0, S1, S2, S3, S4, cnt), (pg, ca), P, (pn, ps, top), (Cl, cw, cen, csz), (Lr, ll)) : kz_D) (((A, L, Ms), (key, (kz_nk val w n), fd), (true, sop), (sw, sk)) : kz_S) := by
  obtain ⟨⟨r1, r2, r3, r4, r5, r6, r7, r8, r9, r10⟩, ⟨p1, p2, p3⟩, ⟨b1, b2, b3, b4, b5⟩, ⟨w1, w2, w3⟩, nn, f⟩ := h
  refine ⟨⟨r1, ?_, r3, r4, r5, r6, r7, r8, r9, r10⟩, ⟨p1, p2, p3⟩, ⟨b1, b2, b3, b4, b5⟩, ⟨w1, kz_nk_row w2 w n, w3⟩, nn, fun z => by simp at z⟩
  rw [kz_app_len]; split <;> omega
theorem zC_fillval {fnd on opn : Bool} {Kb : Nat → UInt8} {kl : Nat} {Vb : Nat → UInt8} {vl : Nat} {Gb : Nat → UInt8} {gl : Nat} {Eb : Nat → UInt8} {el : Nat} {F J Rc : Nat → UInt8} {jl fw fk fb : Nat} {B : Nat → UInt8} {G : Nat → Bool} {S0 S1 S2 S3 S4 : Nat → UInt8} {cnt pg ca : Nat} {P pn ps : Nat → Nat} {top : Nat} {Cl : Nat → Bool} {cw cen csz : Nat} {Lr : Nat → UInt8} {ll : Nat} {A L : kp_A} {Ms : List kp_A} {key val : List UInt8} {fd : Option kp_KV} {sop : Bool} {sw sk : Nat} {n : Nat} {c : UInt8} (h : kz_C (((fnd, on, opn), ((Kb, kl), (Vb, vl), (Gb, gl), (Eb, el)), (F, J, Rc, jl, fw, fk, fb), (B, G), (S0, S1, S2, S3, S4, cnt), (pg, ca), P, (pn, ps, top), (Cl, cw, cen, csz), (Lr, ll)) : kz_D) (((A, L, Ms), (key, val, fd), (true, sop), (sw, sk)) : kz_S)) (h2 : vl + n ≤ 8448) : kz_C (((fnd, on, opn), ((Kb, kl), ((kv_same Vb vl c n), (vl + n)), (Gb, gl), (Eb, el)), (F, J, Rc, jl, fw, fk, fb), (B, G), (S0, S1, S2, S3, S4, cnt), (pg, ca), P, (pn, ps, top), (Cl, cw, cen, csz), (Lr, ll)) : kz_D) (((A, L, Ms), (key, (val ++ List.replicate n c), fd), (true, sop), (sw, sk)) : kz_S) := by
  obtain ⟨⟨r1, r2, r3, r4, r5, r6, r7, r8, r9, r10⟩, ⟨p1, p2, p3⟩, ⟨b1, b2, b3, b4, b5⟩, ⟨w1, w2, w3⟩, nn, f⟩ := h
  exact ⟨⟨r1, h2, r3, r4, r5, r6, r7, r8, r9, r10⟩, ⟨p1, p2, p3⟩, ⟨b1, b2, b3, b4, b5⟩, ⟨w1, kz_fil w2, w3⟩, nn, fun z => by simp at z⟩
theorem kz_marks {F : Nat → UInt8} {G G' : Nat → Bool} {Ms : List kp_A} {S0 S1 S2 S3 S4 : Nat → UInt8} (h : ∀ i a, Ms[i]? = some a → kp_mem F (kz_mk S0 S1 S2 S3 S4 i) G a) (hg : ∀ q, G q = true → G' q = true) : ∀ i a, Ms[i]? = some a → kp_mem F (kz_mk S0 S1 S2 S3 S4 i) G' a := fun i a hi => kp_mem_mono (h i a hi) hg
theorem kz_lvl {B : Nat → UInt8} {p : Nat} : kv_level B p ≤ 4 := Nat.min_le_right _ _
theorem zC_path {fnd on opn : Bool} {Kb : Nat → UInt8} {kl : Nat} {Vb : Nat → UInt8} {vl : Nat} {Gb : Nat → UInt8} {gl : Nat} {Eb : Nat → UInt8} {el : Nat} {F J Rc : Nat → UInt8} {jl fw fk fb : Nat} {B : Nat → UInt8} {G : Nat → Bool} {S0 S1 S2 S3 S4 : Nat → UInt8} {cnt pg ca : Nat} {P pn ps : Nat → Nat} {top : Nat} {Cl : Nat → Bool} {cw cen csz : Nat} {Lr : Nat → UInt8} {ll : Nat} {A L : kp_A} {Ms : List kp_A} {key val : List UInt8} {fd : Option kp_KV} {son sop : Bool} {sw sk : Nat} {pn2 ps2 : Nat → Nat} {top2 : Nat} (h : kz_C (((fnd, on, opn), ((Kb, kl), (Vb, vl), (Gb, gl), (Eb, el)), (F, J, Rc, jl, fw, fk, fb), (B, G), (S0, S1, S2, S3, S4, cnt), (pg, ca), P, (pn, ps, top), (Cl, cw, cen, csz), (Lr, ll)) : kz_D) (((A, L, Ms), (key, val, fd), (son, sop), (sw, sk)) : kz_S)) (h1 : ∀ j, pn2 j < 65536) (h2 : ∀ j, ps2 j < 65536) : kz_C (((fnd, on, opn), ((Kb, kl), (Vb, vl), (Gb, gl), (Eb, el)), (F, J, Rc, jl, fw, fk, fb), (B, G), (S0, S1, S2, S3, S4, cnt), (pg, ca), P, (pn2, ps2, top2), (Cl, cw, cen, csz), (Lr, ll)) : kz_D) (((A, L, Ms), (key, val, fd), (son, sop), (sw, sk)) : kz_S) := by
  obtain ⟨⟨r1, r2, r3, r4, r5, r6, r7, r8, r9, r10⟩, ⟨p1, p2, p3⟩, ⟨b1, b2, b3, b4, b5⟩, ⟨w1, w2, w3⟩, nn, f⟩ := h
  exact ⟨⟨r1, r2, r3, r4, r5, r6, r7, r8, r9, r10⟩, ⟨h1, h2, p3⟩, ⟨b1, b2, b3, b4, b5⟩, ⟨w1, w2, w3⟩, nn, f⟩
theorem zC_pagesU {fnd on opn : Bool} {Kb : Nat → UInt8} {kl : Nat} {Vb : Nat → UInt8} {vl : Nat} {Gb : Nat → UInt8} {gl : Nat} {Eb : Nat → UInt8} {el : Nat} {F J Rc : Nat → UInt8} {jl fw fk fb : Nat} {B : Nat → UInt8} {G : Nat → Bool} {S0 S1 S2 S3 S4 : Nat → UInt8} {cnt pg ca : Nat} {P pn ps : Nat → Nat} {top : Nat} {Cl : Nat → Bool} {cw cen csz : Nat} {Lr : Nat → UInt8} {ll : Nat} {A L : kp_A} {Ms : List kp_A} {key val : List UInt8} {fd : Option kp_KV} {sop : Bool} {sw sk : Nat} {M2 : kv_M} {A2 : kp_A} {P2 : Nat → Nat} {pg2 ca2 : Nat} (h : kz_C (((fnd, on, opn), ((Kb, kl), (Vb, vl), (Gb, gl), (Eb, el)), (F, J, Rc, jl, fw, fk, fb), (B, G), (S0, S1, S2, S3, S4, cnt), (pg, ca), P, (pn, ps, top), (Cl, cw, cen, csz), (Lr, ll)) : kz_D) (((A, L, Ms), (key, val, fd), (true, sop), (sw, sk)) : kz_S)) (h1 : kp_inv M2.1 A2) (h2 : kp_fu (B, G) M2 6000) (h3 : ∀ j, P2 j < 65536) : kz_C (((fnd, on, opn), ((Kb, kl), (Vb, vl), (Gb, gl), (Eb, el)), (F, J, Rc, jl, fw, fk, fb), (M2.1, M2.2), (S0, S1, S2, S3, S4, cnt), (pg2, ca2), P2, (pn, ps, top), (Cl, cw, cen, csz), (Lr, ll)) : kz_D) (((A2, L, Ms), (key, val, fd), (true, sop), (sw, sk)) : kz_S) := by
  obtain ⟨⟨r1, r2, r3, r4, r5, r6, r7, r8, r9, r10⟩, ⟨p1, p2, p3⟩, ⟨b1, b2, b3, b4, b5⟩, ⟨w1, w2, w3⟩, nn, f⟩ := h
  obtain ⟨n1, n2, n3, n4, n5, n6⟩ := nn rfl
  exact ⟨⟨r1, r2, r3, r4, r5, r6, r7, r8, r9, r10⟩, ⟨p1, p2, h3⟩, ⟨b1, b2, b3, b4, b5⟩, ⟨w1, w2, w3⟩, fun _ => ⟨n1, n2, kp_mem_fu (M := (B, G)) n3 h1 h2, kz_marks n4 h2.1.1, n5, n6⟩, fun z => by simp at z⟩
theorem zC_pagesG {fnd on opn : Bool} {Kb : Nat → UInt8} {kl : Nat} {Vb : Nat → UInt8} {vl : Nat} {Gb : Nat → UInt8} {gl : Nat} {Eb : Nat → UInt8} {el : Nat} {F J Rc : Nat → UInt8} {jl fw fk fb : Nat} {B : Nat → UInt8} {G : Nat → Bool} {S0 S1 S2 S3 S4 : Nat → UInt8} {cnt pg ca : Nat} {P pn ps : Nat → Nat} {top : Nat} {Cl : Nat → Bool} {cw cen csz : Nat} {Lr : Nat → UInt8} {ll : Nat} {A L : kp_A} {Ms : List kp_A} {key val : List UInt8} {fd : Option kp_KV} {sop : Bool} {sw sk : Nat} {M2 : kv_M} {A2 : kp_A} {P2 : Nat → Nat} (h : kz_C (((fnd, on, opn), ((Kb, kl), (Vb, vl), (Gb, gl), (Eb, el)), (F, J, Rc, jl, fw, fk, fb), (B, G), (S0, S1, S2, S3, S4, cnt), (pg, ca), P, (pn, ps, top), (Cl, cw, cen, csz), (Lr, ll)) : kz_D) (((A, L, Ms), (key, val, fd), (true, sop), (sw, sk)) : kz_S)) (h1 : kp_inv M2.1 A2) (h2 : kp_fg (B, G) M2) (h4 : kv_used M2.1 = kv_used B) (h3 : ∀ j, P2 j < 65536) : kz_C (((fnd, on, opn), ((Kb, kl), (Vb, vl), (Gb, gl), (Eb, el)), (F, J, Rc, jl, fw, fk, fb), (M2.1, M2.2), (S0, S1, S2, S3, S4, cnt), (pg, ca), P2, (pn, ps, top), (Cl, cw, cen, csz), (Lr, ll)) : kz_D) (((A2, L, Ms), (key, val, fd), (true, sop), (sw, sk)) : kz_S) := by
  obtain ⟨⟨r1, r2, r3, r4, r5, r6, r7, r8, r9, r10⟩, ⟨p1, p2, p3⟩, ⟨b1, b2, b3, b4, b5⟩, ⟨w1, w2, w3⟩, nn, f⟩ := h
  obtain ⟨n1, n2, n3, n4, n5, n6⟩ := nn rfl
  exact ⟨⟨r1, r2, r3, r4, r5, r6, r7, r8, r9, r10⟩, ⟨p1, p2, h3⟩, ⟨b1, b2, b3, b4, b5⟩, ⟨w1, w2, w3⟩, fun _ => ⟨n1, n2, kp_mem_fg (M := (B, G)) n3 h1 h2 h4, kz_marks n4 h2.1, n5, n6⟩, fun z => by simp at z⟩
theorem zC_none {fnd on opn : Bool} {Kb : Nat → UInt8} {kl : Nat} {Vb : Nat → UInt8} {vl : Nat} {Gb : Nat → UInt8} {gl : Nat} {Eb : Nat → UInt8} {el : Nat} {F J Rc : Nat → UInt8} {jl fw fk fb : Nat} {B : Nat → UInt8} {G : Nat → Bool} {S0 S1 S2 S3 S4 : Nat → UInt8} {cnt pg ca : Nat} {P pn ps : Nat → Nat} {top : Nat} {Cl : Nat → Bool} {cw cen csz : Nat} {Lr : Nat → UInt8} {ll : Nat} {A L : kp_A} {Ms : List kp_A} {key val : List UInt8} {fd : Option kp_KV} {sop : Bool} {sw sk : Nat} (h : kz_C (((fnd, on, opn), ((Kb, kl), (Vb, vl), (Gb, gl), (Eb, el)), (F, J, Rc, jl, fw, fk, fb), (B, G), (S0, S1, S2, S3, S4, cnt), (pg, ca), P, (pn, ps, top), (Cl, cw, cen, csz), (Lr, ll)) : kz_D) (((A, L, Ms), (key, val, fd), (true, sop), (sw, sk)) : kz_S)) : kz_C (((false, on, opn), ((Kb, kl), (Vb, vl), (Gb, 0), (Eb, 0)), (F, J, Rc, jl, fw, fk, fb), (B, G), (S0, S1, S2, S3, S4, cnt), (pg, ca), P, (pn, ps, top), (Cl, cw, cen, csz), (Lr, ll)) : kz_D) (((A, L, Ms), (key, val, none), (true, sop), (sw, sk)) : kz_S) := by
  obtain ⟨⟨r1, r2, r3, r4, r5, r6, r7, r8, r9, r10⟩, ⟨p1, p2, p3⟩, ⟨b1, b2, b3, b4, b5⟩, ⟨w1, w2, w3⟩, nn, f⟩ := h
  exact ⟨⟨r1, r2, Nat.zero_le _, Nat.zero_le _, r5, r6, r7, r8, r9, r10⟩, ⟨p1, p2, p3⟩, ⟨b1, b2, rfl, b4, b5⟩, ⟨w1, w2, rfl, rfl⟩, nn, fun z => by simp at z⟩
theorem zC_found {fnd on opn : Bool} {Kb : Nat → UInt8} {kl : Nat} {Vb : Nat → UInt8} {vl : Nat} {Gb : Nat → UInt8} {gl : Nat} {Eb : Nat → UInt8} {el : Nat} {F J Rc : Nat → UInt8} {jl fw fk fb : Nat} {B : Nat → UInt8} {G : Nat → Bool} {S0 S1 S2 S3 S4 : Nat → UInt8} {cnt pg ca : Nat} {P pn ps : Nat → Nat} {top : Nat} {Cl : Nat → Bool} {cw cen csz : Nat} {Lr : Nat → UInt8} {ll : Nat} {A L : kp_A} {Ms : List kp_A} {key val : List UInt8} {fd : Option kp_KV} {sop : Bool} {sw sk : Nat} {e : kp_KV} {G2 E2 : Nat → UInt8} {g2 e2 pg2 ca2 : Nat} (h : kz_C (((fnd, on, opn), ((Kb, kl), (Vb, vl), (Gb, gl), (Eb, el)), (F, J, Rc, jl, fw, fk, fb), (B, G), (S0, S1, S2, S3, S4, cnt), (pg, ca), P, (pn, ps, top), (Cl, cw, cen, csz), (Lr, ll)) : kz_D) (((A, L, Ms), (key, val, fd), (true, sop), (sw, sk)) : kz_S)) (h1 : kp_row G2 g2 e.1) (h2 : kp_row E2 e2 e.2) (h3 : g2 ≤ 8448) (h4 : e2 ≤ 8448) : kz_C (((true, on, opn), ((Kb, kl), (Vb, vl), (G2, g2), (E2, e2)), (F, J, Rc, jl, fw, fk, fb), (B, G), (S0, S1, S2, S3, S4, cnt), (pg2, ca2), P, (pn, ps, top), (Cl, cw, cen, csz), (Lr, ll)) : kz_D) (((A, L, Ms), (key, val, (some e)), (true, sop), (sw, sk)) : kz_S) := by
  obtain ⟨⟨r1, r2, r3, r4, r5, r6, r7, r8, r9, r10⟩, ⟨p1, p2, p3⟩, ⟨b1, b2, b3, b4, b5⟩, ⟨w1, w2, w3⟩, nn, f⟩ := h
  exact ⟨⟨r1, r2, h3, h4, r5, r6, r7, r8, r9, r10⟩, ⟨p1, p2, p3⟩, ⟨b1, b2, rfl, b4, b5⟩, ⟨w1, w2, h1, h2⟩, nn, fun z => by simp at z⟩
theorem zC_take {fnd on opn : Bool} {Kb : Nat → UInt8} {kl : Nat} {Vb : Nat → UInt8} {vl : Nat} {Gb : Nat → UInt8} {gl : Nat} {Eb : Nat → UInt8} {el : Nat} {F J Rc : Nat → UInt8} {jl fw fk fb : Nat} {B : Nat → UInt8} {G : Nat → Bool} {S0 S1 S2 S3 S4 : Nat → UInt8} {cnt pg ca : Nat} {P pn ps : Nat → Nat} {top : Nat} {Cl : Nat → Bool} {cw cen csz : Nat} {Lr : Nat → UInt8} {ll : Nat} {A L : kp_A} {Ms : List kp_A} {key val : List UInt8}  {son sop : Bool} {sw sk : Nat} {e : kp_KV} (h : kz_C (((fnd, on, opn), ((Kb, kl), (Vb, vl), (Gb, gl), (Eb, el)), (F, J, Rc, jl, fw, fk, fb), (B, G), (S0, S1, S2, S3, S4, cnt), (pg, ca), P, (pn, ps, top), (Cl, cw, cen, csz), (Lr, ll)) : kz_D) (((A, L, Ms), (key, val, (some e)), (son, sop), (sw, sk)) : kz_S)) : kz_C (((fnd, on, opn), (((kv_from Kb 0 Gb 8448 0 gl).1, (kv_from Kb 0 Gb 8448 0 gl).2), (Vb, vl), (Gb, gl), (Eb, el)), (F, J, Rc, jl, fw, fk, fb), (B, G), (S0, S1, S2, S3, S4, cnt), (pg, ca), P, (pn, ps, top), (Cl, cw, cen, csz), (Lr, ll)) : kz_D) (((A, L, Ms), (e.1, val, (some e)), (son, sop), (sw, sk)) : kz_S) := by
  obtain ⟨⟨r1, r2, r3, r4, r5, r6, r7, r8, r9, r10⟩, ⟨p1, p2, p3⟩, ⟨b1, b2, b3, b4, b5⟩, ⟨w1, w2, w3⟩, nn, f⟩ := h
  have e1 := kz_from (Kb := Kb) w3.1 r3
  exact ⟨⟨(by rw [e1.2]; exact r3), r2, r3, r4, r5, r6, r7, r8, r9, r10⟩, ⟨p1, p2, p3⟩, ⟨b1, b2, b3, b4, b5⟩, ⟨e1.1, w2, w3⟩, nn, fun z => by have := (f z).2.2.2.2.2.2.2.2; simp at this⟩
theorem zC_begin {fnd on opn : Bool} {Kb : Nat → UInt8} {kl : Nat} {Vb : Nat → UInt8} {vl : Nat} {Gb : Nat → UInt8} {gl : Nat} {Eb : Nat → UInt8} {el : Nat} {F J Rc : Nat → UInt8} {jl fw fk fb : Nat} {B : Nat → UInt8} {G : Nat → Bool} {S0 S1 S2 S3 S4 : Nat → UInt8} {cnt pg ca : Nat} {P pn ps : Nat → Nat} {top : Nat} {Cl : Nat → Bool} {cw cen csz : Nat} {Lr : Nat → UInt8} {ll : Nat} {A L : kp_A} {Ms : List kp_A} {key val : List UInt8} {fd : Option kp_KV}  {sw sk : Nat} (h : kz_C (((fnd, on, opn), ((Kb, kl), (Vb, vl), (Gb, gl), (Eb, el)), (F, J, Rc, jl, fw, fk, fb), (B, G), (S0, S1, S2, S3, S4, cnt), (pg, ca), P, (pn, ps, top), (Cl, cw, cen, csz), (Lr, ll)) : kz_D) (((A, L, Ms), (key, val, fd), (true, false), (sw, sk)) : kz_S)) : kz_C (((fnd, on, true), ((Kb, kl), (Vb, vl), (Gb, gl), (Eb, el)), (F, J, Rc, jl, fw, fk, fb), (B, G), (S0, S1, S2, S3, S4, cnt), (pg, ca), P, (pn, ps, top), (Cl, cw, cen, csz), (Lr, ll)) : kz_D) (((A, L, []), (key, val, fd), (true, true), (sw, sk)) : kz_S) := by
  obtain ⟨⟨r1, r2, r3, r4, r5, r6, r7, r8, r9, r10⟩, ⟨p1, p2, p3⟩, ⟨b1, b2, b3, b4, b5⟩, ⟨w1, w2, w3⟩, nn, f⟩ := h
  have e := b5 rfl
  subst e
  exact ⟨⟨r1, r2, r3, r4, r5, r6, r7, r8, r9, r10⟩, ⟨p1, p2, p3⟩, ⟨b1, rfl, b3, b4, fun z => by simp at z⟩, ⟨w1, w2, w3⟩, nn, fun z => by simp at z⟩
theorem zC_commit {fnd on opn : Bool} {Kb : Nat → UInt8} {kl : Nat} {Vb : Nat → UInt8} {vl : Nat} {Gb : Nat → UInt8} {gl : Nat} {Eb : Nat → UInt8} {el : Nat} {F J Rc : Nat → UInt8} {jl fw fk fb : Nat} {B : Nat → UInt8} {G : Nat → Bool} {S0 S1 S2 S3 S4 : Nat → UInt8} {cnt pg ca : Nat} {P pn ps : Nat → Nat} {top : Nat} {Cl : Nat → Bool} {cw cen csz : Nat} {Lr : Nat → UInt8} {ll : Nat} {A L : kp_A} {Ms : List kp_A} {key val : List UInt8} {fd : Option kp_KV} {sop : Bool} {sw sk : Nat} (h : kz_C (((fnd, on, opn), ((Kb, kl), (Vb, vl), (Gb, gl), (Eb, el)), (F, J, Rc, jl, fw, fk, fb), (B, G), (S0, S1, S2, S3, S4, cnt), (pg, ca), P, (pn, ps, top), (Cl, cw, cen, csz), (Lr, ll)) : kz_D) (((A, L, Ms), (key, val, fd), (true, sop), (sw, sk)) : kz_S)) (h1 : ¬ sw < 3) : (kv_save F J Rc jl fw fk fb B G).1 = true ∧ kz_C (((fnd, on, false), ((Kb, kl), (Vb, vl), (Gb, gl), (Eb, el)), ((kv_save F J Rc jl fw fk fb B G).2.1, (kv_soL F G fw fk fb 2720 0 true 0 J jl Rc).2.1, (kv_soL F G fw fk fb 2720 0 true 0 J jl Rc).2.2.2, (kv_save F J Rc jl fw fk fb B G).2.2, fw, fk, fb), (B, (kv_clr G 2720)), (S0, S1, S2, S3, S4, 0), (pg, ca), P, (pn, ps, top), (Cl, cw, cen, csz), (Lr, ll)) : kz_D) (((A, A, []), (key, val, fd), (true, false), (sw, sk)) : kz_S) := by
  obtain ⟨⟨r1, r2, r3, r4, r5, r6, r7, r8, r9, r10⟩, ⟨p1, p2, p3⟩, ⟨b1, b2, b3, b4, b5⟩, ⟨w1, w2, w3⟩, nn, f⟩ := h
  obtain ⟨n1, n2, n3, n4, n5, n6⟩ := nn rfl
  subst n1
  obtain ⟨s1, s2, s3, s4⟩ := kp_save (J := J) (Rc := Rc) (fw := fw) (fk := fk) (fb := fb) n2 n3
  have hh := s1.mpr (by omega)
  obtain ⟨t1, t2, t3⟩ := s3 hh
  exact ⟨hh, ⟨r1, r2, r3, r4, r5, (by rw [t1]; omega), r7, r8, r9, (by omega)⟩, ⟨p1, p2, p3⟩, ⟨b1, rfl, b3, rfl, fun _ => rfl⟩, ⟨w1, w2, w3⟩, fun _ => ⟨t1, t2, t3 _, fun i a hi => by simp at hi, n5, n6⟩, fun z => by simp at z⟩
theorem zC_commitT {fnd on opn : Bool} {Kb : Nat → UInt8} {kl : Nat} {Vb : Nat → UInt8} {vl : Nat} {Gb : Nat → UInt8} {gl : Nat} {Eb : Nat → UInt8} {el : Nat} {F J Rc : Nat → UInt8} {jl fw fk fb : Nat} {B : Nat → UInt8} {G : Nat → Bool} {S0 S1 S2 S3 S4 : Nat → UInt8} {cnt pg ca : Nat} {P pn ps : Nat → Nat} {top : Nat} {Cl : Nat → Bool} {cw cen csz : Nat} {Lr : Nat → UInt8} {ll : Nat} {A L : kp_A} {Ms : List kp_A} {key val : List UInt8} {fd : Option kp_KV} {sop : Bool} {sw sk : Nat} (h : kz_C (((fnd, on, opn), ((Kb, kl), (Vb, vl), (Gb, gl), (Eb, el)), (F, J, Rc, jl, fw, fk, fb), (B, G), (S0, S1, S2, S3, S4, cnt), (pg, ca), P, (pn, ps, top), (Cl, cw, cen, csz), (Lr, ll)) : kz_D) (((A, L, Ms), (key, val, fd), (true, sop), (sw, sk)) : kz_S)) (h1 : sw < 3) : (kv_save F J Rc jl fw fk fb B G).1 = false ∧ kz_C (((false, false, false), ((Kb, 0), (Vb, 0), (Gb, 0), (Eb, 0)), ((kv_save F J Rc jl fw fk fb B G).2.1, (kv_soL F G fw fk fb 2720 0 true 0 J jl Rc).2.1, (kv_soL F G fw fk fb 2720 0 true 0 J jl Rc).2.2.2, (kv_save F J Rc jl fw fk fb B G).2.2, fw, fk, fb), (B, G), (S0, S1, S2, S3, S4, 0), (pg, ca), P, (pn, ps, top), (Cl, cw, cen, csz), (Lr, ll)) : kz_D) (((if sw = 2 ∧ 0 < sk then A else L, if sw = 2 ∧ 0 < sk then A else L, []), ([], [], none), (false, false), (4, sk)) : kz_S) := by
  obtain ⟨⟨r1, r2, r3, r4, r5, r6, r7, r8, r9, r10⟩, ⟨p1, p2, p3⟩, ⟨b1, b2, b3, b4, b5⟩, ⟨w1, w2, w3⟩, nn, f⟩ := h
  obtain ⟨n1, n2, n3, n4, n5, n6⟩ := nn rfl
  subst n1
  obtain ⟨s1, s2, s3, s4⟩ := kp_save (J := J) (Rc := Rc) (fw := fw) (fk := fk) (fb := fb) n2 n3
  have hh : (kv_save F J Rc 0 fw fk fb B G).1 = false := by
    cases z : (kv_save F J Rc 0 fw fk fb B G).1 with
    | false => rfl
    | true => have := s1.mp z; omega
  have t := s4 hh
  have e : (if fw = 2 ∧ fk ≠ 0 then A else L) = if sw = 2 ∧ 0 < sk then A else L := by
    rw [n5, n6]
    by_cases y : sw = 2 ∧ sk ≠ 0
    · rw [if_pos y, if_pos (by omega)]
    · rw [if_neg y, if_neg (by omega)]
  rw [e] at t
  exact ⟨hh, ⟨Nat.zero_le _, Nat.zero_le _, Nat.zero_le _, Nat.zero_le _, r5, s2, r7, r8, r9, (by omega)⟩, ⟨p1, p2, p3⟩, ⟨rfl, rfl, rfl, rfl, fun _ => rfl⟩, ⟨kp_row_nil _, kp_row_nil _, rfl, rfl⟩, fun z => by simp at z, fun _ => ⟨t, by omega, n6, rfl, rfl, rfl, rfl, rfl, rfl⟩⟩
theorem zC_rollback {fnd on opn : Bool} {Kb : Nat → UInt8} {kl : Nat} {Vb : Nat → UInt8} {vl : Nat} {Gb : Nat → UInt8} {gl : Nat} {Eb : Nat → UInt8} {el : Nat} {F J Rc : Nat → UInt8} {jl fw fk fb : Nat} {B : Nat → UInt8} {G : Nat → Bool} {S0 S1 S2 S3 S4 : Nat → UInt8} {cnt pg ca : Nat} {P pn ps : Nat → Nat} {top : Nat} {Cl : Nat → Bool} {cw cen csz : Nat} {Lr : Nat → UInt8} {ll : Nat} {A L : kp_A} {Ms : List kp_A} {key val : List UInt8} {fd : Option kp_KV} {sop : Bool} {sw sk : Nat} (h : kz_C (((fnd, on, opn), ((Kb, kl), (Vb, vl), (Gb, gl), (Eb, el)), (F, J, Rc, jl, fw, fk, fb), (B, G), (S0, S1, S2, S3, S4, cnt), (pg, ca), P, (pn, ps, top), (Cl, cw, cen, csz), (Lr, ll)) : kz_D) (((A, L, Ms), (key, val, fd), (true, sop), (sw, sk)) : kz_S)) : kz_C (((fnd, on, false), ((Kb, kl), (Vb, vl), (Gb, gl), (Eb, el)), (F, J, Rc, jl, fw, fk, fb), ((kv_undo B G F 2720), (kv_clr G 2720)), (S0, S1, S2, S3, S4, 0), (pg, ca), P, (pn, ps, top), (Cl, cw, cen, csz), (Lr, ll)) : kz_D) (((L, L, []), (key, val, fd), (true, false), (sw, sk)) : kz_S) := by
  obtain ⟨⟨r1, r2, r3, r4, r5, r6, r7, r8, r9, r10⟩, ⟨p1, p2, p3⟩, ⟨b1, b2, b3, b4, b5⟩, ⟨w1, w2, w3⟩, nn, f⟩ := h
  obtain ⟨n1, n2, n3, n4, n5, n6⟩ := nn rfl
  exact ⟨⟨r1, r2, r3, r4, r5, r6, r7, r8, r9, (by omega)⟩, ⟨p1, p2, p3⟩, ⟨b1, rfl, b3, rfl, fun _ => rfl⟩, ⟨w1, w2, w3⟩, fun _ => ⟨n1, n2, kp_mem_undo n2 n3, fun i a hi => by simp at hi, n5, n6⟩, fun z => by simp at z⟩
theorem zC_mark0 {fnd on opn : Bool} {Kb : Nat → UInt8} {kl : Nat} {Vb : Nat → UInt8} {vl : Nat} {Gb : Nat → UInt8} {gl : Nat} {Eb : Nat → UInt8} {el : Nat} {F J Rc : Nat → UInt8} {jl fw fk fb : Nat} {B : Nat → UInt8} {G : Nat → Bool} {S0 S1 S2 S3 S4 : Nat → UInt8} {pg ca : Nat} {P pn ps : Nat → Nat} {top : Nat} {Cl : Nat → Bool} {cw cen csz : Nat} {Lr : Nat → UInt8} {ll : Nat} {A L : kp_A} {Ms : List kp_A} {key val : List UInt8} {fd : Option kp_KV}  {sw sk : Nat} (h : kz_C (((fnd, on, opn), ((Kb, kl), (Vb, vl), (Gb, gl), (Eb, el)), (F, J, Rc, jl, fw, fk, fb), (B, G), (S0, S1, S2, S3, S4, 0), (pg, ca), P, (pn, ps, top), (Cl, cw, cen, csz), (Lr, ll)) : kz_D) (((A, L, Ms), (key, val, fd), (true, true), (sw, sk)) : kz_S)) : kz_C (((fnd, on, opn), ((Kb, kl), (Vb, vl), (Gb, gl), (Eb, el)), (F, J, Rc, jl, fw, fk, fb), (B, G), ((va_cpy B S0 0 0 (288 + kv_used B * 32)), S1, S2, S3, S4, 1), (pg, ca), P, (pn, ps, top), (Cl, cw, cen, csz), (Lr, ll)) : kz_D) (((A, L, (Ms ++ [A])), (key, val, fd), (true, true), (sw, sk)) : kz_S) := by
  obtain ⟨⟨r1, r2, r3, r4, r5, r6, r7, r8, r9, r10⟩, ⟨p1, p2, p3⟩, ⟨b1, b2, b3, b4, b5⟩, ⟨w1, w2, w3⟩, nn, f⟩ := h
  obtain ⟨n1, n2, n3, n4, n5, n6⟩ := nn rfl
  refine ⟨⟨r1, r2, r3, r4, r5, r6, r7, r8, r9, (by omega)⟩, ⟨p1, p2, p3⟩, ⟨b1, b2, b3, by rw [List.length_append, ← b4]; rfl, fun z => by simp at z⟩, ⟨w1, w2, w3⟩, fun _ => ⟨n1, n2, n3, fun j a hj => ?_, n5, n6⟩, fun z => by simp at z⟩
  by_cases z : j < Ms.length
  · rw [List.getElem?_append_left z] at hj
    have := n4 j a hj
    rw [← b4] at z
    have e : kz_mk (va_cpy B S0 0 0 (288 + kv_used B * 32)) S1 S2 S3 S4 j = kz_mk S0 S1 S2 S3 S4 j := by
      omega
    rw [e]; exact this
  · rw [List.getElem?_append_right (by omega)] at hj
    have hl := (List.getElem?_eq_some_iff.mp hj).1
    have ej : j = 0 := by simp at hl; omega
    subst ej
    rw [← b4, Nat.sub_self] at hj
    rw [← Option.some.inj hj]
    exact kp_mem_save n3
theorem zC_mark1 {fnd on opn : Bool} {Kb : Nat → UInt8} {kl : Nat} {Vb : Nat → UInt8} {vl : Nat} {Gb : Nat → UInt8} {gl : Nat} {Eb : Nat → UInt8} {el : Nat} {F J Rc : Nat → UInt8} {jl fw fk fb : Nat} {B : Nat → UInt8} {G : Nat → Bool} {S0 S1 S2 S3 S4 : Nat → UInt8} {pg ca : Nat} {P pn ps : Nat → Nat} {top : Nat} {Cl : Nat → Bool} {cw cen csz : Nat} {Lr : Nat → UInt8} {ll : Nat} {A L : kp_A} {Ms : List kp_A} {key val : List UInt8} {fd : Option kp_KV}  {sw sk : Nat} (h : kz_C (((fnd, on, opn), ((Kb, kl), (Vb, vl), (Gb, gl), (Eb, el)), (F, J, Rc, jl, fw, fk, fb), (B, G), (S0, S1, S2, S3, S4, 1), (pg, ca), P, (pn, ps, top), (Cl, cw, cen, csz), (Lr, ll)) : kz_D) (((A, L, Ms), (key, val, fd), (true, true), (sw, sk)) : kz_S)) : kz_C (((fnd, on, opn), ((Kb, kl), (Vb, vl), (Gb, gl), (Eb, el)), (F, J, Rc, jl, fw, fk, fb), (B, G), (S0, (va_cpy B S1 0 0 (288 + kv_used B * 32)), S2, S3, S4, 2), (pg, ca), P, (pn, ps, top), (Cl, cw, cen, csz), (Lr, ll)) : kz_D) (((A, L, (Ms ++ [A])), (key, val, fd), (true, true), (sw, sk)) : kz_S) := by
  obtain ⟨⟨r1, r2, r3, r4, r5, r6, r7, r8, r9, r10⟩, ⟨p1, p2, p3⟩, ⟨b1, b2, b3, b4, b5⟩, ⟨w1, w2, w3⟩, nn, f⟩ := h
  obtain ⟨n1, n2, n3, n4, n5, n6⟩ := nn rfl
  refine ⟨⟨r1, r2, r3, r4, r5, r6, r7, r8, r9, (by omega)⟩, ⟨p1, p2, p3⟩, ⟨b1, b2, b3, by rw [List.length_append, ← b4]; rfl, fun z => by simp at z⟩, ⟨w1, w2, w3⟩, fun _ => ⟨n1, n2, n3, fun j a hj => ?_, n5, n6⟩, fun z => by simp at z⟩
  by_cases z : j < Ms.length
  · rw [List.getElem?_append_left z] at hj
    have := n4 j a hj
    rw [← b4] at z
    have e : kz_mk S0 (va_cpy B S1 0 0 (288 + kv_used B * 32)) S2 S3 S4 j = kz_mk S0 S1 S2 S3 S4 j := by
      rcases (by omega : j = 0) with rfl <;> rfl
    rw [e]; exact this
  · rw [List.getElem?_append_right (by omega)] at hj
    have hl := (List.getElem?_eq_some_iff.mp hj).1
    have ej : j = 1 := by simp at hl; omega
    subst ej
    rw [← b4, Nat.sub_self] at hj
    rw [← Option.some.inj hj]
    exact kp_mem_save n3
theorem zC_mark2 {fnd on opn : Bool} {Kb : Nat → UInt8} {kl : Nat} {Vb : Nat → UInt8} {vl : Nat} {Gb : Nat → UInt8} {gl : Nat} {Eb : Nat → UInt8} {el : Nat} {F J Rc : Nat → UInt8} {jl fw fk fb : Nat} {B : Nat → UInt8} {G : Nat → Bool} {S0 S1 S2 S3 S4 : Nat → UInt8} {pg ca : Nat} {P pn ps : Nat → Nat} {top : Nat} {Cl : Nat → Bool} {cw cen csz : Nat} {Lr : Nat → UInt8} {ll : Nat} {A L : kp_A} {Ms : List kp_A} {key val : List UInt8} {fd : Option kp_KV}  {sw sk : Nat} (h : kz_C (((fnd, on, opn), ((Kb, kl), (Vb, vl), (Gb, gl), (Eb, el)), (F, J, Rc, jl, fw, fk, fb), (B, G), (S0, S1, S2, S3, S4, 2), (pg, ca), P, (pn, ps, top), (Cl, cw, cen, csz), (Lr, ll)) : kz_D) (((A, L, Ms), (key, val, fd), (true, true), (sw, sk)) : kz_S)) : kz_C (((fnd, on, opn), ((Kb, kl), (Vb, vl), (Gb, gl), (Eb, el)), (F, J, Rc, jl, fw, fk, fb), (B, G), (S0, S1, (va_cpy B S2 0 0 (288 + kv_used B * 32)), S3, S4, 3), (pg, ca), P, (pn, ps, top), (Cl, cw, cen, csz), (Lr, ll)) : kz_D) (((A, L, (Ms ++ [A])), (key, val, fd), (true, true), (sw, sk)) : kz_S) := by
  obtain ⟨⟨r1, r2, r3, r4, r5, r6, r7, r8, r9, r10⟩, ⟨p1, p2, p3⟩, ⟨b1, b2, b3, b4, b5⟩, ⟨w1, w2, w3⟩, nn, f⟩ := h
  obtain ⟨n1, n2, n3, n4, n5, n6⟩ := nn rfl
  refine ⟨⟨r1, r2, r3, r4, r5, r6, r7, r8, r9, (by omega)⟩, ⟨p1, p2, p3⟩, ⟨b1, b2, b3, by rw [List.length_append, ← b4]; rfl, fun z => by simp at z⟩, ⟨w1, w2, w3⟩, fun _ => ⟨n1, n2, n3, fun j a hj => ?_, n5, n6⟩, fun z => by simp at z⟩
  by_cases z : j < Ms.length
  · rw [List.getElem?_append_left z] at hj
    have := n4 j a hj
    rw [← b4] at z
    have e : kz_mk S0 S1 (va_cpy B S2 0 0 (288 + kv_used B * 32)) S3 S4 j = kz_mk S0 S1 S2 S3 S4 j := by
      rcases (by omega : j = 0 ∨ j = 1) with rfl | rfl <;> rfl
    rw [e]; exact this
  · rw [List.getElem?_append_right (by omega)] at hj
    have hl := (List.getElem?_eq_some_iff.mp hj).1
    have ej : j = 2 := by simp at hl; omega
    subst ej
    rw [← b4, Nat.sub_self] at hj
    rw [← Option.some.inj hj]
    exact kp_mem_save n3
theorem zC_mark3 {fnd on opn : Bool} {Kb : Nat → UInt8} {kl : Nat} {Vb : Nat → UInt8} {vl : Nat} {Gb : Nat → UInt8} {gl : Nat} {Eb : Nat → UInt8} {el : Nat} {F J Rc : Nat → UInt8} {jl fw fk fb : Nat} {B : Nat → UInt8} {G : Nat → Bool} {S0 S1 S2 S3 S4 : Nat → UInt8} {pg ca : Nat} {P pn ps : Nat → Nat} {top : Nat} {Cl : Nat → Bool} {cw cen csz : Nat} {Lr : Nat → UInt8} {ll : Nat} {A L : kp_A} {Ms : List kp_A} {key val : List UInt8} {fd : Option kp_KV}  {sw sk : Nat} (h : kz_C (((fnd, on, opn), ((Kb, kl), (Vb, vl), (Gb, gl), (Eb, el)), (F, J, Rc, jl, fw, fk, fb), (B, G), (S0, S1, S2, S3, S4, 3), (pg, ca), P, (pn, ps, top), (Cl, cw, cen, csz), (Lr, ll)) : kz_D) (((A, L, Ms), (key, val, fd), (true, true), (sw, sk)) : kz_S)) : kz_C (((fnd, on, opn), ((Kb, kl), (Vb, vl), (Gb, gl), (Eb, el)), (F, J, Rc, jl, fw, fk, fb), (B, G), (S0, S1, S2, (va_cpy B S3 0 0 (288 + kv_used B * 32)), S4, 4), (pg, ca), P, (pn, ps, top), (Cl, cw, cen, csz), (Lr, ll)) : kz_D) (((A, L, (Ms ++ [A])), (key, val, fd), (true, true), (sw, sk)) : kz_S) := by
  obtain ⟨⟨r1, r2, r3, r4, r5, r6, r7, r8, r9, r10⟩, ⟨p1, p2, p3⟩, ⟨b1, b2, b3, b4, b5⟩, ⟨w1, w2, w3⟩, nn, f⟩ := h
  obtain ⟨n1, n2, n3, n4, n5, n6⟩ := nn rfl
  refine ⟨⟨r1, r2, r3, r4, r5, r6, r7, r8, r9, (by omega)⟩, ⟨p1, p2, p3⟩, ⟨b1, b2, b3, by rw [List.length_append, ← b4]; rfl, fun z => by simp at z⟩, ⟨w1, w2, w3⟩, fun _ => ⟨n1, n2, n3, fun j a hj => ?_, n5, n6⟩, fun z => by simp at z⟩
  by_cases z : j < Ms.length
  · rw [List.getElem?_append_left z] at hj
    have := n4 j a hj
    rw [← b4] at z
    have e : kz_mk S0 S1 S2 (va_cpy B S3 0 0 (288 + kv_used B * 32)) S4 j = kz_mk S0 S1 S2 S3 S4 j := by
      rcases (by omega : j = 0 ∨ j = 1 ∨ j = 2) with rfl | rfl | rfl <;> rfl
    rw [e]; exact this
  · rw [List.getElem?_append_right (by omega)] at hj
    have hl := (List.getElem?_eq_some_iff.mp hj).1
    have ej : j = 3 := by simp at hl; omega
    subst ej
    rw [← b4, Nat.sub_self] at hj
    rw [← Option.some.inj hj]
    exact kp_mem_save n3
theorem zC_mark4 {fnd on opn : Bool} {Kb : Nat → UInt8} {kl : Nat} {Vb : Nat → UInt8} {vl : Nat} {Gb : Nat → UInt8} {gl : Nat} {Eb : Nat → UInt8} {el : Nat} {F J Rc : Nat → UInt8} {jl fw fk fb : Nat} {B : Nat → UInt8} {G : Nat → Bool} {S0 S1 S2 S3 S4 : Nat → UInt8} {pg ca : Nat} {P pn ps : Nat → Nat} {top : Nat} {Cl : Nat → Bool} {cw cen csz : Nat} {Lr : Nat → UInt8} {ll : Nat} {A L : kp_A} {Ms : List kp_A} {key val : List UInt8} {fd : Option kp_KV}  {sw sk : Nat} (h : kz_C (((fnd, on, opn), ((Kb, kl), (Vb, vl), (Gb, gl), (Eb, el)), (F, J, Rc, jl, fw, fk, fb), (B, G), (S0, S1, S2, S3, S4, 4), (pg, ca), P, (pn, ps, top), (Cl, cw, cen, csz), (Lr, ll)) : kz_D) (((A, L, Ms), (key, val, fd), (true, true), (sw, sk)) : kz_S)) : kz_C (((fnd, on, opn), ((Kb, kl), (Vb, vl), (Gb, gl), (Eb, el)), (F, J, Rc, jl, fw, fk, fb), (B, G), (S0, S1, S2, S3, (va_cpy B S4 0 0 (288 + kv_used B * 32)), 5), (pg, ca), P, (pn, ps, top), (Cl, cw, cen, csz), (Lr, ll)) : kz_D) (((A, L, (Ms ++ [A])), (key, val, fd), (true, true), (sw, sk)) : kz_S) := by
  obtain ⟨⟨r1, r2, r3, r4, r5, r6, r7, r8, r9, r10⟩, ⟨p1, p2, p3⟩, ⟨b1, b2, b3, b4, b5⟩, ⟨w1, w2, w3⟩, nn, f⟩ := h
  obtain ⟨n1, n2, n3, n4, n5, n6⟩ := nn rfl
  refine ⟨⟨r1, r2, r3, r4, r5, r6, r7, r8, r9, (by omega)⟩, ⟨p1, p2, p3⟩, ⟨b1, b2, b3, by rw [List.length_append, ← b4]; rfl, fun z => by simp at z⟩, ⟨w1, w2, w3⟩, fun _ => ⟨n1, n2, n3, fun j a hj => ?_, n5, n6⟩, fun z => by simp at z⟩
  by_cases z : j < Ms.length
  · rw [List.getElem?_append_left z] at hj
    have := n4 j a hj
    rw [← b4] at z
    have e : kz_mk S0 S1 S2 S3 (va_cpy B S4 0 0 (288 + kv_used B * 32)) j = kz_mk S0 S1 S2 S3 S4 j := by
      rcases (by omega : j = 0 ∨ j = 1 ∨ j = 2 ∨ j = 3) with rfl | rfl | rfl | rfl <;> rfl
    rw [e]; exact this
  · rw [List.getElem?_append_right (by omega)] at hj
    have hl := (List.getElem?_eq_some_iff.mp hj).1
    have ej : j = 4 := by simp at hl; omega
    subst ej
    rw [← b4, Nat.sub_self] at hj
    rw [← Option.some.inj hj]
    exact kp_mem_save n3
theorem zC_back1 {fnd on opn : Bool} {Kb : Nat → UInt8} {kl : Nat} {Vb : Nat → UInt8} {vl : Nat} {Gb : Nat → UInt8} {gl : Nat} {Eb : Nat → UInt8} {el : Nat} {F J Rc : Nat → UInt8} {jl fw fk fb : Nat} {B : Nat → UInt8} {G : Nat → Bool} {S0 S1 S2 S3 S4 : Nat → UInt8} {cnt pg ca : Nat} {P pn ps : Nat → Nat} {top : Nat} {Cl : Nat → Bool} {cw cen csz : Nat} {Lr : Nat → UInt8} {ll : Nat} {A L : kp_A} {Ms : List kp_A} {key val : List UInt8} {fd : Option kp_KV}  {sw sk : Nat} {a : kp_A} (h : kz_C (((fnd, on, opn), ((Kb, kl), (Vb, vl), (Gb, gl), (Eb, el)), (F, J, Rc, jl, fw, fk, fb), (B, G), (S0, S1, S2, S3, S4, cnt), (pg, ca), P, (pn, ps, top), (Cl, cw, cen, csz), (Lr, ll)) : kz_D) (((A, L, Ms), (key, val, fd), (true, true), (sw, sk)) : kz_S)) (h1 : Ms[0]? = some a) : kz_C (((fnd, on, opn), ((Kb, kl), (Vb, vl), (Gb, gl), (Eb, el)), (F, J, Rc, jl, fw, fk, fb), ((kv_load B S0), G), (S0, S1, S2, S3, S4, (if 1 < cnt then 1 else cnt)), (pg, ca), P, (pn, ps, top), (Cl, cw, cen, csz), (Lr, ll)) : kz_D) (((a, L, (Ms.take 1)), (key, val, fd), (true, true), (sw, sk)) : kz_S) := by
  obtain ⟨⟨r1, r2, r3, r4, r5, r6, r7, r8, r9, r10⟩, ⟨p1, p2, p3⟩, ⟨b1, b2, b3, b4, b5⟩, ⟨w1, w2, w3⟩, nn, f⟩ := h
  obtain ⟨n1, n2, n3, n4, n5, n6⟩ := nn rfl
  have hl := (List.getElem?_eq_some_iff.mp h1).1
  refine ⟨⟨r1, r2, r3, r4, r5, r6, r7, r8, r9, ?_⟩, ⟨p1, p2, p3⟩, ⟨b1, b2, b3, by rw [List.length_take]; split <;> omega, fun z => by simp at z⟩, ⟨w1, w2, w3⟩, fun _ => ⟨n1, n2, kp_mem_back (n4 0 a h1), fun j x hj => n4 j x ?_, n5, n6⟩, fun z => by simp at z⟩
  · split <;> omega
  · have := (List.getElem?_eq_some_iff.mp hj).1
    rw [List.getElem?_take_of_lt (by simp at this; omega)] at hj
    exact hj
theorem zC_back2 {fnd on opn : Bool} {Kb : Nat → UInt8} {kl : Nat} {Vb : Nat → UInt8} {vl : Nat} {Gb : Nat → UInt8} {gl : Nat} {Eb : Nat → UInt8} {el : Nat} {F J Rc : Nat → UInt8} {jl fw fk fb : Nat} {B : Nat → UInt8} {G : Nat → Bool} {S0 S1 S2 S3 S4 : Nat → UInt8} {cnt pg ca : Nat} {P pn ps : Nat → Nat} {top : Nat} {Cl : Nat → Bool} {cw cen csz : Nat} {Lr : Nat → UInt8} {ll : Nat} {A L : kp_A} {Ms : List kp_A} {key val : List UInt8} {fd : Option kp_KV}  {sw sk : Nat} {a : kp_A} (h : kz_C (((fnd, on, opn), ((Kb, kl), (Vb, vl), (Gb, gl), (Eb, el)), (F, J, Rc, jl, fw, fk, fb), (B, G), (S0, S1, S2, S3, S4, cnt), (pg, ca), P, (pn, ps, top), (Cl, cw, cen, csz), (Lr, ll)) : kz_D) (((A, L, Ms), (key, val, fd), (true, true), (sw, sk)) : kz_S)) (h1 : Ms[1]? = some a) : kz_C (((fnd, on, opn), ((Kb, kl), (Vb, vl), (Gb, gl), (Eb, el)), (F, J, Rc, jl, fw, fk, fb), ((kv_load B S1), G), (S0, S1, S2, S3, S4, (if 2 < cnt then 2 else cnt)), (pg, ca), P, (pn, ps, top), (Cl, cw, cen, csz), (Lr, ll)) : kz_D) (((a, L, (Ms.take 2)), (key, val, fd), (true, true), (sw, sk)) : kz_S) := by
  obtain ⟨⟨r1, r2, r3, r4, r5, r6, r7, r8, r9, r10⟩, ⟨p1, p2, p3⟩, ⟨b1, b2, b3, b4, b5⟩, ⟨w1, w2, w3⟩, nn, f⟩ := h
  obtain ⟨n1, n2, n3, n4, n5, n6⟩ := nn rfl
  have hl := (List.getElem?_eq_some_iff.mp h1).1
  refine ⟨⟨r1, r2, r3, r4, r5, r6, r7, r8, r9, ?_⟩, ⟨p1, p2, p3⟩, ⟨b1, b2, b3, by rw [List.length_take]; split <;> omega, fun z => by simp at z⟩, ⟨w1, w2, w3⟩, fun _ => ⟨n1, n2, kp_mem_back (n4 1 a h1), fun j x hj => n4 j x ?_, n5, n6⟩, fun z => by simp at z⟩
  · split <;> omega
  · have := (List.getElem?_eq_some_iff.mp hj).1
    rw [List.getElem?_take_of_lt (by simp at this; omega)] at hj
    exact hj
theorem zC_back3 {fnd on opn : Bool} {Kb : Nat → UInt8} {kl : Nat} {Vb : Nat → UInt8} {vl : Nat} {Gb : Nat → UInt8} {gl : Nat} {Eb : Nat → UInt8} {el : Nat} {F J Rc : Nat → UInt8} {jl fw fk fb : Nat} {B : Nat → UInt8} {G : Nat → Bool} {S0 S1 S2 S3 S4 : Nat → UInt8} {cnt pg ca : Nat} {P pn ps : Nat → Nat} {top : Nat} {Cl : Nat → Bool} {cw cen csz : Nat} {Lr : Nat → UInt8} {ll : Nat} {A L : kp_A} {Ms : List kp_A} {key val : List UInt8} {fd : Option kp_KV}  {sw sk : Nat} {a : kp_A} (h : kz_C (((fnd, on, opn), ((Kb, kl), (Vb, vl), (Gb, gl), (Eb, el)), (F, J, Rc, jl, fw, fk, fb), (B, G), (S0, S1, S2, S3, S4, cnt), (pg, ca), P, (pn, ps, top), (Cl, cw, cen, csz), (Lr, ll)) : kz_D) (((A, L, Ms), (key, val, fd), (true, true), (sw, sk)) : kz_S)) (h1 : Ms[2]? = some a) : kz_C (((fnd, on, opn), ((Kb, kl), (Vb, vl), (Gb, gl), (Eb, el)), (F, J, Rc, jl, fw, fk, fb), ((kv_load B S2), G), (S0, S1, S2, S3, S4, (if 3 < cnt then 3 else cnt)), (pg, ca), P, (pn, ps, top), (Cl, cw, cen, csz), (Lr, ll)) : kz_D) (((a, L, (Ms.take 3)), (key, val, fd), (true, true), (sw, sk)) : kz_S) := by
  obtain ⟨⟨r1, r2, r3, r4, r5, r6, r7, r8, r9, r10⟩, ⟨p1, p2, p3⟩, ⟨b1, b2, b3, b4, b5⟩, ⟨w1, w2, w3⟩, nn, f⟩ := h
  obtain ⟨n1, n2, n3, n4, n5, n6⟩ := nn rfl
  have hl := (List.getElem?_eq_some_iff.mp h1).1
  refine ⟨⟨r1, r2, r3, r4, r5, r6, r7, r8, r9, ?_⟩, ⟨p1, p2, p3⟩, ⟨b1, b2, b3, by rw [List.length_take]; split <;> omega, fun z => by simp at z⟩, ⟨w1, w2, w3⟩, fun _ => ⟨n1, n2, kp_mem_back (n4 2 a h1), fun j x hj => n4 j x ?_, n5, n6⟩, fun z => by simp at z⟩
  · split <;> omega
  · have := (List.getElem?_eq_some_iff.mp hj).1
    rw [List.getElem?_take_of_lt (by simp at this; omega)] at hj
    exact hj
theorem zC_back4 {fnd on opn : Bool} {Kb : Nat → UInt8} {kl : Nat} {Vb : Nat → UInt8} {vl : Nat} {Gb : Nat → UInt8} {gl : Nat} {Eb : Nat → UInt8} {el : Nat} {F J Rc : Nat → UInt8} {jl fw fk fb : Nat} {B : Nat → UInt8} {G : Nat → Bool} {S0 S1 S2 S3 S4 : Nat → UInt8} {cnt pg ca : Nat} {P pn ps : Nat → Nat} {top : Nat} {Cl : Nat → Bool} {cw cen csz : Nat} {Lr : Nat → UInt8} {ll : Nat} {A L : kp_A} {Ms : List kp_A} {key val : List UInt8} {fd : Option kp_KV}  {sw sk : Nat} {a : kp_A} (h : kz_C (((fnd, on, opn), ((Kb, kl), (Vb, vl), (Gb, gl), (Eb, el)), (F, J, Rc, jl, fw, fk, fb), (B, G), (S0, S1, S2, S3, S4, cnt), (pg, ca), P, (pn, ps, top), (Cl, cw, cen, csz), (Lr, ll)) : kz_D) (((A, L, Ms), (key, val, fd), (true, true), (sw, sk)) : kz_S)) (h1 : Ms[3]? = some a) : kz_C (((fnd, on, opn), ((Kb, kl), (Vb, vl), (Gb, gl), (Eb, el)), (F, J, Rc, jl, fw, fk, fb), ((kv_load B S3), G), (S0, S1, S2, S3, S4, (if 4 < cnt then 4 else cnt)), (pg, ca), P, (pn, ps, top), (Cl, cw, cen, csz), (Lr, ll)) : kz_D) (((a, L, (Ms.take 4)), (key, val, fd), (true, true), (sw, sk)) : kz_S) := by
  obtain ⟨⟨r1, r2, r3, r4, r5, r6, r7, r8, r9, r10⟩, ⟨p1, p2, p3⟩, ⟨b1, b2, b3, b4, b5⟩, ⟨w1, w2, w3⟩, nn, f⟩ := h
  obtain ⟨n1, n2, n3, n4, n5, n6⟩ := nn rfl
  have hl := (List.getElem?_eq_some_iff.mp h1).1
  refine ⟨⟨r1, r2, r3, r4, r5, r6, r7, r8, r9, ?_⟩, ⟨p1, p2, p3⟩, ⟨b1, b2, b3, by rw [List.length_take]; split <;> omega, fun z => by simp at z⟩, ⟨w1, w2, w3⟩, fun _ => ⟨n1, n2, kp_mem_back (n4 3 a h1), fun j x hj => n4 j x ?_, n5, n6⟩, fun z => by simp at z⟩
  · split <;> omega
  · have := (List.getElem?_eq_some_iff.mp hj).1
    rw [List.getElem?_take_of_lt (by simp at this; omega)] at hj
    exact hj
theorem zC_back5 {fnd on opn : Bool} {Kb : Nat → UInt8} {kl : Nat} {Vb : Nat → UInt8} {vl : Nat} {Gb : Nat → UInt8} {gl : Nat} {Eb : Nat → UInt8} {el : Nat} {F J Rc : Nat → UInt8} {jl fw fk fb : Nat} {B : Nat → UInt8} {G : Nat → Bool} {S0 S1 S2 S3 S4 : Nat → UInt8} {cnt pg ca : Nat} {P pn ps : Nat → Nat} {top : Nat} {Cl : Nat → Bool} {cw cen csz : Nat} {Lr : Nat → UInt8} {ll : Nat} {A L : kp_A} {Ms : List kp_A} {key val : List UInt8} {fd : Option kp_KV}  {sw sk : Nat} {a : kp_A} (h : kz_C (((fnd, on, opn), ((Kb, kl), (Vb, vl), (Gb, gl), (Eb, el)), (F, J, Rc, jl, fw, fk, fb), (B, G), (S0, S1, S2, S3, S4, cnt), (pg, ca), P, (pn, ps, top), (Cl, cw, cen, csz), (Lr, ll)) : kz_D) (((A, L, Ms), (key, val, fd), (true, true), (sw, sk)) : kz_S)) (h1 : Ms[4]? = some a) : kz_C (((fnd, on, opn), ((Kb, kl), (Vb, vl), (Gb, gl), (Eb, el)), (F, J, Rc, jl, fw, fk, fb), ((kv_load B S4), G), (S0, S1, S2, S3, S4, (if 5 < cnt then 5 else cnt)), (pg, ca), P, (pn, ps, top), (Cl, cw, cen, csz), (Lr, ll)) : kz_D) (((a, L, (Ms.take 5)), (key, val, fd), (true, true), (sw, sk)) : kz_S) := by
  obtain ⟨⟨r1, r2, r3, r4, r5, r6, r7, r8, r9, r10⟩, ⟨p1, p2, p3⟩, ⟨b1, b2, b3, b4, b5⟩, ⟨w1, w2, w3⟩, nn, f⟩ := h
  obtain ⟨n1, n2, n3, n4, n5, n6⟩ := nn rfl
  have hl := (List.getElem?_eq_some_iff.mp h1).1
  refine ⟨⟨r1, r2, r3, r4, r5, r6, r7, r8, r9, ?_⟩, ⟨p1, p2, p3⟩, ⟨b1, b2, b3, by rw [List.length_take]; split <;> omega, fun z => by simp at z⟩, ⟨w1, w2, w3⟩, fun _ => ⟨n1, n2, kp_mem_back (n4 4 a h1), fun j x hj => n4 j x ?_, n5, n6⟩, fun z => by simp at z⟩
  · split <;> omega
  · have := (List.getElem?_eq_some_iff.mp hj).1
    rw [List.getElem?_take_of_lt (by simp at this; omega)] at hj
    exact hj
theorem zC_keep {fnd on opn : Bool} {Kb : Nat → UInt8} {kl : Nat} {Vb : Nat → UInt8} {vl : Nat} {Gb : Nat → UInt8} {gl : Nat} {Eb : Nat → UInt8} {el : Nat} {F J Rc : Nat → UInt8} {jl fw fk fb : Nat} {B : Nat → UInt8} {G : Nat → Bool} {S0 S1 S2 S3 S4 : Nat → UInt8} {cnt pg ca : Nat} {P pn ps : Nat → Nat} {top : Nat} {Cl : Nat → Bool} {cw cen csz : Nat} {Lr : Nat → UInt8} {ll : Nat} {A L : kp_A} {Ms : List kp_A} {key val : List UInt8} {fd : Option kp_KV}  {sw sk : Nat} {m : Nat} (h : kz_C (((fnd, on, opn), ((Kb, kl), (Vb, vl), (Gb, gl), (Eb, el)), (F, J, Rc, jl, fw, fk, fb), (B, G), (S0, S1, S2, S3, S4, cnt), (pg, ca), P, (pn, ps, top), (Cl, cw, cen, csz), (Lr, ll)) : kz_D) (((A, L, Ms), (key, val, fd), (true, true), (sw, sk)) : kz_S)) (h1 : 1 ≤ m) (h2 : m ≤ cnt) : kz_C (((fnd, on, opn), ((Kb, kl), (Vb, vl), (Gb, gl), (Eb, el)), (F, J, Rc, jl, fw, fk, fb), (B, G), (S0, S1, S2, S3, S4, (if m - 1 < cnt then m - 1 else cnt)), (pg, ca), P, (pn, ps, top), (Cl, cw, cen, csz), (Lr, ll)) : kz_D) (((A, L, (Ms.take (m - 1))), (key, val, fd), (true, true), (sw, sk)) : kz_S) := by
  obtain ⟨⟨r1, r2, r3, r4, r5, r6, r7, r8, r9, r10⟩, ⟨p1, p2, p3⟩, ⟨b1, b2, b3, b4, b5⟩, ⟨w1, w2, w3⟩, nn, f⟩ := h
  obtain ⟨n1, n2, n3, n4, n5, n6⟩ := nn rfl
  refine ⟨⟨r1, r2, r3, r4, r5, r6, r7, r8, r9, ?_⟩, ⟨p1, p2, p3⟩, ⟨b1, b2, b3, by rw [List.length_take]; split <;> omega, fun z => by simp at z⟩, ⟨w1, w2, w3⟩, fun _ => ⟨n1, n2, n3, fun j x hj => n4 j x ?_, n5, n6⟩, fun z => by simp at z⟩
  · split <;> omega
  · have := (List.getElem?_eq_some_iff.mp hj).1
    rw [List.getElem?_take_of_lt (by simp at this; omega)] at hj
    exact hj
theorem zC_power {fnd on opn : Bool} {Kb : Nat → UInt8} {kl : Nat} {Vb : Nat → UInt8} {vl : Nat} {Gb : Nat → UInt8} {gl : Nat} {Eb : Nat → UInt8} {el : Nat} {F J Rc : Nat → UInt8} {jl fw fk fb : Nat} {B : Nat → UInt8} {G : Nat → Bool} {S0 S1 S2 S3 S4 : Nat → UInt8} {cnt pg ca : Nat} {P pn ps : Nat → Nat} {top : Nat} {Cl : Nat → Bool} {cw cen csz : Nat} {Lr : Nat → UInt8} {ll : Nat} {A L : kp_A} {Ms : List kp_A} {key val : List UInt8} {fd : Option kp_KV} {son sop : Bool} {sw sk : Nat} {a b c : Nat} (h : kz_C (((fnd, on, opn), ((Kb, kl), (Vb, vl), (Gb, gl), (Eb, el)), (F, J, Rc, jl, fw, fk, fb), (B, G), (S0, S1, S2, S3, S4, cnt), (pg, ca), P, (pn, ps, top), (Cl, cw, cen, csz), (Lr, ll)) : kz_D) (((A, L, Ms), (key, val, fd), (son, sop), (sw, sk)) : kz_S)) (h1 : a ≤ 4) (h2 : b ≤ 1000) (h3 : c ≤ 300) : kz_C (((fnd, on, opn), ((Kb, kl), (Vb, vl), (Gb, gl), (Eb, el)), (F, J, Rc, jl, a, b, c), (B, G), (S0, S1, S2, S3, S4, cnt), (pg, ca), P, (pn, ps, top), (Cl, cw, cen, csz), (Lr, ll)) : kz_D) (((A, L, Ms), (key, val, fd), (son, sop), (a, b)) : kz_S) := by
  obtain ⟨⟨r1, r2, r3, r4, r5, r6, r7, r8, r9, r10⟩, ⟨p1, p2, p3⟩, ⟨b1, b2, b3, b4, b5⟩, ⟨w1, w2, w3⟩, nn, f⟩ := h
  exact ⟨⟨r1, r2, r3, r4, r5, r6, h1, h2, h3, r10⟩, ⟨p1, p2, p3⟩, ⟨b1, b2, b3, b4, b5⟩, ⟨w1, w2, w3⟩, fun z => by obtain ⟨n1, n2, n3, n4, n5, n6⟩ := nn z; exact ⟨n1, n2, n3, n4, rfl, rfl⟩, fun z => by obtain ⟨f1, f2, f3, f4⟩ := f z; exact ⟨f1, Iff.rfl, rfl, f4⟩⟩
theorem zC_reopenT {fnd on opn : Bool} {Kb : Nat → UInt8} {kl : Nat} {Vb : Nat → UInt8} {vl : Nat} {Gb : Nat → UInt8} {gl : Nat} {Eb : Nat → UInt8} {el : Nat} {F J Rc : Nat → UInt8} {jl fw fk fb : Nat} {B : Nat → UInt8} {G : Nat → Bool} {S0 S1 S2 S3 S4 : Nat → UInt8} {cnt pg ca : Nat} {P pn ps : Nat → Nat} {top : Nat} {Cl : Nat → Bool} {cw cen csz : Nat} {Lr : Nat → UInt8} {ll : Nat} {A L : kp_A} {Ms : List kp_A} {key val : List UInt8} {fd : Option kp_KV} {son sop : Bool} {sw sk : Nat} (h : kz_C (((fnd, on, opn), ((Kb, kl), (Vb, vl), (Gb, gl), (Eb, el)), (F, J, Rc, jl, fw, fk, fb), (B, G), (S0, S1, S2, S3, S4, cnt), (pg, ca), P, (pn, ps, top), (Cl, cw, cen, csz), (Lr, ll)) : kz_D) (((A, L, Ms), (key, val, fd), (son, sop), (sw, sk)) : kz_S)) (h1 : sw = 3) : ((kv_rcL J fw fk fb (jl / 34) 0 true F).1 && decide (fw ≠ 3)) = false ∧ kz_C (((false, false, false), ((Kb, 0), (Vb, 0), (Gb, 0), (Eb, 0)), ((kv_rcL J fw fk fb (jl / 34) 0 true F).2, J, Rc, (if ((kv_rcL J fw fk fb (jl / 34) 0 true F).1 && decide (fw ≠ 3)) = true then 0 else jl), 4, fk, fb), (B, G), (S0, S1, S2, S3, S4, 0), (pg, ca), P, (pn, ps, top), (Cl, cw, cen, csz), (Lr, ll)) : kz_D) (((L, L, []), ([], [], none), (false, false), (4, sk)) : kz_S) := by
  obtain ⟨⟨r1, r2, r3, r4, r5, r6, r7, r8, r9, r10⟩, ⟨p1, p2, p3⟩, ⟨b1, b2, b3, b4, b5⟩, ⟨w1, w2, w3⟩, nn, f⟩ := h
  have hl : kp_las F J jl L ∧ (fw = 3 ↔ sw = 3) ∧ fk = sk := by
    cases son with
    | true =>
      obtain ⟨n1, n2, n3, n4, n5, n6⟩ := nn rfl
      exact ⟨by rw [n1]; exact kp_las_of n2, by rw [n5], n6⟩
    | false =>
      obtain ⟨f1, f2, f3, f4⟩ := f rfl
      exact ⟨f1, f2, f3⟩
  obtain ⟨q1, q2, q3⟩ := kp_recover (fw := fw) (fk := fk) (fb := fb) hl.1 r6
  have hf : fw = 3 := hl.2.1.mpr h1
  have e : ((kv_rcL J fw fk fb (jl / 34) 0 true F).1 && decide (fw ≠ 3)) = false := by rw [decide_eq_false (fun y => y hf), Bool.and_false]
  refine ⟨e, ⟨Nat.zero_le _, Nat.zero_le _, Nat.zero_le _, Nat.zero_le _, r5, ?_, (by omega), r8, r9, (by omega)⟩, ⟨p1, p2, p3⟩, ⟨rfl, rfl, rfl, rfl, fun _ => rfl⟩, ⟨kp_row_nil _, kp_row_nil _, rfl, rfl⟩, fun z => by simp at z, fun _ => ⟨?_, by omega, hl.2.2, rfl, rfl, rfl, rfl, rfl, rfl⟩⟩
  · rw [e]; simpa using r6
  · rw [e]; simpa using q1
theorem zC_reopen {fnd on opn : Bool} {Kb : Nat → UInt8} {kl : Nat} {Vb : Nat → UInt8} {vl : Nat} {Gb : Nat → UInt8} {gl : Nat} {Eb : Nat → UInt8} {el : Nat} {F J Rc : Nat → UInt8} {jl fw fk fb : Nat} {B : Nat → UInt8} {G : Nat → Bool} {S0 S1 S2 S3 S4 : Nat → UInt8} {cnt pg ca : Nat} {P pn ps : Nat → Nat} {top : Nat} {Cl : Nat → Bool} {cw cen csz : Nat} {Lr : Nat → UInt8} {ll : Nat} {A L : kp_A} {Ms : List kp_A} {key val : List UInt8} {fd : Option kp_KV} {son sop : Bool} {sw sk : Nat} (h : kz_C (((fnd, on, opn), ((Kb, kl), (Vb, vl), (Gb, gl), (Eb, el)), (F, J, Rc, jl, fw, fk, fb), (B, G), (S0, S1, S2, S3, S4, cnt), (pg, ca), P, (pn, ps, top), (Cl, cw, cen, csz), (Lr, ll)) : kz_D) (((A, L, Ms), (key, val, fd), (son, sop), (sw, sk)) : kz_S)) (h1 : sw ≠ 3) : ((kv_rcL J fw fk fb (jl / 34) 0 true F).1 && decide (fw ≠ 3)) = true ∧ kz_C (((false, true, false), ((Kb, 0), (Vb, 0), (Gb, 0), (Eb, 0)), ((kv_rcL J fw fk fb (jl / 34) 0 true F).2, J, Rc, (if ((kv_rcL J fw fk fb (jl / 34) 0 true F).1 && decide (fw ≠ 3)) = true then 0 else jl), 4, fk, fb), ((kv_load B (kv_rcL J fw fk fb (jl / 34) 0 true F).2), (kv_clr G 2720)), (S0, S1, S2, S3, S4, 0), (pg, ca), P, (pn, ps, top), (Cl, cw, cen, csz), (Lr, ll)) : kz_D) (((L, L, []), ([], [], none), (true, false), (4, sk)) : kz_S) ∧ kv_num (kv_load B (kv_rcL J fw fk fb (jl / 34) 0 true F).2) 6 = kp_cntA L := by
  obtain ⟨⟨r1, r2, r3, r4, r5, r6, r7, r8, r9, r10⟩, ⟨p1, p2, p3⟩, ⟨b1, b2, b3, b4, b5⟩, ⟨w1, w2, w3⟩, nn, f⟩ := h
  have hl : kp_las F J jl L ∧ (fw = 3 ↔ sw = 3) ∧ fk = sk := by
    cases son with
    | true =>
      obtain ⟨n1, n2, n3, n4, n5, n6⟩ := nn rfl
      exact ⟨by rw [n1]; exact kp_las_of n2, by rw [n5], n6⟩
    | false =>
      obtain ⟨f1, f2, f3, f4⟩ := f rfl
      exact ⟨f1, f2, f3⟩
  obtain ⟨q1, q2, q3⟩ := kp_recover (fw := fw) (fk := fk) (fb := fb) hl.1 r6
  have hf : fw ≠ 3 := fun y => h1 (hl.2.1.mp y)
  have e0 := q3 hf
  have e : ((kv_rcL J fw fk fb (jl / 34) 0 true F).1 && decide (fw ≠ 3)) = true := by rw [decide_eq_true hf, Bool.and_true]; exact e0
  have i1 := q2 e0
  have i2 := kp_mem_load (B := B) (G := kv_clr G 2720) i1
  refine ⟨e, ⟨⟨Nat.zero_le _, Nat.zero_le _, Nat.zero_le _, Nat.zero_le _, r5, ?_, (by omega), r8, r9, (by omega)⟩, ⟨p1, p2, p3⟩, ⟨rfl, rfl, rfl, rfl, fun _ => rfl⟩, ⟨kp_row_nil _, kp_row_nil _, rfl, rfl⟩, fun _ => ⟨by rw [e]; simp, i1, i2, fun i a hi => by simp at hi, rfl, hl.2.2⟩, fun z => by simp at z⟩, (kp_numsA i2.1).1⟩
  rw [e]; simp
theorem zC_check {fnd on opn : Bool} {Kb : Nat → UInt8} {kl : Nat} {Vb : Nat → UInt8} {vl : Nat} {Gb : Nat → UInt8} {gl : Nat} {Eb : Nat → UInt8} {el : Nat} {F J Rc : Nat → UInt8} {jl fw fk fb : Nat} {B : Nat → UInt8} {G : Nat → Bool} {S0 S1 S2 S3 S4 : Nat → UInt8} {cnt pg ca : Nat} {P pn ps : Nat → Nat} {top : Nat} {Cl : Nat → Bool} {cw cen csz : Nat} {Lr : Nat → UInt8} {ll : Nat} {A L : kp_A} {Ms : List kp_A} {key val : List UInt8} {fd : Option kp_KV} {son sop : Bool} {sw sk : Nat} {Cl2 : Nat → Bool} {cw2 cen2 csz2 : Nat} {Lr2 : Nat → UInt8} {ll2 : Nat} {pn2 ps2 : Nat → Nat} {top2 pg2 ca2 : Nat} (h : kz_C (((fnd, on, opn), ((Kb, kl), (Vb, vl), (Gb, gl), (Eb, el)), (F, J, Rc, jl, fw, fk, fb), (B, G), (S0, S1, S2, S3, S4, cnt), (pg, ca), P, (pn, ps, top), (Cl, cw, cen, csz), (Lr, ll)) : kz_D) (((A, L, Ms), (key, val, fd), (son, sop), (sw, sk)) : kz_S)) (h1 : ∀ j, pn2 j < 65536) (h2 : ∀ j, ps2 j < 65536) (h3 : ll2 ≤ 8448) : kz_C (((fnd, on, opn), ((Kb, kl), (Vb, vl), (Gb, gl), (Eb, el)), (F, J, Rc, jl, fw, fk, fb), (B, G), (S0, S1, S2, S3, S4, cnt), (pg2, ca2), P, (pn2, ps2, top2), (Cl2, cw2, cen2, csz2), (Lr2, ll2)) : kz_D) (((A, L, Ms), (key, val, fd), (son, sop), (sw, sk)) : kz_S) := by
  obtain ⟨⟨r1, r2, r3, r4, r5, r6, r7, r8, r9, r10⟩, ⟨p1, p2, p3⟩, ⟨b1, b2, b3, b4, b5⟩, ⟨w1, w2, w3⟩, nn, f⟩ := h
  exact ⟨⟨r1, r2, r3, r4, h3, r6, r7, r8, r9, r10⟩, ⟨h1, h2, p3⟩, ⟨b1, b2, b3, b4, b5⟩, ⟨w1, w2, w3⟩, nn, f⟩
