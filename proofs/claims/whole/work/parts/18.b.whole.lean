/-! THE CLAIM OUT OF ONE WALK OF THE LAW'S BODY. Your part is whole_start (and what it stands on); all else here is the same for every law, but numbers. -/
def R_law : String := "KeyStoreLaw"
def lw_P (b : Addr) (xs : List Int32) (args : Array Value) (s : State) : Prop := args = #[.ref b] ∧ s.IntsAt b xs ∧ xs.length ≤ 2048 ∧ (Jvm.Cond.and given_1 narrow_1).before args s = true
def lw_Q (_ : Array Value) (s : State) (o : Outcome) (t : State) : Prop := o = .returned (some (.int 1)) ∧ Framed s o t [] 601024 7293034
def lw_Z (below : List Frame) (a : Array Value) (s : State) : State → Prop := fun t => ∃ o, t.status = .running ∧ Ended t below o ∧ lw_Q a s o t
/-- the law's own end, with 1 on the stack, nothing written that was there before, its room as the claim has it -/
theorem lw_ret {p : Program} {l : Launch} {e : Env} {s : State} {m : MethodId} {below : List Frame} {meth : Method} {c : Code} {b : Nat} (hx : p.tables.exec = Jvm.exec) (hb : c.code = code) (hr : meth.sig.returnType = ret) (hlocks : meth.locks = false) {pc : Nat} {H : Heap} {ls : Array Slot} (hdg : decode code pc = .ok (.ireturn, 1)) : W p l e room_1 s m #[Value.ref b] below meth c H [] 601024 7293034 (lw_Z below #[Value.ref b] s) (F0 m pc ls [.int 1]) := by
  intro T hT X
  obtain ⟨fs, hret, hrun, hended, hW, hframe⟩ := X.leave (v := some (.int 1)) (hlocks := hlocks) (fun h => by rw [hr] at h; cases h)
  have hmeth' : T.vm.method? m = some meth := X.method'
  refine ⟨T.setFrames fs, ?_, .returned (some (.int 1)), hrun, hended, rfl, ⟨_, rfl⟩, hW, hframe⟩
  jvm_step X.here [X.here.top, hx, hb, hdg, hmeth', hr, ret, narrow_b1]
  (try refine ⟨rfl, ?_⟩); (try refine ⟨rfl, ?_⟩)
  first | (intro acts; rw [hret _ acts rfl rfl rfl]) | rw [hret _ _ rfl rfl rfl]
  exact Steps.refl _
/-- what holds at the law's entry: the machine, the code, the tables' words (any of lw_tbl by 'hts w (by decide +kernel)'), the script of L ints xs at the cell b, what the Statement gives of the start (any of its parts by flat_of_before) -/
def lw_At (p : Program) (s : State) (m : MethodId) (meth : Method) (c : Code) (b L : Nat) (xs : Nat → Int32) : Prop :=
  p.tables.exec = Jvm.exec ∧ c.code = code ∧ meth.sig.returnType = ret ∧ c.maxLocals = 8 ∧ s.vm.findClass R_law = some m.cls ∧ (∀ w ∈ lw_tbl, w.before #[Value.ref b] s = true) ∧ va_X b L xs s s.heap ∧ b < s.heap.size ∧ meth.locks = false ∧ (Jvm.Cond.and given_1 narrow_1).before #[Value.ref b] s = true
-- ===== YOUR PART BEGINS =====
theorem ws_pm (Wd V Ot : va_W) : ((Wd ++ V) ++ Ot).Perm ((Wd ++ Ot) ++ V) := by
  rw [List.append_assoc, List.append_assoc]
  exact (List.perm_append_comm).append_left Wd
set_option maxRecDepth 100000 in
set_option maxHeartbeats 4000000 in
theorem ws_body {p : Program} {e : Env} {s : State} {m : MethodId} {below : List Frame} {meth : Method} {c : Code} (l : Launch) (hNT : l.stackTraces = false) {b L : Nat} {xs : Nat → Int32} (hL : L ≤ 2048) {D : va_G} {K : Nat → ClassId} (C : ks_ok (p, l, e, room_1, s, m, #[Value.ref b], below, meth, c, lw_Z below #[Value.ref b] s, (fun q : Nat => s.heap.size ≤ q)) l D (ks_T K) room_1 code 8 "KeyStoreLaw") (hr : meth.sig.returnType = ret) (X : kl_X (p, l, e, room_1, s, m, #[Value.ref b], below, meth, c, lw_Z below #[Value.ref b] s, (fun q : Nat => s.heap.size ≤ q)) b L xs) (HH : kl_H (p, l, e, room_1, s, m, #[Value.ref b], below, meth, c, lw_Z below #[Value.ref b] s, (fun q : Nat => s.heap.size ≤ q))) (Y : kc_Y (p, l, e, room_1, s, m, #[Value.ref b], below, meth, c, lw_Z below #[Value.ref b] s, (fun q : Nat => s.heap.size ≤ q))) : ks_w (p, l, e, room_1, s, m, #[Value.ref b], below, meth, c, lw_Z below #[Value.ref b] s, (fun q : Nat => s.heap.size ≤ q)) D 8 [] (ks_ar [.ref b] ++ List.replicate 7 none) 0 0 0 [] := by
  have X2 : kl_X (p, l, e, room_1, s, m, #[Value.ref b], below, meth, c, lw_Z below #[Value.ref b] s, (fun q : Nat => s.heap.size ≤ q)) b L (fun j => nI ((fun j => (xs j).toBitVec.toNat) j)) := by
    rw [show (fun j => nI ((fun j => (xs j).toBitVec.toNat) j)) = xs from funext fun j => nI_bv (xs j)]; exact X
  have hend : ∀ (z0 tk0 tv0 gk0 gv0 d0 x0 m0 c0 t0 k0 tk1 tv1 gk1 gv1 d1 d2 d3 x1 x2 m1 s0 s1 s2 s3 s4 t1 t2 n0 n1 k1 l0 l1 o0 a0 a1 a2 a3 a4 a5 a6 a7 a8 a9 a10 a11 a12 a13 : Nat) (d' : kz_D) (O' : Nat → Int64) (e' : kz_E) (j : Nat), ks_w (p, l, e, room_1, s, m, #[Value.ref b], below, meth, c, lw_Z below #[Value.ref b] s, (fun q : Nat => s.heap.size ≤ q)) D 8 ((kz_W K z0 tk0 tv0 gk0 gv0 d0 x0 m0 c0 t0 k0 tk1 tv1 gk1 gv1 d1 d2 d3 x1 x2 m1 s0 s1 s2 s3 s4 t1 t2 n0 n1 k1 l0 l1 d' ++ kw_out K o0 O') ++ kz_V K a0 a1 a2 a3 a4 a5 a6 a7 a8 a9 a10 a11 a12 a13 e') [some (.ref b), some (.ref z0), some (.ref a0), some (.ref o0), some (.int (nI j)), none, none, none] 601024 7293034 1254 [] := by
    intro z0 tk0 tv0 gk0 gv0 d0 x0 m0 c0 t0 k0 tk1 tv1 gk1 gv1 d1 d2 d3 x1 x2 m1 s0 s1 s2 s3 s4 t1 t2 n0 n1 k1 l0 l1 o0 a0 a1 a2 a3 a4 a5 a6 a7 a8 a9 a10 a11 a12 a13 d' O' e' j
    refine ks_iconst (a := 1) rfl C d_Law_law_1254 ?_
    obtain ⟨-, -, hx, hb, hml, hown, hts, hK, hA, hlocks, hNw⟩ := C
    intro H locs ls hP hD hS hl
    exact va_forget (fun q hq => hS.2.2 q hq) (lw_ret hx hb hr hlocks d_Law_law_1255)
  refine kc_new (ci := 8) (fs := [.null, .null, .null, .null, .null, .null, .null, .null, .null, .null, .int 0, .int 0, .int 0]) C t_Store ty_Store in_Store rfl kk_Law_8 is_Store ini_Store hd_Store ⟨by decide, by decide⟩ d_Law_law_0 (fun z0 => ?_)
  refine ks_dup rfl C d_Law_law_3 ?_
  refine kc_call (wr := []) (As := []) C Y (i_Store l D K z0) yw_Store_init rfl lk_Law_88 [0] [] rfl rfl rfl rfl (by decide) ⟨by decide, by decide⟩ ⟨by decide, by decide⟩ rfl rfl (Nat.le_of_ble_eq_true rfl) d_Law_law_4 (fun w1 hw1 => ?_)
  obtain ⟨tk0, tv0, gk0, gv0, d0, x0, m0, c0, t0, k0, tk1, tv1, gk1, gv1, d1, d2, d3, x1, x2, m1, s0, s1, s2, s3, s4, t1, t2, n0, n1, k1, l0, l1, rfl⟩ := hw1
  refine ks_astore_n C rfl (by decide) rfl d_Law_law_7 ?_
  refine kc_new (ci := 9) (fs := [.null, .null, .null, .null, .null, .null, .int 0, .int 0, .null, .null, .null, .null, .null, .null, .null, .int 0, .int 0, .int 0, .int 0, .int 0, .int 0, .int 0, .int 0, .int 0, .int 0, .int 0]) C t_Model ty_Model in_Model rfl kk_Law_89 is_Model ini_Model hd_Model ⟨by decide, by decide⟩ d_Law_law_8 (fun a0 => ?_)
  refine ks_dup rfl C d_Law_law_11 ?_
  refine kc_call (wr := (kz_W K z0 tk0 tv0 gk0 gv0 d0 x0 m0 c0 t0 k0 tk1 tv1 gk1 gv1 d1 d2 d3 x1 x2 m1 s0 s1 s2 s3 s4 t1 t2 n0 n1 k1 l0 l1 kz_D0)) (As := []) C Y (i_Model l D K a0) yw_Model_init rfl lk_Law_91 [33] (List.range 33) rfl rfl rfl rfl (by decide) ⟨by decide, by decide⟩ ⟨by decide, by decide⟩ rfl rfl (Nat.le_of_ble_eq_true rfl) d_Law_law_12 (fun w1 hw1 => ?_)
  obtain ⟨a1, a2, a3, a4, a5, a6, a7, a8, a9, a10, a11, a12, a13, rfl⟩ := hw1
  refine ks_astore_n C rfl (by decide) rfl d_Law_law_15 ?_
  refine ks_iconst (a := 1) rfl C d_Law_law_16 ?_
  refine kc_newa (atype := .long) (a0 := (1, .inr (.inl (fun _ => 0)))) C 3 rfl rfl (fun _ _ h => h) ar_long (fun c => kc_hl c 1) (by decide) (by decide) ⟨by decide, by decide⟩ d_Law_law_17 (fun o0 => ?_)
  refine ks_astore_n C rfl (by decide) rfl d_Law_law_19 ?_
  refine ks_iconst (a := 0) rfl C d_Law_law_20 ?_
  refine ks_istore C (by decide) rfl d_Law_law_21 ?_
  refine ks_perm (ws_pm _ _ _) ?_
  exact kl_loop hNT C X2 HH hL (fun j => (xs j).toBitVec.isLt) (hend z0 tk0 tv0 gk0 gv0 d0 x0 m0 c0 t0 k0 tk1 tv1 gk1 gv1 d1 d2 d3 x1 x2 m1 s0 s1 s2 s3 s4 t1 t2 n0 n1 k1 l0 l1 o0 a0 a1 a2 a3 a4 a5 a6 a7 a8 a9 a10 a11 a12 a13) 512 0 kz_D0 (fun _ => 0) kz_E0 kz_S0 _ _ kz_C0 kz_N0 (by omega) (by omega) (by decide) (by decide)
set_option maxHeartbeats 4000000 in
/-- from the entry, for every script of at most 2048 ints, the law comes to its end with true -/
theorem whole_start {p : Program} {e : Env} {s : State} {m : MethodId} {below : List Frame} {meth : Method} {c : Code} (l : Launch) (hNT : l.stackTraces = false) {b L : Nat} {xs : Nat → Int32} (hL : L ≤ 2048) (C0 : lw_At p s m meth c b L xs) : W p l e room_1 s m #[Value.ref b] below meth c s.heap [] 0 0 (lw_Z below #[Value.ref b] s) (entryFrame m ([Value.ref b] : List Value).toArray 8) := by
  obtain ⟨hx, hb, hr, hml, hown, hts, hX, hbl, hlocks, hgv⟩ := C0
  obtain ⟨D, K, hK⟩ := ws_K hts
  have h := ws_body (p := p) (e := e) (s := s) (m := m) (below := below) (meth := meth) (c := c) l hNT (b := b) (L := L) (xs := xs) hL (D := D) (K := K) ⟨rfl, rfl, hx, hb, hml, hown, fun w hw => hts w (ks_tbl_lw w hw), hK, fun q h => h, hlocks, ws_N hts⟩ hr ⟨hX, hbl, Nat.not_le.mpr hbl⟩ ⟨ws_S hts hgv, fun q cell h1 h2 _ => absurd h1 (Nat.not_lt.mpr h2)⟩ (hts _ ws_over)
  have hl := lv_entry ([.ref b] : List Value) (n := 8) (Nat.le_of_ble_eq_true rfl)
  rw [lg_entry_eq]
  exact h s.heap [] _ (fun k q h => by simp at h) ⟨fun i j p q h => by simp at h, fun k q h => by simp at h⟩ va_S.rf (ks_lo_args hl)
-- ===== YOUR PART ENDS =====
set_option maxHeartbeats 4000000 in
theorem lw_walk (l : Launch) (hNT : l.stackTraces = false) (b : Addr) (xs : List Int32) : MetFree l x (headSpec (Jvm.Cond.code x code maxLocals ret :: tables_1) room_1) (lw_P b xs) (fun _ _ _ _ _ => True) lw_Q := by
  refine MetFree.of_bodyS (code := code) (maxLocals := maxLocals) (ret := ret) (by decide) ?_ ?_
  · intro args s m h hn
    obtain ⟨meth, c, h1, h2, h3, h4, h5, h6, -, -⟩ := Cond.code_spec hn (atoms_spec (ws := Jvm.Cond.code x code maxLocals ret :: tables_1) h _ List.mem_cons_self)
    exact ⟨meth, c, h1, h2, h3, h4, h5, h6⟩
  · intro p e s m args below meth c s₁ B hml0 hP _
    obtain ⟨rfl, hx, hbd, hgv⟩ := hP
    obtain ⟨scr, harrAt, hlist, hof, hsmall⟩ := hx
    obtain ⟨hcb, hkn, -, -⟩ := State.arrayAt?_spec harrAt
    have hown : s.vm.findClass R_law = some m.cls := findClass_of_methodNamed B.named
    have hts0 : ∀ c ∈ (Jvm.Cond.code x code maxLocals ret :: tables_1), c.before #[Value.ref b] s = true := atoms_spec (ws := Jvm.Cond.code x code maxLocals ret :: tables_1) B.pre
    have hts : ∀ w ∈ lw_tbl, w.before #[Value.ref b] s = true := k2_hts_sels lw_privs (fun w hw => hts0 w (List.mem_cons_of_mem _ hw)) lw_privs_ok
    have hml : c.maxLocals = 8 := B.maxLocals_eq (hts0 _ List.mem_cons_self)
    have X₀ : Stand p l e room_1 s m #[Value.ref b] below meth c s₁ [] 0 0 := Stand.of_body B
    have hh0 : s₁.heap = s.heap := by rw [B.state]; rfl
    have hsz : scr.slots.size = xs.length := by rw [← Array.length_toList, hlist, List.length_map]
    have hval : ∀ j : Nat, j < xs.length → scr.slots[j]? = some (.int (xs.getD j 0)) := fun j hj => by
      rw [← Array.getElem?_toList, hlist]
      simp [hj]
    have hbl : b < s.heap.size := (Array.getElem?_eq_some_iff.mp hcb).1
    have hX : va_X b xs.length (fun j => xs.getD j 0) s s.heap := ⟨scr, hcb, hof, hkn, hsz, hval⟩
    have K : W p l e room_1 s m #[Value.ref b] below meth c s₁.heap [] 0 0 (lw_Z below #[Value.ref b] s) (entryFrame m ([Value.ref b] : List Value).toArray 8) := by
      rw [hh0]
      exact whole_start l hNT hbd ⟨B.exec, B.bytes, B.returns, hml, hown, hts, hX, hbl, B.notSynchronized, hgv⟩
    obtain ⟨t, a1, o, b1, b2, b3⟩ := K s₁ rfl X₀
    exact ⟨t, o, a1, b1, b2, b3⟩
theorem lw_pre_spec {args : Array Value} {s : State} (h : (Jvm.Cond.and given_1 narrow_1).before args s = true) (hr : rest_1_c.before args s = true) : ∃ (b : Addr) (xs : List Int32), lw_P b xs args s := by
  have hs := flat_of_before _ h
  have hq := flat_of_before _ hr
  have hc : (Cond.count 1).before args s = true := hs _ (by decide +kernel)
  have harr : (Cond.arrayOf (.arg 0) .int).before args s = true := hs _ (by decide +kernel)
  have hle : (Cond.le (.length (.arg 0)) (.int 2048)).before args s = true := hs _ (by decide +kernel)
  have hlen : (Cond.isInt (.length (.arg 0))).before args s = true := hq _ (by decide +kernel)
  have hall : (Cond.all (.arg 0) (.isInt (.elem (.arg 0) (.index 0)))).before args s = true := hq _ (by decide +kernel)
  obtain ⟨b, xs, hb, hx⟩ := State.ints_of_pre rfl harr hlen hall
  have hsm : xs.length < 2 ^ 31 := hx.choose_spec.2.2.2
  have hev : (Term.length (.arg 0)).eval args s none [] s = some (.int xs.length.toInt32) := hx.length_eval hb
  have hv := Cond.le_ints hev (show (Term.int 2048).eval args s none [] s = some (.int 2048) from rfl)
  have hd : xs.length.toInt32 ≤ 2048 := by
    simpa [Cond.before, Cond.holds, hv] using hle
  have hN : xs.length ≤ 2048 := (Int32.ofNat_le_ofNat hsm (by decide)).mp (show Int32.ofNat xs.length ≤ Int32.ofNat 2048 from hd)
  exact ⟨b, xs, Cond.one_arg hc (show args[0]? = some (.ref b) from hb), hx, hN, h⟩
theorem lw_comes (l : Launch) (hNT : l.stackTraces = false) : Comes l x (Jvm.Cond.code x code maxLocals ret :: tables_1) room_1 (fun tb e args s => Calls_1 tb e args s ∧ rest_1 tb e args s ∧ Pre_1 tb e args s)
    (fun _ _ args s o t => lw_Q args s o t) := by
  intro p e ha hc hk s m args below hf hfit hheap happ hpre
  obtain ⟨b, xs, hP⟩ := lw_pre_spec hpre.2.2 hpre.2.1
  obtain ⟨k, o, h1, h2, h3, hQ⟩ := lw_walk l hNT b xs p e ha hc hk s m args below hf ((Spec.applies_iff_loose hf).mp happ).1 hP trivial
  exact ⟨k, o, h1, h2, h3, hQ⟩
theorem lw_frame {s t : State} {o : Outcome} {args : Array Value} (h : Framed s o t [] 601024 7293034) :
    Framed s o t (fieldLocs frame_1_writes args s ++ arrayLocs frame_1_arrays args s ++ staticLocs frame_1_statics s) 601024 7293034 := h
theorem lw_limb (L : Cond) (hL : ∀ (args : Array Value) (s t : State), L.after args s (.returned (some (.int 1))) t = true) :
    ArmFor flags0 classFile x code maxLocals ret World_1 tables_1 room_1 Calls_1 rest_1 Pre_1
      (fun tb e a s o t => postC L tb e a s o t ∧ Framed s o t (fieldLocs frame_1_writes a s ++ arrayLocs frame_1_arrays a s ++ staticLocs frame_1_statics s) 601024 7293034) := by
  intro l hfl _ _ p e ha hc hk s m args below hf hfit hheap happ hpre
  obtain ⟨k, o, h1, h2, h3, rfl, hF⟩ := lw_comes l (by unfold Launch.stackTraces; rw [hfl]; decide) p e ha hc hk s m args below hf hfit hheap happ hpre
  exact ⟨k, _, h1, h2, h3, hL args s _, lw_frame hF⟩
theorem i_vc : Claimed_1_1 ∧ Claimed_1_2 := ⟨lw_limb limb_1_1 (fun args s t => by simp [limb_1_1, Cond.after, Cond.holds, Cond.value]), lw_limb limb_1_2 (fun args s t => Cond.after_iff.mpr (by
  first | (rw [show limb_1_2 = Cond.eq .result (.int 1) from rfl, Cond.eq_ints (x := 1) (y := 1) rfl rfl]; simp; done) | (simp [limb_1_2, Cond.value, Term.eval]; done)))⟩
