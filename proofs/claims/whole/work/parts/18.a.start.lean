/-! what holds as the law begins -/
theorem ws_arr {ty : FieldType} {A : Array Value} {s : State} (h : (Cond.arrayClass ty).before A s = true) : ∃ c : ClassId, ArrOfT s c ty ∧ s.vm.findClass ("[" ++ ty.toString) = some c := by
  obtain ⟨c, k, comp, h1, h2, h3⟩ := Cond.arrayClass_spec h
  exact ⟨c, fun n z => ⟨(fun q hq => by cases hq), k, h2, comp, h3⟩, h1⟩
theorem ws_arr2 {ty : FieldType} {A : Array Value} {s : State} (h : (Cond.arrayOver (.array ty)).before A s = true) : ∃ c : ClassId, ArrOfT s c (.array ty) ∧ s.vm.findClass ("[" ++ (FieldType.array ty).toString) = some c := by
  obtain ⟨comp, c, k, hc, hi, hk, hkind, hn⟩ := arrayOverA_spec h
  exact ⟨c, fun n z => ⟨(fun q hq => by cases hq), k, hk, comp, hkind⟩, hn⟩
theorem ws_over : Cond.arrayOver (.array .byte) ∈ lw_tbl := by decide +kernel
theorem ws_K {A : Array Value} {s : State} (hts : ∀ w ∈ lw_tbl, w.before A s = true) : ∃ (D : va_G) (K : Nat → ClassId), va_K D vwCl (ks_T K) s := by
  have hk : ∀ w ∈ ks_tbl, w.before A s = true := fun w h => hts w (ks_tbl_lw w h)
  obtain ⟨c0, i0, k0⟩ := u_known (C := R_Row) (T := F_Row) (N := 2) (n := 2) hk in_Row (hk _ is_Row)
  obtain ⟨c1, i1, k1⟩ := u_known (C := R_Pages) (T := F_Pages) (N := 2) (n := 2) hk in_Pages (hk _ is_Pages)
  obtain ⟨c2, i2, k2⟩ := u_known (C := R_Disk) (T := F_Disk) (N := 7) (n := 7) hk in_Disk (hk _ is_Disk)
  obtain ⟨c3, i3, k3⟩ := u_known (C := R_Marks) (T := F_Marks) (N := 2) (n := 2) hk in_Marks (hk _ is_Marks)
  obtain ⟨c4, i4, k4⟩ := u_known (C := R_Chains) (T := F_Chains) (N := 3) (n := 3) hk in_Chains (hk _ is_Chains)
  obtain ⟨c5, i5, k5⟩ := u_known (C := R_Nodes) (T := F_Nodes) (N := 2) (n := 2) hk in_Nodes (hk _ is_Nodes)
  obtain ⟨c6, i6, k6⟩ := u_known (C := R_Trees) (T := F_Trees) (N := 6) (n := 6) hk in_Trees (hk _ is_Trees)
  obtain ⟨c7, i7, k7⟩ := u_known (C := R_Checker) (T := F_Checker) (N := 9) (n := 9) hk in_Checker (hk _ is_Checker)
  obtain ⟨c8, i8, k8⟩ := u_known (C := R_Store) (T := F_Store) (N := 13) (n := 13) hk in_Store (hk _ is_Store)
  obtain ⟨c9, i9, k9⟩ := u_known (C := R_Model) (T := F_Model) (N := 26) (n := 26) hk in_Model (hk _ is_Model)
  obtain ⟨b0, e0⟩ := ws_arr (hk _ ar_byte)
  obtain ⟨b1, e1⟩ := ws_arr (hk _ ar_bool)
  obtain ⟨b2, e2⟩ := ws_arr (hk _ ar_int)
  obtain ⟨b3, e3⟩ := ws_arr (hk _ ar_long)
  obtain ⟨b4, e4⟩ := ws_arr2 (hts _ ws_over)
  refine ⟨(fun k => [c0, c1, c2, c3, c4, c5, c6, c7, c8, c9].getD k c0, fun k => [i0, i1, i2, i3, i4, i5, i6, i7, i8, i9].getD k i0), fun k => [b0, b1, b2, b3, b4].getD k b0, ?_, ?_⟩
  · intro k q hq
    match k, hq with
    | 0, hq => cases hq; exact k0
    | 1, hq => cases hq; exact k1
    | 2, hq => cases hq; exact k2
    | 3, hq => cases hq; exact k3
    | 4, hq => cases hq; exact k4
    | 5, hq => cases hq; exact k5
    | 6, hq => cases hq; exact k6
    | 7, hq => cases hq; exact k7
    | 8, hq => cases hq; exact k8
    | 9, hq => cases hq; exact k9
    | k + 10, hq => simp [vwCl] at hq
  · intro k q hq
    match k, hq with
    | 0, hq => cases hq; exact e0
    | 1, hq => cases hq; exact e1
    | 2, hq => cases hq; exact e2
    | 3, hq => cases hq; exact e3
    | 4, hq => cases hq; exact e4
    | k + 5, hq => simp [ks_T] at hq
theorem ws_n0 : Cond.fieldLinkNest "KeyStore$Pages" 50 "KeyStore$Row" "bytes" "[B" "KeyStore" ∈ lw_tbl := by decide +kernel
theorem ws_n1 : Cond.methodLinkNest "KeyStore" 11 y_Row_init "KeyStore" ∈ lw_tbl := by decide +kernel
theorem ws_n2 : Cond.methodLinkNest "KeyStore" 27 y_Disk_init "KeyStore" ∈ lw_tbl := by decide +kernel
theorem ws_n3 : Cond.methodLinkNest "KeyStore" 34 y_Pages_init "KeyStore" ∈ lw_tbl := by decide +kernel
theorem ws_n4 : Cond.methodLinkNest "KeyStore" 41 y_Marks_init "KeyStore" ∈ lw_tbl := by decide +kernel
theorem ws_n5 : Cond.methodLinkNest "KeyStore$Checker" 17 y_Row_init "KeyStore" ∈ lw_tbl := by decide +kernel
theorem ws_N {A : Array Value} {s : State} (hts : ∀ w ∈ lw_tbl, w.before A s = true) : ks_Nw s :=
  ⟨va_Nw.of rfl (hts _ ws_n0), va_Nw.of rfl (hts _ ws_n1), va_Nw.of rfl (hts _ ws_n2), va_Nw.of rfl (hts _ ws_n3), va_Nw.of rfl (hts _ ws_n4), va_Nw.of rfl (hts _ ws_n5)⟩
theorem ws_l0 : Cond.laysStatic "java/lang/Throwable" "UNASSIGNED_STACK" Bundle.steD ∈ lw_tbl := by decide +kernel
theorem ws_l1 : Cond.laysStatic "java/lang/Throwable" "SUPPRESSED_SENTINEL" Bundle.listD ∈ lw_tbl := by decide +kernel
theorem ws_r0 : Cond.isRef (.static "java/lang/Throwable" "UNASSIGNED_STACK" Bundle.steD) ∈ flatC (Jvm.Cond.and given_1 narrow_1) := by decide +kernel
theorem ws_r1 : Cond.isRef (.static "java/lang/Throwable" "SUPPRESSED_SENTINEL" Bundle.listD) ∈ flatC (Jvm.Cond.and given_1 narrow_1) := by decide +kernel
theorem ws_L {A : Array Value} {s : State} {n d : String} (hl : (Cond.laysStatic Bundle.tN n d).before A s = true) (hr : (Cond.isRef (.static Bundle.tN n d)).before A s = true) : kt_L s n d := by
  obtain ⟨c, k, i, f, a, cell, hc, hi, hst, ha, hcell, hs, hcls, hlt, hty⟩ := Cond.laysStatic_spec hl
  obtain ⟨u, hu⟩ := Cond.staticRefV hi hst ha hcell hs hr
  exact ⟨c, k, i, f, a, cell, u, hc, hi, hst, ha, hcell, hs, hcls, hlt, hty, hu⟩
theorem ws_e5 : ∀ x ∈ kt_E5, ∀ y ∈ kt_E5, x ≠ y → Cond.not (.castable x y) ∈ flatC (Jvm.Cond.and given_1 narrow_1) := by decide +kernel
theorem ws_S {A : Array Value} {s : State} (hts : ∀ w ∈ lw_tbl, w.before A s = true) (hgv : (Jvm.Cond.and given_1 narrow_1).before A s = true) : kt_S s := by
  have hg := flat_of_before _ hgv
  exact ⟨fun args w hw hk => kt_ok.go hk (State.WarmedH.refl s) (hts w hw), ws_L (hts _ ws_l0) (hg _ ws_r0), ws_L (hts _ ws_l1) (hg _ ws_r1), fun x hx y hy hxy => va_Nc.of (hg _ (ws_e5 x hx y hy hxy))⟩
