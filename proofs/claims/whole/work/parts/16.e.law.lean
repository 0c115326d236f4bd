/-! the law's loop: one lemma a call (walks) -/
set_option maxRecDepth 100000 in
set_option maxHeartbeats 4000000 in
theorem lb_key {E : ks_E} {l : Launch} {D : va_G} {K : Nat → ClassId} {z0 tk0 tv0 gk0 gv0 d0 x0 m0 c0 t0 k0 tk1 tv1 gk1 gv1 d1 d2 d3 x1 x2 m1 s0 s1 s2 s3 s4 t1 t2 n0 n1 k1 l0 l1 o0 a0 a1 a2 a3 a4 a5 a6 a7 a8 a9 a10 a11 a12 a13 b L i : Nat} {sc : Nat → Nat} (hNT : l.stackTraces = false) (C : ks_ok E l D (ks_T K) room_1 code 8 "KeyStoreLaw") (X : kl_X E b L (fun j => nI (sc j))) (HH : kl_H E) (hL : L ≤ 2048) (hsc : ∀ j, sc j < 4294967296) (hi : i + 4 ≤ L) {d : kz_D} {O : Nat → Int64} {e : kz_E} {s : kz_S} (hC : kz_C d s) (hN : kz_N e s) {cs ss : Nat} (hcs : cs + 1 ≤ 601024) (hss : ss + 6 ≤ 7293034) (k : ∀ (d' : kz_D) (O' : Nat → Int64) (e' : kz_E) (s' : kz_S), kz_C d' s' → kz_N e' s' → ks_w E D 8 ((kz_W K z0 tk0 tv0 gk0 gv0 d0 x0 m0 c0 t0 k0 tk1 tv1 gk1 gv1 d1 d2 d3 x1 x2 m1 s0 s1 s2 s3 s4 t1 t2 n0 n1 k1 l0 l1 d' ++ kw_out K o0 O') ++ kz_V K a0 a1 a2 a3 a4 a5 a6 a7 a8 a9 a10 a11 a12 a13 e') [some (.ref b), some (.ref z0), some (.ref a0), some (.ref o0), some (.int (nI i)), none, none, none] (cs + 1) (ss + 6) 1248 []) : ks_w E D 8 ((kz_W K z0 tk0 tv0 gk0 gv0 d0 x0 m0 c0 t0 k0 tk1 tv1 gk1 gv1 d1 d2 d3 x1 x2 m1 s0 s1 s2 s3 s4 t1 t2 n0 n1 k1 l0 l1 d ++ kw_out K o0 O) ++ kz_V K a0 a1 a2 a3 a4 a5 a6 a7 a8 a9 a10 a11 a12 a13 e) [some (.ref b), some (.ref z0), some (.ref a0), some (.ref o0), some (.int (nI i)), none, none, none] cs ss 132 [] := by
  obtain ⟨fs, hfs⟩ := kz_V_0 K a0 a1 a2 a3 a4 a5 a6 a7 a8 a9 a10 a11 a12 a13 e
  refine ks_aload_n rfl rfl C d_Law_law_132 ?_
  refine ks_aload_n rfl rfl C d_Law_law_133 ?_
  refine ks_iload rfl C d_Law_law_134 ?_
  refine ks_iconst (a := 1) rfl C d_Law_law_136 ?_
  refine ks_iadd C d_Law_law_137 ?_
  refine ks_sld C X (by omega) hL d_Law_law_138 ?_
  refine ks_i2l C d_Law_law_139 ?_
  refine ks_bipush (a := 32) rfl C d_Law_law_140 ?_
  refine ks_lshl C d_Law_law_142 ?_
  refine ks_aload_n rfl rfl C d_Law_law_143 ?_
  refine ks_iload rfl C d_Law_law_144 ?_
  refine ks_iconst (a := 2) rfl C d_Law_law_146 ?_
  refine ks_iadd C d_Law_law_147 ?_
  refine ks_sld C X (by omega) hL d_Law_law_148 ?_
  refine ks_i2l C d_Law_law_149 ?_
  refine ks_ldc2 ck_Law_92 C d_Law_law_150 ?_
  refine ks_land C d_Law_law_153 ?_
  refine ks_lor C d_Law_law_154 ?_
  refine ks_aload_n rfl rfl C d_Law_law_155 ?_
  refine ks_iload rfl C d_Law_law_156 ?_
  refine ks_iconst (a := 3) rfl C d_Law_law_158 ?_
  refine ks_iadd C d_Law_law_159 ?_
  refine ks_sld C X (by omega) hL d_Law_law_160 ?_
  refine ks_aload_n rfl rfl C d_Law_law_161 ?_
  refine ks_callSb C HH (g_Law_key l hNT D K z0 tk0 tv0 gk0 gv0 d0 x0 m0 c0 t0 k0 tk1 tv1 gk1 gv1 d1 d2 d3 x1 x2 m1 s0 s1 s2 s3 s4 t1 t2 n0 n1 k1 l0 l1 o0 O d s (((nI (sc (i + 1))).toInt64 <<< ((nI 32).toInt64 &&& 63)) ||| ((nI (sc (i + 2))).toInt64 &&& 4294967295)) (sc (i + 3)) hC (hsc _)) yh_Law_key lk_Law_94 d_Law_law_162 rfl rfl ⟨by decide, by decide⟩ ⟨hcs, hss⟩ (by decide) (fun v w1 h => ?_)
  obtain ⟨d1_, O1_, rfl, rfl, hC1, hO⟩ := h
  refine ks_istore C (by decide) rfl d_Law_law_165 ?_
  refine ks_aload_n rfl rfl C d_Law_law_167 ?_
  refine ks_aload_n rfl rfl C d_Law_law_168 ?_
  refine ks_iload rfl C d_Law_law_169 ?_
  refine ks_iconst (a := 1) rfl C d_Law_law_171 ?_
  refine ks_iadd C d_Law_law_172 ?_
  refine ks_sld C X (by omega) hL d_Law_law_173 ?_
  refine ks_i2l C d_Law_law_174 ?_
  refine ks_bipush (a := 32) rfl C d_Law_law_175 ?_
  refine ks_lshl C d_Law_law_177 ?_
  refine ks_aload_n rfl rfl C d_Law_law_178 ?_
  refine ks_iload rfl C d_Law_law_179 ?_
  refine ks_iconst (a := 2) rfl C d_Law_law_181 ?_
  refine ks_iadd C d_Law_law_182 ?_
  refine ks_sld C X (by omega) hL d_Law_law_183 ?_
  refine ks_i2l C d_Law_law_184 ?_
  refine ks_ldc2 ck_Law_92 C d_Law_law_185 ?_
  refine ks_land C d_Law_law_188 ?_
  refine ks_lor C d_Law_law_189 ?_
  refine ks_aload_n rfl rfl C d_Law_law_190 ?_
  refine ks_iload rfl C d_Law_law_191 ?_
  refine ks_iconst (a := 3) rfl C d_Law_law_193 ?_
  refine ks_iadd C d_Law_law_194 ?_
  refine ks_sld C X (by omega) hL d_Law_law_195 ?_
  refine ks_perm List.perm_append_comm ?_
  refine ks_callVb (ci := 9) (q0 := 0) C (g_Model_key l D K a0 a1 a2 a3 a4 a5 a6 a7 a8 a9 a10 a11 a12 a13 e s (((nI (sc (i + 1))).toInt64 <<< ((nI 32).toInt64 &&& 63)) ||| ((nI (sc (i + 2))).toInt64 &&& 4294967295)) (sc (i + 3)) hN (hsc _)) yw_Model_key sel_Model_key lk_Law_99 rfl rfl hfs ⟨by decide, by decide⟩ ⟨hcs, hss⟩ rfl rfl (by decide) d_Law_law_196 (fun v w1 h => ?_)
  obtain ⟨e1_, x1_, rfl, rfl, hN1, hT, hA⟩ := h
  refine ks_istore C (by decide) rfl d_Law_law_199 ?_
  refine ks_aload_n rfl rfl C d_Law_law_201 ?_
  obtain ⟨fs1, hfs1⟩ := kz_V_0 K a0 a1 a2 a3 a4 a5 a6 a7 a8 a9 a10 a11 a12 a13 e1_
  refine ks_callVb (ci := 9) (q0 := 0) C (g_Model_thrown l D K a0 a1 a2 a3 a4 a5 a6 a7 a8 a9 a10 a11 a12 a13 e1_) yw_Model_thrown sel_Model_thrown lk_Law_100 rfl rfl hfs1 ⟨by decide, by decide⟩ ⟨hcs, hss⟩ rfl rfl (by decide) d_Law_law_202 (fun v w1 h => ?_)
  obtain ⟨rfl, rfl⟩ := h
  refine ks_iload rfl C d_Law_law_205 ?_
  refine ks_icmpI_eq (tgt := 212) C (by decide) d_Law_law_207 (fun _ => ?_) (fun z => absurd (congrArg nI hT) z)
  refine ks_iload rfl C d_Law_law_212 ?_
  refine ks_ifI_ne (tgt := 229) C (by decide) d_Law_law_214 (fun _ => ?_) (fun z => ?_)
  · refine ks_goto (tgt := 1248) C (by decide) d_Law_law_229 ?_
    refine ks_forget 5 (ks_forget 6 (ks_forget 7 ?_))
    exact ks_perm List.perm_append_comm (k d1_ O1_ e1_ _ hC1 hN1)
  · have hz : (kz_aKey (((nI (sc (i + 1))).toInt64 <<< ((nI 32).toInt64 &&& 63)) ||| ((nI (sc (i + 2))).toInt64 &&& 4294967295)) (sc (i + 3)) s).1 = 0 := kl_0 (kl_ckey _) z
    refine ks_aload_n rfl rfl C d_Law_law_217 ?_
    refine ks_iconst (a := 0) rfl C d_Law_law_218 ?_
    refine ks_perm (pl_out _ _ _) ?_
    refine ks_lald C 0 3 rfl rfl (by decide) (by decide) d_Law_law_219 ?_
    refine ks_iload rfl C d_Law_law_220 ?_
    refine ks_i2l C d_Law_law_222 ?_
    refine ks_lcmp C d_Law_law_223 ?_
    refine ks_ifC_eq (tgt := 229) C (by decide) d_Law_law_224 (fun _ => ?_) (fun z => absurd (by rw [hO hz, hA hz]) z)
    refine ks_goto (tgt := 1248) C (by decide) d_Law_law_229 ?_
    refine ks_forget 5 (ks_forget 6 (ks_forget 7 ?_))
    exact ks_perm (pl_back _ _ _) (k d1_ O1_ e1_ _ hC1 hN1)
set_option maxRecDepth 100000 in
set_option maxHeartbeats 4000000 in
theorem lb_value {E : ks_E} {l : Launch} {D : va_G} {K : Nat → ClassId} {z0 tk0 tv0 gk0 gv0 d0 x0 m0 c0 t0 k0 tk1 tv1 gk1 gv1 d1 d2 d3 x1 x2 m1 s0 s1 s2 s3 s4 t1 t2 n0 n1 k1 l0 l1 o0 a0 a1 a2 a3 a4 a5 a6 a7 a8 a9 a10 a11 a12 a13 b L i : Nat} {sc : Nat → Nat} (hNT : l.stackTraces = false) (C : ks_ok E l D (ks_T K) room_1 code 8 "KeyStoreLaw") (X : kl_X E b L (fun j => nI (sc j))) (HH : kl_H E) (hL : L ≤ 2048) (hsc : ∀ j, sc j < 4294967296) (hi : i + 4 ≤ L) {d : kz_D} {O : Nat → Int64} {e : kz_E} {s : kz_S} (hC : kz_C d s) (hN : kz_N e s) {cs ss : Nat} (hcs : cs + 1 ≤ 601024) (hss : ss + 6 ≤ 7293034) (k : ∀ (d' : kz_D) (O' : Nat → Int64) (e' : kz_E) (s' : kz_S), kz_C d' s' → kz_N e' s' → ks_w E D 8 ((kz_W K z0 tk0 tv0 gk0 gv0 d0 x0 m0 c0 t0 k0 tk1 tv1 gk1 gv1 d1 d2 d3 x1 x2 m1 s0 s1 s2 s3 s4 t1 t2 n0 n1 k1 l0 l1 d' ++ kw_out K o0 O') ++ kz_V K a0 a1 a2 a3 a4 a5 a6 a7 a8 a9 a10 a11 a12 a13 e') [some (.ref b), some (.ref z0), some (.ref a0), some (.ref o0), some (.int (nI i)), none, none, none] (cs + 1) (ss + 6) 1248 []) : ks_w E D 8 ((kz_W K z0 tk0 tv0 gk0 gv0 d0 x0 m0 c0 t0 k0 tk1 tv1 gk1 gv1 d1 d2 d3 x1 x2 m1 s0 s1 s2 s3 s4 t1 t2 n0 n1 k1 l0 l1 d ++ kw_out K o0 O) ++ kz_V K a0 a1 a2 a3 a4 a5 a6 a7 a8 a9 a10 a11 a12 a13 e) [some (.ref b), some (.ref z0), some (.ref a0), some (.ref o0), some (.int (nI i)), none, none, none] cs ss 232 [] := by
  obtain ⟨fs, hfs⟩ := kz_V_0 K a0 a1 a2 a3 a4 a5 a6 a7 a8 a9 a10 a11 a12 a13 e
  refine ks_aload_n rfl rfl C d_Law_law_232 ?_
  refine ks_aload_n rfl rfl C d_Law_law_233 ?_
  refine ks_iload rfl C d_Law_law_234 ?_
  refine ks_iconst (a := 1) rfl C d_Law_law_236 ?_
  refine ks_iadd C d_Law_law_237 ?_
  refine ks_sld C X (by omega) hL d_Law_law_238 ?_
  refine ks_i2l C d_Law_law_239 ?_
  refine ks_bipush (a := 32) rfl C d_Law_law_240 ?_
  refine ks_lshl C d_Law_law_242 ?_
  refine ks_aload_n rfl rfl C d_Law_law_243 ?_
  refine ks_iload rfl C d_Law_law_244 ?_
  refine ks_iconst (a := 2) rfl C d_Law_law_246 ?_
  refine ks_iadd C d_Law_law_247 ?_
  refine ks_sld C X (by omega) hL d_Law_law_248 ?_
  refine ks_i2l C d_Law_law_249 ?_
  refine ks_ldc2 ck_Law_92 C d_Law_law_250 ?_
  refine ks_land C d_Law_law_253 ?_
  refine ks_lor C d_Law_law_254 ?_
  refine ks_aload_n rfl rfl C d_Law_law_255 ?_
  refine ks_iload rfl C d_Law_law_256 ?_
  refine ks_iconst (a := 3) rfl C d_Law_law_258 ?_
  refine ks_iadd C d_Law_law_259 ?_
  refine ks_sld C X (by omega) hL d_Law_law_260 ?_
  refine ks_aload_n rfl rfl C d_Law_law_261 ?_
  refine ks_callSb C HH (g_Law_value l hNT D K z0 tk0 tv0 gk0 gv0 d0 x0 m0 c0 t0 k0 tk1 tv1 gk1 gv1 d1 d2 d3 x1 x2 m1 s0 s1 s2 s3 s4 t1 t2 n0 n1 k1 l0 l1 o0 O d s (((nI (sc (i + 1))).toInt64 <<< ((nI 32).toInt64 &&& 63)) ||| ((nI (sc (i + 2))).toInt64 &&& 4294967295)) (sc (i + 3)) hC (hsc _)) yh_Law_value lk_Law_103 d_Law_law_262 rfl rfl ⟨by decide, by decide⟩ ⟨hcs, hss⟩ (by decide) (fun v w1 h => ?_)
  obtain ⟨d1_, O1_, rfl, rfl, hC1, hO⟩ := h
  refine ks_istore C (by decide) rfl d_Law_law_265 ?_
  refine ks_aload_n rfl rfl C d_Law_law_267 ?_
  refine ks_aload_n rfl rfl C d_Law_law_268 ?_
  refine ks_iload rfl C d_Law_law_269 ?_
  refine ks_iconst (a := 1) rfl C d_Law_law_271 ?_
  refine ks_iadd C d_Law_law_272 ?_
  refine ks_sld C X (by omega) hL d_Law_law_273 ?_
  refine ks_i2l C d_Law_law_274 ?_
  refine ks_bipush (a := 32) rfl C d_Law_law_275 ?_
  refine ks_lshl C d_Law_law_277 ?_
  refine ks_aload_n rfl rfl C d_Law_law_278 ?_
  refine ks_iload rfl C d_Law_law_279 ?_
  refine ks_iconst (a := 2) rfl C d_Law_law_281 ?_
  refine ks_iadd C d_Law_law_282 ?_
  refine ks_sld C X (by omega) hL d_Law_law_283 ?_
  refine ks_i2l C d_Law_law_284 ?_
  refine ks_ldc2 ck_Law_92 C d_Law_law_285 ?_
  refine ks_land C d_Law_law_288 ?_
  refine ks_lor C d_Law_law_289 ?_
  refine ks_aload_n rfl rfl C d_Law_law_290 ?_
  refine ks_iload rfl C d_Law_law_291 ?_
  refine ks_iconst (a := 3) rfl C d_Law_law_293 ?_
  refine ks_iadd C d_Law_law_294 ?_
  refine ks_sld C X (by omega) hL d_Law_law_295 ?_
  refine ks_perm List.perm_append_comm ?_
  refine ks_callVb (ci := 9) (q0 := 0) C (g_Model_value l D K a0 a1 a2 a3 a4 a5 a6 a7 a8 a9 a10 a11 a12 a13 e s (((nI (sc (i + 1))).toInt64 <<< ((nI 32).toInt64 &&& 63)) ||| ((nI (sc (i + 2))).toInt64 &&& 4294967295)) (sc (i + 3)) hN (hsc _)) yw_Model_value sel_Model_value lk_Law_105 rfl rfl hfs ⟨by decide, by decide⟩ ⟨hcs, hss⟩ rfl rfl (by decide) d_Law_law_296 (fun v w1 h => ?_)
  obtain ⟨e1_, x1_, rfl, rfl, hN1, hT, hA⟩ := h
  refine ks_istore C (by decide) rfl d_Law_law_299 ?_
  refine ks_aload_n rfl rfl C d_Law_law_301 ?_
  obtain ⟨fs1, hfs1⟩ := kz_V_0 K a0 a1 a2 a3 a4 a5 a6 a7 a8 a9 a10 a11 a12 a13 e1_
  refine ks_callVb (ci := 9) (q0 := 0) C (g_Model_thrown l D K a0 a1 a2 a3 a4 a5 a6 a7 a8 a9 a10 a11 a12 a13 e1_) yw_Model_thrown sel_Model_thrown lk_Law_100 rfl rfl hfs1 ⟨by decide, by decide⟩ ⟨hcs, hss⟩ rfl rfl (by decide) d_Law_law_302 (fun v w1 h => ?_)
  obtain ⟨rfl, rfl⟩ := h
  refine ks_iload rfl C d_Law_law_305 ?_
  refine ks_icmpI_eq (tgt := 312) C (by decide) d_Law_law_307 (fun _ => ?_) (fun z => absurd (congrArg nI hT) z)
  refine ks_iload rfl C d_Law_law_312 ?_
  refine ks_ifI_ne (tgt := 329) C (by decide) d_Law_law_314 (fun _ => ?_) (fun z => ?_)
  · refine ks_goto (tgt := 1248) C (by decide) d_Law_law_329 ?_
    refine ks_forget 5 (ks_forget 6 (ks_forget 7 ?_))
    exact ks_perm List.perm_append_comm (k d1_ O1_ e1_ _ hC1 hN1)
  · have hz : (kz_aVal (((nI (sc (i + 1))).toInt64 <<< ((nI 32).toInt64 &&& 63)) ||| ((nI (sc (i + 2))).toInt64 &&& 4294967295)) (sc (i + 3)) s).1 = 0 := kl_0 (kl_cvalue _) z
    refine ks_aload_n rfl rfl C d_Law_law_317 ?_
    refine ks_iconst (a := 0) rfl C d_Law_law_318 ?_
    refine ks_perm (pl_out _ _ _) ?_
    refine ks_lald C 0 3 rfl rfl (by decide) (by decide) d_Law_law_319 ?_
    refine ks_iload rfl C d_Law_law_320 ?_
    refine ks_i2l C d_Law_law_322 ?_
    refine ks_lcmp C d_Law_law_323 ?_
    refine ks_ifC_eq (tgt := 329) C (by decide) d_Law_law_324 (fun _ => ?_) (fun z => absurd (by rw [hO hz, hA hz]) z)
    refine ks_goto (tgt := 1248) C (by decide) d_Law_law_329 ?_
    refine ks_forget 5 (ks_forget 6 (ks_forget 7 ?_))
    exact ks_perm (pl_back _ _ _) (k d1_ O1_ e1_ _ hC1 hN1)
set_option maxRecDepth 100000 in
set_option maxHeartbeats 4000000 in
theorem lb_fill1 {E : ks_E} {l : Launch} {D : va_G} {K : Nat → ClassId} {z0 tk0 tv0 gk0 gv0 d0 x0 m0 c0 t0 k0 tk1 tv1 gk1 gv1 d1 d2 d3 x1 x2 m1 s0 s1 s2 s3 s4 t1 t2 n0 n1 k1 l0 l1 o0 a0 a1 a2 a3 a4 a5 a6 a7 a8 a9 a10 a11 a12 a13 b L i : Nat} {sc : Nat → Nat} (hNT : l.stackTraces = false) (C : ks_ok E l D (ks_T K) room_1 code 8 "KeyStoreLaw") (X : kl_X E b L (fun j => nI (sc j))) (HH : kl_H E) (hL : L ≤ 2048) (hsc : ∀ j, sc j < 4294967296) (hi : i + 4 ≤ L) (hx : sc (i + 1) ≠ 0) {d : kz_D} {O : Nat → Int64} {e : kz_E} {s : kz_S} (hC : kz_C d s) (hN : kz_N e s) {cs ss : Nat} (hcs : cs + 1 ≤ 601024) (hss : ss + 6 ≤ 7293034) (k : ∀ (d' : kz_D) (O' : Nat → Int64) (e' : kz_E) (s' : kz_S), kz_C d' s' → kz_N e' s' → ks_w E D 8 ((kz_W K z0 tk0 tv0 gk0 gv0 d0 x0 m0 c0 t0 k0 tk1 tv1 gk1 gv1 d1 d2 d3 x1 x2 m1 s0 s1 s2 s3 s4 t1 t2 n0 n1 k1 l0 l1 d' ++ kw_out K o0 O') ++ kz_V K a0 a1 a2 a3 a4 a5 a6 a7 a8 a9 a10 a11 a12 a13 e') [some (.ref b), some (.ref z0), some (.ref a0), some (.ref o0), some (.int (nI i)), none, none, none] (cs + 1) (ss + 6) 1248 []) : ks_w E D 8 ((kz_W K z0 tk0 tv0 gk0 gv0 d0 x0 m0 c0 t0 k0 tk1 tv1 gk1 gv1 d1 d2 d3 x1 x2 m1 s0 s1 s2 s3 s4 t1 t2 n0 n1 k1 l0 l1 d ++ kw_out K o0 O) ++ kz_V K a0 a1 a2 a3 a4 a5 a6 a7 a8 a9 a10 a11 a12 a13 e) [some (.ref b), some (.ref z0), some (.ref a0), some (.ref o0), some (.int (nI i)), none, none, none] cs ss 332 [] := by
  obtain ⟨fs, hfs⟩ := kz_V_0 K a0 a1 a2 a3 a4 a5 a6 a7 a8 a9 a10 a11 a12 a13 e
  refine ks_aload_n rfl rfl C d_Law_law_332 ?_
  refine ks_aload_n rfl rfl C d_Law_law_333 ?_
  refine ks_iload rfl C d_Law_law_334 ?_
  refine ks_iconst (a := 1) rfl C d_Law_law_336 ?_
  refine ks_iadd C d_Law_law_337 ?_
  refine ks_sld C X (by omega) hL d_Law_law_338 ?_
  refine ks_ifR_eq (a := sc (i + 1)) (tgt := 346) C (hsc _) (by decide) d_Law_law_339 (fun z => absurd z hx) (fun _ => ?_)
  refine ks_iconst (a := 1) rfl C d_Law_law_342 ?_
  refine ks_goto (tgt := 347) C (by decide) d_Law_law_343 ?_
  refine ks_aload_n rfl rfl C d_Law_law_347 ?_
  refine ks_iload rfl C d_Law_law_348 ?_
  refine ks_iconst (a := 2) rfl C d_Law_law_350 ?_
  refine ks_iadd C d_Law_law_351 ?_
  refine ks_sld C X (by omega) hL d_Law_law_352 ?_
  refine ks_aload_n rfl rfl C d_Law_law_353 ?_
  refine ks_iload rfl C d_Law_law_354 ?_
  refine ks_iconst (a := 3) rfl C d_Law_law_356 ?_
  refine ks_iadd C d_Law_law_357 ?_
  refine ks_sld C X (by omega) hL d_Law_law_358 ?_
  refine ks_aload_n rfl rfl C d_Law_law_359 ?_
  refine ks_callSb C HH (g_Law_fillk l hNT D K z0 tk0 tv0 gk0 gv0 d0 x0 m0 c0 t0 k0 tk1 tv1 gk1 gv1 d1 d2 d3 x1 x2 m1 s0 s1 s2 s3 s4 t1 t2 n0 n1 k1 l0 l1 o0 O d s (sc (i + 2)) (nI (sc (i + 3))) (UInt8.ofNat (sc (i + 3))) hC (hsc _) (sb_ofNat _)) yh_Law_fill lk_Law_106 d_Law_law_360 rfl rfl ⟨by decide, by decide⟩ ⟨hcs, hss⟩ (by decide) (fun v w1 h => ?_)
  obtain ⟨d1_, O1_, rfl, rfl, hC1, hO⟩ := h
  refine ks_istore C (by decide) rfl d_Law_law_363 ?_
  refine ks_aload_n rfl rfl C d_Law_law_365 ?_
  refine ks_aload_n rfl rfl C d_Law_law_366 ?_
  refine ks_iload rfl C d_Law_law_367 ?_
  refine ks_iconst (a := 1) rfl C d_Law_law_369 ?_
  refine ks_iadd C d_Law_law_370 ?_
  refine ks_sld C X (by omega) hL d_Law_law_371 ?_
  refine ks_ifR_eq (a := sc (i + 1)) (tgt := 379) C (hsc _) (by decide) d_Law_law_372 (fun z => absurd z hx) (fun _ => ?_)
  refine ks_iconst (a := 1) rfl C d_Law_law_375 ?_
  refine ks_goto (tgt := 380) C (by decide) d_Law_law_376 ?_
  refine ks_aload_n rfl rfl C d_Law_law_380 ?_
  refine ks_iload rfl C d_Law_law_381 ?_
  refine ks_iconst (a := 2) rfl C d_Law_law_383 ?_
  refine ks_iadd C d_Law_law_384 ?_
  refine ks_sld C X (by omega) hL d_Law_law_385 ?_
  refine ks_aload_n rfl rfl C d_Law_law_386 ?_
  refine ks_iload rfl C d_Law_law_387 ?_
  refine ks_iconst (a := 3) rfl C d_Law_law_389 ?_
  refine ks_iadd C d_Law_law_390 ?_
  refine ks_sld C X (by omega) hL d_Law_law_391 ?_
  refine ks_perm List.perm_append_comm ?_
  refine ks_callVb (ci := 9) (q0 := 0) C (g_Model_fill_k l D K a0 a1 a2 a3 a4 a5 a6 a7 a8 a9 a10 a11 a12 a13 e s (sc (i + 2)) (sc (i + 3)) hN (hsc _)) yw_Model_fill sel_Model_fill lk_Law_109 rfl rfl hfs ⟨by decide, by decide⟩ ⟨hcs, hss⟩ rfl rfl (by decide) d_Law_law_392 (fun v w1 h => ?_)
  obtain ⟨e1_, x1_, rfl, rfl, hN1, hT, hA⟩ := h
  refine ks_istore C (by decide) rfl d_Law_law_395 ?_
  refine ks_aload_n rfl rfl C d_Law_law_397 ?_
  obtain ⟨fs1, hfs1⟩ := kz_V_0 K a0 a1 a2 a3 a4 a5 a6 a7 a8 a9 a10 a11 a12 a13 e1_
  refine ks_callVb (ci := 9) (q0 := 0) C (g_Model_thrown l D K a0 a1 a2 a3 a4 a5 a6 a7 a8 a9 a10 a11 a12 a13 e1_) yw_Model_thrown sel_Model_thrown lk_Law_100 rfl rfl hfs1 ⟨by decide, by decide⟩ ⟨hcs, hss⟩ rfl rfl (by decide) d_Law_law_398 (fun v w1 h => ?_)
  obtain ⟨rfl, rfl⟩ := h
  refine ks_iload rfl C d_Law_law_401 ?_
  refine ks_icmpI_eq (tgt := 408) C (by decide) d_Law_law_403 (fun _ => ?_) (fun z => absurd (congrArg nI hT) z)
  refine ks_iload rfl C d_Law_law_408 ?_
  refine ks_ifI_ne (tgt := 425) C (by decide) d_Law_law_410 (fun _ => ?_) (fun z => ?_)
  · refine ks_goto (tgt := 1248) C (by decide) d_Law_law_425 ?_
    refine ks_forget 5 (ks_forget 6 (ks_forget 7 ?_))
    exact ks_perm List.perm_append_comm (k d1_ O1_ e1_ _ hC1 hN1)
  · have hz : (kz_aFillK (sc (i + 2)) (UInt8.ofNat (sc (i + 3))) s).1 = 0 := kl_0 (kl_cfillK _) z
    refine ks_aload_n rfl rfl C d_Law_law_413 ?_
    refine ks_iconst (a := 0) rfl C d_Law_law_414 ?_
    refine ks_perm (pl_out _ _ _) ?_
    refine ks_lald C 0 3 rfl rfl (by decide) (by decide) d_Law_law_415 ?_
    refine ks_iload rfl C d_Law_law_416 ?_
    refine ks_i2l C d_Law_law_418 ?_
    refine ks_lcmp C d_Law_law_419 ?_
    refine ks_ifC_eq (tgt := 425) C (by decide) d_Law_law_420 (fun _ => ?_) (fun z => absurd (by rw [hO hz, hA hz]) z)
    refine ks_goto (tgt := 1248) C (by decide) d_Law_law_425 ?_
    refine ks_forget 5 (ks_forget 6 (ks_forget 7 ?_))
    exact ks_perm (pl_back _ _ _) (k d1_ O1_ e1_ _ hC1 hN1)
set_option maxRecDepth 100000 in
set_option maxHeartbeats 4000000 in
theorem lb_fill0 {E : ks_E} {l : Launch} {D : va_G} {K : Nat → ClassId} {z0 tk0 tv0 gk0 gv0 d0 x0 m0 c0 t0 k0 tk1 tv1 gk1 gv1 d1 d2 d3 x1 x2 m1 s0 s1 s2 s3 s4 t1 t2 n0 n1 k1 l0 l1 o0 a0 a1 a2 a3 a4 a5 a6 a7 a8 a9 a10 a11 a12 a13 b L i : Nat} {sc : Nat → Nat} (hNT : l.stackTraces = false) (C : ks_ok E l D (ks_T K) room_1 code 8 "KeyStoreLaw") (X : kl_X E b L (fun j => nI (sc j))) (HH : kl_H E) (hL : L ≤ 2048) (hsc : ∀ j, sc j < 4294967296) (hi : i + 4 ≤ L) (hx : sc (i + 1) = 0) {d : kz_D} {O : Nat → Int64} {e : kz_E} {s : kz_S} (hC : kz_C d s) (hN : kz_N e s) {cs ss : Nat} (hcs : cs + 1 ≤ 601024) (hss : ss + 6 ≤ 7293034) (k : ∀ (d' : kz_D) (O' : Nat → Int64) (e' : kz_E) (s' : kz_S), kz_C d' s' → kz_N e' s' → ks_w E D 8 ((kz_W K z0 tk0 tv0 gk0 gv0 d0 x0 m0 c0 t0 k0 tk1 tv1 gk1 gv1 d1 d2 d3 x1 x2 m1 s0 s1 s2 s3 s4 t1 t2 n0 n1 k1 l0 l1 d' ++ kw_out K o0 O') ++ kz_V K a0 a1 a2 a3 a4 a5 a6 a7 a8 a9 a10 a11 a12 a13 e') [some (.ref b), some (.ref z0), some (.ref a0), some (.ref o0), some (.int (nI i)), none, none, none] (cs + 1) (ss + 6) 1248 []) : ks_w E D 8 ((kz_W K z0 tk0 tv0 gk0 gv0 d0 x0 m0 c0 t0 k0 tk1 tv1 gk1 gv1 d1 d2 d3 x1 x2 m1 s0 s1 s2 s3 s4 t1 t2 n0 n1 k1 l0 l1 d ++ kw_out K o0 O) ++ kz_V K a0 a1 a2 a3 a4 a5 a6 a7 a8 a9 a10 a11 a12 a13 e) [some (.ref b), some (.ref z0), some (.ref a0), some (.ref o0), some (.int (nI i)), none, none, none] cs ss 332 [] := by
  obtain ⟨fs, hfs⟩ := kz_V_0 K a0 a1 a2 a3 a4 a5 a6 a7 a8 a9 a10 a11 a12 a13 e
  refine ks_aload_n rfl rfl C d_Law_law_332 ?_
  refine ks_aload_n rfl rfl C d_Law_law_333 ?_
  refine ks_iload rfl C d_Law_law_334 ?_
  refine ks_iconst (a := 1) rfl C d_Law_law_336 ?_
  refine ks_iadd C d_Law_law_337 ?_
  refine ks_sld C X (by omega) hL d_Law_law_338 ?_
  refine ks_ifR_eq (a := sc (i + 1)) (tgt := 346) C (hsc _) (by decide) d_Law_law_339 (fun _ => ?_) (fun z => absurd hx z)
  refine ks_iconst (a := 0) rfl C d_Law_law_346 ?_
  refine ks_aload_n rfl rfl C d_Law_law_347 ?_
  refine ks_iload rfl C d_Law_law_348 ?_
  refine ks_iconst (a := 2) rfl C d_Law_law_350 ?_
  refine ks_iadd C d_Law_law_351 ?_
  refine ks_sld C X (by omega) hL d_Law_law_352 ?_
  refine ks_aload_n rfl rfl C d_Law_law_353 ?_
  refine ks_iload rfl C d_Law_law_354 ?_
  refine ks_iconst (a := 3) rfl C d_Law_law_356 ?_
  refine ks_iadd C d_Law_law_357 ?_
  refine ks_sld C X (by omega) hL d_Law_law_358 ?_
  refine ks_aload_n rfl rfl C d_Law_law_359 ?_
  refine ks_callSb C HH (g_Law_fillv l hNT D K z0 tk0 tv0 gk0 gv0 d0 x0 m0 c0 t0 k0 tk1 tv1 gk1 gv1 d1 d2 d3 x1 x2 m1 s0 s1 s2 s3 s4 t1 t2 n0 n1 k1 l0 l1 o0 O d s (sc (i + 2)) (nI (sc (i + 3))) (UInt8.ofNat (sc (i + 3))) hC (hsc _) (sb_ofNat _)) yh_Law_fill lk_Law_106 d_Law_law_360 rfl rfl ⟨by decide, by decide⟩ ⟨hcs, hss⟩ (by decide) (fun v w1 h => ?_)
  obtain ⟨d1_, O1_, rfl, rfl, hC1, hO⟩ := h
  refine ks_istore C (by decide) rfl d_Law_law_363 ?_
  refine ks_aload_n rfl rfl C d_Law_law_365 ?_
  refine ks_aload_n rfl rfl C d_Law_law_366 ?_
  refine ks_iload rfl C d_Law_law_367 ?_
  refine ks_iconst (a := 1) rfl C d_Law_law_369 ?_
  refine ks_iadd C d_Law_law_370 ?_
  refine ks_sld C X (by omega) hL d_Law_law_371 ?_
  refine ks_ifR_eq (a := sc (i + 1)) (tgt := 379) C (hsc _) (by decide) d_Law_law_372 (fun _ => ?_) (fun z => absurd hx z)
  refine ks_iconst (a := 0) rfl C d_Law_law_379 ?_
  refine ks_aload_n rfl rfl C d_Law_law_380 ?_
  refine ks_iload rfl C d_Law_law_381 ?_
  refine ks_iconst (a := 2) rfl C d_Law_law_383 ?_
  refine ks_iadd C d_Law_law_384 ?_
  refine ks_sld C X (by omega) hL d_Law_law_385 ?_
  refine ks_aload_n rfl rfl C d_Law_law_386 ?_
  refine ks_iload rfl C d_Law_law_387 ?_
  refine ks_iconst (a := 3) rfl C d_Law_law_389 ?_
  refine ks_iadd C d_Law_law_390 ?_
  refine ks_sld C X (by omega) hL d_Law_law_391 ?_
  refine ks_perm List.perm_append_comm ?_
  refine ks_callVb (ci := 9) (q0 := 0) C (g_Model_fill_v l D K a0 a1 a2 a3 a4 a5 a6 a7 a8 a9 a10 a11 a12 a13 e s (sc (i + 2)) (sc (i + 3)) hN (hsc _)) yw_Model_fill sel_Model_fill lk_Law_109 rfl rfl hfs ⟨by decide, by decide⟩ ⟨hcs, hss⟩ rfl rfl (by decide) d_Law_law_392 (fun v w1 h => ?_)
  obtain ⟨e1_, x1_, rfl, rfl, hN1, hT, hA⟩ := h
  refine ks_istore C (by decide) rfl d_Law_law_395 ?_
  refine ks_aload_n rfl rfl C d_Law_law_397 ?_
  obtain ⟨fs1, hfs1⟩ := kz_V_0 K a0 a1 a2 a3 a4 a5 a6 a7 a8 a9 a10 a11 a12 a13 e1_
  refine ks_callVb (ci := 9) (q0 := 0) C (g_Model_thrown l D K a0 a1 a2 a3 a4 a5 a6 a7 a8 a9 a10 a11 a12 a13 e1_) yw_Model_thrown sel_Model_thrown lk_Law_100 rfl rfl hfs1 ⟨by decide, by decide⟩ ⟨hcs, hss⟩ rfl rfl (by decide) d_Law_law_398 (fun v w1 h => ?_)
  obtain ⟨rfl, rfl⟩ := h
  refine ks_iload rfl C d_Law_law_401 ?_
  refine ks_icmpI_eq (tgt := 408) C (by decide) d_Law_law_403 (fun _ => ?_) (fun z => absurd (congrArg nI hT) z)
  refine ks_iload rfl C d_Law_law_408 ?_
  refine ks_ifI_ne (tgt := 425) C (by decide) d_Law_law_410 (fun _ => ?_) (fun z => ?_)
  · refine ks_goto (tgt := 1248) C (by decide) d_Law_law_425 ?_
    refine ks_forget 5 (ks_forget 6 (ks_forget 7 ?_))
    exact ks_perm List.perm_append_comm (k d1_ O1_ e1_ _ hC1 hN1)
  · have hz : (kz_aFillV (sc (i + 2)) (UInt8.ofNat (sc (i + 3))) s).1 = 0 := kl_0 (kl_cfillV _) z
    refine ks_aload_n rfl rfl C d_Law_law_413 ?_
    refine ks_iconst (a := 0) rfl C d_Law_law_414 ?_
    refine ks_perm (pl_out _ _ _) ?_
    refine ks_lald C 0 3 rfl rfl (by decide) (by decide) d_Law_law_415 ?_
    refine ks_iload rfl C d_Law_law_416 ?_
    refine ks_i2l C d_Law_law_418 ?_
    refine ks_lcmp C d_Law_law_419 ?_
    refine ks_ifC_eq (tgt := 425) C (by decide) d_Law_law_420 (fun _ => ?_) (fun z => absurd (by rw [hO hz, hA hz]) z)
    refine ks_goto (tgt := 1248) C (by decide) d_Law_law_425 ?_
    refine ks_forget 5 (ks_forget 6 (ks_forget 7 ?_))
    exact ks_perm (pl_back _ _ _) (k d1_ O1_ e1_ _ hC1 hN1)
set_option maxRecDepth 100000 in
set_option maxHeartbeats 4000000 in
theorem lb_tree {E : ks_E} {l : Launch} {D : va_G} {K : Nat → ClassId} {z0 tk0 tv0 gk0 gv0 d0 x0 m0 c0 t0 k0 tk1 tv1 gk1 gv1 d1 d2 d3 x1 x2 m1 s0 s1 s2 s3 s4 t1 t2 n0 n1 k1 l0 l1 o0 a0 a1 a2 a3 a4 a5 a6 a7 a8 a9 a10 a11 a12 a13 b L i : Nat} {sc : Nat → Nat} (hNT : l.stackTraces = false) (C : ks_ok E l D (ks_T K) room_1 code 8 "KeyStoreLaw") (X : kl_X E b L (fun j => nI (sc j))) (HH : kl_H E) (hL : L ≤ 2048) (hsc : ∀ j, sc j < 4294967296) (hi : i + 4 ≤ L) {d : kz_D} {O : Nat → Int64} {e : kz_E} {s : kz_S} (hC : kz_C d s) (hN : kz_N e s) {cs ss : Nat} (hcs : cs + 1 ≤ 601024) (hss : ss + 6 ≤ 7293034) (k : ∀ (d' : kz_D) (O' : Nat → Int64) (e' : kz_E) (s' : kz_S), kz_C d' s' → kz_N e' s' → ks_w E D 8 ((kz_W K z0 tk0 tv0 gk0 gv0 d0 x0 m0 c0 t0 k0 tk1 tv1 gk1 gv1 d1 d2 d3 x1 x2 m1 s0 s1 s2 s3 s4 t1 t2 n0 n1 k1 l0 l1 d' ++ kw_out K o0 O') ++ kz_V K a0 a1 a2 a3 a4 a5 a6 a7 a8 a9 a10 a11 a12 a13 e') [some (.ref b), some (.ref z0), some (.ref a0), some (.ref o0), some (.int (nI i)), none, none, none] (cs + 1) (ss + 6) 1248 []) : ks_w E D 8 ((kz_W K z0 tk0 tv0 gk0 gv0 d0 x0 m0 c0 t0 k0 tk1 tv1 gk1 gv1 d1 d2 d3 x1 x2 m1 s0 s1 s2 s3 s4 t1 t2 n0 n1 k1 l0 l1 d ++ kw_out K o0 O) ++ kz_V K a0 a1 a2 a3 a4 a5 a6 a7 a8 a9 a10 a11 a12 a13 e) [some (.ref b), some (.ref z0), some (.ref a0), some (.ref o0), some (.int (nI i)), none, none, none] cs ss 428 [] := by
  obtain ⟨fs, hfs⟩ := kz_V_0 K a0 a1 a2 a3 a4 a5 a6 a7 a8 a9 a10 a11 a12 a13 e
  refine ks_aload_n rfl rfl C d_Law_law_428 ?_
  refine ks_aload_n rfl rfl C d_Law_law_429 ?_
  refine ks_callSb C HH (g_Law_tree l hNT D K z0 tk0 tv0 gk0 gv0 d0 x0 m0 c0 t0 k0 tk1 tv1 gk1 gv1 d1 d2 d3 x1 x2 m1 s0 s1 s2 s3 s4 t1 t2 n0 n1 k1 l0 l1 o0 O d s hC) yh_Law_tree lk_Law_110 d_Law_law_430 rfl rfl ⟨by decide, by decide⟩ ⟨hcs, hss⟩ (by decide) (fun v w1 h => ?_)
  obtain ⟨d1_, O1_, rfl, rfl, hC1, hO⟩ := h
  refine ks_istore C (by decide) rfl d_Law_law_433 ?_
  refine ks_aload_n rfl rfl C d_Law_law_435 ?_
  refine ks_perm List.perm_append_comm ?_
  have hok : (kz_aTree s).1 = 0 → kp_okA (kz_aTree s).2.2.1.1 := fun hz => zC_ok hC1 (kl_otree _ hz)
  refine ks_callVb (ci := 9) (q0 := 0) C (g_Model_tree l D K a0 a1 a2 a3 a4 a5 a6 a7 a8 a9 a10 a11 a12 a13 e s hN hok) yw_Model_tree sel_Model_tree lk_Law_113 rfl rfl hfs ⟨by decide, by decide⟩ ⟨hcs, hss⟩ rfl rfl (by decide) d_Law_law_436 (fun v w1 h => ?_)
  obtain ⟨e1_, x1_, rfl, rfl, hN1, hT, hA⟩ := h
  refine ks_istore C (by decide) rfl d_Law_law_439 ?_
  refine ks_aload_n rfl rfl C d_Law_law_441 ?_
  obtain ⟨fs1, hfs1⟩ := kz_V_0 K a0 a1 a2 a3 a4 a5 a6 a7 a8 a9 a10 a11 a12 a13 e1_
  refine ks_callVb (ci := 9) (q0 := 0) C (g_Model_thrown l D K a0 a1 a2 a3 a4 a5 a6 a7 a8 a9 a10 a11 a12 a13 e1_) yw_Model_thrown sel_Model_thrown lk_Law_100 rfl rfl hfs1 ⟨by decide, by decide⟩ ⟨hcs, hss⟩ rfl rfl (by decide) d_Law_law_442 (fun v w1 h => ?_)
  obtain ⟨rfl, rfl⟩ := h
  refine ks_iload rfl C d_Law_law_445 ?_
  refine ks_icmpI_eq (tgt := 452) C (by decide) d_Law_law_447 (fun _ => ?_) (fun z => absurd (congrArg nI hT) z)
  refine ks_iload rfl C d_Law_law_452 ?_
  refine ks_ifI_ne (tgt := 469) C (by decide) d_Law_law_454 (fun _ => ?_) (fun z => ?_)
  · refine ks_goto (tgt := 1248) C (by decide) d_Law_law_469 ?_
    refine ks_forget 5 (ks_forget 6 (ks_forget 7 ?_))
    exact ks_perm List.perm_append_comm (k d1_ O1_ e1_ _ hC1 hN1)
  · have hz : (kz_aTree s).1 = 0 := kl_0 (kl_ctree _) z
    refine ks_aload_n rfl rfl C d_Law_law_457 ?_
    refine ks_iconst (a := 0) rfl C d_Law_law_458 ?_
    refine ks_perm (pl_out _ _ _) ?_
    refine ks_lald C 0 3 rfl rfl (by decide) (by decide) d_Law_law_459 ?_
    refine ks_iload rfl C d_Law_law_460 ?_
    refine ks_i2l C d_Law_law_462 ?_
    refine ks_lcmp C d_Law_law_463 ?_
    refine ks_ifC_eq (tgt := 469) C (by decide) d_Law_law_464 (fun _ => ?_) (fun z => absurd (by rw [hO hz, hA hz]) z)
    refine ks_goto (tgt := 1248) C (by decide) d_Law_law_469 ?_
    refine ks_forget 5 (ks_forget 6 (ks_forget 7 ?_))
    exact ks_perm (pl_back _ _ _) (k d1_ O1_ e1_ _ hC1 hN1)
set_option maxRecDepth 100000 in
set_option maxHeartbeats 4000000 in
theorem lb_drop {E : ks_E} {l : Launch} {D : va_G} {K : Nat → ClassId} {z0 tk0 tv0 gk0 gv0 d0 x0 m0 c0 t0 k0 tk1 tv1 gk1 gv1 d1 d2 d3 x1 x2 m1 s0 s1 s2 s3 s4 t1 t2 n0 n1 k1 l0 l1 o0 a0 a1 a2 a3 a4 a5 a6 a7 a8 a9 a10 a11 a12 a13 b L i : Nat} {sc : Nat → Nat} (hNT : l.stackTraces = false) (C : ks_ok E l D (ks_T K) room_1 code 8 "KeyStoreLaw") (X : kl_X E b L (fun j => nI (sc j))) (HH : kl_H E) (hL : L ≤ 2048) (hsc : ∀ j, sc j < 4294967296) (hi : i + 4 ≤ L) {d : kz_D} {O : Nat → Int64} {e : kz_E} {s : kz_S} (hC : kz_C d s) (hN : kz_N e s) {cs ss : Nat} (hcs : cs + 1 ≤ 601024) (hss : ss + 6 ≤ 7293034) (k : ∀ (d' : kz_D) (O' : Nat → Int64) (e' : kz_E) (s' : kz_S), kz_C d' s' → kz_N e' s' → ks_w E D 8 ((kz_W K z0 tk0 tv0 gk0 gv0 d0 x0 m0 c0 t0 k0 tk1 tv1 gk1 gv1 d1 d2 d3 x1 x2 m1 s0 s1 s2 s3 s4 t1 t2 n0 n1 k1 l0 l1 d' ++ kw_out K o0 O') ++ kz_V K a0 a1 a2 a3 a4 a5 a6 a7 a8 a9 a10 a11 a12 a13 e') [some (.ref b), some (.ref z0), some (.ref a0), some (.ref o0), some (.int (nI i)), none, none, none] (cs + 1) (ss + 6) 1248 []) : ks_w E D 8 ((kz_W K z0 tk0 tv0 gk0 gv0 d0 x0 m0 c0 t0 k0 tk1 tv1 gk1 gv1 d1 d2 d3 x1 x2 m1 s0 s1 s2 s3 s4 t1 t2 n0 n1 k1 l0 l1 d ++ kw_out K o0 O) ++ kz_V K a0 a1 a2 a3 a4 a5 a6 a7 a8 a9 a10 a11 a12 a13 e) [some (.ref b), some (.ref z0), some (.ref a0), some (.ref o0), some (.int (nI i)), none, none, none] cs ss 472 [] := by
  obtain ⟨fs, hfs⟩ := kz_V_0 K a0 a1 a2 a3 a4 a5 a6 a7 a8 a9 a10 a11 a12 a13 e
  refine ks_aload_n rfl rfl C d_Law_law_472 ?_
  refine ks_aload_n rfl rfl C d_Law_law_473 ?_
  refine ks_iload rfl C d_Law_law_474 ?_
  refine ks_iconst (a := 1) rfl C d_Law_law_476 ?_
  refine ks_iadd C d_Law_law_477 ?_
  refine ks_sld C X (by omega) hL d_Law_law_478 ?_
  refine ks_aload_n rfl rfl C d_Law_law_479 ?_
  refine ks_callSb C HH (g_Law_drop l hNT D K z0 tk0 tv0 gk0 gv0 d0 x0 m0 c0 t0 k0 tk1 tv1 gk1 gv1 d1 d2 d3 x1 x2 m1 s0 s1 s2 s3 s4 t1 t2 n0 n1 k1 l0 l1 o0 O d s (sc (i + 1)) hC (hsc _)) yh_Law_drop lk_Law_114 d_Law_law_480 rfl rfl ⟨by decide, by decide⟩ ⟨hcs, hss⟩ (by decide) (fun v w1 h => ?_)
  obtain ⟨d1_, O1_, rfl, rfl, hC1, hO⟩ := h
  refine ks_istore C (by decide) rfl d_Law_law_483 ?_
  refine ks_aload_n rfl rfl C d_Law_law_485 ?_
  refine ks_aload_n rfl rfl C d_Law_law_486 ?_
  refine ks_iload rfl C d_Law_law_487 ?_
  refine ks_iconst (a := 1) rfl C d_Law_law_489 ?_
  refine ks_iadd C d_Law_law_490 ?_
  refine ks_sld C X (by omega) hL d_Law_law_491 ?_
  refine ks_perm List.perm_append_comm ?_
  have hok : (kz_aDrop (sc (i + 1)) s).1 = 0 → kp_okA (kz_aDrop (sc (i + 1)) s).2.2.1.1 := fun hz => zC_ok hC1 (kl_odrop _ hz)
  refine ks_callVb (ci := 9) (q0 := 0) C (g_Model_drop l D K a0 a1 a2 a3 a4 a5 a6 a7 a8 a9 a10 a11 a12 a13 e s (sc (i + 1)) hN (hsc _) hok) yw_Model_drop sel_Model_drop lk_Law_117 rfl rfl hfs ⟨by decide, by decide⟩ ⟨hcs, hss⟩ rfl rfl (by decide) d_Law_law_492 (fun v w1 h => ?_)
  obtain ⟨e1_, x1_, rfl, rfl, hN1, hT, hA⟩ := h
  refine ks_istore C (by decide) rfl d_Law_law_495 ?_
  refine ks_aload_n rfl rfl C d_Law_law_497 ?_
  obtain ⟨fs1, hfs1⟩ := kz_V_0 K a0 a1 a2 a3 a4 a5 a6 a7 a8 a9 a10 a11 a12 a13 e1_
  refine ks_callVb (ci := 9) (q0 := 0) C (g_Model_thrown l D K a0 a1 a2 a3 a4 a5 a6 a7 a8 a9 a10 a11 a12 a13 e1_) yw_Model_thrown sel_Model_thrown lk_Law_100 rfl rfl hfs1 ⟨by decide, by decide⟩ ⟨hcs, hss⟩ rfl rfl (by decide) d_Law_law_498 (fun v w1 h => ?_)
  obtain ⟨rfl, rfl⟩ := h
  refine ks_iload rfl C d_Law_law_501 ?_
  refine ks_icmpI_eq (tgt := 508) C (by decide) d_Law_law_503 (fun _ => ?_) (fun z => absurd (congrArg nI hT) z)
  refine ks_iload rfl C d_Law_law_508 ?_
  refine ks_ifI_ne (tgt := 525) C (by decide) d_Law_law_510 (fun _ => ?_) (fun z => ?_)
  · refine ks_goto (tgt := 1248) C (by decide) d_Law_law_525 ?_
    refine ks_forget 5 (ks_forget 6 (ks_forget 7 ?_))
    exact ks_perm List.perm_append_comm (k d1_ O1_ e1_ _ hC1 hN1)
  · have hz : (kz_aDrop (sc (i + 1)) s).1 = 0 := kl_0 (kl_cdrop _) z
    refine ks_aload_n rfl rfl C d_Law_law_513 ?_
    refine ks_iconst (a := 0) rfl C d_Law_law_514 ?_
    refine ks_perm (pl_out _ _ _) ?_
    refine ks_lald C 0 3 rfl rfl (by decide) (by decide) d_Law_law_515 ?_
    refine ks_iload rfl C d_Law_law_516 ?_
    refine ks_i2l C d_Law_law_518 ?_
    refine ks_lcmp C d_Law_law_519 ?_
    refine ks_ifC_eq (tgt := 525) C (by decide) d_Law_law_520 (fun _ => ?_) (fun z => absurd (by rw [hO hz, hA hz]) z)
    refine ks_goto (tgt := 1248) C (by decide) d_Law_law_525 ?_
    refine ks_forget 5 (ks_forget 6 (ks_forget 7 ?_))
    exact ks_perm (pl_back _ _ _) (k d1_ O1_ e1_ _ hC1 hN1)
set_option maxRecDepth 100000 in
set_option maxHeartbeats 4000000 in
theorem lb_put {E : ks_E} {l : Launch} {D : va_G} {K : Nat → ClassId} {z0 tk0 tv0 gk0 gv0 d0 x0 m0 c0 t0 k0 tk1 tv1 gk1 gv1 d1 d2 d3 x1 x2 m1 s0 s1 s2 s3 s4 t1 t2 n0 n1 k1 l0 l1 o0 a0 a1 a2 a3 a4 a5 a6 a7 a8 a9 a10 a11 a12 a13 b L i : Nat} {sc : Nat → Nat} (hNT : l.stackTraces = false) (C : ks_ok E l D (ks_T K) room_1 code 8 "KeyStoreLaw") (X : kl_X E b L (fun j => nI (sc j))) (HH : kl_H E) (hL : L ≤ 2048) (hsc : ∀ j, sc j < 4294967296) (hi : i + 4 ≤ L) {d : kz_D} {O : Nat → Int64} {e : kz_E} {s : kz_S} (hC : kz_C d s) (hN : kz_N e s) {cs ss : Nat} (hcs : cs + 1 ≤ 601024) (hss : ss + 6 ≤ 7293034) (k : ∀ (d' : kz_D) (O' : Nat → Int64) (e' : kz_E) (s' : kz_S), kz_C d' s' → kz_N e' s' → ks_w E D 8 ((kz_W K z0 tk0 tv0 gk0 gv0 d0 x0 m0 c0 t0 k0 tk1 tv1 gk1 gv1 d1 d2 d3 x1 x2 m1 s0 s1 s2 s3 s4 t1 t2 n0 n1 k1 l0 l1 d' ++ kw_out K o0 O') ++ kz_V K a0 a1 a2 a3 a4 a5 a6 a7 a8 a9 a10 a11 a12 a13 e') [some (.ref b), some (.ref z0), some (.ref a0), some (.ref o0), some (.int (nI i)), none, none, none] (cs + 1) (ss + 6) 1248 []) : ks_w E D 8 ((kz_W K z0 tk0 tv0 gk0 gv0 d0 x0 m0 c0 t0 k0 tk1 tv1 gk1 gv1 d1 d2 d3 x1 x2 m1 s0 s1 s2 s3 s4 t1 t2 n0 n1 k1 l0 l1 d ++ kw_out K o0 O) ++ kz_V K a0 a1 a2 a3 a4 a5 a6 a7 a8 a9 a10 a11 a12 a13 e) [some (.ref b), some (.ref z0), some (.ref a0), some (.ref o0), some (.int (nI i)), none, none, none] cs ss 528 [] := by
  obtain ⟨fs, hfs⟩ := kz_V_0 K a0 a1 a2 a3 a4 a5 a6 a7 a8 a9 a10 a11 a12 a13 e
  refine ks_aload_n rfl rfl C d_Law_law_528 ?_
  refine ks_aload_n rfl rfl C d_Law_law_529 ?_
  refine ks_iload rfl C d_Law_law_530 ?_
  refine ks_iconst (a := 1) rfl C d_Law_law_532 ?_
  refine ks_iadd C d_Law_law_533 ?_
  refine ks_sld C X (by omega) hL d_Law_law_534 ?_
  refine ks_aload_n rfl rfl C d_Law_law_535 ?_
  refine ks_callSb C HH (g_Law_put l hNT D K z0 tk0 tv0 gk0 gv0 d0 x0 m0 c0 t0 k0 tk1 tv1 gk1 gv1 d1 d2 d3 x1 x2 m1 s0 s1 s2 s3 s4 t1 t2 n0 n1 k1 l0 l1 o0 O d s (sc (i + 1)) hC (hsc _)) yh_Law_put lk_Law_118 d_Law_law_536 rfl rfl ⟨by decide, by decide⟩ ⟨hcs, hss⟩ (by decide) (fun v w1 h => ?_)
  obtain ⟨d1_, O1_, rfl, rfl, hC1, hO⟩ := h
  refine ks_istore C (by decide) rfl d_Law_law_539 ?_
  refine ks_aload_n rfl rfl C d_Law_law_541 ?_
  refine ks_aload_n rfl rfl C d_Law_law_542 ?_
  refine ks_iload rfl C d_Law_law_543 ?_
  refine ks_iconst (a := 1) rfl C d_Law_law_545 ?_
  refine ks_iadd C d_Law_law_546 ?_
  refine ks_sld C X (by omega) hL d_Law_law_547 ?_
  refine ks_perm List.perm_append_comm ?_
  have hok : (kz_aPut (sc (i + 1)) s).1 = 0 → kp_okA (kz_aPut (sc (i + 1)) s).2.2.1.1 := fun hz => zC_ok hC1 (kl_oput _ hz)
  refine ks_callVb (ci := 9) (q0 := 0) C (g_Model_put l D K a0 a1 a2 a3 a4 a5 a6 a7 a8 a9 a10 a11 a12 a13 e s (sc (i + 1)) hN (hsc _) hok) yw_Model_put sel_Model_put lk_Law_120 rfl rfl hfs ⟨by decide, by decide⟩ ⟨hcs, hss⟩ rfl rfl (by decide) d_Law_law_548 (fun v w1 h => ?_)
  obtain ⟨e1_, x1_, rfl, rfl, hN1, hT, hA⟩ := h
  refine ks_istore C (by decide) rfl d_Law_law_551 ?_
  refine ks_aload_n rfl rfl C d_Law_law_553 ?_
  obtain ⟨fs1, hfs1⟩ := kz_V_0 K a0 a1 a2 a3 a4 a5 a6 a7 a8 a9 a10 a11 a12 a13 e1_
  refine ks_callVb (ci := 9) (q0 := 0) C (g_Model_thrown l D K a0 a1 a2 a3 a4 a5 a6 a7 a8 a9 a10 a11 a12 a13 e1_) yw_Model_thrown sel_Model_thrown lk_Law_100 rfl rfl hfs1 ⟨by decide, by decide⟩ ⟨hcs, hss⟩ rfl rfl (by decide) d_Law_law_554 (fun v w1 h => ?_)
  obtain ⟨rfl, rfl⟩ := h
  refine ks_iload rfl C d_Law_law_557 ?_
  refine ks_icmpI_eq (tgt := 564) C (by decide) d_Law_law_559 (fun _ => ?_) (fun z => absurd (congrArg nI hT) z)
  refine ks_iload rfl C d_Law_law_564 ?_
  refine ks_ifI_ne (tgt := 588) C (by decide) d_Law_law_566 (fun _ => ?_) (fun z => ?_)
  · refine ks_goto (tgt := 1248) C (by decide) d_Law_law_588 ?_
    refine ks_forget 5 (ks_forget 6 (ks_forget 7 ?_))
    exact ks_perm List.perm_append_comm (k d1_ O1_ e1_ _ hC1 hN1)
  · have hz : (kz_aPut (sc (i + 1)) s).1 = 0 := kl_0 (kl_cput _) z
    refine ks_aload_n rfl rfl C d_Law_law_569 ?_
    refine ks_iconst (a := 0) rfl C d_Law_law_570 ?_
    refine ks_perm (pl_out _ _ _) ?_
    refine ks_lald C 0 3 rfl rfl (by decide) (by decide) d_Law_law_571 ?_
    refine ks_iload rfl C d_Law_law_572 ?_
    refine ks_ifI_eq (tgt := 581) C (by decide) d_Law_law_574 (fun y => ?_) (fun y => ?_)
    · refine ks_lconst rfl C d_Law_law_581 ?_
      refine ks_lcmp C d_Law_law_582 ?_
      refine ks_ifC_eq (tgt := 588) C (by decide) d_Law_law_583 (fun _ => ?_) (fun z => absurd (by rw [hO hz, ← hA hz, y]; rfl) z)
      refine ks_goto (tgt := 1248) C (by decide) d_Law_law_588 ?_
      refine ks_forget 5 (ks_forget 6 (ks_forget 7 ?_))
      exact ks_perm (pl_back _ _ _) (k d1_ O1_ e1_ _ hC1 hN1)
    · refine ks_lconst rfl C d_Law_law_577 ?_
      refine ks_goto (tgt := 582) C (by decide) d_Law_law_578 ?_
      refine ks_lcmp C d_Law_law_582 ?_
      refine ks_ifC_eq (tgt := 588) C (by decide) d_Law_law_583 (fun _ => ?_) (fun z => absurd (by rw [hO hz]; exact kl_1 (kl_bput _) (fun w => y ((hA hz).trans (by rw [w]; rfl)))) z)
      refine ks_goto (tgt := 1248) C (by decide) d_Law_law_588 ?_
      refine ks_forget 5 (ks_forget 6 (ks_forget 7 ?_))
      exact ks_perm (pl_back _ _ _) (k d1_ O1_ e1_ _ hC1 hN1)
set_option maxRecDepth 100000 in
set_option maxHeartbeats 4000000 in
theorem lb_remove {E : ks_E} {l : Launch} {D : va_G} {K : Nat → ClassId} {z0 tk0 tv0 gk0 gv0 d0 x0 m0 c0 t0 k0 tk1 tv1 gk1 gv1 d1 d2 d3 x1 x2 m1 s0 s1 s2 s3 s4 t1 t2 n0 n1 k1 l0 l1 o0 a0 a1 a2 a3 a4 a5 a6 a7 a8 a9 a10 a11 a12 a13 b L i : Nat} {sc : Nat → Nat} (hNT : l.stackTraces = false) (C : ks_ok E l D (ks_T K) room_1 code 8 "KeyStoreLaw") (X : kl_X E b L (fun j => nI (sc j))) (HH : kl_H E) (hL : L ≤ 2048) (hsc : ∀ j, sc j < 4294967296) (hi : i + 4 ≤ L) {d : kz_D} {O : Nat → Int64} {e : kz_E} {s : kz_S} (hC : kz_C d s) (hN : kz_N e s) {cs ss : Nat} (hcs : cs + 1 ≤ 601024) (hss : ss + 6 ≤ 7293034) (k : ∀ (d' : kz_D) (O' : Nat → Int64) (e' : kz_E) (s' : kz_S), kz_C d' s' → kz_N e' s' → ks_w E D 8 ((kz_W K z0 tk0 tv0 gk0 gv0 d0 x0 m0 c0 t0 k0 tk1 tv1 gk1 gv1 d1 d2 d3 x1 x2 m1 s0 s1 s2 s3 s4 t1 t2 n0 n1 k1 l0 l1 d' ++ kw_out K o0 O') ++ kz_V K a0 a1 a2 a3 a4 a5 a6 a7 a8 a9 a10 a11 a12 a13 e') [some (.ref b), some (.ref z0), some (.ref a0), some (.ref o0), some (.int (nI i)), none, none, none] (cs + 1) (ss + 6) 1248 []) : ks_w E D 8 ((kz_W K z0 tk0 tv0 gk0 gv0 d0 x0 m0 c0 t0 k0 tk1 tv1 gk1 gv1 d1 d2 d3 x1 x2 m1 s0 s1 s2 s3 s4 t1 t2 n0 n1 k1 l0 l1 d ++ kw_out K o0 O) ++ kz_V K a0 a1 a2 a3 a4 a5 a6 a7 a8 a9 a10 a11 a12 a13 e) [some (.ref b), some (.ref z0), some (.ref a0), some (.ref o0), some (.int (nI i)), none, none, none] cs ss 591 [] := by
  obtain ⟨fs, hfs⟩ := kz_V_0 K a0 a1 a2 a3 a4 a5 a6 a7 a8 a9 a10 a11 a12 a13 e
  refine ks_aload_n rfl rfl C d_Law_law_591 ?_
  refine ks_aload_n rfl rfl C d_Law_law_592 ?_
  refine ks_iload rfl C d_Law_law_593 ?_
  refine ks_iconst (a := 1) rfl C d_Law_law_595 ?_
  refine ks_iadd C d_Law_law_596 ?_
  refine ks_sld C X (by omega) hL d_Law_law_597 ?_
  refine ks_aload_n rfl rfl C d_Law_law_598 ?_
  refine ks_callSb C HH (g_Law_remove l hNT D K z0 tk0 tv0 gk0 gv0 d0 x0 m0 c0 t0 k0 tk1 tv1 gk1 gv1 d1 d2 d3 x1 x2 m1 s0 s1 s2 s3 s4 t1 t2 n0 n1 k1 l0 l1 o0 O d s (sc (i + 1)) hC (hsc _)) yh_Law_remove lk_Law_121 d_Law_law_599 rfl rfl ⟨by decide, by decide⟩ ⟨hcs, hss⟩ (by decide) (fun v w1 h => ?_)
  obtain ⟨d1_, O1_, rfl, rfl, hC1, hO⟩ := h
  refine ks_istore C (by decide) rfl d_Law_law_602 ?_
  refine ks_aload_n rfl rfl C d_Law_law_604 ?_
  refine ks_aload_n rfl rfl C d_Law_law_605 ?_
  refine ks_iload rfl C d_Law_law_606 ?_
  refine ks_iconst (a := 1) rfl C d_Law_law_608 ?_
  refine ks_iadd C d_Law_law_609 ?_
  refine ks_sld C X (by omega) hL d_Law_law_610 ?_
  refine ks_perm List.perm_append_comm ?_
  refine ks_callVb (ci := 9) (q0 := 0) C (g_Model_remove l D K a0 a1 a2 a3 a4 a5 a6 a7 a8 a9 a10 a11 a12 a13 e s (sc (i + 1)) hN (hsc _)) yw_Model_remove sel_Model_remove lk_Law_123 rfl rfl hfs ⟨by decide, by decide⟩ ⟨hcs, hss⟩ rfl rfl (by decide) d_Law_law_611 (fun v w1 h => ?_)
  obtain ⟨e1_, x1_, rfl, rfl, hN1, hT, hA⟩ := h
  refine ks_istore C (by decide) rfl d_Law_law_614 ?_
  refine ks_aload_n rfl rfl C d_Law_law_616 ?_
  obtain ⟨fs1, hfs1⟩ := kz_V_0 K a0 a1 a2 a3 a4 a5 a6 a7 a8 a9 a10 a11 a12 a13 e1_
  refine ks_callVb (ci := 9) (q0 := 0) C (g_Model_thrown l D K a0 a1 a2 a3 a4 a5 a6 a7 a8 a9 a10 a11 a12 a13 e1_) yw_Model_thrown sel_Model_thrown lk_Law_100 rfl rfl hfs1 ⟨by decide, by decide⟩ ⟨hcs, hss⟩ rfl rfl (by decide) d_Law_law_617 (fun v w1 h => ?_)
  obtain ⟨rfl, rfl⟩ := h
  refine ks_iload rfl C d_Law_law_620 ?_
  refine ks_icmpI_eq (tgt := 627) C (by decide) d_Law_law_622 (fun _ => ?_) (fun z => absurd (congrArg nI hT) z)
  refine ks_iload rfl C d_Law_law_627 ?_
  refine ks_ifI_ne (tgt := 651) C (by decide) d_Law_law_629 (fun _ => ?_) (fun z => ?_)
  · refine ks_goto (tgt := 1248) C (by decide) d_Law_law_651 ?_
    refine ks_forget 5 (ks_forget 6 (ks_forget 7 ?_))
    exact ks_perm List.perm_append_comm (k d1_ O1_ e1_ _ hC1 hN1)
  · have hz : (kz_aRemove (sc (i + 1)) s).1 = 0 := kl_0 (kl_cremove _) z
    refine ks_aload_n rfl rfl C d_Law_law_632 ?_
    refine ks_iconst (a := 0) rfl C d_Law_law_633 ?_
    refine ks_perm (pl_out _ _ _) ?_
    refine ks_lald C 0 3 rfl rfl (by decide) (by decide) d_Law_law_634 ?_
    refine ks_iload rfl C d_Law_law_635 ?_
    refine ks_ifI_eq (tgt := 644) C (by decide) d_Law_law_637 (fun y => ?_) (fun y => ?_)
    · refine ks_lconst rfl C d_Law_law_644 ?_
      refine ks_lcmp C d_Law_law_645 ?_
      refine ks_ifC_eq (tgt := 651) C (by decide) d_Law_law_646 (fun _ => ?_) (fun z => absurd (by rw [hO hz, ← hA hz, y]; rfl) z)
      refine ks_goto (tgt := 1248) C (by decide) d_Law_law_651 ?_
      refine ks_forget 5 (ks_forget 6 (ks_forget 7 ?_))
      exact ks_perm (pl_back _ _ _) (k d1_ O1_ e1_ _ hC1 hN1)
    · refine ks_lconst rfl C d_Law_law_640 ?_
      refine ks_goto (tgt := 645) C (by decide) d_Law_law_641 ?_
      refine ks_lcmp C d_Law_law_645 ?_
      refine ks_ifC_eq (tgt := 651) C (by decide) d_Law_law_646 (fun _ => ?_) (fun z => absurd (by rw [hO hz]; exact kl_1 (kl_bremove _) (fun w => y ((hA hz).trans (by rw [w]; rfl)))) z)
      refine ks_goto (tgt := 1248) C (by decide) d_Law_law_651 ?_
      refine ks_forget 5 (ks_forget 6 (ks_forget 7 ?_))
      exact ks_perm (pl_back _ _ _) (k d1_ O1_ e1_ _ hC1 hN1)
set_option maxRecDepth 100000 in
set_option maxHeartbeats 4000000 in
theorem lb_seek1 {E : ks_E} {l : Launch} {D : va_G} {K : Nat → ClassId} {z0 tk0 tv0 gk0 gv0 d0 x0 m0 c0 t0 k0 tk1 tv1 gk1 gv1 d1 d2 d3 x1 x2 m1 s0 s1 s2 s3 s4 t1 t2 n0 n1 k1 l0 l1 o0 a0 a1 a2 a3 a4 a5 a6 a7 a8 a9 a10 a11 a12 a13 b L i : Nat} {sc : Nat → Nat} (hNT : l.stackTraces = false) (C : ks_ok E l D (ks_T K) room_1 code 8 "KeyStoreLaw") (X : kl_X E b L (fun j => nI (sc j))) (HH : kl_H E) (hL : L ≤ 2048) (hsc : ∀ j, sc j < 4294967296) (hi : i + 4 ≤ L) (hx : sc (i + 2) ≠ 0) {d : kz_D} {O : Nat → Int64} {e : kz_E} {s : kz_S} (hC : kz_C d s) (hN : kz_N e s) {cs ss : Nat} (hcs : cs + 1 ≤ 601024) (hss : ss + 6 ≤ 7293034) (k : ∀ (d' : kz_D) (O' : Nat → Int64) (e' : kz_E) (s' : kz_S), kz_C d' s' → kz_N e' s' → ks_w E D 8 ((kz_W K z0 tk0 tv0 gk0 gv0 d0 x0 m0 c0 t0 k0 tk1 tv1 gk1 gv1 d1 d2 d3 x1 x2 m1 s0 s1 s2 s3 s4 t1 t2 n0 n1 k1 l0 l1 d' ++ kw_out K o0 O') ++ kz_V K a0 a1 a2 a3 a4 a5 a6 a7 a8 a9 a10 a11 a12 a13 e') [some (.ref b), some (.ref z0), some (.ref a0), some (.ref o0), some (.int (nI i)), none, none, none] (cs + 1) (ss + 6) 1248 []) : ks_w E D 8 ((kz_W K z0 tk0 tv0 gk0 gv0 d0 x0 m0 c0 t0 k0 tk1 tv1 gk1 gv1 d1 d2 d3 x1 x2 m1 s0 s1 s2 s3 s4 t1 t2 n0 n1 k1 l0 l1 d ++ kw_out K o0 O) ++ kz_V K a0 a1 a2 a3 a4 a5 a6 a7 a8 a9 a10 a11 a12 a13 e) [some (.ref b), some (.ref z0), some (.ref a0), some (.ref o0), some (.int (nI i)), none, none, none] cs ss 654 [] := by
  obtain ⟨fs, hfs⟩ := kz_V_0 K a0 a1 a2 a3 a4 a5 a6 a7 a8 a9 a10 a11 a12 a13 e
  refine ks_aload_n rfl rfl C d_Law_law_654 ?_
  refine ks_aload_n rfl rfl C d_Law_law_655 ?_
  refine ks_iload rfl C d_Law_law_656 ?_
  refine ks_iconst (a := 1) rfl C d_Law_law_658 ?_
  refine ks_iadd C d_Law_law_659 ?_
  refine ks_sld C X (by omega) hL d_Law_law_660 ?_
  refine ks_aload_n rfl rfl C d_Law_law_661 ?_
  refine ks_iload rfl C d_Law_law_662 ?_
  refine ks_iconst (a := 2) rfl C d_Law_law_664 ?_
  refine ks_iadd C d_Law_law_665 ?_
  refine ks_sld C X (by omega) hL d_Law_law_666 ?_
  refine ks_ifR_eq (a := sc (i + 2)) (tgt := 674) C (hsc _) (by decide) d_Law_law_667 (fun z => absurd z hx) (fun _ => ?_)
  refine ks_iconst (a := 1) rfl C d_Law_law_670 ?_
  refine ks_goto (tgt := 675) C (by decide) d_Law_law_671 ?_
  refine ks_aload_n rfl rfl C d_Law_law_675 ?_
  refine ks_callSb C HH (g_Law_seek l hNT D K z0 tk0 tv0 gk0 gv0 d0 x0 m0 c0 t0 k0 tk1 tv1 gk1 gv1 d1 d2 d3 x1 x2 m1 s0 s1 s2 s3 s4 t1 t2 n0 n1 k1 l0 l1 o0 O d s (sc (i + 1)) true hC (hsc _)) yh_Law_seek lk_Law_124 d_Law_law_676 rfl rfl ⟨by decide, by decide⟩ ⟨hcs, hss⟩ (by decide) (fun v w1 h => ?_)
  obtain ⟨d1_, O1_, rfl, rfl, hC1, hO⟩ := h
  refine ks_istore C (by decide) rfl d_Law_law_679 ?_
  refine ks_aload_n rfl rfl C d_Law_law_681 ?_
  refine ks_aload_n rfl rfl C d_Law_law_682 ?_
  refine ks_iload rfl C d_Law_law_683 ?_
  refine ks_iconst (a := 1) rfl C d_Law_law_685 ?_
  refine ks_iadd C d_Law_law_686 ?_
  refine ks_sld C X (by omega) hL d_Law_law_687 ?_
  refine ks_aload_n rfl rfl C d_Law_law_688 ?_
  refine ks_iload rfl C d_Law_law_689 ?_
  refine ks_iconst (a := 2) rfl C d_Law_law_691 ?_
  refine ks_iadd C d_Law_law_692 ?_
  refine ks_sld C X (by omega) hL d_Law_law_693 ?_
  refine ks_ifR_eq (a := sc (i + 2)) (tgt := 701) C (hsc _) (by decide) d_Law_law_694 (fun z => absurd z hx) (fun _ => ?_)
  refine ks_iconst (a := 1) rfl C d_Law_law_697 ?_
  refine ks_goto (tgt := 702) C (by decide) d_Law_law_698 ?_
  refine ks_perm List.perm_append_comm ?_
  refine ks_callVb (ci := 9) (q0 := 0) C (g_Model_seek l D K a0 a1 a2 a3 a4 a5 a6 a7 a8 a9 a10 a11 a12 a13 e s (sc (i + 1)) true hN (hsc _)) yw_Model_seek sel_Model_seek lk_Law_127 rfl rfl hfs ⟨by decide, by decide⟩ ⟨hcs, hss⟩ rfl rfl (by decide) d_Law_law_702 (fun v w1 h => ?_)
  obtain ⟨e1_, x1_, rfl, rfl, hN1, hT, hA⟩ := h
  refine ks_istore C (by decide) rfl d_Law_law_705 ?_
  refine ks_aload_n rfl rfl C d_Law_law_707 ?_
  obtain ⟨fs1, hfs1⟩ := kz_V_0 K a0 a1 a2 a3 a4 a5 a6 a7 a8 a9 a10 a11 a12 a13 e1_
  refine ks_callVb (ci := 9) (q0 := 0) C (g_Model_thrown l D K a0 a1 a2 a3 a4 a5 a6 a7 a8 a9 a10 a11 a12 a13 e1_) yw_Model_thrown sel_Model_thrown lk_Law_100 rfl rfl hfs1 ⟨by decide, by decide⟩ ⟨hcs, hss⟩ rfl rfl (by decide) d_Law_law_708 (fun v w1 h => ?_)
  obtain ⟨rfl, rfl⟩ := h
  refine ks_iload rfl C d_Law_law_711 ?_
  refine ks_icmpI_eq (tgt := 718) C (by decide) d_Law_law_713 (fun _ => ?_) (fun z => absurd (congrArg nI hT) z)
  refine ks_iload rfl C d_Law_law_718 ?_
  refine ks_ifI_ne (tgt := 742) C (by decide) d_Law_law_720 (fun _ => ?_) (fun z => ?_)
  · refine ks_goto (tgt := 1248) C (by decide) d_Law_law_742 ?_
    refine ks_forget 5 (ks_forget 6 (ks_forget 7 ?_))
    exact ks_perm List.perm_append_comm (k d1_ O1_ e1_ _ hC1 hN1)
  · have hz : (kz_aSeek (sc (i + 1)) true s).1 = 0 := kl_0 (kl_cseek _) z
    refine ks_aload_n rfl rfl C d_Law_law_723 ?_
    refine ks_iconst (a := 0) rfl C d_Law_law_724 ?_
    refine ks_perm (pl_out _ _ _) ?_
    refine ks_lald C 0 3 rfl rfl (by decide) (by decide) d_Law_law_725 ?_
    refine ks_iload rfl C d_Law_law_726 ?_
    refine ks_ifI_eq (tgt := 735) C (by decide) d_Law_law_728 (fun y => ?_) (fun y => ?_)
    · refine ks_lconst rfl C d_Law_law_735 ?_
      refine ks_lcmp C d_Law_law_736 ?_
      refine ks_ifC_eq (tgt := 742) C (by decide) d_Law_law_737 (fun _ => ?_) (fun z => absurd (by rw [hO hz, ← hA hz, y]; rfl) z)
      refine ks_goto (tgt := 1248) C (by decide) d_Law_law_742 ?_
      refine ks_forget 5 (ks_forget 6 (ks_forget 7 ?_))
      exact ks_perm (pl_back _ _ _) (k d1_ O1_ e1_ _ hC1 hN1)
    · refine ks_lconst rfl C d_Law_law_731 ?_
      refine ks_goto (tgt := 736) C (by decide) d_Law_law_732 ?_
      refine ks_lcmp C d_Law_law_736 ?_
      refine ks_ifC_eq (tgt := 742) C (by decide) d_Law_law_737 (fun _ => ?_) (fun z => absurd (by rw [hO hz]; exact kl_1 (kl_bseek _) (fun w => y ((hA hz).trans (by rw [w]; rfl)))) z)
      refine ks_goto (tgt := 1248) C (by decide) d_Law_law_742 ?_
      refine ks_forget 5 (ks_forget 6 (ks_forget 7 ?_))
      exact ks_perm (pl_back _ _ _) (k d1_ O1_ e1_ _ hC1 hN1)
set_option maxRecDepth 100000 in
set_option maxHeartbeats 4000000 in
theorem lb_seek0 {E : ks_E} {l : Launch} {D : va_G} {K : Nat → ClassId} {z0 tk0 tv0 gk0 gv0 d0 x0 m0 c0 t0 k0 tk1 tv1 gk1 gv1 d1 d2 d3 x1 x2 m1 s0 s1 s2 s3 s4 t1 t2 n0 n1 k1 l0 l1 o0 a0 a1 a2 a3 a4 a5 a6 a7 a8 a9 a10 a11 a12 a13 b L i : Nat} {sc : Nat → Nat} (hNT : l.stackTraces = false) (C : ks_ok E l D (ks_T K) room_1 code 8 "KeyStoreLaw") (X : kl_X E b L (fun j => nI (sc j))) (HH : kl_H E) (hL : L ≤ 2048) (hsc : ∀ j, sc j < 4294967296) (hi : i + 4 ≤ L) (hx : sc (i + 2) = 0) {d : kz_D} {O : Nat → Int64} {e : kz_E} {s : kz_S} (hC : kz_C d s) (hN : kz_N e s) {cs ss : Nat} (hcs : cs + 1 ≤ 601024) (hss : ss + 6 ≤ 7293034) (k : ∀ (d' : kz_D) (O' : Nat → Int64) (e' : kz_E) (s' : kz_S), kz_C d' s' → kz_N e' s' → ks_w E D 8 ((kz_W K z0 tk0 tv0 gk0 gv0 d0 x0 m0 c0 t0 k0 tk1 tv1 gk1 gv1 d1 d2 d3 x1 x2 m1 s0 s1 s2 s3 s4 t1 t2 n0 n1 k1 l0 l1 d' ++ kw_out K o0 O') ++ kz_V K a0 a1 a2 a3 a4 a5 a6 a7 a8 a9 a10 a11 a12 a13 e') [some (.ref b), some (.ref z0), some (.ref a0), some (.ref o0), some (.int (nI i)), none, none, none] (cs + 1) (ss + 6) 1248 []) : ks_w E D 8 ((kz_W K z0 tk0 tv0 gk0 gv0 d0 x0 m0 c0 t0 k0 tk1 tv1 gk1 gv1 d1 d2 d3 x1 x2 m1 s0 s1 s2 s3 s4 t1 t2 n0 n1 k1 l0 l1 d ++ kw_out K o0 O) ++ kz_V K a0 a1 a2 a3 a4 a5 a6 a7 a8 a9 a10 a11 a12 a13 e) [some (.ref b), some (.ref z0), some (.ref a0), some (.ref o0), some (.int (nI i)), none, none, none] cs ss 654 [] := by
  obtain ⟨fs, hfs⟩ := kz_V_0 K a0 a1 a2 a3 a4 a5 a6 a7 a8 a9 a10 a11 a12 a13 e
  refine ks_aload_n rfl rfl C d_Law_law_654 ?_
  refine ks_aload_n rfl rfl C d_Law_law_655 ?_
  refine ks_iload rfl C d_Law_law_656 ?_
  refine ks_iconst (a := 1) rfl C d_Law_law_658 ?_
  refine ks_iadd C d_Law_law_659 ?_
  refine ks_sld C X (by omega) hL d_Law_law_660 ?_
  refine ks_aload_n rfl rfl C d_Law_law_661 ?_
  refine ks_iload rfl C d_Law_law_662 ?_
  refine ks_iconst (a := 2) rfl C d_Law_law_664 ?_
  refine ks_iadd C d_Law_law_665 ?_
  refine ks_sld C X (by omega) hL d_Law_law_666 ?_
  refine ks_ifR_eq (a := sc (i + 2)) (tgt := 674) C (hsc _) (by decide) d_Law_law_667 (fun _ => ?_) (fun z => absurd hx z)
  refine ks_iconst (a := 0) rfl C d_Law_law_674 ?_
  refine ks_aload_n rfl rfl C d_Law_law_675 ?_
  refine ks_callSb C HH (g_Law_seek l hNT D K z0 tk0 tv0 gk0 gv0 d0 x0 m0 c0 t0 k0 tk1 tv1 gk1 gv1 d1 d2 d3 x1 x2 m1 s0 s1 s2 s3 s4 t1 t2 n0 n1 k1 l0 l1 o0 O d s (sc (i + 1)) false hC (hsc _)) yh_Law_seek lk_Law_124 d_Law_law_676 rfl rfl ⟨by decide, by decide⟩ ⟨hcs, hss⟩ (by decide) (fun v w1 h => ?_)
  obtain ⟨d1_, O1_, rfl, rfl, hC1, hO⟩ := h
  refine ks_istore C (by decide) rfl d_Law_law_679 ?_
  refine ks_aload_n rfl rfl C d_Law_law_681 ?_
  refine ks_aload_n rfl rfl C d_Law_law_682 ?_
  refine ks_iload rfl C d_Law_law_683 ?_
  refine ks_iconst (a := 1) rfl C d_Law_law_685 ?_
  refine ks_iadd C d_Law_law_686 ?_
  refine ks_sld C X (by omega) hL d_Law_law_687 ?_
  refine ks_aload_n rfl rfl C d_Law_law_688 ?_
  refine ks_iload rfl C d_Law_law_689 ?_
  refine ks_iconst (a := 2) rfl C d_Law_law_691 ?_
  refine ks_iadd C d_Law_law_692 ?_
  refine ks_sld C X (by omega) hL d_Law_law_693 ?_
  refine ks_ifR_eq (a := sc (i + 2)) (tgt := 701) C (hsc _) (by decide) d_Law_law_694 (fun _ => ?_) (fun z => absurd hx z)
  refine ks_iconst (a := 0) rfl C d_Law_law_701 ?_
  refine ks_perm List.perm_append_comm ?_
  refine ks_callVb (ci := 9) (q0 := 0) C (g_Model_seek l D K a0 a1 a2 a3 a4 a5 a6 a7 a8 a9 a10 a11 a12 a13 e s (sc (i + 1)) false hN (hsc _)) yw_Model_seek sel_Model_seek lk_Law_127 rfl rfl hfs ⟨by decide, by decide⟩ ⟨hcs, hss⟩ rfl rfl (by decide) d_Law_law_702 (fun v w1 h => ?_)
  obtain ⟨e1_, x1_, rfl, rfl, hN1, hT, hA⟩ := h
  refine ks_istore C (by decide) rfl d_Law_law_705 ?_
  refine ks_aload_n rfl rfl C d_Law_law_707 ?_
  obtain ⟨fs1, hfs1⟩ := kz_V_0 K a0 a1 a2 a3 a4 a5 a6 a7 a8 a9 a10 a11 a12 a13 e1_
  refine ks_callVb (ci := 9) (q0 := 0) C (g_Model_thrown l D K a0 a1 a2 a3 a4 a5 a6 a7 a8 a9 a10 a11 a12 a13 e1_) yw_Model_thrown sel_Model_thrown lk_Law_100 rfl rfl hfs1 ⟨by decide, by decide⟩ ⟨hcs, hss⟩ rfl rfl (by decide) d_Law_law_708 (fun v w1 h => ?_)
  obtain ⟨rfl, rfl⟩ := h
  refine ks_iload rfl C d_Law_law_711 ?_
  refine ks_icmpI_eq (tgt := 718) C (by decide) d_Law_law_713 (fun _ => ?_) (fun z => absurd (congrArg nI hT) z)
  refine ks_iload rfl C d_Law_law_718 ?_
  refine ks_ifI_ne (tgt := 742) C (by decide) d_Law_law_720 (fun _ => ?_) (fun z => ?_)
  · refine ks_goto (tgt := 1248) C (by decide) d_Law_law_742 ?_
    refine ks_forget 5 (ks_forget 6 (ks_forget 7 ?_))
    exact ks_perm List.perm_append_comm (k d1_ O1_ e1_ _ hC1 hN1)
  · have hz : (kz_aSeek (sc (i + 1)) false s).1 = 0 := kl_0 (kl_cseek _) z
    refine ks_aload_n rfl rfl C d_Law_law_723 ?_
    refine ks_iconst (a := 0) rfl C d_Law_law_724 ?_
    refine ks_perm (pl_out _ _ _) ?_
    refine ks_lald C 0 3 rfl rfl (by decide) (by decide) d_Law_law_725 ?_
    refine ks_iload rfl C d_Law_law_726 ?_
    refine ks_ifI_eq (tgt := 735) C (by decide) d_Law_law_728 (fun y => ?_) (fun y => ?_)
    · refine ks_lconst rfl C d_Law_law_735 ?_
      refine ks_lcmp C d_Law_law_736 ?_
      refine ks_ifC_eq (tgt := 742) C (by decide) d_Law_law_737 (fun _ => ?_) (fun z => absurd (by rw [hO hz, ← hA hz, y]; rfl) z)
      refine ks_goto (tgt := 1248) C (by decide) d_Law_law_742 ?_
      refine ks_forget 5 (ks_forget 6 (ks_forget 7 ?_))
      exact ks_perm (pl_back _ _ _) (k d1_ O1_ e1_ _ hC1 hN1)
    · refine ks_lconst rfl C d_Law_law_731 ?_
      refine ks_goto (tgt := 736) C (by decide) d_Law_law_732 ?_
      refine ks_lcmp C d_Law_law_736 ?_
      refine ks_ifC_eq (tgt := 742) C (by decide) d_Law_law_737 (fun _ => ?_) (fun z => absurd (by rw [hO hz]; exact kl_1 (kl_bseek _) (fun w => y ((hA hz).trans (by rw [w]; rfl)))) z)
      refine ks_goto (tgt := 1248) C (by decide) d_Law_law_742 ?_
      refine ks_forget 5 (ks_forget 6 (ks_forget 7 ?_))
      exact ks_perm (pl_back _ _ _) (k d1_ O1_ e1_ _ hC1 hN1)
set_option maxRecDepth 100000 in
set_option maxHeartbeats 4000000 in
theorem lb_take {E : ks_E} {l : Launch} {D : va_G} {K : Nat → ClassId} {z0 tk0 tv0 gk0 gv0 d0 x0 m0 c0 t0 k0 tk1 tv1 gk1 gv1 d1 d2 d3 x1 x2 m1 s0 s1 s2 s3 s4 t1 t2 n0 n1 k1 l0 l1 o0 a0 a1 a2 a3 a4 a5 a6 a7 a8 a9 a10 a11 a12 a13 b L i : Nat} {sc : Nat → Nat} (hNT : l.stackTraces = false) (C : ks_ok E l D (ks_T K) room_1 code 8 "KeyStoreLaw") (X : kl_X E b L (fun j => nI (sc j))) (HH : kl_H E) (hL : L ≤ 2048) (hsc : ∀ j, sc j < 4294967296) (hi : i + 4 ≤ L) {d : kz_D} {O : Nat → Int64} {e : kz_E} {s : kz_S} (hC : kz_C d s) (hN : kz_N e s) {cs ss : Nat} (hcs : cs + 1 ≤ 601024) (hss : ss + 6 ≤ 7293034) (k : ∀ (d' : kz_D) (O' : Nat → Int64) (e' : kz_E) (s' : kz_S), kz_C d' s' → kz_N e' s' → ks_w E D 8 ((kz_W K z0 tk0 tv0 gk0 gv0 d0 x0 m0 c0 t0 k0 tk1 tv1 gk1 gv1 d1 d2 d3 x1 x2 m1 s0 s1 s2 s3 s4 t1 t2 n0 n1 k1 l0 l1 d' ++ kw_out K o0 O') ++ kz_V K a0 a1 a2 a3 a4 a5 a6 a7 a8 a9 a10 a11 a12 a13 e') [some (.ref b), some (.ref z0), some (.ref a0), some (.ref o0), some (.int (nI i)), none, none, none] (cs + 1) (ss + 6) 1248 []) : ks_w E D 8 ((kz_W K z0 tk0 tv0 gk0 gv0 d0 x0 m0 c0 t0 k0 tk1 tv1 gk1 gv1 d1 d2 d3 x1 x2 m1 s0 s1 s2 s3 s4 t1 t2 n0 n1 k1 l0 l1 d ++ kw_out K o0 O) ++ kz_V K a0 a1 a2 a3 a4 a5 a6 a7 a8 a9 a10 a11 a12 a13 e) [some (.ref b), some (.ref z0), some (.ref a0), some (.ref o0), some (.int (nI i)), none, none, none] cs ss 745 [] := by
  obtain ⟨fs, hfs⟩ := kz_V_0 K a0 a1 a2 a3 a4 a5 a6 a7 a8 a9 a10 a11 a12 a13 e
  refine ks_aload_n rfl rfl C d_Law_law_745 ?_
  refine ks_aload_n rfl rfl C d_Law_law_746 ?_
  refine ks_callSb C HH (g_Law_take l hNT D K z0 tk0 tv0 gk0 gv0 d0 x0 m0 c0 t0 k0 tk1 tv1 gk1 gv1 d1 d2 d3 x1 x2 m1 s0 s1 s2 s3 s4 t1 t2 n0 n1 k1 l0 l1 o0 O d s hC) yh_Law_take lk_Law_128 d_Law_law_747 rfl rfl ⟨by decide, by decide⟩ ⟨hcs, hss⟩ (by decide) (fun v w1 h => ?_)
  obtain ⟨d1_, O1_, rfl, rfl, hC1, hO⟩ := h
  refine ks_istore C (by decide) rfl d_Law_law_750 ?_
  refine ks_aload_n rfl rfl C d_Law_law_752 ?_
  refine ks_perm List.perm_append_comm ?_
  refine ks_callVb (ci := 9) (q0 := 0) C (g_Model_take l D K a0 a1 a2 a3 a4 a5 a6 a7 a8 a9 a10 a11 a12 a13 e s hN) yw_Model_take sel_Model_take lk_Law_130 rfl rfl hfs ⟨by decide, by decide⟩ ⟨hcs, hss⟩ rfl rfl (by decide) d_Law_law_753 (fun v w1 h => ?_)
  obtain ⟨e1_, x1_, rfl, rfl, hN1, hT, hA⟩ := h
  refine ks_istore C (by decide) rfl d_Law_law_756 ?_
  refine ks_aload_n rfl rfl C d_Law_law_758 ?_
  obtain ⟨fs1, hfs1⟩ := kz_V_0 K a0 a1 a2 a3 a4 a5 a6 a7 a8 a9 a10 a11 a12 a13 e1_
  refine ks_callVb (ci := 9) (q0 := 0) C (g_Model_thrown l D K a0 a1 a2 a3 a4 a5 a6 a7 a8 a9 a10 a11 a12 a13 e1_) yw_Model_thrown sel_Model_thrown lk_Law_100 rfl rfl hfs1 ⟨by decide, by decide⟩ ⟨hcs, hss⟩ rfl rfl (by decide) d_Law_law_759 (fun v w1 h => ?_)
  obtain ⟨rfl, rfl⟩ := h
  refine ks_iload rfl C d_Law_law_762 ?_
  refine ks_icmpI_eq (tgt := 769) C (by decide) d_Law_law_764 (fun _ => ?_) (fun z => absurd (congrArg nI hT) z)
  refine ks_iload rfl C d_Law_law_769 ?_
  refine ks_ifI_ne (tgt := 786) C (by decide) d_Law_law_771 (fun _ => ?_) (fun z => ?_)
  · refine ks_goto (tgt := 1248) C (by decide) d_Law_law_786 ?_
    refine ks_forget 5 (ks_forget 6 (ks_forget 7 ?_))
    exact ks_perm List.perm_append_comm (k d1_ O1_ e1_ _ hC1 hN1)
  · have hz : (kz_aTake s).1 = 0 := kl_0 (kl_ctake _) z
    refine ks_aload_n rfl rfl C d_Law_law_774 ?_
    refine ks_iconst (a := 0) rfl C d_Law_law_775 ?_
    refine ks_perm (pl_out _ _ _) ?_
    refine ks_lald C 0 3 rfl rfl (by decide) (by decide) d_Law_law_776 ?_
    refine ks_iload rfl C d_Law_law_777 ?_
    refine ks_i2l C d_Law_law_779 ?_
    refine ks_lcmp C d_Law_law_780 ?_
    refine ks_ifC_eq (tgt := 786) C (by decide) d_Law_law_781 (fun _ => ?_) (fun z => absurd (by rw [hO hz, hA hz]) z)
    refine ks_goto (tgt := 1248) C (by decide) d_Law_law_786 ?_
    refine ks_forget 5 (ks_forget 6 (ks_forget 7 ?_))
    exact ks_perm (pl_back _ _ _) (k d1_ O1_ e1_ _ hC1 hN1)
set_option maxRecDepth 100000 in
set_option maxHeartbeats 4000000 in
theorem lb_found {E : ks_E} {l : Launch} {D : va_G} {K : Nat → ClassId} {z0 tk0 tv0 gk0 gv0 d0 x0 m0 c0 t0 k0 tk1 tv1 gk1 gv1 d1 d2 d3 x1 x2 m1 s0 s1 s2 s3 s4 t1 t2 n0 n1 k1 l0 l1 o0 a0 a1 a2 a3 a4 a5 a6 a7 a8 a9 a10 a11 a12 a13 b L i : Nat} {sc : Nat → Nat} (hNT : l.stackTraces = false) (C : ks_ok E l D (ks_T K) room_1 code 8 "KeyStoreLaw") (X : kl_X E b L (fun j => nI (sc j))) (HH : kl_H E) (hL : L ≤ 2048) (hsc : ∀ j, sc j < 4294967296) (hi : i + 4 ≤ L) {d : kz_D} {O : Nat → Int64} {e : kz_E} {s : kz_S} (hC : kz_C d s) (hN : kz_N e s) {cs ss : Nat} (hcs : cs + 1 ≤ 601024) (hss : ss + 6 ≤ 7293034) (k : ∀ (d' : kz_D) (O' : Nat → Int64) (e' : kz_E) (s' : kz_S), kz_C d' s' → kz_N e' s' → ks_w E D 8 ((kz_W K z0 tk0 tv0 gk0 gv0 d0 x0 m0 c0 t0 k0 tk1 tv1 gk1 gv1 d1 d2 d3 x1 x2 m1 s0 s1 s2 s3 s4 t1 t2 n0 n1 k1 l0 l1 d' ++ kw_out K o0 O') ++ kz_V K a0 a1 a2 a3 a4 a5 a6 a7 a8 a9 a10 a11 a12 a13 e') [some (.ref b), some (.ref z0), some (.ref a0), some (.ref o0), some (.int (nI i)), none, none, none] (cs + 1) (ss + 6) 1248 []) : ks_w E D 8 ((kz_W K z0 tk0 tv0 gk0 gv0 d0 x0 m0 c0 t0 k0 tk1 tv1 gk1 gv1 d1 d2 d3 x1 x2 m1 s0 s1 s2 s3 s4 t1 t2 n0 n1 k1 l0 l1 d ++ kw_out K o0 O) ++ kz_V K a0 a1 a2 a3 a4 a5 a6 a7 a8 a9 a10 a11 a12 a13 e) [some (.ref b), some (.ref z0), some (.ref a0), some (.ref o0), some (.int (nI i)), none, none, none] cs ss 789 [] := by
  obtain ⟨fs, hfs⟩ := kz_V_0 K a0 a1 a2 a3 a4 a5 a6 a7 a8 a9 a10 a11 a12 a13 e
  refine ks_aload_n rfl rfl C d_Law_law_789 ?_
  refine ks_aload_n rfl rfl C d_Law_law_790 ?_
  refine ks_iload rfl C d_Law_law_791 ?_
  refine ks_iconst (a := 1) rfl C d_Law_law_793 ?_
  refine ks_iadd C d_Law_law_794 ?_
  refine ks_sld C X (by omega) hL d_Law_law_795 ?_
  refine ks_aload_n rfl rfl C d_Law_law_796 ?_
  refine ks_iload rfl C d_Law_law_797 ?_
  refine ks_iconst (a := 2) rfl C d_Law_law_799 ?_
  refine ks_iadd C d_Law_law_800 ?_
  refine ks_sld C X (by omega) hL d_Law_law_801 ?_
  refine ks_aload_n rfl rfl C d_Law_law_802 ?_
  refine ks_callSb C HH (g_Law_found l hNT D K z0 tk0 tv0 gk0 gv0 d0 x0 m0 c0 t0 k0 tk1 tv1 gk1 gv1 d1 d2 d3 x1 x2 m1 s0 s1 s2 s3 s4 t1 t2 n0 n1 k1 l0 l1 o0 O d s (sc (i + 1)) (sc (i + 2)) hC (hsc _) (hsc _)) yh_Law_found lk_Law_131 d_Law_law_803 rfl rfl ⟨by decide, by decide⟩ ⟨hcs, hss⟩ (by decide) (fun v w1 h => ?_)
  obtain ⟨d1_, O1_, rfl, rfl, hC1, hO⟩ := h
  refine ks_istore C (by decide) rfl d_Law_law_806 ?_
  refine ks_aload_n rfl rfl C d_Law_law_808 ?_
  refine ks_aload_n rfl rfl C d_Law_law_809 ?_
  refine ks_iload rfl C d_Law_law_810 ?_
  refine ks_iconst (a := 1) rfl C d_Law_law_812 ?_
  refine ks_iadd C d_Law_law_813 ?_
  refine ks_sld C X (by omega) hL d_Law_law_814 ?_
  refine ks_aload_n rfl rfl C d_Law_law_815 ?_
  refine ks_iload rfl C d_Law_law_816 ?_
  refine ks_iconst (a := 2) rfl C d_Law_law_818 ?_
  refine ks_iadd C d_Law_law_819 ?_
  refine ks_sld C X (by omega) hL d_Law_law_820 ?_
  refine ks_perm List.perm_append_comm ?_
  refine ks_callVb (ci := 9) (q0 := 0) C (g_Model_found l D K a0 a1 a2 a3 a4 a5 a6 a7 a8 a9 a10 a11 a12 a13 e s (sc (i + 1)) (sc (i + 2)) hN (hsc _) (hsc _)) yw_Model_found sel_Model_found lk_Law_134 rfl rfl hfs ⟨by decide, by decide⟩ ⟨hcs, hss⟩ rfl rfl (by decide) d_Law_law_821 (fun v w1 h => ?_)
  obtain ⟨e1_, x1_, rfl, rfl, hN1, hT, hA⟩ := h
  refine ks_lstore C (by decide) rfl d_Law_law_824 ?_
  refine ks_aload_n rfl rfl C d_Law_law_826 ?_
  obtain ⟨fs1, hfs1⟩ := kz_V_0 K a0 a1 a2 a3 a4 a5 a6 a7 a8 a9 a10 a11 a12 a13 e1_
  refine ks_callVb (ci := 9) (q0 := 0) C (g_Model_thrown l D K a0 a1 a2 a3 a4 a5 a6 a7 a8 a9 a10 a11 a12 a13 e1_) yw_Model_thrown sel_Model_thrown lk_Law_100 rfl rfl hfs1 ⟨by decide, by decide⟩ ⟨hcs, hss⟩ rfl rfl (by decide) d_Law_law_827 (fun v w1 h => ?_)
  obtain ⟨rfl, rfl⟩ := h
  refine ks_iload rfl C d_Law_law_830 ?_
  refine ks_icmpI_eq (tgt := 837) C (by decide) d_Law_law_832 (fun _ => ?_) (fun z => absurd (congrArg nI hT) z)
  refine ks_iload rfl C d_Law_law_837 ?_
  refine ks_ifI_ne (tgt := 853) C (by decide) d_Law_law_839 (fun _ => ?_) (fun z => ?_)
  · refine ks_goto (tgt := 1248) C (by decide) d_Law_law_853 ?_
    refine ks_forget 5 (ks_forget 6 (ks_forget 7 ?_))
    exact ks_perm List.perm_append_comm (k d1_ O1_ e1_ _ hC1 hN1)
  · have hz : (kz_aFound (sc (i + 1)) (sc (i + 2)) s).1 = 0 := kl_0 (kl_cfound _) z
    refine ks_aload_n rfl rfl C d_Law_law_842 ?_
    refine ks_iconst (a := 0) rfl C d_Law_law_843 ?_
    refine ks_perm (pl_out _ _ _) ?_
    refine ks_lald C 0 3 rfl rfl (by decide) (by decide) d_Law_law_844 ?_
    refine ks_lload rfl C d_Law_law_845 ?_
    refine ks_lcmp C d_Law_law_847 ?_
    refine ks_ifC_eq (tgt := 853) C (by decide) d_Law_law_848 (fun _ => ?_) (fun z => absurd ((hO hz).trans (hA hz).symm) z)
    refine ks_goto (tgt := 1248) C (by decide) d_Law_law_853 ?_
    refine ks_forget 5 (ks_forget 6 (ks_forget 7 ?_))
    exact ks_perm (pl_back _ _ _) (k d1_ O1_ e1_ _ hC1 hN1)
set_option maxRecDepth 100000 in
set_option maxHeartbeats 4000000 in
theorem lb_begin {E : ks_E} {l : Launch} {D : va_G} {K : Nat → ClassId} {z0 tk0 tv0 gk0 gv0 d0 x0 m0 c0 t0 k0 tk1 tv1 gk1 gv1 d1 d2 d3 x1 x2 m1 s0 s1 s2 s3 s4 t1 t2 n0 n1 k1 l0 l1 o0 a0 a1 a2 a3 a4 a5 a6 a7 a8 a9 a10 a11 a12 a13 b L i : Nat} {sc : Nat → Nat} (hNT : l.stackTraces = false) (C : ks_ok E l D (ks_T K) room_1 code 8 "KeyStoreLaw") (X : kl_X E b L (fun j => nI (sc j))) (HH : kl_H E) (hL : L ≤ 2048) (hsc : ∀ j, sc j < 4294967296) (hi : i + 4 ≤ L) {d : kz_D} {O : Nat → Int64} {e : kz_E} {s : kz_S} (hC : kz_C d s) (hN : kz_N e s) {cs ss : Nat} (hcs : cs + 1 ≤ 601024) (hss : ss + 6 ≤ 7293034) (k : ∀ (d' : kz_D) (O' : Nat → Int64) (e' : kz_E) (s' : kz_S), kz_C d' s' → kz_N e' s' → ks_w E D 8 ((kz_W K z0 tk0 tv0 gk0 gv0 d0 x0 m0 c0 t0 k0 tk1 tv1 gk1 gv1 d1 d2 d3 x1 x2 m1 s0 s1 s2 s3 s4 t1 t2 n0 n1 k1 l0 l1 d' ++ kw_out K o0 O') ++ kz_V K a0 a1 a2 a3 a4 a5 a6 a7 a8 a9 a10 a11 a12 a13 e') [some (.ref b), some (.ref z0), some (.ref a0), some (.ref o0), some (.int (nI i)), none, none, none] (cs + 1) (ss + 6) 1248 []) : ks_w E D 8 ((kz_W K z0 tk0 tv0 gk0 gv0 d0 x0 m0 c0 t0 k0 tk1 tv1 gk1 gv1 d1 d2 d3 x1 x2 m1 s0 s1 s2 s3 s4 t1 t2 n0 n1 k1 l0 l1 d ++ kw_out K o0 O) ++ kz_V K a0 a1 a2 a3 a4 a5 a6 a7 a8 a9 a10 a11 a12 a13 e) [some (.ref b), some (.ref z0), some (.ref a0), some (.ref o0), some (.int (nI i)), none, none, none] cs ss 856 [] := by
  obtain ⟨fs, hfs⟩ := kz_V_0 K a0 a1 a2 a3 a4 a5 a6 a7 a8 a9 a10 a11 a12 a13 e
  refine ks_aload_n rfl rfl C d_Law_law_856 ?_
  refine ks_callSb C HH (g_Law_begin l hNT D K z0 tk0 tv0 gk0 gv0 d0 x0 m0 c0 t0 k0 tk1 tv1 gk1 gv1 d1 d2 d3 x1 x2 m1 s0 s1 s2 s3 s4 t1 t2 n0 n1 k1 l0 l1 o0 O d s hC) yh_Law_begin lk_Law_135 d_Law_law_857 rfl rfl ⟨by decide, by decide⟩ ⟨hcs, hss⟩ (by decide) (fun v w1 h => ?_)
  obtain ⟨d1_, O1_, rfl, rfl, hC1, hO⟩ := h
  refine ks_istore C (by decide) rfl d_Law_law_860 ?_
  refine ks_aload_n rfl rfl C d_Law_law_862 ?_
  refine ks_perm List.perm_append_comm ?_
  refine ks_callVb (ci := 9) (q0 := 0) C (g_Model_begin l D K a0 a1 a2 a3 a4 a5 a6 a7 a8 a9 a10 a11 a12 a13 e s hN) yw_Model_begin sel_Model_begin lk_Law_138 rfl rfl hfs ⟨by decide, by decide⟩ ⟨hcs, hss⟩ rfl rfl (by decide) d_Law_law_863 (fun v w1 h => ?_)
  obtain ⟨e1_, rfl, rfl, hN1, hT⟩ := h
  refine ks_aload_n rfl rfl C d_Law_law_866 ?_
  obtain ⟨fs1, hfs1⟩ := kz_V_0 K a0 a1 a2 a3 a4 a5 a6 a7 a8 a9 a10 a11 a12 a13 e1_
  refine ks_callVb (ci := 9) (q0 := 0) C (g_Model_thrown l D K a0 a1 a2 a3 a4 a5 a6 a7 a8 a9 a10 a11 a12 a13 e1_) yw_Model_thrown sel_Model_thrown lk_Law_100 rfl rfl hfs1 ⟨by decide, by decide⟩ ⟨hcs, hss⟩ rfl rfl (by decide) d_Law_law_867 (fun v w1 h => ?_)
  obtain ⟨rfl, rfl⟩ := h
  refine ks_iload rfl C d_Law_law_870 ?_
  refine ks_icmpI_eq (tgt := 877) C (by decide) d_Law_law_872 (fun _ => ?_) (fun z => absurd (congrArg nI hT) z)
  refine ks_goto (tgt := 1248) C (by decide) d_Law_law_877 ?_
  refine ks_forget 5 (ks_forget 6 (ks_forget 7 ?_))
  exact ks_perm List.perm_append_comm (k d1_ O1_ e1_ _ hC1 hN1)
set_option maxRecDepth 100000 in
set_option maxHeartbeats 4000000 in
theorem lb_commit {E : ks_E} {l : Launch} {D : va_G} {K : Nat → ClassId} {z0 tk0 tv0 gk0 gv0 d0 x0 m0 c0 t0 k0 tk1 tv1 gk1 gv1 d1 d2 d3 x1 x2 m1 s0 s1 s2 s3 s4 t1 t2 n0 n1 k1 l0 l1 o0 a0 a1 a2 a3 a4 a5 a6 a7 a8 a9 a10 a11 a12 a13 b L i : Nat} {sc : Nat → Nat} (hNT : l.stackTraces = false) (C : ks_ok E l D (ks_T K) room_1 code 8 "KeyStoreLaw") (X : kl_X E b L (fun j => nI (sc j))) (HH : kl_H E) (hL : L ≤ 2048) (hsc : ∀ j, sc j < 4294967296) (hi : i + 4 ≤ L) {d : kz_D} {O : Nat → Int64} {e : kz_E} {s : kz_S} (hC : kz_C d s) (hN : kz_N e s) {cs ss : Nat} (hcs : cs + 1 ≤ 601024) (hss : ss + 6 ≤ 7293034) (k : ∀ (d' : kz_D) (O' : Nat → Int64) (e' : kz_E) (s' : kz_S), kz_C d' s' → kz_N e' s' → ks_w E D 8 ((kz_W K z0 tk0 tv0 gk0 gv0 d0 x0 m0 c0 t0 k0 tk1 tv1 gk1 gv1 d1 d2 d3 x1 x2 m1 s0 s1 s2 s3 s4 t1 t2 n0 n1 k1 l0 l1 d' ++ kw_out K o0 O') ++ kz_V K a0 a1 a2 a3 a4 a5 a6 a7 a8 a9 a10 a11 a12 a13 e') [some (.ref b), some (.ref z0), some (.ref a0), some (.ref o0), some (.int (nI i)), none, none, none] (cs + 1) (ss + 6) 1248 []) : ks_w E D 8 ((kz_W K z0 tk0 tv0 gk0 gv0 d0 x0 m0 c0 t0 k0 tk1 tv1 gk1 gv1 d1 d2 d3 x1 x2 m1 s0 s1 s2 s3 s4 t1 t2 n0 n1 k1 l0 l1 d ++ kw_out K o0 O) ++ kz_V K a0 a1 a2 a3 a4 a5 a6 a7 a8 a9 a10 a11 a12 a13 e) [some (.ref b), some (.ref z0), some (.ref a0), some (.ref o0), some (.int (nI i)), none, none, none] cs ss 880 [] := by
  obtain ⟨fs, hfs⟩ := kz_V_0 K a0 a1 a2 a3 a4 a5 a6 a7 a8 a9 a10 a11 a12 a13 e
  refine ks_aload_n rfl rfl C d_Law_law_880 ?_
  refine ks_callSb C HH (g_Law_commit l hNT D K z0 tk0 tv0 gk0 gv0 d0 x0 m0 c0 t0 k0 tk1 tv1 gk1 gv1 d1 d2 d3 x1 x2 m1 s0 s1 s2 s3 s4 t1 t2 n0 n1 k1 l0 l1 o0 O d s hC) yh_Law_commit lk_Law_139 d_Law_law_881 rfl rfl ⟨by decide, by decide⟩ ⟨hcs, hss⟩ (by decide) (fun v w1 h => ?_)
  obtain ⟨d1_, O1_, rfl, rfl, hC1, hO⟩ := h
  refine ks_istore C (by decide) rfl d_Law_law_884 ?_
  refine ks_aload_n rfl rfl C d_Law_law_886 ?_
  refine ks_perm List.perm_append_comm ?_
  refine ks_callVb (ci := 9) (q0 := 0) C (g_Model_commit l D K a0 a1 a2 a3 a4 a5 a6 a7 a8 a9 a10 a11 a12 a13 e s hN) yw_Model_commit sel_Model_commit lk_Law_141 rfl rfl hfs ⟨by decide, by decide⟩ ⟨hcs, hss⟩ rfl rfl (by decide) d_Law_law_887 (fun v w1 h => ?_)
  obtain ⟨e1_, rfl, rfl, hN1, hT⟩ := h
  refine ks_aload_n rfl rfl C d_Law_law_890 ?_
  obtain ⟨fs1, hfs1⟩ := kz_V_0 K a0 a1 a2 a3 a4 a5 a6 a7 a8 a9 a10 a11 a12 a13 e1_
  refine ks_callVb (ci := 9) (q0 := 0) C (g_Model_thrown l D K a0 a1 a2 a3 a4 a5 a6 a7 a8 a9 a10 a11 a12 a13 e1_) yw_Model_thrown sel_Model_thrown lk_Law_100 rfl rfl hfs1 ⟨by decide, by decide⟩ ⟨hcs, hss⟩ rfl rfl (by decide) d_Law_law_891 (fun v w1 h => ?_)
  obtain ⟨rfl, rfl⟩ := h
  refine ks_iload rfl C d_Law_law_894 ?_
  refine ks_icmpI_eq (tgt := 901) C (by decide) d_Law_law_896 (fun _ => ?_) (fun z => absurd (congrArg nI hT) z)
  refine ks_goto (tgt := 1248) C (by decide) d_Law_law_901 ?_
  refine ks_forget 5 (ks_forget 6 (ks_forget 7 ?_))
  exact ks_perm List.perm_append_comm (k d1_ O1_ e1_ _ hC1 hN1)
set_option maxRecDepth 100000 in
set_option maxHeartbeats 4000000 in
theorem lb_rollback {E : ks_E} {l : Launch} {D : va_G} {K : Nat → ClassId} {z0 tk0 tv0 gk0 gv0 d0 x0 m0 c0 t0 k0 tk1 tv1 gk1 gv1 d1 d2 d3 x1 x2 m1 s0 s1 s2 s3 s4 t1 t2 n0 n1 k1 l0 l1 o0 a0 a1 a2 a3 a4 a5 a6 a7 a8 a9 a10 a11 a12 a13 b L i : Nat} {sc : Nat → Nat} (hNT : l.stackTraces = false) (C : ks_ok E l D (ks_T K) room_1 code 8 "KeyStoreLaw") (X : kl_X E b L (fun j => nI (sc j))) (HH : kl_H E) (hL : L ≤ 2048) (hsc : ∀ j, sc j < 4294967296) (hi : i + 4 ≤ L) {d : kz_D} {O : Nat → Int64} {e : kz_E} {s : kz_S} (hC : kz_C d s) (hN : kz_N e s) {cs ss : Nat} (hcs : cs + 1 ≤ 601024) (hss : ss + 6 ≤ 7293034) (k : ∀ (d' : kz_D) (O' : Nat → Int64) (e' : kz_E) (s' : kz_S), kz_C d' s' → kz_N e' s' → ks_w E D 8 ((kz_W K z0 tk0 tv0 gk0 gv0 d0 x0 m0 c0 t0 k0 tk1 tv1 gk1 gv1 d1 d2 d3 x1 x2 m1 s0 s1 s2 s3 s4 t1 t2 n0 n1 k1 l0 l1 d' ++ kw_out K o0 O') ++ kz_V K a0 a1 a2 a3 a4 a5 a6 a7 a8 a9 a10 a11 a12 a13 e') [some (.ref b), some (.ref z0), some (.ref a0), some (.ref o0), some (.int (nI i)), none, none, none] (cs + 1) (ss + 6) 1248 []) : ks_w E D 8 ((kz_W K z0 tk0 tv0 gk0 gv0 d0 x0 m0 c0 t0 k0 tk1 tv1 gk1 gv1 d1 d2 d3 x1 x2 m1 s0 s1 s2 s3 s4 t1 t2 n0 n1 k1 l0 l1 d ++ kw_out K o0 O) ++ kz_V K a0 a1 a2 a3 a4 a5 a6 a7 a8 a9 a10 a11 a12 a13 e) [some (.ref b), some (.ref z0), some (.ref a0), some (.ref o0), some (.int (nI i)), none, none, none] cs ss 904 [] := by
  obtain ⟨fs, hfs⟩ := kz_V_0 K a0 a1 a2 a3 a4 a5 a6 a7 a8 a9 a10 a11 a12 a13 e
  refine ks_aload_n rfl rfl C d_Law_law_904 ?_
  refine ks_callSb C HH (g_Law_rollback l hNT D K z0 tk0 tv0 gk0 gv0 d0 x0 m0 c0 t0 k0 tk1 tv1 gk1 gv1 d1 d2 d3 x1 x2 m1 s0 s1 s2 s3 s4 t1 t2 n0 n1 k1 l0 l1 o0 O d s hC) yh_Law_rollback lk_Law_142 d_Law_law_905 rfl rfl ⟨by decide, by decide⟩ ⟨hcs, hss⟩ (by decide) (fun v w1 h => ?_)
  obtain ⟨d1_, O1_, rfl, rfl, hC1, hO⟩ := h
  refine ks_istore C (by decide) rfl d_Law_law_908 ?_
  refine ks_aload_n rfl rfl C d_Law_law_910 ?_
  refine ks_perm List.perm_append_comm ?_
  refine ks_callVb (ci := 9) (q0 := 0) C (g_Model_rollback l D K a0 a1 a2 a3 a4 a5 a6 a7 a8 a9 a10 a11 a12 a13 e s hN) yw_Model_rollback sel_Model_rollback lk_Law_144 rfl rfl hfs ⟨by decide, by decide⟩ ⟨hcs, hss⟩ rfl rfl (by decide) d_Law_law_911 (fun v w1 h => ?_)
  obtain ⟨e1_, rfl, rfl, hN1, hT⟩ := h
  refine ks_aload_n rfl rfl C d_Law_law_914 ?_
  obtain ⟨fs1, hfs1⟩ := kz_V_0 K a0 a1 a2 a3 a4 a5 a6 a7 a8 a9 a10 a11 a12 a13 e1_
  refine ks_callVb (ci := 9) (q0 := 0) C (g_Model_thrown l D K a0 a1 a2 a3 a4 a5 a6 a7 a8 a9 a10 a11 a12 a13 e1_) yw_Model_thrown sel_Model_thrown lk_Law_100 rfl rfl hfs1 ⟨by decide, by decide⟩ ⟨hcs, hss⟩ rfl rfl (by decide) d_Law_law_915 (fun v w1 h => ?_)
  obtain ⟨rfl, rfl⟩ := h
  refine ks_iload rfl C d_Law_law_918 ?_
  refine ks_icmpI_eq (tgt := 925) C (by decide) d_Law_law_920 (fun _ => ?_) (fun z => absurd (congrArg nI hT) z)
  refine ks_goto (tgt := 1248) C (by decide) d_Law_law_925 ?_
  refine ks_forget 5 (ks_forget 6 (ks_forget 7 ?_))
  exact ks_perm List.perm_append_comm (k d1_ O1_ e1_ _ hC1 hN1)
set_option maxRecDepth 100000 in
set_option maxHeartbeats 4000000 in
theorem lb_mark {E : ks_E} {l : Launch} {D : va_G} {K : Nat → ClassId} {z0 tk0 tv0 gk0 gv0 d0 x0 m0 c0 t0 k0 tk1 tv1 gk1 gv1 d1 d2 d3 x1 x2 m1 s0 s1 s2 s3 s4 t1 t2 n0 n1 k1 l0 l1 o0 a0 a1 a2 a3 a4 a5 a6 a7 a8 a9 a10 a11 a12 a13 b L i : Nat} {sc : Nat → Nat} (hNT : l.stackTraces = false) (C : ks_ok E l D (ks_T K) room_1 code 8 "KeyStoreLaw") (X : kl_X E b L (fun j => nI (sc j))) (HH : kl_H E) (hL : L ≤ 2048) (hsc : ∀ j, sc j < 4294967296) (hi : i + 4 ≤ L) {d : kz_D} {O : Nat → Int64} {e : kz_E} {s : kz_S} (hC : kz_C d s) (hN : kz_N e s) {cs ss : Nat} (hcs : cs + 1 ≤ 601024) (hss : ss + 6 ≤ 7293034) (k : ∀ (d' : kz_D) (O' : Nat → Int64) (e' : kz_E) (s' : kz_S), kz_C d' s' → kz_N e' s' → ks_w E D 8 ((kz_W K z0 tk0 tv0 gk0 gv0 d0 x0 m0 c0 t0 k0 tk1 tv1 gk1 gv1 d1 d2 d3 x1 x2 m1 s0 s1 s2 s3 s4 t1 t2 n0 n1 k1 l0 l1 d' ++ kw_out K o0 O') ++ kz_V K a0 a1 a2 a3 a4 a5 a6 a7 a8 a9 a10 a11 a12 a13 e') [some (.ref b), some (.ref z0), some (.ref a0), some (.ref o0), some (.int (nI i)), none, none, none] (cs + 1) (ss + 6) 1248 []) : ks_w E D 8 ((kz_W K z0 tk0 tv0 gk0 gv0 d0 x0 m0 c0 t0 k0 tk1 tv1 gk1 gv1 d1 d2 d3 x1 x2 m1 s0 s1 s2 s3 s4 t1 t2 n0 n1 k1 l0 l1 d ++ kw_out K o0 O) ++ kz_V K a0 a1 a2 a3 a4 a5 a6 a7 a8 a9 a10 a11 a12 a13 e) [some (.ref b), some (.ref z0), some (.ref a0), some (.ref o0), some (.int (nI i)), none, none, none] cs ss 928 [] := by
  obtain ⟨fs, hfs⟩ := kz_V_0 K a0 a1 a2 a3 a4 a5 a6 a7 a8 a9 a10 a11 a12 a13 e
  refine ks_aload_n rfl rfl C d_Law_law_928 ?_
  refine ks_aload_n rfl rfl C d_Law_law_929 ?_
  refine ks_callSb C HH (g_Law_mark l hNT D K z0 tk0 tv0 gk0 gv0 d0 x0 m0 c0 t0 k0 tk1 tv1 gk1 gv1 d1 d2 d3 x1 x2 m1 s0 s1 s2 s3 s4 t1 t2 n0 n1 k1 l0 l1 o0 O d s hC) yh_Law_mark lk_Law_145 d_Law_law_930 rfl rfl ⟨by decide, by decide⟩ ⟨hcs, hss⟩ (by decide) (fun v w1 h => ?_)
  obtain ⟨d1_, O1_, rfl, rfl, hC1, hO⟩ := h
  refine ks_istore C (by decide) rfl d_Law_law_933 ?_
  refine ks_aload_n rfl rfl C d_Law_law_935 ?_
  refine ks_perm List.perm_append_comm ?_
  refine ks_callVb (ci := 9) (q0 := 0) C (g_Model_mark l D K a0 a1 a2 a3 a4 a5 a6 a7 a8 a9 a10 a11 a12 a13 e s hN) yw_Model_mark sel_Model_mark lk_Law_147 rfl rfl hfs ⟨by decide, by decide⟩ ⟨hcs, hss⟩ rfl rfl (by decide) d_Law_law_936 (fun v w1 h => ?_)
  obtain ⟨e1_, x1_, rfl, rfl, hN1, hT, hA⟩ := h
  refine ks_istore C (by decide) rfl d_Law_law_939 ?_
  refine ks_aload_n rfl rfl C d_Law_law_941 ?_
  obtain ⟨fs1, hfs1⟩ := kz_V_0 K a0 a1 a2 a3 a4 a5 a6 a7 a8 a9 a10 a11 a12 a13 e1_
  refine ks_callVb (ci := 9) (q0 := 0) C (g_Model_thrown l D K a0 a1 a2 a3 a4 a5 a6 a7 a8 a9 a10 a11 a12 a13 e1_) yw_Model_thrown sel_Model_thrown lk_Law_100 rfl rfl hfs1 ⟨by decide, by decide⟩ ⟨hcs, hss⟩ rfl rfl (by decide) d_Law_law_942 (fun v w1 h => ?_)
  obtain ⟨rfl, rfl⟩ := h
  refine ks_iload rfl C d_Law_law_945 ?_
  refine ks_icmpI_eq (tgt := 952) C (by decide) d_Law_law_947 (fun _ => ?_) (fun z => absurd (congrArg nI hT) z)
  refine ks_iload rfl C d_Law_law_952 ?_
  refine ks_ifI_ne (tgt := 969) C (by decide) d_Law_law_954 (fun _ => ?_) (fun z => ?_)
  · refine ks_goto (tgt := 1248) C (by decide) d_Law_law_969 ?_
    refine ks_forget 5 (ks_forget 6 (ks_forget 7 ?_))
    exact ks_perm List.perm_append_comm (k d1_ O1_ e1_ _ hC1 hN1)
  · have hz : (kz_aMark s).1 = 0 := kl_0 (kl_cmark _) z
    refine ks_aload_n rfl rfl C d_Law_law_957 ?_
    refine ks_iconst (a := 0) rfl C d_Law_law_958 ?_
    refine ks_perm (pl_out _ _ _) ?_
    refine ks_lald C 0 3 rfl rfl (by decide) (by decide) d_Law_law_959 ?_
    refine ks_iload rfl C d_Law_law_960 ?_
    refine ks_i2l C d_Law_law_962 ?_
    refine ks_lcmp C d_Law_law_963 ?_
    refine ks_ifC_eq (tgt := 969) C (by decide) d_Law_law_964 (fun _ => ?_) (fun z => absurd (by rw [hO hz, hA hz]) z)
    refine ks_goto (tgt := 1248) C (by decide) d_Law_law_969 ?_
    refine ks_forget 5 (ks_forget 6 (ks_forget 7 ?_))
    exact ks_perm (pl_back _ _ _) (k d1_ O1_ e1_ _ hC1 hN1)
set_option maxRecDepth 100000 in
set_option maxHeartbeats 4000000 in
theorem lb_back {E : ks_E} {l : Launch} {D : va_G} {K : Nat → ClassId} {z0 tk0 tv0 gk0 gv0 d0 x0 m0 c0 t0 k0 tk1 tv1 gk1 gv1 d1 d2 d3 x1 x2 m1 s0 s1 s2 s3 s4 t1 t2 n0 n1 k1 l0 l1 o0 a0 a1 a2 a3 a4 a5 a6 a7 a8 a9 a10 a11 a12 a13 b L i : Nat} {sc : Nat → Nat} (hNT : l.stackTraces = false) (C : ks_ok E l D (ks_T K) room_1 code 8 "KeyStoreLaw") (X : kl_X E b L (fun j => nI (sc j))) (HH : kl_H E) (hL : L ≤ 2048) (hsc : ∀ j, sc j < 4294967296) (hi : i + 4 ≤ L) {d : kz_D} {O : Nat → Int64} {e : kz_E} {s : kz_S} (hC : kz_C d s) (hN : kz_N e s) {cs ss : Nat} (hcs : cs + 1 ≤ 601024) (hss : ss + 6 ≤ 7293034) (k : ∀ (d' : kz_D) (O' : Nat → Int64) (e' : kz_E) (s' : kz_S), kz_C d' s' → kz_N e' s' → ks_w E D 8 ((kz_W K z0 tk0 tv0 gk0 gv0 d0 x0 m0 c0 t0 k0 tk1 tv1 gk1 gv1 d1 d2 d3 x1 x2 m1 s0 s1 s2 s3 s4 t1 t2 n0 n1 k1 l0 l1 d' ++ kw_out K o0 O') ++ kz_V K a0 a1 a2 a3 a4 a5 a6 a7 a8 a9 a10 a11 a12 a13 e') [some (.ref b), some (.ref z0), some (.ref a0), some (.ref o0), some (.int (nI i)), none, none, none] (cs + 1) (ss + 6) 1248 []) : ks_w E D 8 ((kz_W K z0 tk0 tv0 gk0 gv0 d0 x0 m0 c0 t0 k0 tk1 tv1 gk1 gv1 d1 d2 d3 x1 x2 m1 s0 s1 s2 s3 s4 t1 t2 n0 n1 k1 l0 l1 d ++ kw_out K o0 O) ++ kz_V K a0 a1 a2 a3 a4 a5 a6 a7 a8 a9 a10 a11 a12 a13 e) [some (.ref b), some (.ref z0), some (.ref a0), some (.ref o0), some (.int (nI i)), none, none, none] cs ss 972 [] := by
  obtain ⟨fs, hfs⟩ := kz_V_0 K a0 a1 a2 a3 a4 a5 a6 a7 a8 a9 a10 a11 a12 a13 e
  refine ks_aload_n rfl rfl C d_Law_law_972 ?_
  refine ks_aload_n rfl rfl C d_Law_law_973 ?_
  refine ks_iload rfl C d_Law_law_974 ?_
  refine ks_iconst (a := 1) rfl C d_Law_law_976 ?_
  refine ks_iadd C d_Law_law_977 ?_
  refine ks_sld C X (by omega) hL d_Law_law_978 ?_
  refine ks_callSb C HH (g_Law_back l hNT D K z0 tk0 tv0 gk0 gv0 d0 x0 m0 c0 t0 k0 tk1 tv1 gk1 gv1 d1 d2 d3 x1 x2 m1 s0 s1 s2 s3 s4 t1 t2 n0 n1 k1 l0 l1 o0 O d s (sc (i + 1)) hC (hsc _)) yh_Law_back lk_Law_148 d_Law_law_979 rfl rfl ⟨by decide, by decide⟩ ⟨hcs, hss⟩ (by decide) (fun v w1 h => ?_)
  obtain ⟨d1_, O1_, rfl, rfl, hC1, hO⟩ := h
  refine ks_istore C (by decide) rfl d_Law_law_982 ?_
  refine ks_aload_n rfl rfl C d_Law_law_984 ?_
  refine ks_aload_n rfl rfl C d_Law_law_985 ?_
  refine ks_iload rfl C d_Law_law_986 ?_
  refine ks_iconst (a := 1) rfl C d_Law_law_988 ?_
  refine ks_iadd C d_Law_law_989 ?_
  refine ks_sld C X (by omega) hL d_Law_law_990 ?_
  refine ks_perm List.perm_append_comm ?_
  refine ks_callVb (ci := 9) (q0 := 0) C (g_Model_back l D K a0 a1 a2 a3 a4 a5 a6 a7 a8 a9 a10 a11 a12 a13 e s (sc (i + 1)) hN (hsc _)) yw_Model_back sel_Model_back lk_Law_151 rfl rfl hfs ⟨by decide, by decide⟩ ⟨hcs, hss⟩ rfl rfl (by decide) d_Law_law_991 (fun v w1 h => ?_)
  obtain ⟨e1_, rfl, rfl, hN1, hT⟩ := h
  refine ks_aload_n rfl rfl C d_Law_law_994 ?_
  obtain ⟨fs1, hfs1⟩ := kz_V_0 K a0 a1 a2 a3 a4 a5 a6 a7 a8 a9 a10 a11 a12 a13 e1_
  refine ks_callVb (ci := 9) (q0 := 0) C (g_Model_thrown l D K a0 a1 a2 a3 a4 a5 a6 a7 a8 a9 a10 a11 a12 a13 e1_) yw_Model_thrown sel_Model_thrown lk_Law_100 rfl rfl hfs1 ⟨by decide, by decide⟩ ⟨hcs, hss⟩ rfl rfl (by decide) d_Law_law_995 (fun v w1 h => ?_)
  obtain ⟨rfl, rfl⟩ := h
  refine ks_iload rfl C d_Law_law_998 ?_
  refine ks_icmpI_eq (tgt := 1005) C (by decide) d_Law_law_1000 (fun _ => ?_) (fun z => absurd (congrArg nI hT) z)
  refine ks_goto (tgt := 1248) C (by decide) d_Law_law_1005 ?_
  refine ks_forget 5 (ks_forget 6 (ks_forget 7 ?_))
  exact ks_perm List.perm_append_comm (k d1_ O1_ e1_ _ hC1 hN1)
set_option maxRecDepth 100000 in
set_option maxHeartbeats 4000000 in
theorem lb_keep {E : ks_E} {l : Launch} {D : va_G} {K : Nat → ClassId} {z0 tk0 tv0 gk0 gv0 d0 x0 m0 c0 t0 k0 tk1 tv1 gk1 gv1 d1 d2 d3 x1 x2 m1 s0 s1 s2 s3 s4 t1 t2 n0 n1 k1 l0 l1 o0 a0 a1 a2 a3 a4 a5 a6 a7 a8 a9 a10 a11 a12 a13 b L i : Nat} {sc : Nat → Nat} (hNT : l.stackTraces = false) (C : ks_ok E l D (ks_T K) room_1 code 8 "KeyStoreLaw") (X : kl_X E b L (fun j => nI (sc j))) (HH : kl_H E) (hL : L ≤ 2048) (hsc : ∀ j, sc j < 4294967296) (hi : i + 4 ≤ L) {d : kz_D} {O : Nat → Int64} {e : kz_E} {s : kz_S} (hC : kz_C d s) (hN : kz_N e s) {cs ss : Nat} (hcs : cs + 1 ≤ 601024) (hss : ss + 6 ≤ 7293034) (k : ∀ (d' : kz_D) (O' : Nat → Int64) (e' : kz_E) (s' : kz_S), kz_C d' s' → kz_N e' s' → ks_w E D 8 ((kz_W K z0 tk0 tv0 gk0 gv0 d0 x0 m0 c0 t0 k0 tk1 tv1 gk1 gv1 d1 d2 d3 x1 x2 m1 s0 s1 s2 s3 s4 t1 t2 n0 n1 k1 l0 l1 d' ++ kw_out K o0 O') ++ kz_V K a0 a1 a2 a3 a4 a5 a6 a7 a8 a9 a10 a11 a12 a13 e') [some (.ref b), some (.ref z0), some (.ref a0), some (.ref o0), some (.int (nI i)), none, none, none] (cs + 1) (ss + 6) 1248 []) : ks_w E D 8 ((kz_W K z0 tk0 tv0 gk0 gv0 d0 x0 m0 c0 t0 k0 tk1 tv1 gk1 gv1 d1 d2 d3 x1 x2 m1 s0 s1 s2 s3 s4 t1 t2 n0 n1 k1 l0 l1 d ++ kw_out K o0 O) ++ kz_V K a0 a1 a2 a3 a4 a5 a6 a7 a8 a9 a10 a11 a12 a13 e) [some (.ref b), some (.ref z0), some (.ref a0), some (.ref o0), some (.int (nI i)), none, none, none] cs ss 1008 [] := by
  obtain ⟨fs, hfs⟩ := kz_V_0 K a0 a1 a2 a3 a4 a5 a6 a7 a8 a9 a10 a11 a12 a13 e
  refine ks_aload_n rfl rfl C d_Law_law_1008 ?_
  refine ks_aload_n rfl rfl C d_Law_law_1009 ?_
  refine ks_iload rfl C d_Law_law_1010 ?_
  refine ks_iconst (a := 1) rfl C d_Law_law_1012 ?_
  refine ks_iadd C d_Law_law_1013 ?_
  refine ks_sld C X (by omega) hL d_Law_law_1014 ?_
  refine ks_callSb C HH (g_Law_keep l hNT D K z0 tk0 tv0 gk0 gv0 d0 x0 m0 c0 t0 k0 tk1 tv1 gk1 gv1 d1 d2 d3 x1 x2 m1 s0 s1 s2 s3 s4 t1 t2 n0 n1 k1 l0 l1 o0 O d s (sc (i + 1)) hC (hsc _)) yh_Law_keep lk_Law_152 d_Law_law_1015 rfl rfl ⟨by decide, by decide⟩ ⟨hcs, hss⟩ (by decide) (fun v w1 h => ?_)
  obtain ⟨d1_, O1_, rfl, rfl, hC1, hO⟩ := h
  refine ks_istore C (by decide) rfl d_Law_law_1018 ?_
  refine ks_aload_n rfl rfl C d_Law_law_1020 ?_
  refine ks_aload_n rfl rfl C d_Law_law_1021 ?_
  refine ks_iload rfl C d_Law_law_1022 ?_
  refine ks_iconst (a := 1) rfl C d_Law_law_1024 ?_
  refine ks_iadd C d_Law_law_1025 ?_
  refine ks_sld C X (by omega) hL d_Law_law_1026 ?_
  refine ks_perm List.perm_append_comm ?_
  refine ks_callVb (ci := 9) (q0 := 0) C (g_Model_keep l D K a0 a1 a2 a3 a4 a5 a6 a7 a8 a9 a10 a11 a12 a13 e s (sc (i + 1)) hN (hsc _)) yw_Model_keep sel_Model_keep lk_Law_154 rfl rfl hfs ⟨by decide, by decide⟩ ⟨hcs, hss⟩ rfl rfl (by decide) d_Law_law_1027 (fun v w1 h => ?_)
  obtain ⟨e1_, rfl, rfl, hN1, hT⟩ := h
  refine ks_aload_n rfl rfl C d_Law_law_1030 ?_
  obtain ⟨fs1, hfs1⟩ := kz_V_0 K a0 a1 a2 a3 a4 a5 a6 a7 a8 a9 a10 a11 a12 a13 e1_
  refine ks_callVb (ci := 9) (q0 := 0) C (g_Model_thrown l D K a0 a1 a2 a3 a4 a5 a6 a7 a8 a9 a10 a11 a12 a13 e1_) yw_Model_thrown sel_Model_thrown lk_Law_100 rfl rfl hfs1 ⟨by decide, by decide⟩ ⟨hcs, hss⟩ rfl rfl (by decide) d_Law_law_1031 (fun v w1 h => ?_)
  obtain ⟨rfl, rfl⟩ := h
  refine ks_iload rfl C d_Law_law_1034 ?_
  refine ks_icmpI_eq (tgt := 1041) C (by decide) d_Law_law_1036 (fun _ => ?_) (fun z => absurd (congrArg nI hT) z)
  refine ks_goto (tgt := 1248) C (by decide) d_Law_law_1041 ?_
  refine ks_forget 5 (ks_forget 6 (ks_forget 7 ?_))
  exact ks_perm List.perm_append_comm (k d1_ O1_ e1_ _ hC1 hN1)
set_option maxRecDepth 100000 in
set_option maxHeartbeats 4000000 in
theorem lb_power {E : ks_E} {l : Launch} {D : va_G} {K : Nat → ClassId} {z0 tk0 tv0 gk0 gv0 d0 x0 m0 c0 t0 k0 tk1 tv1 gk1 gv1 d1 d2 d3 x1 x2 m1 s0 s1 s2 s3 s4 t1 t2 n0 n1 k1 l0 l1 o0 a0 a1 a2 a3 a4 a5 a6 a7 a8 a9 a10 a11 a12 a13 b L i : Nat} {sc : Nat → Nat} (hNT : l.stackTraces = false) (C : ks_ok E l D (ks_T K) room_1 code 8 "KeyStoreLaw") (X : kl_X E b L (fun j => nI (sc j))) (HH : kl_H E) (hL : L ≤ 2048) (hsc : ∀ j, sc j < 4294967296) (hi : i + 4 ≤ L) {d : kz_D} {O : Nat → Int64} {e : kz_E} {s : kz_S} (hC : kz_C d s) (hN : kz_N e s) {cs ss : Nat} (hcs : cs + 1 ≤ 601024) (hss : ss + 6 ≤ 7293034) (k : ∀ (d' : kz_D) (O' : Nat → Int64) (e' : kz_E) (s' : kz_S), kz_C d' s' → kz_N e' s' → ks_w E D 8 ((kz_W K z0 tk0 tv0 gk0 gv0 d0 x0 m0 c0 t0 k0 tk1 tv1 gk1 gv1 d1 d2 d3 x1 x2 m1 s0 s1 s2 s3 s4 t1 t2 n0 n1 k1 l0 l1 d' ++ kw_out K o0 O') ++ kz_V K a0 a1 a2 a3 a4 a5 a6 a7 a8 a9 a10 a11 a12 a13 e') [some (.ref b), some (.ref z0), some (.ref a0), some (.ref o0), some (.int (nI i)), none, none, none] (cs + 1) (ss + 6) 1248 []) : ks_w E D 8 ((kz_W K z0 tk0 tv0 gk0 gv0 d0 x0 m0 c0 t0 k0 tk1 tv1 gk1 gv1 d1 d2 d3 x1 x2 m1 s0 s1 s2 s3 s4 t1 t2 n0 n1 k1 l0 l1 d ++ kw_out K o0 O) ++ kz_V K a0 a1 a2 a3 a4 a5 a6 a7 a8 a9 a10 a11 a12 a13 e) [some (.ref b), some (.ref z0), some (.ref a0), some (.ref o0), some (.int (nI i)), none, none, none] cs ss 1044 [] := by
  obtain ⟨fs, hfs⟩ := kz_V_0 K a0 a1 a2 a3 a4 a5 a6 a7 a8 a9 a10 a11 a12 a13 e
  refine ks_aload_n rfl rfl C d_Law_law_1044 ?_
  refine ks_aload_n rfl rfl C d_Law_law_1045 ?_
  refine ks_iload rfl C d_Law_law_1046 ?_
  refine ks_iconst (a := 1) rfl C d_Law_law_1048 ?_
  refine ks_iadd C d_Law_law_1049 ?_
  refine ks_sld C X (by omega) hL d_Law_law_1050 ?_
  refine ks_aload_n rfl rfl C d_Law_law_1051 ?_
  refine ks_iload rfl C d_Law_law_1052 ?_
  refine ks_iconst (a := 2) rfl C d_Law_law_1054 ?_
  refine ks_iadd C d_Law_law_1055 ?_
  refine ks_sld C X (by omega) hL d_Law_law_1056 ?_
  refine ks_aload_n rfl rfl C d_Law_law_1057 ?_
  refine ks_iload rfl C d_Law_law_1058 ?_
  refine ks_iconst (a := 3) rfl C d_Law_law_1060 ?_
  refine ks_iadd C d_Law_law_1061 ?_
  refine ks_sld C X (by omega) hL d_Law_law_1062 ?_
  refine ks_callSb C HH (g_Law_power l hNT D K z0 tk0 tv0 gk0 gv0 d0 x0 m0 c0 t0 k0 tk1 tv1 gk1 gv1 d1 d2 d3 x1 x2 m1 s0 s1 s2 s3 s4 t1 t2 n0 n1 k1 l0 l1 o0 O d s (sc (i + 1)) (sc (i + 2)) (sc (i + 3)) hC (hsc _) (hsc _) (hsc _)) yh_Law_power lk_Law_155 d_Law_law_1063 rfl rfl ⟨by decide, by decide⟩ ⟨hcs, hss⟩ (by decide) (fun v w1 h => ?_)
  obtain ⟨d1_, O1_, rfl, rfl, hC1, hO⟩ := h
  refine ks_istore C (by decide) rfl d_Law_law_1066 ?_
  refine ks_aload_n rfl rfl C d_Law_law_1068 ?_
  refine ks_aload_n rfl rfl C d_Law_law_1069 ?_
  refine ks_iload rfl C d_Law_law_1070 ?_
  refine ks_iconst (a := 1) rfl C d_Law_law_1072 ?_
  refine ks_iadd C d_Law_law_1073 ?_
  refine ks_sld C X (by omega) hL d_Law_law_1074 ?_
  refine ks_aload_n rfl rfl C d_Law_law_1075 ?_
  refine ks_iload rfl C d_Law_law_1076 ?_
  refine ks_iconst (a := 2) rfl C d_Law_law_1078 ?_
  refine ks_iadd C d_Law_law_1079 ?_
  refine ks_sld C X (by omega) hL d_Law_law_1080 ?_
  refine ks_aload_n rfl rfl C d_Law_law_1081 ?_
  refine ks_iload rfl C d_Law_law_1082 ?_
  refine ks_iconst (a := 3) rfl C d_Law_law_1084 ?_
  refine ks_iadd C d_Law_law_1085 ?_
  refine ks_sld C X (by omega) hL d_Law_law_1086 ?_
  refine ks_perm List.perm_append_comm ?_
  refine ks_callVb (ci := 9) (q0 := 0) C (g_Model_power l D K a0 a1 a2 a3 a4 a5 a6 a7 a8 a9 a10 a11 a12 a13 e s (sc (i + 1)) (sc (i + 2)) (sc (i + 3)) hN (hsc _) (hsc _) (hsc _)) yw_Model_power sel_Model_power lk_Law_158 rfl rfl hfs ⟨by decide, by decide⟩ ⟨hcs, hss⟩ rfl rfl (by decide) d_Law_law_1087 (fun v w1 h => ?_)
  obtain ⟨e1_, rfl, rfl, hN1, hT⟩ := h
  refine ks_aload_n rfl rfl C d_Law_law_1090 ?_
  obtain ⟨fs1, hfs1⟩ := kz_V_0 K a0 a1 a2 a3 a4 a5 a6 a7 a8 a9 a10 a11 a12 a13 e1_
  refine ks_callVb (ci := 9) (q0 := 0) C (g_Model_thrown l D K a0 a1 a2 a3 a4 a5 a6 a7 a8 a9 a10 a11 a12 a13 e1_) yw_Model_thrown sel_Model_thrown lk_Law_100 rfl rfl hfs1 ⟨by decide, by decide⟩ ⟨hcs, hss⟩ rfl rfl (by decide) d_Law_law_1091 (fun v w1 h => ?_)
  obtain ⟨rfl, rfl⟩ := h
  refine ks_iload rfl C d_Law_law_1094 ?_
  refine ks_icmpI_eq (tgt := 1101) C (by decide) d_Law_law_1096 (fun _ => ?_) (fun z => absurd (congrArg nI hT) z)
  refine ks_goto (tgt := 1248) C (by decide) d_Law_law_1101 ?_
  refine ks_forget 5 (ks_forget 6 (ks_forget 7 ?_))
  exact ks_perm List.perm_append_comm (k d1_ O1_ e1_ _ hC1 hN1)
set_option maxRecDepth 100000 in
set_option maxHeartbeats 4000000 in
theorem lb_reopen {E : ks_E} {l : Launch} {D : va_G} {K : Nat → ClassId} {z0 tk0 tv0 gk0 gv0 d0 x0 m0 c0 t0 k0 tk1 tv1 gk1 gv1 d1 d2 d3 x1 x2 m1 s0 s1 s2 s3 s4 t1 t2 n0 n1 k1 l0 l1 o0 a0 a1 a2 a3 a4 a5 a6 a7 a8 a9 a10 a11 a12 a13 b L i : Nat} {sc : Nat → Nat} (hNT : l.stackTraces = false) (C : ks_ok E l D (ks_T K) room_1 code 8 "KeyStoreLaw") (X : kl_X E b L (fun j => nI (sc j))) (HH : kl_H E) (hL : L ≤ 2048) (hsc : ∀ j, sc j < 4294967296) (hi : i + 4 ≤ L) {d : kz_D} {O : Nat → Int64} {e : kz_E} {s : kz_S} (hC : kz_C d s) (hN : kz_N e s) {cs ss : Nat} (hcs : cs + 1 ≤ 601024) (hss : ss + 6 ≤ 7293034) (k : ∀ (d' : kz_D) (O' : Nat → Int64) (e' : kz_E) (s' : kz_S), kz_C d' s' → kz_N e' s' → ks_w E D 8 ((kz_W K z0 tk0 tv0 gk0 gv0 d0 x0 m0 c0 t0 k0 tk1 tv1 gk1 gv1 d1 d2 d3 x1 x2 m1 s0 s1 s2 s3 s4 t1 t2 n0 n1 k1 l0 l1 d' ++ kw_out K o0 O') ++ kz_V K a0 a1 a2 a3 a4 a5 a6 a7 a8 a9 a10 a11 a12 a13 e') [some (.ref b), some (.ref z0), some (.ref a0), some (.ref o0), some (.int (nI i)), none, none, none] (cs + 1) (ss + 6) 1248 []) : ks_w E D 8 ((kz_W K z0 tk0 tv0 gk0 gv0 d0 x0 m0 c0 t0 k0 tk1 tv1 gk1 gv1 d1 d2 d3 x1 x2 m1 s0 s1 s2 s3 s4 t1 t2 n0 n1 k1 l0 l1 d ++ kw_out K o0 O) ++ kz_V K a0 a1 a2 a3 a4 a5 a6 a7 a8 a9 a10 a11 a12 a13 e) [some (.ref b), some (.ref z0), some (.ref a0), some (.ref o0), some (.int (nI i)), none, none, none] cs ss 1104 [] := by
  obtain ⟨fs, hfs⟩ := kz_V_0 K a0 a1 a2 a3 a4 a5 a6 a7 a8 a9 a10 a11 a12 a13 e
  refine ks_aload_n rfl rfl C d_Law_law_1104 ?_
  refine ks_aload_n rfl rfl C d_Law_law_1105 ?_
  refine ks_callSb C HH (g_Law_reopen l hNT D K z0 tk0 tv0 gk0 gv0 d0 x0 m0 c0 t0 k0 tk1 tv1 gk1 gv1 d1 d2 d3 x1 x2 m1 s0 s1 s2 s3 s4 t1 t2 n0 n1 k1 l0 l1 o0 O d s hC) yh_Law_reopen lk_Law_159 d_Law_law_1106 rfl rfl ⟨by decide, by decide⟩ ⟨hcs, hss⟩ (by decide) (fun v w1 h => ?_)
  obtain ⟨d1_, O1_, rfl, rfl, hC1, hO⟩ := h
  refine ks_istore C (by decide) rfl d_Law_law_1109 ?_
  refine ks_aload_n rfl rfl C d_Law_law_1111 ?_
  refine ks_perm List.perm_append_comm ?_
  refine ks_callVb (ci := 9) (q0 := 0) C (g_Model_reopen l D K a0 a1 a2 a3 a4 a5 a6 a7 a8 a9 a10 a11 a12 a13 e s hN) yw_Model_reopen sel_Model_reopen lk_Law_161 rfl rfl hfs ⟨by decide, by decide⟩ ⟨hcs, hss⟩ rfl rfl (by decide) d_Law_law_1112 (fun v w1 h => ?_)
  obtain ⟨e1_, x1_, rfl, rfl, hN1, hT, hA⟩ := h
  refine ks_istore C (by decide) rfl d_Law_law_1115 ?_
  refine ks_aload_n rfl rfl C d_Law_law_1117 ?_
  obtain ⟨fs1, hfs1⟩ := kz_V_0 K a0 a1 a2 a3 a4 a5 a6 a7 a8 a9 a10 a11 a12 a13 e1_
  refine ks_callVb (ci := 9) (q0 := 0) C (g_Model_thrown l D K a0 a1 a2 a3 a4 a5 a6 a7 a8 a9 a10 a11 a12 a13 e1_) yw_Model_thrown sel_Model_thrown lk_Law_100 rfl rfl hfs1 ⟨by decide, by decide⟩ ⟨hcs, hss⟩ rfl rfl (by decide) d_Law_law_1118 (fun v w1 h => ?_)
  obtain ⟨rfl, rfl⟩ := h
  refine ks_iload rfl C d_Law_law_1121 ?_
  refine ks_icmpI_eq (tgt := 1128) C (by decide) d_Law_law_1123 (fun _ => ?_) (fun z => absurd (congrArg nI hT) z)
  refine ks_iload rfl C d_Law_law_1128 ?_
  refine ks_ifI_ne (tgt := 1145) C (by decide) d_Law_law_1130 (fun _ => ?_) (fun z => ?_)
  · refine ks_goto (tgt := 1248) C (by decide) d_Law_law_1145 ?_
    refine ks_forget 5 (ks_forget 6 (ks_forget 7 ?_))
    exact ks_perm List.perm_append_comm (k d1_ O1_ e1_ _ hC1 hN1)
  · have hz : (kz_aReopen s).1 = 0 := kl_0 (kl_creopen _) z
    refine ks_aload_n rfl rfl C d_Law_law_1133 ?_
    refine ks_iconst (a := 0) rfl C d_Law_law_1134 ?_
    refine ks_perm (pl_out _ _ _) ?_
    refine ks_lald C 0 3 rfl rfl (by decide) (by decide) d_Law_law_1135 ?_
    refine ks_iload rfl C d_Law_law_1136 ?_
    refine ks_i2l C d_Law_law_1138 ?_
    refine ks_lcmp C d_Law_law_1139 ?_
    refine ks_ifC_eq (tgt := 1145) C (by decide) d_Law_law_1140 (fun _ => ?_) (fun z => absurd (by rw [hO hz, hA hz]) z)
    refine ks_goto (tgt := 1248) C (by decide) d_Law_law_1145 ?_
    refine ks_forget 5 (ks_forget 6 (ks_forget 7 ?_))
    exact ks_perm (pl_back _ _ _) (k d1_ O1_ e1_ _ hC1 hN1)
set_option maxRecDepth 100000 in
set_option maxHeartbeats 4000000 in
theorem lb_told {E : ks_E} {l : Launch} {D : va_G} {K : Nat → ClassId} {z0 tk0 tv0 gk0 gv0 d0 x0 m0 c0 t0 k0 tk1 tv1 gk1 gv1 d1 d2 d3 x1 x2 m1 s0 s1 s2 s3 s4 t1 t2 n0 n1 k1 l0 l1 o0 a0 a1 a2 a3 a4 a5 a6 a7 a8 a9 a10 a11 a12 a13 b L i : Nat} {sc : Nat → Nat} (hNT : l.stackTraces = false) (C : ks_ok E l D (ks_T K) room_1 code 8 "KeyStoreLaw") (X : kl_X E b L (fun j => nI (sc j))) (HH : kl_H E) (hL : L ≤ 2048) (hsc : ∀ j, sc j < 4294967296) (hi : i + 4 ≤ L) {d : kz_D} {O : Nat → Int64} {e : kz_E} {s : kz_S} (hC : kz_C d s) (hN : kz_N e s) {cs ss : Nat} (hcs : cs + 1 ≤ 601024) (hss : ss + 6 ≤ 7293034) (k : ∀ (d' : kz_D) (O' : Nat → Int64) (e' : kz_E) (s' : kz_S), kz_C d' s' → kz_N e' s' → ks_w E D 8 ((kz_W K z0 tk0 tv0 gk0 gv0 d0 x0 m0 c0 t0 k0 tk1 tv1 gk1 gv1 d1 d2 d3 x1 x2 m1 s0 s1 s2 s3 s4 t1 t2 n0 n1 k1 l0 l1 d' ++ kw_out K o0 O') ++ kz_V K a0 a1 a2 a3 a4 a5 a6 a7 a8 a9 a10 a11 a12 a13 e') [some (.ref b), some (.ref z0), some (.ref a0), some (.ref o0), some (.int (nI i)), none, none, none] (cs + 1) (ss + 6) 1248 []) : ks_w E D 8 ((kz_W K z0 tk0 tv0 gk0 gv0 d0 x0 m0 c0 t0 k0 tk1 tv1 gk1 gv1 d1 d2 d3 x1 x2 m1 s0 s1 s2 s3 s4 t1 t2 n0 n1 k1 l0 l1 d ++ kw_out K o0 O) ++ kz_V K a0 a1 a2 a3 a4 a5 a6 a7 a8 a9 a10 a11 a12 a13 e) [some (.ref b), some (.ref z0), some (.ref a0), some (.ref o0), some (.int (nI i)), none, none, none] cs ss 1148 [] := by
  obtain ⟨fs, hfs⟩ := kz_V_0 K a0 a1 a2 a3 a4 a5 a6 a7 a8 a9 a10 a11 a12 a13 e
  refine ks_aload_n rfl rfl C d_Law_law_1148 ?_
  refine ks_aload_n rfl rfl C d_Law_law_1149 ?_
  refine ks_iload rfl C d_Law_law_1150 ?_
  refine ks_iconst (a := 1) rfl C d_Law_law_1152 ?_
  refine ks_iadd C d_Law_law_1153 ?_
  refine ks_sld C X (by omega) hL d_Law_law_1154 ?_
  refine ks_aload_n rfl rfl C d_Law_law_1155 ?_
  refine ks_callSb C HH (g_Law_told l hNT D K z0 tk0 tv0 gk0 gv0 d0 x0 m0 c0 t0 k0 tk1 tv1 gk1 gv1 d1 d2 d3 x1 x2 m1 s0 s1 s2 s3 s4 t1 t2 n0 n1 k1 l0 l1 o0 O d s (sc (i + 1)) hC (hsc _)) yh_Law_told lk_Law_162 d_Law_law_1156 rfl rfl ⟨by decide, by decide⟩ ⟨hcs, hss⟩ (by decide) (fun v w1 h => ?_)
  obtain ⟨d1_, O1_, rfl, rfl, hC1, hO⟩ := h
  refine ks_istore C (by decide) rfl d_Law_law_1159 ?_
  refine ks_aload_n rfl rfl C d_Law_law_1161 ?_
  refine ks_aload_n rfl rfl C d_Law_law_1162 ?_
  refine ks_iload rfl C d_Law_law_1163 ?_
  refine ks_iconst (a := 1) rfl C d_Law_law_1165 ?_
  refine ks_iadd C d_Law_law_1166 ?_
  refine ks_sld C X (by omega) hL d_Law_law_1167 ?_
  refine ks_perm List.perm_append_comm ?_
  refine ks_callVb (ci := 9) (q0 := 0) C (g_Model_told l D K a0 a1 a2 a3 a4 a5 a6 a7 a8 a9 a10 a11 a12 a13 e s (sc (i + 1)) hN (hsc _)) yw_Model_told sel_Model_told lk_Law_164 rfl rfl hfs ⟨by decide, by decide⟩ ⟨hcs, hss⟩ rfl rfl (by decide) d_Law_law_1168 (fun v w1 h => ?_)
  obtain ⟨e1_, x1_, rfl, rfl, hN1, hT, hA⟩ := h
  refine ks_istore C (by decide) rfl d_Law_law_1171 ?_
  refine ks_aload_n rfl rfl C d_Law_law_1173 ?_
  obtain ⟨fs1, hfs1⟩ := kz_V_0 K a0 a1 a2 a3 a4 a5 a6 a7 a8 a9 a10 a11 a12 a13 e1_
  refine ks_callVb (ci := 9) (q0 := 0) C (g_Model_thrown l D K a0 a1 a2 a3 a4 a5 a6 a7 a8 a9 a10 a11 a12 a13 e1_) yw_Model_thrown sel_Model_thrown lk_Law_100 rfl rfl hfs1 ⟨by decide, by decide⟩ ⟨hcs, hss⟩ rfl rfl (by decide) d_Law_law_1174 (fun v w1 h => ?_)
  obtain ⟨rfl, rfl⟩ := h
  refine ks_iload rfl C d_Law_law_1177 ?_
  refine ks_icmpI_eq (tgt := 1184) C (by decide) d_Law_law_1179 (fun _ => ?_) (fun z => absurd (congrArg nI hT) z)
  refine ks_iload rfl C d_Law_law_1184 ?_
  refine ks_ifI_ne (tgt := 1201) C (by decide) d_Law_law_1186 (fun _ => ?_) (fun z => ?_)
  · refine ks_goto (tgt := 1248) C (by decide) d_Law_law_1201 ?_
    refine ks_forget 5 (ks_forget 6 (ks_forget 7 ?_))
    exact ks_perm List.perm_append_comm (k d1_ O1_ e1_ _ hC1 hN1)
  · have hz : (kz_aTold (sc (i + 1)) s).1 = 0 := kl_0 (kl_ctold _) z
    refine ks_aload_n rfl rfl C d_Law_law_1189 ?_
    refine ks_iconst (a := 0) rfl C d_Law_law_1190 ?_
    refine ks_perm (pl_out _ _ _) ?_
    refine ks_lald C 0 3 rfl rfl (by decide) (by decide) d_Law_law_1191 ?_
    refine ks_iload rfl C d_Law_law_1192 ?_
    refine ks_i2l C d_Law_law_1194 ?_
    refine ks_lcmp C d_Law_law_1195 ?_
    refine ks_ifC_eq (tgt := 1201) C (by decide) d_Law_law_1196 (fun _ => ?_) (fun z => absurd (by rw [hO hz, hA hz]) z)
    refine ks_goto (tgt := 1248) C (by decide) d_Law_law_1201 ?_
    refine ks_forget 5 (ks_forget 6 (ks_forget 7 ?_))
    exact ks_perm (pl_back _ _ _) (k d1_ O1_ e1_ _ hC1 hN1)
set_option maxRecDepth 100000 in
set_option maxHeartbeats 4000000 in
theorem lb_check {E : ks_E} {l : Launch} {D : va_G} {K : Nat → ClassId} {z0 tk0 tv0 gk0 gv0 d0 x0 m0 c0 t0 k0 tk1 tv1 gk1 gv1 d1 d2 d3 x1 x2 m1 s0 s1 s2 s3 s4 t1 t2 n0 n1 k1 l0 l1 o0 a0 a1 a2 a3 a4 a5 a6 a7 a8 a9 a10 a11 a12 a13 b L i : Nat} {sc : Nat → Nat} (hNT : l.stackTraces = false) (C : ks_ok E l D (ks_T K) room_1 code 8 "KeyStoreLaw") (X : kl_X E b L (fun j => nI (sc j))) (HH : kl_H E) (hL : L ≤ 2048) (hsc : ∀ j, sc j < 4294967296) (hi : i + 4 ≤ L) {d : kz_D} {O : Nat → Int64} {e : kz_E} {s : kz_S} (hC : kz_C d s) (hN : kz_N e s) {cs ss : Nat} (hcs : cs + 1 ≤ 601024) (hss : ss + 6 ≤ 7293034) (k : ∀ (d' : kz_D) (O' : Nat → Int64) (e' : kz_E) (s' : kz_S), kz_C d' s' → kz_N e' s' → ks_w E D 8 ((kz_W K z0 tk0 tv0 gk0 gv0 d0 x0 m0 c0 t0 k0 tk1 tv1 gk1 gv1 d1 d2 d3 x1 x2 m1 s0 s1 s2 s3 s4 t1 t2 n0 n1 k1 l0 l1 d' ++ kw_out K o0 O') ++ kz_V K a0 a1 a2 a3 a4 a5 a6 a7 a8 a9 a10 a11 a12 a13 e') [some (.ref b), some (.ref z0), some (.ref a0), some (.ref o0), some (.int (nI i)), none, none, none] (cs + 1) (ss + 6) 1248 []) : ks_w E D 8 ((kz_W K z0 tk0 tv0 gk0 gv0 d0 x0 m0 c0 t0 k0 tk1 tv1 gk1 gv1 d1 d2 d3 x1 x2 m1 s0 s1 s2 s3 s4 t1 t2 n0 n1 k1 l0 l1 d ++ kw_out K o0 O) ++ kz_V K a0 a1 a2 a3 a4 a5 a6 a7 a8 a9 a10 a11 a12 a13 e) [some (.ref b), some (.ref z0), some (.ref a0), some (.ref o0), some (.int (nI i)), none, none, none] cs ss 1204 [] := by
  obtain ⟨fs, hfs⟩ := kz_V_0 K a0 a1 a2 a3 a4 a5 a6 a7 a8 a9 a10 a11 a12 a13 e
  refine ks_aload_n rfl rfl C d_Law_law_1204 ?_
  refine ks_aload_n rfl rfl C d_Law_law_1205 ?_
  refine ks_callSb C HH (g_Law_check l hNT D K z0 tk0 tv0 gk0 gv0 d0 x0 m0 c0 t0 k0 tk1 tv1 gk1 gv1 d1 d2 d3 x1 x2 m1 s0 s1 s2 s3 s4 t1 t2 n0 n1 k1 l0 l1 o0 O d s hC) yh_Law_check lk_Law_165 d_Law_law_1206 rfl rfl ⟨by decide, by decide⟩ ⟨hcs, hss⟩ (by decide) (fun v w1 h => ?_)
  obtain ⟨d1_, O1_, rfl, rfl, hC1, hO⟩ := h
  refine ks_istore C (by decide) rfl d_Law_law_1209 ?_
  refine ks_aload_n rfl rfl C d_Law_law_1211 ?_
  refine ks_perm List.perm_append_comm ?_
  refine ks_callVb (ci := 9) (q0 := 0) C (g_Model_check l D K a0 a1 a2 a3 a4 a5 a6 a7 a8 a9 a10 a11 a12 a13 e s hN) yw_Model_check sel_Model_check lk_Law_167 rfl rfl hfs ⟨by decide, by decide⟩ ⟨hcs, hss⟩ rfl rfl (by decide) d_Law_law_1212 (fun v w1 h => ?_)
  obtain ⟨e1_, x1_, rfl, rfl, hN1, hT, hA⟩ := h
  refine ks_istore C (by decide) rfl d_Law_law_1215 ?_
  refine ks_aload_n rfl rfl C d_Law_law_1217 ?_
  obtain ⟨fs1, hfs1⟩ := kz_V_0 K a0 a1 a2 a3 a4 a5 a6 a7 a8 a9 a10 a11 a12 a13 e1_
  refine ks_callVb (ci := 9) (q0 := 0) C (g_Model_thrown l D K a0 a1 a2 a3 a4 a5 a6 a7 a8 a9 a10 a11 a12 a13 e1_) yw_Model_thrown sel_Model_thrown lk_Law_100 rfl rfl hfs1 ⟨by decide, by decide⟩ ⟨hcs, hss⟩ rfl rfl (by decide) d_Law_law_1218 (fun v w1 h => ?_)
  obtain ⟨rfl, rfl⟩ := h
  refine ks_iload rfl C d_Law_law_1221 ?_
  refine ks_icmpI_eq (tgt := 1228) C (by decide) d_Law_law_1223 (fun _ => ?_) (fun z => absurd (congrArg nI hT) z)
  refine ks_iload rfl C d_Law_law_1228 ?_
  refine ks_ifI_ne (tgt := 1245) C (by decide) d_Law_law_1230 (fun _ => ?_) (fun z => ?_)
  · refine ks_goto (tgt := 1248) C (by decide) d_Law_law_1245 ?_
    refine ks_forget 5 (ks_forget 6 (ks_forget 7 ?_))
    exact ks_perm List.perm_append_comm (k d1_ O1_ e1_ _ hC1 hN1)
  · have hz : (kz_aCheck s).1 = 0 := kl_0 (kl_ccheck _) z
    refine ks_aload_n rfl rfl C d_Law_law_1233 ?_
    refine ks_iconst (a := 0) rfl C d_Law_law_1234 ?_
    refine ks_perm (pl_out _ _ _) ?_
    refine ks_lald C 0 3 rfl rfl (by decide) (by decide) d_Law_law_1235 ?_
    refine ks_iload rfl C d_Law_law_1236 ?_
    refine ks_i2l C d_Law_law_1238 ?_
    refine ks_lcmp C d_Law_law_1239 ?_
    refine ks_ifC_eq (tgt := 1245) C (by decide) d_Law_law_1240 (fun _ => ?_) (fun z => absurd (by rw [hO hz, hA hz]) z)
    refine ks_goto (tgt := 1248) C (by decide) d_Law_law_1245 ?_
    refine ks_forget 5 (ks_forget 6 (ks_forget 7 ?_))
    exact ks_perm (pl_back _ _ _) (k d1_ O1_ e1_ _ hC1 hN1)
