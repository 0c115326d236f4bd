/-! contracts of the reference: rows, reading -/
theorem km_room_0 {off : Bool} {now n most : Nat} (h : km_room off now n most = 0) : n ≤ most ∧ off = false ∧ now + n ≤ 8448 := by
  unfold km_room at h
  split at h
  · cases h
  · split at h
    · cases h
    · rename_i h1 h2
      refine ⟨by omega, ?_, by omega⟩
      cases off
      · rfl
      · exact absurd (Or.inl rfl) h2
def km_wd (off : Bool) (R : Nat → UInt8) (len : Nat) (w : Int64) (n : Nat) : (Nat → UInt8) × Nat := if km_room off len n 8 = 0 then kv_app w n R (if n = 0 then 0 else len) else (R, len)
section KSN
variable {E : ks_E} {l0 : Launch} {D : va_G} {tys : List (ClassId × FieldType)} {R0 : Room} {cc : ByteArray} {nL : Nat} {own : String} {ws : va_W} {lo : List (Option Value)} {cs ss pc : Nat} {st : List Value}
theorem ks_isubM {a : Nat} (C : ks_ok E l0 D tys R0 cc nL own) (hd : decode cc pc = .ok (.isub, 1)) (k : ks_w E D nL ws lo cs ss (pc + 1) (.int (nI (a + 4294967295)) :: st)) : ks_w E D nL ws lo cs ss pc (.int (nI 1) :: .int (nI a) :: st) := ks_isubI C hd (by
  have e : nI a - nI 1 = nI (a + 4294967295) := by rw [← nI_add, Int32.sub_eq_add_neg]; rfl
  rw [e]; exact k)
end KSN
set_option maxRecDepth 100000 in
set_option maxHeartbeats 4000000 in
theorem c_Model_thrown (l : Launch) (D : va_G) (K : Nat → ClassId) (a0 a1 a2 a3 a4 a5 a6 a7 a8 a9 a10 a11 a12 a13 : Nat) (TO PL KS VS MV : Nat → Nat) (Y : Nat → UInt8) (LI MY : Nat → Nat) (TR : Nat → Int64) (KY VY FK FV : Nat → UInt8) (rn us kn vn fkn fvn mk : Nat) (off opn fnd : Bool) (wh af th : Nat) : ks_M l D (ks_T K) (ks_R 0) y_Model_thrown b_Model_thrown 1 (some .int) [.ref a0] (kw_model K a0 a1 a2 a3 a4 a5 a6 a7 a8 a9 a10 a11 a12 a13 TO PL KS VS MV Y LI MY TR KY VY FK FV rn us kn vn fkn fvn mk off opn fnd wh af th) (ks_f (some (.int (nI th))) (kw_model K a0 a1 a2 a3 a4 a5 a6 a7 a8 a9 a10 a11 a12 a13 TO PL KS VS MV Y LI MY TR KY VY FK FV rn us kn vn fkn fvn mk off opn fnd wh af th)) := by
  refine ks_M.of 0 (by decide) (Nat.le_of_ble_eq_true rfl) ?_
  intro E C Z
  refine ks_aload_n rfl rfl C d_Model_thrown_0 ?_
  refine ks_get (k := 25) C 0 9 in_Model rfl (by decide) fk_Model_56 rfl rfl rfl d_Model_thrown_1 ?_
  exact ks_iret C Z rfl rfl d_Model_thrown_4 rfl rfl ⟨rfl, rfl⟩
set_option maxRecDepth 100000 in
set_option maxHeartbeats 4000000 in
theorem c_Model_room_k (l : Launch) (D : va_G) (K : Nat → ClassId) (a0 a1 a2 a3 a4 a5 a6 a7 a8 a9 a10 a11 a12 a13 : Nat) (TO PL KS VS MV : Nat → Nat) (Y : Nat → UInt8) (LI MY : Nat → Nat) (TR : Nat → Int64) (KY VY FK FV : Nat → UInt8) (rn us kn vn fkn fvn mk : Nat) (off opn fnd : Bool) (wh af th : Nat) (n mo : Nat) (h1 : n < 4294967296) (h2 : mo < 10000) (h3 : kn ≤ 8448) : ks_M l D (ks_T K) (ks_R 0) y_Model_room b_Model_room 6 (some .boolean) [.ref a0, .int (ks_b true), .int (nI n), .int (nI 0), .int (nI mo)] (kw_model K a0 a1 a2 a3 a4 a5 a6 a7 a8 a9 a10 a11 a12 a13 TO PL KS VS MV Y LI MY TR KY VY FK FV rn us kn vn fkn fvn mk off opn fnd wh af th) (ks_f (some (.int (ks_b (decide (km_room off kn n mo = 0))))) (kw_model K a0 a1 a2 a3 a4 a5 a6 a7 a8 a9 a10 a11 a12 a13 TO PL KS VS MV Y LI MY TR KY VY FK FV rn us kn vn fkn fvn mk off opn fnd wh af (km_room off kn n mo))) := by
  refine ks_M.of 1 (by decide) (Nat.le_of_ble_eq_true rfl) ?_
  intro E C Z
  refine ks_iload_n rfl rfl C d_Model_room_0 ?_
  refine ks_ifB_eq (tgt := 11) C (by decide) d_Model_room_1 (fun h => absurd h (by decide)) (fun _ => ?_)
  refine ks_aload_n rfl rfl C d_Model_room_4 ?_
  refine ks_get (k := 15) C 0 9 in_Model rfl (by decide) fk_Model_59 rfl rfl rfl d_Model_room_5 ?_
  refine ks_goto (tgt := 15) C (by decide) d_Model_room_8 ?_
  refine ks_istore C (by decide) rfl d_Model_room_15 ?_
  refine ks_aload_n rfl rfl C d_Model_room_17 ?_
  refine ks_iload_n rfl rfl C d_Model_room_18 ?_
  refine ks_iload_n rfl rfl C d_Model_room_19 ?_
  refine ks_icmpR_lt (tgt := 29) C (by omega) (by omega) (by decide) d_Model_room_20 (fun u2 => ?_) (fun u2 => ?_)
  · refine ks_iconst (a := 1) rfl C d_Model_room_29 ?_
    refine ks_goto (tgt := 55) C (by decide) d_Model_room_30 ?_
    refine ks_put (k := 25) (ws' := (kw_model K a0 a1 a2 a3 a4 a5 a6 a7 a8 a9 a10 a11 a12 a13 _ _ _ _ _ _ _ _ _ _ _ _ _ _ _ _ _ _ _ _ _ _ _ _ _ _)) C 0 9 t_Model ty_Model nm_Model in_Model rfl (by decide) fk_Model_56 rfl rfl rfl rfl rfl (Nat.le_of_ble_eq_true rfl) rfl d_Model_room_55 ?_
    refine ks_aload_n rfl rfl C d_Model_room_58 ?_
    refine ks_get (k := 25) C 0 9 in_Model rfl (by decide) fk_Model_56 rfl rfl rfl d_Model_room_59 ?_
    refine ks_if_ne (tgt := 69) C (by omega) (by decide) d_Model_room_62 (fun _ => ?_) (fun h => absurd h (by decide))
    refine ks_iconstB false rfl C d_Model_room_69 ?_
    exact ks_iret C Z rfl (ks_nb1 _) d_Model_room_70 rfl rfl (by rw [show km_room off kn n mo = 1 by rw [km_room, if_pos (by omega)]]; exact ⟨rfl, rfl⟩)
  · refine ks_iload_n rfl rfl C d_Model_room_23 ?_
    refine ks_iload rfl C d_Model_room_24 ?_
    refine ks_icmpR_le (tgt := 33) C (by omega) (by omega) (by decide) d_Model_room_26 (fun u4 => ?_) (fun u4 => ?_)
    · refine ks_aload_n rfl rfl C d_Model_room_33 ?_
      refine ks_get (k := 20) C 0 9 in_Model rfl (by decide) fk_Model_65 rfl rfl rfl d_Model_room_34 ?_
      refine ks_ifB_ne (tgt := 50) C (by decide) d_Model_room_37 (fun u5 => ?_) (fun u5 => ?_)
      · refine ks_iconst (a := 2) rfl C d_Model_room_50 ?_
        refine ks_goto (tgt := 55) C (by decide) d_Model_room_51 ?_
        refine ks_put (k := 25) (ws' := (kw_model K a0 a1 a2 a3 a4 a5 a6 a7 a8 a9 a10 a11 a12 a13 _ _ _ _ _ _ _ _ _ _ _ _ _ _ _ _ _ _ _ _ _ _ _ _ _ _)) C 0 9 t_Model ty_Model nm_Model in_Model rfl (by decide) fk_Model_56 rfl rfl rfl rfl rfl (Nat.le_of_ble_eq_true rfl) rfl d_Model_room_55 ?_
        refine ks_aload_n rfl rfl C d_Model_room_58 ?_
        refine ks_get (k := 25) C 0 9 in_Model rfl (by decide) fk_Model_56 rfl rfl rfl d_Model_room_59 ?_
        refine ks_if_ne (tgt := 69) C (by omega) (by decide) d_Model_room_62 (fun _ => ?_) (fun h => absurd h (by decide))
        refine ks_iconstB false rfl C d_Model_room_69 ?_
        exact ks_iret C Z rfl (ks_nb1 _) d_Model_room_70 rfl rfl (by rw [show km_room off kn n mo = 2 by rw [km_room, if_neg (by omega), if_pos (Or.inl u5)]]; exact ⟨rfl, rfl⟩)
      · refine ks_iload rfl C d_Model_room_40 ?_
        refine ks_iload_n rfl rfl C d_Model_room_42 ?_
        refine ks_iadd C d_Model_room_43 ?_
        refine ks_sipush (a := 8448) rfl C d_Model_room_44 ?_
        refine ks_icmp_le (tgt := 54) C (by omega) (by omega) (by decide) d_Model_room_47 (fun u7 => ?_) (fun u7 => ?_)
        · refine ks_iconst (a := 0) rfl C d_Model_room_54 ?_
          refine ks_put (k := 25) (ws' := (kw_model K a0 a1 a2 a3 a4 a5 a6 a7 a8 a9 a10 a11 a12 a13 _ _ _ _ _ _ _ _ _ _ _ _ _ _ _ _ _ _ _ _ _ _ _ _ _ _)) C 0 9 t_Model ty_Model nm_Model in_Model rfl (by decide) fk_Model_56 rfl rfl rfl rfl rfl (Nat.le_of_ble_eq_true rfl) rfl d_Model_room_55 ?_
          refine ks_aload_n rfl rfl C d_Model_room_58 ?_
          refine ks_get (k := 25) C 0 9 in_Model rfl (by decide) fk_Model_56 rfl rfl rfl d_Model_room_59 ?_
          refine ks_if_ne (tgt := 69) C (by omega) (by decide) d_Model_room_62 (fun h => absurd h (by decide)) (fun _ => ?_)
          refine ks_iconstB true rfl C d_Model_room_65 ?_
          refine ks_goto (tgt := 70) C (by decide) d_Model_room_66 ?_
          exact ks_iret C Z rfl (ks_nb1 _) d_Model_room_70 rfl rfl (by rw [show km_room off kn n mo = 0 by rw [km_room, if_neg (by omega), if_neg (fun z => z.elim (fun y => by rw [u5] at y; cases y) (fun y => by omega))]]; exact ⟨rfl, rfl⟩)
        · refine ks_iconst (a := 2) rfl C d_Model_room_50 ?_
          refine ks_goto (tgt := 55) C (by decide) d_Model_room_51 ?_
          refine ks_put (k := 25) (ws' := (kw_model K a0 a1 a2 a3 a4 a5 a6 a7 a8 a9 a10 a11 a12 a13 _ _ _ _ _ _ _ _ _ _ _ _ _ _ _ _ _ _ _ _ _ _ _ _ _ _)) C 0 9 t_Model ty_Model nm_Model in_Model rfl (by decide) fk_Model_56 rfl rfl rfl rfl rfl (Nat.le_of_ble_eq_true rfl) rfl d_Model_room_55 ?_
          refine ks_aload_n rfl rfl C d_Model_room_58 ?_
          refine ks_get (k := 25) C 0 9 in_Model rfl (by decide) fk_Model_56 rfl rfl rfl d_Model_room_59 ?_
          refine ks_if_ne (tgt := 69) C (by omega) (by decide) d_Model_room_62 (fun _ => ?_) (fun h => absurd h (by decide))
          refine ks_iconstB false rfl C d_Model_room_69 ?_
          exact ks_iret C Z rfl (ks_nb1 _) d_Model_room_70 rfl rfl (by rw [show km_room off kn n mo = 2 by rw [km_room, if_neg (by omega), if_pos (Or.inr (by omega))]]; exact ⟨rfl, rfl⟩)
    · refine ks_iconst (a := 1) rfl C d_Model_room_29 ?_
      refine ks_goto (tgt := 55) C (by decide) d_Model_room_30 ?_
      refine ks_put (k := 25) (ws' := (kw_model K a0 a1 a2 a3 a4 a5 a6 a7 a8 a9 a10 a11 a12 a13 _ _ _ _ _ _ _ _ _ _ _ _ _ _ _ _ _ _ _ _ _ _ _ _ _ _)) C 0 9 t_Model ty_Model nm_Model in_Model rfl (by decide) fk_Model_56 rfl rfl rfl rfl rfl (Nat.le_of_ble_eq_true rfl) rfl d_Model_room_55 ?_
      refine ks_aload_n rfl rfl C d_Model_room_58 ?_
      refine ks_get (k := 25) C 0 9 in_Model rfl (by decide) fk_Model_56 rfl rfl rfl d_Model_room_59 ?_
      refine ks_if_ne (tgt := 69) C (by omega) (by decide) d_Model_room_62 (fun _ => ?_) (fun h => absurd h (by decide))
      refine ks_iconstB false rfl C d_Model_room_69 ?_
      exact ks_iret C Z rfl (ks_nb1 _) d_Model_room_70 rfl rfl (by rw [show km_room off kn n mo = 1 by rw [km_room, if_pos (by omega)]]; exact ⟨rfl, rfl⟩)
set_option maxRecDepth 100000 in
set_option maxHeartbeats 4000000 in
theorem c_Model_come_k (l : Launch) (D : va_G) (K : Nat → ClassId) (a0 a1 a2 a3 a4 a5 a6 a7 a8 a9 a10 a11 a12 a13 : Nat) (TO PL KS VS MV : Nat → Nat) (Y : Nat → UInt8) (LI MY : Nat → Nat) (TR : Nat → Int64) (KY VY FK FV : Nat → UInt8) (rn us kn vn fkn fvn mk : Nat) (off opn fnd : Bool) (wh af th : Nat) (c : Nat) (h1 : kn < 8448) : ks_M l D (ks_T K) (ks_R 0) y_Model_come b_Model_come 3 (some .int) [.ref a0, .int (ks_b true), .int (nI c)] (kw_model K a0 a1 a2 a3 a4 a5 a6 a7 a8 a9 a10 a11 a12 a13 TO PL KS VS MV Y LI MY TR KY VY FK FV rn us kn vn fkn fvn mk off opn fnd wh af th) (ks_f (some (.int (nI (kn + 1)))) (kw_model K a0 a1 a2 a3 a4 a5 a6 a7 a8 a9 a10 a11 a12 a13 TO PL KS VS MV Y LI MY TR (va_up KY kn (UInt8.ofNat c)) VY FK FV rn us (kn + 1) vn fkn fvn mk off opn fnd wh af th)) := by
  refine ks_M.of 0 (by decide) (Nat.le_of_ble_eq_true rfl) ?_
  intro E C Z
  refine ks_iload_n rfl rfl C d_Model_come_0 ?_
  refine ks_ifB_eq (tgt := 30) C (by decide) d_Model_come_1 (fun h => absurd h (by decide)) (fun _ => ?_)
  refine ks_aload_n rfl rfl C d_Model_come_4 ?_
  refine ks_get (k := 11) C 0 9 in_Model rfl (by decide) fk_Model_40 rfl rfl rfl d_Model_come_5 ?_
  refine ks_aload_n rfl rfl C d_Model_come_8 ?_
  refine ks_get (k := 15) C 0 9 in_Model rfl (by decide) fk_Model_59 rfl rfl rfl d_Model_come_9 ?_
  refine ks_iload_n rfl rfl C d_Model_come_12 ?_
  refine ks_i2b C d_Model_come_13 ?_
  refine ks_bast (ws' := (kw_model K a0 a1 a2 a3 a4 a5 a6 a7 a8 a9 a10 a11 a12 a13 _ _ _ _ _ _ _ _ _ _ _ _ _ _ _ _ _ _ _ _ _ _ _ _ _ _)) C 10 0 rfl rfl (by omega) (by omega) (ks_nb _) rfl d_Model_come_14 ?_
  refine ks_aload_n rfl rfl C d_Model_come_15 ?_
  refine ks_dup rfl C d_Model_come_16 ?_
  refine ks_get (k := 15) C 0 9 in_Model rfl (by decide) fk_Model_59 rfl rfl rfl d_Model_come_17 ?_
  refine ks_iconst (a := 1) rfl C d_Model_come_20 ?_
  refine ks_iadd C d_Model_come_21 ?_
  refine ks_put (k := 15) (ws' := (kw_model K a0 a1 a2 a3 a4 a5 a6 a7 a8 a9 a10 a11 a12 a13 _ _ _ _ _ _ _ _ _ _ _ _ _ _ _ _ _ _ _ _ _ _ _ _ _ _)) C 0 9 t_Model ty_Model nm_Model in_Model rfl (by decide) fk_Model_59 rfl rfl rfl rfl rfl (Nat.le_of_ble_eq_true rfl) rfl d_Model_come_22 ?_
  refine ks_aload_n rfl rfl C d_Model_come_25 ?_
  refine ks_get (k := 15) C 0 9 in_Model rfl (by decide) fk_Model_59 rfl rfl rfl d_Model_come_26 ?_
  exact ks_iret C Z rfl rfl d_Model_come_29 rfl rfl ⟨rfl, rfl⟩
set_option maxRecDepth 100000 in
set_option maxHeartbeats 4000000 in
theorem c_Model_word_k (l : Launch) (D : va_G) (K : Nat → ClassId) (a0 a1 a2 a3 a4 a5 a6 a7 a8 a9 a10 a11 a12 a13 : Nat) (TO PL KS VS MV : Nat → Nat) (Y : Nat → UInt8) (LI MY : Nat → Nat) (TR : Nat → Int64) (KY VY FK FV : Nat → UInt8) (rn us kn vn fkn fvn mk : Nat) (off opn fnd : Bool) (wh af th : Nat) (w : Int64) (n : Nat) (h1 : n < 4294967296) (h2 : kn ≤ 8448) : ks_M l D (ks_T K) (ks_R 1) y_Model_word b_Model_word 6 (some .int) [.ref a0, .int (ks_b true), .long w, .int (nI n)] (kw_model K a0 a1 a2 a3 a4 a5 a6 a7 a8 a9 a10 a11 a12 a13 TO PL KS VS MV Y LI MY TR KY VY FK FV rn us kn vn fkn fvn mk off opn fnd wh af th) (ks_f (some (.int (nI (if km_room off kn n 8 = 0 then (km_wd off KY kn w n).2 else 0)))) (kw_model K a0 a1 a2 a3 a4 a5 a6 a7 a8 a9 a10 a11 a12 a13 TO PL KS VS MV Y LI MY TR (km_wd off KY kn w n).1 VY FK FV rn us (km_wd off KY kn w n).2 vn fkn fvn mk off opn fnd wh af (km_room off kn n 8))) := by
  refine ks_M.of 1 (by decide) (Nat.le_of_ble_eq_true rfl) ?_
  intro E C Z
  have loop : ∀ (f : Nat) (R1 : Nat → UInt8) (len1 : Nat), len1 + f ≤ 8448 → f ≤ 8 → kv_app w f R1 len1 = (km_wd off KY kn w n) → km_room off kn n 8 = 0 → ks_w E D 6 (kw_model K a0 a1 a2 a3 a4 a5 a6 a7 a8 a9 a10 a11 a12 a13 TO PL KS VS MV Y LI MY TR R1 VY FK FV rn us len1 vn fkn fvn mk off opn fnd wh af (km_room off kn n 8)) [some (.ref a0), some (.int (ks_b true)), some (.long w), none, some (.int (nI n)), some (.int (nI (f + 4294967295)))] 0 0 43 [] := by
    intro f
    induction f with
    | zero =>
      intro R1 len1 g1 g2 g3 g4
      refine ks_iload rfl C d_Model_word_43 ?_
      refine ks_ifI_lt (tgt := 72) C (by decide) d_Model_word_45 (fun u1 => ?_) (fun u1 => ?_)
      · refine ks_iload_n rfl rfl C d_Model_word_72 ?_
        refine ks_ifB_eq (tgt := 83) C (by decide) d_Model_word_73 (fun h => absurd h (by decide)) (fun _ => ?_)
        refine ks_aload_n rfl rfl C d_Model_word_76 ?_
        refine ks_get (k := 15) C 0 9 in_Model rfl (by decide) fk_Model_59 rfl rfl rfl d_Model_word_77 ?_
        refine ks_goto (tgt := 87) C (by decide) d_Model_word_80 ?_
        exact ks_iret C Z rfl rfl d_Model_word_87 rfl rfl ⟨ks_eqN (by rw [if_pos g4, ← g3]; rfl), by rw [← g3]; rfl⟩
      · exact absurd (by decide : nI (0 + 4294967295) < 0) u1
    | succ f ih =>
      intro R1 len1 g1 g2 g3 g4
      rw [show nI (f + 1 + 4294967295) = nI f from (ks_m1 (n := f + 1) (by omega)).symm]
      refine ks_iload rfl C d_Model_word_43 ?_
      refine ks_iflt0 (tgt := 72) C (by omega) d_Model_word_45 (by decide) ?_
      refine ks_aload_n rfl rfl C d_Model_word_48 ?_
      refine ks_iload_n rfl rfl C d_Model_word_49 ?_
      refine ks_lload_n rfl rfl C d_Model_word_50 ?_
      refine ks_bipush (a := 8) rfl C d_Model_word_51 ?_
      refine ks_iload rfl C d_Model_word_53 ?_
      refine ks_imul C d_Model_word_55 ?_
      refine ks_lshr C d_Model_word_56 ?_
      refine ks_l2i C d_Model_word_57 ?_
      refine ks_sipush (a := 255) rfl C d_Model_word_58 ?_
      refine ks_iandI C d_Model_word_61 ?_
      rw [ks_b255 w (by omega)]
      refine ks_cx (ci := 9) (q0 := 0) (kw_model K a0 a1 a2 a3 a4 a5 a6 a7 a8 a9 a10 a11 a12 a13 _ _ _ _ _ _ _ _ _ _ _ _ _ _ _ _ _ _ _ _ _ _ _ _ _ _) C (c_Model_come_k l D K a0 a1 a2 a3 a4 a5 a6 a7 a8 a9 a10 a11 a12 a13 _ _ _ _ _ _ _ _ _ _ _ _ _ _ _ _ _ _ _ _ _ _ _ _ _ _ _ (by omega)) yw_Model_come sel_Model_come lk_Model_73 d_Model_word_62 rfl rfl rfl [0, 1, 2, 3, 4, 5, 6, 7, 8, 9, 10, 11, 12, 13] [] [0, 1, 2, 3, 4, 5, 6, 7, 8, 9, 10, 11, 12, 13] rfl rfl rfl rfl (by decide) rfl rfl rfl rfl rfl ⟨by decide, by decide⟩ ⟨by decide, by decide⟩ rfl (Nat.le_of_ble_eq_true rfl) ?_
      refine ks_pop rfl C d_Model_word_65 ?_
      refine ks_iinc C rfl (z := 4294967295) rfl (by decide) rfl d_Model_word_66 ?_
      refine ks_goto (tgt := 43) C (by decide) d_Model_word_69 ?_
      rw [UInt8.ofNat_toNat]
      exact ih _ _ (by omega) (by omega) g3 g4
  refine ks_aload_n rfl rfl C d_Model_word_0 ?_
  refine ks_iload_n rfl rfl C d_Model_word_1 ?_
  refine ks_iload rfl C d_Model_word_2 ?_
  refine ks_iconst (a := 0) rfl C d_Model_word_4 ?_
  refine ks_bipush (a := 8) rfl C d_Model_word_5 ?_
  refine ks_cx (ci := 9) (q0 := 0) (kw_model K a0 a1 a2 a3 a4 a5 a6 a7 a8 a9 a10 a11 a12 a13 _ _ _ _ _ _ _ _ _ _ _ _ _ _ _ _ _ _ _ _ _ _ _ _ _ _) C (c_Model_room_k l D K a0 a1 a2 a3 a4 a5 a6 a7 a8 a9 a10 a11 a12 a13 _ _ _ _ _ _ _ _ _ _ _ _ _ _ _ _ _ _ _ _ _ _ _ _ _ _ _ _ (by omega) (by omega) (by omega)) yw_Model_room sel_Model_room lk_Model_69 d_Model_word_7 rfl rfl rfl [0, 1, 2, 3, 4, 5, 6, 7, 8, 9, 10, 11, 12, 13] [] [0, 1, 2, 3, 4, 5, 6, 7, 8, 9, 10, 11, 12, 13] rfl rfl rfl rfl (by decide) rfl rfl rfl rfl rfl ⟨by decide, by decide⟩ ⟨by decide, by decide⟩ rfl (Nat.le_of_ble_eq_true rfl) ?_
  refine ks_ifD_ne (tgt := 15) C (by decide) d_Model_word_10 (fun u4 => ?_) (fun u4 => ?_)
  · obtain ⟨q1, q2, q3⟩ := km_room_0 u4
    refine ks_iload rfl C d_Model_word_15 ?_
    refine ks_ifR_ne (tgt := 37) C (by omega) (by decide) d_Model_word_17 (fun u5 => ?_) (fun u5 => ?_)
    · refine ks_iload rfl C d_Model_word_37 ?_
      refine ks_iconst (a := 1) rfl C d_Model_word_39 ?_
      refine ks_isubM C d_Model_word_40 ?_
      refine ks_istore C (by decide) rfl d_Model_word_41 ?_
      exact loop n KY kn (by omega) (by omega) (by rw [km_wd, if_pos u4, if_neg u5]) u4
    · refine ks_iload_n rfl rfl C d_Model_word_20 ?_
      refine ks_ifB_eq (tgt := 32) C (by decide) d_Model_word_21 (fun h => absurd h (by decide)) (fun _ => ?_)
      refine ks_aload_n rfl rfl C d_Model_word_24 ?_
      refine ks_iconst (a := 0) rfl C d_Model_word_25 ?_
      refine ks_put (k := 15) (ws' := (kw_model K a0 a1 a2 a3 a4 a5 a6 a7 a8 a9 a10 a11 a12 a13 _ _ _ _ _ _ _ _ _ _ _ _ _ _ _ _ _ _ _ _ _ _ _ _ _ _)) C 0 9 t_Model ty_Model nm_Model in_Model rfl (by decide) fk_Model_59 rfl rfl rfl rfl rfl (Nat.le_of_ble_eq_true rfl) rfl d_Model_word_26 ?_
      refine ks_goto (tgt := 37) C (by decide) d_Model_word_29 ?_
      refine ks_iload rfl C d_Model_word_37 ?_
      refine ks_iconst (a := 1) rfl C d_Model_word_39 ?_
      refine ks_isubM C d_Model_word_40 ?_
      refine ks_istore C (by decide) rfl d_Model_word_41 ?_
      exact loop n KY 0 (by omega) (by omega) (by rw [km_wd, if_pos u4, if_pos u5]) u4
  · refine ks_iconst (a := 0) rfl C d_Model_word_13 ?_
    exact ks_iret C Z rfl rfl d_Model_word_14 rfl rfl ⟨ks_eqN (by rw [if_neg u4]), by rw [km_wd, if_neg u4]⟩
set_option maxRecDepth 100000 in
set_option maxHeartbeats 4000000 in
theorem c_Model_key (l : Launch) (D : va_G) (K : Nat → ClassId) (a0 a1 a2 a3 a4 a5 a6 a7 a8 a9 a10 a11 a12 a13 : Nat) (TO PL KS VS MV : Nat → Nat) (Y : Nat → UInt8) (LI MY : Nat → Nat) (TR : Nat → Int64) (KY VY FK FV : Nat → UInt8) (rn us kn vn fkn fvn mk : Nat) (off opn fnd : Bool) (wh af th : Nat) (w : Int64) (n : Nat) (h1 : n < 4294967296) (h2 : kn ≤ 8448) : ks_M l D (ks_T K) (ks_R 2) y_Model_key b_Model_key 4 (some .int) [.ref a0, .long w, .int (nI n)] (kw_model K a0 a1 a2 a3 a4 a5 a6 a7 a8 a9 a10 a11 a12 a13 TO PL KS VS MV Y LI MY TR KY VY FK FV rn us kn vn fkn fvn mk off opn fnd wh af th) (ks_f (some (.int (nI (if km_room off kn n 8 = 0 then (km_wd off KY kn w n).2 else 0)))) (kw_model K a0 a1 a2 a3 a4 a5 a6 a7 a8 a9 a10 a11 a12 a13 TO PL KS VS MV Y LI MY TR (km_wd off KY kn w n).1 VY FK FV rn us (km_wd off KY kn w n).2 vn fkn fvn mk off opn fnd wh af (km_room off kn n 8))) := by
  refine ks_M.of 0 (by decide) (Nat.le_of_ble_eq_true rfl) ?_
  intro E C Z
  refine ks_aload_n rfl rfl C d_Model_key_0 ?_
  refine ks_iconstB true rfl C d_Model_key_1 ?_
  refine ks_lload_n rfl rfl C d_Model_key_2 ?_
  refine ks_iload_n rfl rfl C d_Model_key_3 ?_
  refine ks_cx (ci := 9) (q0 := 0) (kw_model K a0 a1 a2 a3 a4 a5 a6 a7 a8 a9 a10 a11 a12 a13 _ _ _ _ _ _ _ _ _ _ _ _ _ _ _ _ _ _ _ _ _ _ _ _ _ _) C (c_Model_word_k l D K a0 a1 a2 a3 a4 a5 a6 a7 a8 a9 a10 a11 a12 a13 _ _ _ _ _ _ _ _ _ _ _ _ _ _ _ _ _ _ _ _ _ _ _ _ _ _ _ _ (by omega) (by omega)) yw_Model_word sel_Model_word lk_Model_77 d_Model_key_4 rfl rfl rfl [0, 1, 2, 3, 4, 5, 6, 7, 8, 9, 10, 11, 12, 13] [] [0, 1, 2, 3, 4, 5, 6, 7, 8, 9, 10, 11, 12, 13] rfl rfl rfl rfl (by decide) rfl rfl rfl rfl rfl ⟨by decide, by decide⟩ ⟨by decide, by decide⟩ rfl (Nat.le_of_ble_eq_true rfl) ?_
  exact ks_iret C Z rfl rfl d_Model_key_7 rfl rfl ⟨rfl, rfl⟩
set_option maxRecDepth 100000 in
set_option maxHeartbeats 4000000 in
theorem c_Model_fill_k (l : Launch) (D : va_G) (K : Nat → ClassId) (a0 a1 a2 a3 a4 a5 a6 a7 a8 a9 a10 a11 a12 a13 : Nat) (TO PL KS VS MV : Nat → Nat) (Y : Nat → UInt8) (LI MY : Nat → Nat) (TR : Nat → Int64) (KY VY FK FV : Nat → UInt8) (rn us kn vn fkn fvn mk : Nat) (off opn fnd : Bool) (wh af th : Nat) (n c : Nat) (h1 : n < 4294967296) (h2 : kn ≤ 8448) : ks_M l D (ks_T K) (ks_R 1) y_Model_fill b_Model_fill 5 (some .int) [.ref a0, .int (ks_b true), .int (nI n), .int (nI c)] (kw_model K a0 a1 a2 a3 a4 a5 a6 a7 a8 a9 a10 a11 a12 a13 TO PL KS VS MV Y LI MY TR KY VY FK FV rn us kn vn fkn fvn mk off opn fnd wh af th) (ks_f (some (.int (nI (if km_room off kn n 8448 = 0 then kn + n else 0)))) (kw_model K a0 a1 a2 a3 a4 a5 a6 a7 a8 a9 a10 a11 a12 a13 TO PL KS VS MV Y LI MY TR (if km_room off kn n 8448 = 0 then kv_same KY kn (UInt8.ofNat c) n else KY) VY FK FV rn us (if km_room off kn n 8448 = 0 then kn + n else kn) vn fkn fvn mk off opn fnd wh af (km_room off kn n 8448))) := by
  refine ks_M.of 1 (by decide) (Nat.le_of_ble_eq_true rfl) ?_
  intro E C Z
  have loop : ∀ (f : Nat) (i : Nat), i + f = n → n ≤ 8448 → kn + n ≤ 8448 → km_room off kn n 8448 = 0 → ks_w E D 5 (kw_model K a0 a1 a2 a3 a4 a5 a6 a7 a8 a9 a10 a11 a12 a13 TO PL KS VS MV Y LI MY TR (kv_same KY kn (UInt8.ofNat c) i) VY FK FV rn us (kn + i) vn fkn fvn mk off opn fnd wh af (km_room off kn n 8448)) [some (.ref a0), some (.int (ks_b true)), some (.int (nI n)), some (.int (nI c)), some (.int (nI i))] 0 0 18 [] := by
    intro f
    induction f with
    | zero =>
      intro i g1 g2 g3 g4
      refine ks_iload rfl C d_Model_fill_18 ?_
      refine ks_iload_n rfl rfl C d_Model_fill_20 ?_
      refine ks_icmpR_ge (tgt := 37) C (by omega) (by omega) (by decide) d_Model_fill_21 (fun u1 => ?_) (fun u1 => ?_)
      · refine ks_iload_n rfl rfl C d_Model_fill_37 ?_
        refine ks_ifB_eq (tgt := 48) C (by decide) d_Model_fill_38 (fun h => absurd h (by decide)) (fun _ => ?_)
        refine ks_aload_n rfl rfl C d_Model_fill_41 ?_
        refine ks_get (k := 15) C 0 9 in_Model rfl (by decide) fk_Model_59 rfl rfl rfl d_Model_fill_42 ?_
        refine ks_goto (tgt := 52) C (by decide) d_Model_fill_45 ?_
        exact ks_iret C Z rfl rfl d_Model_fill_52 rfl rfl ⟨ks_eqN (by rw [if_pos g4, show i = n by omega]), by rw [if_pos g4, if_pos g4, show i = n by omega]⟩
      · exact (by omega : False).elim
    | succ f ih =>
      intro i g1 g2 g3 g4
      refine ks_iload rfl C d_Model_fill_18 ?_
      refine ks_iload_n rfl rfl C d_Model_fill_20 ?_
      refine ks_icmpR_ge (tgt := 37) C (by omega) (by omega) (by decide) d_Model_fill_21 (fun u3 => ?_) (fun u3 => ?_)
      · exact (by omega : False).elim
      · refine ks_aload_n rfl rfl C d_Model_fill_24 ?_
        refine ks_iload_n rfl rfl C d_Model_fill_25 ?_
        refine ks_iload_n rfl rfl C d_Model_fill_26 ?_
        refine ks_cx (ci := 9) (q0 := 0) (kw_model K a0 a1 a2 a3 a4 a5 a6 a7 a8 a9 a10 a11 a12 a13 _ _ _ _ _ _ _ _ _ _ _ _ _ _ _ _ _ _ _ _ _ _ _ _ _ _) C (c_Model_come_k l D K a0 a1 a2 a3 a4 a5 a6 a7 a8 a9 a10 a11 a12 a13 _ _ _ _ _ _ _ _ _ _ _ _ _ _ _ _ _ _ _ _ _ _ _ _ _ _ _ (by omega)) yw_Model_come sel_Model_come lk_Model_73 d_Model_fill_27 rfl rfl rfl [0, 1, 2, 3, 4, 5, 6, 7, 8, 9, 10, 11, 12, 13] [] [0, 1, 2, 3, 4, 5, 6, 7, 8, 9, 10, 11, 12, 13] rfl rfl rfl rfl (by decide) rfl rfl rfl rfl rfl ⟨by decide, by decide⟩ ⟨by decide, by decide⟩ rfl (Nat.le_of_ble_eq_true rfl) ?_
        refine ks_pop rfl C d_Model_fill_30 ?_
        refine ks_iinc C rfl (z := 1) rfl (by decide) rfl d_Model_fill_31 ?_
        refine ks_goto (tgt := 18) C (by decide) d_Model_fill_34 ?_
        rw [kv_same_s]
        exact ih (i + 1) (by omega) g2 g3 g4
  refine ks_aload_n rfl rfl C d_Model_fill_0 ?_
  refine ks_iload_n rfl rfl C d_Model_fill_1 ?_
  refine ks_iload_n rfl rfl C d_Model_fill_2 ?_
  refine ks_iconst (a := 0) rfl C d_Model_fill_3 ?_
  refine ks_sipush (a := 8448) rfl C d_Model_fill_4 ?_
  refine ks_cx (ci := 9) (q0 := 0) (kw_model K a0 a1 a2 a3 a4 a5 a6 a7 a8 a9 a10 a11 a12 a13 _ _ _ _ _ _ _ _ _ _ _ _ _ _ _ _ _ _ _ _ _ _ _ _ _ _) C (c_Model_room_k l D K a0 a1 a2 a3 a4 a5 a6 a7 a8 a9 a10 a11 a12 a13 _ _ _ _ _ _ _ _ _ _ _ _ _ _ _ _ _ _ _ _ _ _ _ _ _ _ _ _ (by omega) (by omega) (by omega)) yw_Model_room sel_Model_room lk_Model_69 d_Model_fill_7 rfl rfl rfl [0, 1, 2, 3, 4, 5, 6, 7, 8, 9, 10, 11, 12, 13] [] [0, 1, 2, 3, 4, 5, 6, 7, 8, 9, 10, 11, 12, 13] rfl rfl rfl rfl (by decide) rfl rfl rfl rfl rfl ⟨by decide, by decide⟩ ⟨by decide, by decide⟩ rfl (Nat.le_of_ble_eq_true rfl) ?_
  refine ks_ifD_ne (tgt := 15) C (by decide) d_Model_fill_10 (fun u4 => ?_) (fun u4 => ?_)
  · obtain ⟨q1, q2, q3⟩ := km_room_0 u4
    refine ks_iconst (a := 0) rfl C d_Model_fill_15 ?_
    refine ks_istore C (by decide) rfl d_Model_fill_16 ?_
    have e := loop n 0 (by omega) (by omega) (by omega) u4
    rw [kv_same_0] at e
    exact e
  · refine ks_iconst (a := 0) rfl C d_Model_fill_13 ?_
    exact ks_iret C Z rfl rfl d_Model_fill_14 rfl rfl ⟨ks_eqN (by rw [if_neg u4]), by rw [if_neg u4, if_neg u4]⟩
set_option maxRecDepth 100000 in
set_option maxHeartbeats 4000000 in
theorem c_Model_room_v (l : Launch) (D : va_G) (K : Nat → ClassId) (a0 a1 a2 a3 a4 a5 a6 a7 a8 a9 a10 a11 a12 a13 : Nat) (TO PL KS VS MV : Nat → Nat) (Y : Nat → UInt8) (LI MY : Nat → Nat) (TR : Nat → Int64) (KY VY FK FV : Nat → UInt8) (rn us kn vn fkn fvn mk : Nat) (off opn fnd : Bool) (wh af th : Nat) (n mo : Nat) (h1 : n < 4294967296) (h2 : mo < 10000) (h3 : vn ≤ 8448) : ks_M l D (ks_T K) (ks_R 0) y_Model_room b_Model_room 6 (some .boolean) [.ref a0, .int (ks_b false), .int (nI n), .int (nI 0), .int (nI mo)] (kw_model K a0 a1 a2 a3 a4 a5 a6 a7 a8 a9 a10 a11 a12 a13 TO PL KS VS MV Y LI MY TR KY VY FK FV rn us kn vn fkn fvn mk off opn fnd wh af th) (ks_f (some (.int (ks_b (decide (km_room off vn n mo = 0))))) (kw_model K a0 a1 a2 a3 a4 a5 a6 a7 a8 a9 a10 a11 a12 a13 TO PL KS VS MV Y LI MY TR KY VY FK FV rn us kn vn fkn fvn mk off opn fnd wh af (km_room off vn n mo))) := by
  refine ks_M.of 1 (by decide) (Nat.le_of_ble_eq_true rfl) ?_
  intro E C Z
  refine ks_iload_n rfl rfl C d_Model_room_0 ?_
  refine ks_ifB_eq (tgt := 11) C (by decide) d_Model_room_1 (fun _ => ?_) (fun h => absurd h (by decide))
  refine ks_aload_n rfl rfl C d_Model_room_11 ?_
  refine ks_get (k := 16) C 0 9 in_Model rfl (by decide) fk_Model_62 rfl rfl rfl d_Model_room_12 ?_
  refine ks_istore C (by decide) rfl d_Model_room_15 ?_
  refine ks_aload_n rfl rfl C d_Model_room_17 ?_
  refine ks_iload_n rfl rfl C d_Model_room_18 ?_
  refine ks_iload_n rfl rfl C d_Model_room_19 ?_
  refine ks_icmpR_lt (tgt := 29) C (by omega) (by omega) (by decide) d_Model_room_20 (fun u2 => ?_) (fun u2 => ?_)
  · refine ks_iconst (a := 1) rfl C d_Model_room_29 ?_
    refine ks_goto (tgt := 55) C (by decide) d_Model_room_30 ?_
    refine ks_put (k := 25) (ws' := (kw_model K a0 a1 a2 a3 a4 a5 a6 a7 a8 a9 a10 a11 a12 a13 _ _ _ _ _ _ _ _ _ _ _ _ _ _ _ _ _ _ _ _ _ _ _ _ _ _)) C 0 9 t_Model ty_Model nm_Model in_Model rfl (by decide) fk_Model_56 rfl rfl rfl rfl rfl (Nat.le_of_ble_eq_true rfl) rfl d_Model_room_55 ?_
    refine ks_aload_n rfl rfl C d_Model_room_58 ?_
    refine ks_get (k := 25) C 0 9 in_Model rfl (by decide) fk_Model_56 rfl rfl rfl d_Model_room_59 ?_
    refine ks_if_ne (tgt := 69) C (by omega) (by decide) d_Model_room_62 (fun _ => ?_) (fun h => absurd h (by decide))
    refine ks_iconstB false rfl C d_Model_room_69 ?_
    exact ks_iret C Z rfl (ks_nb1 _) d_Model_room_70 rfl rfl (by rw [show km_room off vn n mo = 1 by rw [km_room, if_pos (by omega)]]; exact ⟨rfl, rfl⟩)
  · refine ks_iload_n rfl rfl C d_Model_room_23 ?_
    refine ks_iload rfl C d_Model_room_24 ?_
    refine ks_icmpR_le (tgt := 33) C (by omega) (by omega) (by decide) d_Model_room_26 (fun u4 => ?_) (fun u4 => ?_)
    · refine ks_aload_n rfl rfl C d_Model_room_33 ?_
      refine ks_get (k := 20) C 0 9 in_Model rfl (by decide) fk_Model_65 rfl rfl rfl d_Model_room_34 ?_
      refine ks_ifB_ne (tgt := 50) C (by decide) d_Model_room_37 (fun u5 => ?_) (fun u5 => ?_)
      · refine ks_iconst (a := 2) rfl C d_Model_room_50 ?_
        refine ks_goto (tgt := 55) C (by decide) d_Model_room_51 ?_
        refine ks_put (k := 25) (ws' := (kw_model K a0 a1 a2 a3 a4 a5 a6 a7 a8 a9 a10 a11 a12 a13 _ _ _ _ _ _ _ _ _ _ _ _ _ _ _ _ _ _ _ _ _ _ _ _ _ _)) C 0 9 t_Model ty_Model nm_Model in_Model rfl (by decide) fk_Model_56 rfl rfl rfl rfl rfl (Nat.le_of_ble_eq_true rfl) rfl d_Model_room_55 ?_
        refine ks_aload_n rfl rfl C d_Model_room_58 ?_
        refine ks_get (k := 25) C 0 9 in_Model rfl (by decide) fk_Model_56 rfl rfl rfl d_Model_room_59 ?_
        refine ks_if_ne (tgt := 69) C (by omega) (by decide) d_Model_room_62 (fun _ => ?_) (fun h => absurd h (by decide))
        refine ks_iconstB false rfl C d_Model_room_69 ?_
        exact ks_iret C Z rfl (ks_nb1 _) d_Model_room_70 rfl rfl (by rw [show km_room off vn n mo = 2 by rw [km_room, if_neg (by omega), if_pos (Or.inl u5)]]; exact ⟨rfl, rfl⟩)
      · refine ks_iload rfl C d_Model_room_40 ?_
        refine ks_iload_n rfl rfl C d_Model_room_42 ?_
        refine ks_iadd C d_Model_room_43 ?_
        refine ks_sipush (a := 8448) rfl C d_Model_room_44 ?_
        refine ks_icmp_le (tgt := 54) C (by omega) (by omega) (by decide) d_Model_room_47 (fun u7 => ?_) (fun u7 => ?_)
        · refine ks_iconst (a := 0) rfl C d_Model_room_54 ?_
          refine ks_put (k := 25) (ws' := (kw_model K a0 a1 a2 a3 a4 a5 a6 a7 a8 a9 a10 a11 a12 a13 _ _ _ _ _ _ _ _ _ _ _ _ _ _ _ _ _ _ _ _ _ _ _ _ _ _)) C 0 9 t_Model ty_Model nm_Model in_Model rfl (by decide) fk_Model_56 rfl rfl rfl rfl rfl (Nat.le_of_ble_eq_true rfl) rfl d_Model_room_55 ?_
          refine ks_aload_n rfl rfl C d_Model_room_58 ?_
          refine ks_get (k := 25) C 0 9 in_Model rfl (by decide) fk_Model_56 rfl rfl rfl d_Model_room_59 ?_
          refine ks_if_ne (tgt := 69) C (by omega) (by decide) d_Model_room_62 (fun h => absurd h (by decide)) (fun _ => ?_)
          refine ks_iconstB true rfl C d_Model_room_65 ?_
          refine ks_goto (tgt := 70) C (by decide) d_Model_room_66 ?_
          exact ks_iret C Z rfl (ks_nb1 _) d_Model_room_70 rfl rfl (by rw [show km_room off vn n mo = 0 by rw [km_room, if_neg (by omega), if_neg (fun z => z.elim (fun y => by rw [u5] at y; cases y) (fun y => by omega))]]; exact ⟨rfl, rfl⟩)
        · refine ks_iconst (a := 2) rfl C d_Model_room_50 ?_
          refine ks_goto (tgt := 55) C (by decide) d_Model_room_51 ?_
          refine ks_put (k := 25) (ws' := (kw_model K a0 a1 a2 a3 a4 a5 a6 a7 a8 a9 a10 a11 a12 a13 _ _ _ _ _ _ _ _ _ _ _ _ _ _ _ _ _ _ _ _ _ _ _ _ _ _)) C 0 9 t_Model ty_Model nm_Model in_Model rfl (by decide) fk_Model_56 rfl rfl rfl rfl rfl (Nat.le_of_ble_eq_true rfl) rfl d_Model_room_55 ?_
          refine ks_aload_n rfl rfl C d_Model_room_58 ?_
          refine ks_get (k := 25) C 0 9 in_Model rfl (by decide) fk_Model_56 rfl rfl rfl d_Model_room_59 ?_
          refine ks_if_ne (tgt := 69) C (by omega) (by decide) d_Model_room_62 (fun _ => ?_) (fun h => absurd h (by decide))
          refine ks_iconstB false rfl C d_Model_room_69 ?_
          exact ks_iret C Z rfl (ks_nb1 _) d_Model_room_70 rfl rfl (by rw [show km_room off vn n mo = 2 by rw [km_room, if_neg (by omega), if_pos (Or.inr (by omega))]]; exact ⟨rfl, rfl⟩)
    · refine ks_iconst (a := 1) rfl C d_Model_room_29 ?_
      refine ks_goto (tgt := 55) C (by decide) d_Model_room_30 ?_
      refine ks_put (k := 25) (ws' := (kw_model K a0 a1 a2 a3 a4 a5 a6 a7 a8 a9 a10 a11 a12 a13 _ _ _ _ _ _ _ _ _ _ _ _ _ _ _ _ _ _ _ _ _ _ _ _ _ _)) C 0 9 t_Model ty_Model nm_Model in_Model rfl (by decide) fk_Model_56 rfl rfl rfl rfl rfl (Nat.le_of_ble_eq_true rfl) rfl d_Model_room_55 ?_
      refine ks_aload_n rfl rfl C d_Model_room_58 ?_
      refine ks_get (k := 25) C 0 9 in_Model rfl (by decide) fk_Model_56 rfl rfl rfl d_Model_room_59 ?_
      refine ks_if_ne (tgt := 69) C (by omega) (by decide) d_Model_room_62 (fun _ => ?_) (fun h => absurd h (by decide))
      refine ks_iconstB false rfl C d_Model_room_69 ?_
      exact ks_iret C Z rfl (ks_nb1 _) d_Model_room_70 rfl rfl (by rw [show km_room off vn n mo = 1 by rw [km_room, if_pos (by omega)]]; exact ⟨rfl, rfl⟩)
set_option maxRecDepth 100000 in
set_option maxHeartbeats 4000000 in
theorem c_Model_come_v (l : Launch) (D : va_G) (K : Nat → ClassId) (a0 a1 a2 a3 a4 a5 a6 a7 a8 a9 a10 a11 a12 a13 : Nat) (TO PL KS VS MV : Nat → Nat) (Y : Nat → UInt8) (LI MY : Nat → Nat) (TR : Nat → Int64) (KY VY FK FV : Nat → UInt8) (rn us kn vn fkn fvn mk : Nat) (off opn fnd : Bool) (wh af th : Nat) (c : Nat) (h1 : vn < 8448) : ks_M l D (ks_T K) (ks_R 0) y_Model_come b_Model_come 3 (some .int) [.ref a0, .int (ks_b false), .int (nI c)] (kw_model K a0 a1 a2 a3 a4 a5 a6 a7 a8 a9 a10 a11 a12 a13 TO PL KS VS MV Y LI MY TR KY VY FK FV rn us kn vn fkn fvn mk off opn fnd wh af th) (ks_f (some (.int (nI (vn + 1)))) (kw_model K a0 a1 a2 a3 a4 a5 a6 a7 a8 a9 a10 a11 a12 a13 TO PL KS VS MV Y LI MY TR KY (va_up VY vn (UInt8.ofNat c)) FK FV rn us kn (vn + 1) fkn fvn mk off opn fnd wh af th)) := by
  refine ks_M.of 0 (by decide) (Nat.le_of_ble_eq_true rfl) ?_
  intro E C Z
  refine ks_iload_n rfl rfl C d_Model_come_0 ?_
  refine ks_ifB_eq (tgt := 30) C (by decide) d_Model_come_1 (fun _ => ?_) (fun h => absurd h (by decide))
  refine ks_aload_n rfl rfl C d_Model_come_30 ?_
  refine ks_get (k := 12) C 0 9 in_Model rfl (by decide) fk_Model_43 rfl rfl rfl d_Model_come_31 ?_
  refine ks_aload_n rfl rfl C d_Model_come_34 ?_
  refine ks_get (k := 16) C 0 9 in_Model rfl (by decide) fk_Model_62 rfl rfl rfl d_Model_come_35 ?_
  refine ks_iload_n rfl rfl C d_Model_come_38 ?_
  refine ks_i2b C d_Model_come_39 ?_
  refine ks_bast (ws' := (kw_model K a0 a1 a2 a3 a4 a5 a6 a7 a8 a9 a10 a11 a12 a13 _ _ _ _ _ _ _ _ _ _ _ _ _ _ _ _ _ _ _ _ _ _ _ _ _ _)) C 11 0 rfl rfl (by omega) (by omega) (ks_nb _) rfl d_Model_come_40 ?_
  refine ks_aload_n rfl rfl C d_Model_come_41 ?_
  refine ks_dup rfl C d_Model_come_42 ?_
  refine ks_get (k := 16) C 0 9 in_Model rfl (by decide) fk_Model_62 rfl rfl rfl d_Model_come_43 ?_
  refine ks_iconst (a := 1) rfl C d_Model_come_46 ?_
  refine ks_iadd C d_Model_come_47 ?_
  refine ks_put (k := 16) (ws' := (kw_model K a0 a1 a2 a3 a4 a5 a6 a7 a8 a9 a10 a11 a12 a13 _ _ _ _ _ _ _ _ _ _ _ _ _ _ _ _ _ _ _ _ _ _ _ _ _ _)) C 0 9 t_Model ty_Model nm_Model in_Model rfl (by decide) fk_Model_62 rfl rfl rfl rfl rfl (Nat.le_of_ble_eq_true rfl) rfl d_Model_come_48 ?_
  refine ks_aload_n rfl rfl C d_Model_come_51 ?_
  refine ks_get (k := 16) C 0 9 in_Model rfl (by decide) fk_Model_62 rfl rfl rfl d_Model_come_52 ?_
  exact ks_iret C Z rfl rfl d_Model_come_55 rfl rfl ⟨rfl, rfl⟩
set_option maxRecDepth 100000 in
set_option maxHeartbeats 4000000 in
theorem c_Model_word_v (l : Launch) (D : va_G) (K : Nat → ClassId) (a0 a1 a2 a3 a4 a5 a6 a7 a8 a9 a10 a11 a12 a13 : Nat) (TO PL KS VS MV : Nat → Nat) (Y : Nat → UInt8) (LI MY : Nat → Nat) (TR : Nat → Int64) (KY VY FK FV : Nat → UInt8) (rn us kn vn fkn fvn mk : Nat) (off opn fnd : Bool) (wh af th : Nat) (w : Int64) (n : Nat) (h1 : n < 4294967296) (h2 : vn ≤ 8448) : ks_M l D (ks_T K) (ks_R 1) y_Model_word b_Model_word 6 (some .int) [.ref a0, .int (ks_b false), .long w, .int (nI n)] (kw_model K a0 a1 a2 a3 a4 a5 a6 a7 a8 a9 a10 a11 a12 a13 TO PL KS VS MV Y LI MY TR KY VY FK FV rn us kn vn fkn fvn mk off opn fnd wh af th) (ks_f (some (.int (nI (if km_room off vn n 8 = 0 then (km_wd off VY vn w n).2 else 0)))) (kw_model K a0 a1 a2 a3 a4 a5 a6 a7 a8 a9 a10 a11 a12 a13 TO PL KS VS MV Y LI MY TR KY (km_wd off VY vn w n).1 FK FV rn us kn (km_wd off VY vn w n).2 fkn fvn mk off opn fnd wh af (km_room off vn n 8))) := by
  refine ks_M.of 1 (by decide) (Nat.le_of_ble_eq_true rfl) ?_
  intro E C Z
  have loop : ∀ (f : Nat) (R1 : Nat → UInt8) (len1 : Nat), len1 + f ≤ 8448 → f ≤ 8 → kv_app w f R1 len1 = (km_wd off VY vn w n) → km_room off vn n 8 = 0 → ks_w E D 6 (kw_model K a0 a1 a2 a3 a4 a5 a6 a7 a8 a9 a10 a11 a12 a13 TO PL KS VS MV Y LI MY TR KY R1 FK FV rn us kn len1 fkn fvn mk off opn fnd wh af (km_room off vn n 8)) [some (.ref a0), some (.int (ks_b false)), some (.long w), none, some (.int (nI n)), some (.int (nI (f + 4294967295)))] 0 0 43 [] := by
    intro f
    induction f with
    | zero =>
      intro R1 len1 g1 g2 g3 g4
      refine ks_iload rfl C d_Model_word_43 ?_
      refine ks_ifI_lt (tgt := 72) C (by decide) d_Model_word_45 (fun u1 => ?_) (fun u1 => ?_)
      · refine ks_iload_n rfl rfl C d_Model_word_72 ?_
        refine ks_ifB_eq (tgt := 83) C (by decide) d_Model_word_73 (fun _ => ?_) (fun h => absurd h (by decide))
        refine ks_aload_n rfl rfl C d_Model_word_83 ?_
        refine ks_get (k := 16) C 0 9 in_Model rfl (by decide) fk_Model_62 rfl rfl rfl d_Model_word_84 ?_
        exact ks_iret C Z rfl rfl d_Model_word_87 rfl rfl ⟨ks_eqN (by rw [if_pos g4, ← g3]; rfl), by rw [← g3]; rfl⟩
      · exact absurd (by decide : nI (0 + 4294967295) < 0) u1
    | succ f ih =>
      intro R1 len1 g1 g2 g3 g4
      rw [show nI (f + 1 + 4294967295) = nI f from (ks_m1 (n := f + 1) (by omega)).symm]
      refine ks_iload rfl C d_Model_word_43 ?_
      refine ks_iflt0 (tgt := 72) C (by omega) d_Model_word_45 (by decide) ?_
      refine ks_aload_n rfl rfl C d_Model_word_48 ?_
      refine ks_iload_n rfl rfl C d_Model_word_49 ?_
      refine ks_lload_n rfl rfl C d_Model_word_50 ?_
      refine ks_bipush (a := 8) rfl C d_Model_word_51 ?_
      refine ks_iload rfl C d_Model_word_53 ?_
      refine ks_imul C d_Model_word_55 ?_
      refine ks_lshr C d_Model_word_56 ?_
      refine ks_l2i C d_Model_word_57 ?_
      refine ks_sipush (a := 255) rfl C d_Model_word_58 ?_
      refine ks_iandI C d_Model_word_61 ?_
      rw [ks_b255 w (by omega)]
      refine ks_cx (ci := 9) (q0 := 0) (kw_model K a0 a1 a2 a3 a4 a5 a6 a7 a8 a9 a10 a11 a12 a13 _ _ _ _ _ _ _ _ _ _ _ _ _ _ _ _ _ _ _ _ _ _ _ _ _ _) C (c_Model_come_v l D K a0 a1 a2 a3 a4 a5 a6 a7 a8 a9 a10 a11 a12 a13 _ _ _ _ _ _ _ _ _ _ _ _ _ _ _ _ _ _ _ _ _ _ _ _ _ _ _ (by omega)) yw_Model_come sel_Model_come lk_Model_73 d_Model_word_62 rfl rfl rfl [0, 1, 2, 3, 4, 5, 6, 7, 8, 9, 10, 11, 12, 13] [] [0, 1, 2, 3, 4, 5, 6, 7, 8, 9, 10, 11, 12, 13] rfl rfl rfl rfl (by decide) rfl rfl rfl rfl rfl ⟨by decide, by decide⟩ ⟨by decide, by decide⟩ rfl (Nat.le_of_ble_eq_true rfl) ?_
      refine ks_pop rfl C d_Model_word_65 ?_
      refine ks_iinc C rfl (z := 4294967295) rfl (by decide) rfl d_Model_word_66 ?_
      refine ks_goto (tgt := 43) C (by decide) d_Model_word_69 ?_
      rw [UInt8.ofNat_toNat]
      exact ih _ _ (by omega) (by omega) g3 g4
  refine ks_aload_n rfl rfl C d_Model_word_0 ?_
  refine ks_iload_n rfl rfl C d_Model_word_1 ?_
  refine ks_iload rfl C d_Model_word_2 ?_
  refine ks_iconst (a := 0) rfl C d_Model_word_4 ?_
  refine ks_bipush (a := 8) rfl C d_Model_word_5 ?_
  refine ks_cx (ci := 9) (q0 := 0) (kw_model K a0 a1 a2 a3 a4 a5 a6 a7 a8 a9 a10 a11 a12 a13 _ _ _ _ _ _ _ _ _ _ _ _ _ _ _ _ _ _ _ _ _ _ _ _ _ _) C (c_Model_room_v l D K a0 a1 a2 a3 a4 a5 a6 a7 a8 a9 a10 a11 a12 a13 _ _ _ _ _ _ _ _ _ _ _ _ _ _ _ _ _ _ _ _ _ _ _ _ _ _ _ _ (by omega) (by omega) (by omega)) yw_Model_room sel_Model_room lk_Model_69 d_Model_word_7 rfl rfl rfl [0, 1, 2, 3, 4, 5, 6, 7, 8, 9, 10, 11, 12, 13] [] [0, 1, 2, 3, 4, 5, 6, 7, 8, 9, 10, 11, 12, 13] rfl rfl rfl rfl (by decide) rfl rfl rfl rfl rfl ⟨by decide, by decide⟩ ⟨by decide, by decide⟩ rfl (Nat.le_of_ble_eq_true rfl) ?_
  refine ks_ifD_ne (tgt := 15) C (by decide) d_Model_word_10 (fun u4 => ?_) (fun u4 => ?_)
  · obtain ⟨q1, q2, q3⟩ := km_room_0 u4
    refine ks_iload rfl C d_Model_word_15 ?_
    refine ks_ifR_ne (tgt := 37) C (by omega) (by decide) d_Model_word_17 (fun u5 => ?_) (fun u5 => ?_)
    · refine ks_iload rfl C d_Model_word_37 ?_
      refine ks_iconst (a := 1) rfl C d_Model_word_39 ?_
      refine ks_isubM C d_Model_word_40 ?_
      refine ks_istore C (by decide) rfl d_Model_word_41 ?_
      exact loop n VY vn (by omega) (by omega) (by rw [km_wd, if_pos u4, if_neg u5]) u4
    · refine ks_iload_n rfl rfl C d_Model_word_20 ?_
      refine ks_ifB_eq (tgt := 32) C (by decide) d_Model_word_21 (fun _ => ?_) (fun h => absurd h (by decide))
      refine ks_aload_n rfl rfl C d_Model_word_32 ?_
      refine ks_iconst (a := 0) rfl C d_Model_word_33 ?_
      refine ks_put (k := 16) (ws' := (kw_model K a0 a1 a2 a3 a4 a5 a6 a7 a8 a9 a10 a11 a12 a13 _ _ _ _ _ _ _ _ _ _ _ _ _ _ _ _ _ _ _ _ _ _ _ _ _ _)) C 0 9 t_Model ty_Model nm_Model in_Model rfl (by decide) fk_Model_62 rfl rfl rfl rfl rfl (Nat.le_of_ble_eq_true rfl) rfl d_Model_word_34 ?_
      refine ks_iload rfl C d_Model_word_37 ?_
      refine ks_iconst (a := 1) rfl C d_Model_word_39 ?_
      refine ks_isubM C d_Model_word_40 ?_
      refine ks_istore C (by decide) rfl d_Model_word_41 ?_
      exact loop n VY 0 (by omega) (by omega) (by rw [km_wd, if_pos u4, if_pos u5]) u4
  · refine ks_iconst (a := 0) rfl C d_Model_word_13 ?_
    exact ks_iret C Z rfl rfl d_Model_word_14 rfl rfl ⟨ks_eqN (by rw [if_neg u4]), by rw [km_wd, if_neg u4]⟩
set_option maxRecDepth 100000 in
set_option maxHeartbeats 4000000 in
theorem c_Model_value (l : Launch) (D : va_G) (K : Nat → ClassId) (a0 a1 a2 a3 a4 a5 a6 a7 a8 a9 a10 a11 a12 a13 : Nat) (TO PL KS VS MV : Nat → Nat) (Y : Nat → UInt8) (LI MY : Nat → Nat) (TR : Nat → Int64) (KY VY FK FV : Nat → UInt8) (rn us kn vn fkn fvn mk : Nat) (off opn fnd : Bool) (wh af th : Nat) (w : Int64) (n : Nat) (h1 : n < 4294967296) (h2 : vn ≤ 8448) : ks_M l D (ks_T K) (ks_R 2) y_Model_value b_Model_value 4 (some .int) [.ref a0, .long w, .int (nI n)] (kw_model K a0 a1 a2 a3 a4 a5 a6 a7 a8 a9 a10 a11 a12 a13 TO PL KS VS MV Y LI MY TR KY VY FK FV rn us kn vn fkn fvn mk off opn fnd wh af th) (ks_f (some (.int (nI (if km_room off vn n 8 = 0 then (km_wd off VY vn w n).2 else 0)))) (kw_model K a0 a1 a2 a3 a4 a5 a6 a7 a8 a9 a10 a11 a12 a13 TO PL KS VS MV Y LI MY TR KY (km_wd off VY vn w n).1 FK FV rn us kn (km_wd off VY vn w n).2 fkn fvn mk off opn fnd wh af (km_room off vn n 8))) := by
  refine ks_M.of 0 (by decide) (Nat.le_of_ble_eq_true rfl) ?_
  intro E C Z
  refine ks_aload_n rfl rfl C d_Model_value_0 ?_
  refine ks_iconstB false rfl C d_Model_value_1 ?_
  refine ks_lload_n rfl rfl C d_Model_value_2 ?_
  refine ks_iload_n rfl rfl C d_Model_value_3 ?_
  refine ks_cx (ci := 9) (q0 := 0) (kw_model K a0 a1 a2 a3 a4 a5 a6 a7 a8 a9 a10 a11 a12 a13 _ _ _ _ _ _ _ _ _ _ _ _ _ _ _ _ _ _ _ _ _ _ _ _ _ _) C (c_Model_word_v l D K a0 a1 a2 a3 a4 a5 a6 a7 a8 a9 a10 a11 a12 a13 _ _ _ _ _ _ _ _ _ _ _ _ _ _ _ _ _ _ _ _ _ _ _ _ _ _ _ _ (by omega) (by omega)) yw_Model_word sel_Model_word lk_Model_77 d_Model_value_4 rfl rfl rfl [0, 1, 2, 3, 4, 5, 6, 7, 8, 9, 10, 11, 12, 13] [] [0, 1, 2, 3, 4, 5, 6, 7, 8, 9, 10, 11, 12, 13] rfl rfl rfl rfl (by decide) rfl rfl rfl rfl rfl ⟨by decide, by decide⟩ ⟨by decide, by decide⟩ rfl (Nat.le_of_ble_eq_true rfl) ?_
  exact ks_iret C Z rfl rfl d_Model_value_7 rfl rfl ⟨rfl, rfl⟩
set_option maxRecDepth 100000 in
set_option maxHeartbeats 4000000 in
theorem c_Model_fill_v (l : Launch) (D : va_G) (K : Nat → ClassId) (a0 a1 a2 a3 a4 a5 a6 a7 a8 a9 a10 a11 a12 a13 : Nat) (TO PL KS VS MV : Nat → Nat) (Y : Nat → UInt8) (LI MY : Nat → Nat) (TR : Nat → Int64) (KY VY FK FV : Nat → UInt8) (rn us kn vn fkn fvn mk : Nat) (off opn fnd : Bool) (wh af th : Nat) (n c : Nat) (h1 : n < 4294967296) (h2 : vn ≤ 8448) : ks_M l D (ks_T K) (ks_R 1) y_Model_fill b_Model_fill 5 (some .int) [.ref a0, .int (ks_b false), .int (nI n), .int (nI c)] (kw_model K a0 a1 a2 a3 a4 a5 a6 a7 a8 a9 a10 a11 a12 a13 TO PL KS VS MV Y LI MY TR KY VY FK FV rn us kn vn fkn fvn mk off opn fnd wh af th) (ks_f (some (.int (nI (if km_room off vn n 8448 = 0 then vn + n else 0)))) (kw_model K a0 a1 a2 a3 a4 a5 a6 a7 a8 a9 a10 a11 a12 a13 TO PL KS VS MV Y LI MY TR KY (if km_room off vn n 8448 = 0 then kv_same VY vn (UInt8.ofNat c) n else VY) FK FV rn us kn (if km_room off vn n 8448 = 0 then vn + n else vn) fkn fvn mk off opn fnd wh af (km_room off vn n 8448))) := by
  refine ks_M.of 1 (by decide) (Nat.le_of_ble_eq_true rfl) ?_
  intro E C Z
  have loop : ∀ (f : Nat) (i : Nat), i + f = n → n ≤ 8448 → vn + n ≤ 8448 → km_room off vn n 8448 = 0 → ks_w E D 5 (kw_model K a0 a1 a2 a3 a4 a5 a6 a7 a8 a9 a10 a11 a12 a13 TO PL KS VS MV Y LI MY TR KY (kv_same VY vn (UInt8.ofNat c) i) FK FV rn us kn (vn + i) fkn fvn mk off opn fnd wh af (km_room off vn n 8448)) [some (.ref a0), some (.int (ks_b false)), some (.int (nI n)), some (.int (nI c)), some (.int (nI i))] 0 0 18 [] := by
    intro f
    induction f with
    | zero =>
      intro i g1 g2 g3 g4
      refine ks_iload rfl C d_Model_fill_18 ?_
      refine ks_iload_n rfl rfl C d_Model_fill_20 ?_
      refine ks_icmpR_ge (tgt := 37) C (by omega) (by omega) (by decide) d_Model_fill_21 (fun u1 => ?_) (fun u1 => ?_)
      · refine ks_iload_n rfl rfl C d_Model_fill_37 ?_
        refine ks_ifB_eq (tgt := 48) C (by decide) d_Model_fill_38 (fun _ => ?_) (fun h => absurd h (by decide))
        refine ks_aload_n rfl rfl C d_Model_fill_48 ?_
        refine ks_get (k := 16) C 0 9 in_Model rfl (by decide) fk_Model_62 rfl rfl rfl d_Model_fill_49 ?_
        exact ks_iret C Z rfl rfl d_Model_fill_52 rfl rfl ⟨ks_eqN (by rw [if_pos g4, show i = n by omega]), by rw [if_pos g4, if_pos g4, show i = n by omega]⟩
      · exact (by omega : False).elim
    | succ f ih =>
      intro i g1 g2 g3 g4
      refine ks_iload rfl C d_Model_fill_18 ?_
      refine ks_iload_n rfl rfl C d_Model_fill_20 ?_
      refine ks_icmpR_ge (tgt := 37) C (by omega) (by omega) (by decide) d_Model_fill_21 (fun u3 => ?_) (fun u3 => ?_)
      · exact (by omega : False).elim
      · refine ks_aload_n rfl rfl C d_Model_fill_24 ?_
        refine ks_iload_n rfl rfl C d_Model_fill_25 ?_
        refine ks_iload_n rfl rfl C d_Model_fill_26 ?_
        refine ks_cx (ci := 9) (q0 := 0) (kw_model K a0 a1 a2 a3 a4 a5 a6 a7 a8 a9 a10 a11 a12 a13 _ _ _ _ _ _ _ _ _ _ _ _ _ _ _ _ _ _ _ _ _ _ _ _ _ _) C (c_Model_come_v l D K a0 a1 a2 a3 a4 a5 a6 a7 a8 a9 a10 a11 a12 a13 _ _ _ _ _ _ _ _ _ _ _ _ _ _ _ _ _ _ _ _ _ _ _ _ _ _ _ (by omega)) yw_Model_come sel_Model_come lk_Model_73 d_Model_fill_27 rfl rfl rfl [0, 1, 2, 3, 4, 5, 6, 7, 8, 9, 10, 11, 12, 13] [] [0, 1, 2, 3, 4, 5, 6, 7, 8, 9, 10, 11, 12, 13] rfl rfl rfl rfl (by decide) rfl rfl rfl rfl rfl ⟨by decide, by decide⟩ ⟨by decide, by decide⟩ rfl (Nat.le_of_ble_eq_true rfl) ?_
        refine ks_pop rfl C d_Model_fill_30 ?_
        refine ks_iinc C rfl (z := 1) rfl (by decide) rfl d_Model_fill_31 ?_
        refine ks_goto (tgt := 18) C (by decide) d_Model_fill_34 ?_
        rw [kv_same_s]
        exact ih (i + 1) (by omega) g2 g3 g4
  refine ks_aload_n rfl rfl C d_Model_fill_0 ?_
  refine ks_iload_n rfl rfl C d_Model_fill_1 ?_
  refine ks_iload_n rfl rfl C d_Model_fill_2 ?_
  refine ks_iconst (a := 0) rfl C d_Model_fill_3 ?_
  refine ks_sipush (a := 8448) rfl C d_Model_fill_4 ?_
  refine ks_cx (ci := 9) (q0 := 0) (kw_model K a0 a1 a2 a3 a4 a5 a6 a7 a8 a9 a10 a11 a12 a13 _ _ _ _ _ _ _ _ _ _ _ _ _ _ _ _ _ _ _ _ _ _ _ _ _ _) C (c_Model_room_v l D K a0 a1 a2 a3 a4 a5 a6 a7 a8 a9 a10 a11 a12 a13 _ _ _ _ _ _ _ _ _ _ _ _ _ _ _ _ _ _ _ _ _ _ _ _ _ _ _ _ (by omega) (by omega) (by omega)) yw_Model_room sel_Model_room lk_Model_69 d_Model_fill_7 rfl rfl rfl [0, 1, 2, 3, 4, 5, 6, 7, 8, 9, 10, 11, 12, 13] [] [0, 1, 2, 3, 4, 5, 6, 7, 8, 9, 10, 11, 12, 13] rfl rfl rfl rfl (by decide) rfl rfl rfl rfl rfl ⟨by decide, by decide⟩ ⟨by decide, by decide⟩ rfl (Nat.le_of_ble_eq_true rfl) ?_
  refine ks_ifD_ne (tgt := 15) C (by decide) d_Model_fill_10 (fun u4 => ?_) (fun u4 => ?_)
  · obtain ⟨q1, q2, q3⟩ := km_room_0 u4
    refine ks_iconst (a := 0) rfl C d_Model_fill_15 ?_
    refine ks_istore C (by decide) rfl d_Model_fill_16 ?_
    have e := loop n 0 (by omega) (by omega) (by omega) u4
    rw [kv_same_0] at e
    exact e
  · refine ks_iconst (a := 0) rfl C d_Model_fill_13 ?_
    exact ks_iret C Z rfl rfl d_Model_fill_14 rfl rfl ⟨ks_eqN (by rw [if_neg u4]), by rw [if_neg u4, if_neg u4]⟩
set_option maxRecDepth 100000 in
set_option maxHeartbeats 4000000 in
theorem c_Model_size (l : Launch) (D : va_G) (K : Nat → ClassId) (a0 a1 a2 a3 a4 a5 a6 a7 a8 a9 a10 a11 a12 a13 : Nat) (TO PL KS VS MV : Nat → Nat) (Y : Nat → UInt8) (LI MY : Nat → Nat) (TR : Nat → Int64) (KY VY FK FV : Nat → UInt8) (rn us kn vn fkn fvn mk : Nat) (off opn fnd : Bool) (wh af th : Nat) (hg : km_g TO PL KS VS LI (MY 0)) : ks_M l D (ks_T K) (ks_R 0) y_Model_size b_Model_size 3 (some .int) [.ref a0] (kw_model K a0 a1 a2 a3 a4 a5 a6 a7 a8 a9 a10 a11 a12 a13 TO PL KS VS MV Y LI MY TR KY VY FK FV rn us kn vn fkn fvn mk off opn fnd wh af th) (ks_f (some (.int (nI (km_size LI KS VS (MY 0))))) (kw_model K a0 a1 a2 a3 a4 a5 a6 a7 a8 a9 a10 a11 a12 a13 TO PL KS VS MV Y LI MY TR KY VY FK FV rn us kn vn fkn fvn mk off opn fnd wh af th)) := by
  refine ks_M.of 2 (by decide) (Nat.le_of_ble_eq_true rfl) ?_
  intro E C Z
  have hm := hg.1
  have loop : ∀ (f : Nat) (n i : Nat), i + f = MY 0 → km_szL LI KS VS f i n = km_size LI KS VS (MY 0) → ks_w E D 3 (kw_model K a0 a1 a2 a3 a4 a5 a6 a7 a8 a9 a10 a11 a12 a13 TO PL KS VS MV Y LI MY TR KY VY FK FV rn us kn vn fkn fvn mk off opn fnd wh af th) [some (.ref a0), some (.int (nI n)), some (.int (nI i))] 0 0 4 [] := by
    intro f
    induction f with
    | zero =>
      intro n i g1 g2
      refine ks_iload_n rfl rfl C d_Model_size_4 ?_
      refine ks_aload_n rfl rfl C d_Model_size_5 ?_
      refine ks_get (k := 9) C 0 9 in_Model rfl (by decide) fk_Model_33 rfl rfl rfl d_Model_size_6 ?_
      refine ks_iconst (a := 0) rfl C d_Model_size_9 ?_
      refine ks_iald C 8 2 rfl rfl (by omega) (by omega) d_Model_size_10 ?_
      refine ks_icmp_ge (tgt := 49) C (by omega) (by omega) (by decide) d_Model_size_11 (fun u1 => ?_) (fun u1 => ?_)
      · refine ks_iload_n rfl rfl C d_Model_size_49 ?_
        exact ks_iret C Z rfl rfl d_Model_size_50 rfl rfl ⟨ks_eqN g2, rfl⟩
      · exact (by omega : False).elim
    | succ f ih =>
      intro n i g1 g2
      refine ks_iload_n rfl rfl C d_Model_size_4 ?_
      refine ks_aload_n rfl rfl C d_Model_size_5 ?_
      refine ks_get (k := 9) C 0 9 in_Model rfl (by decide) fk_Model_33 rfl rfl rfl d_Model_size_6 ?_
      refine ks_iconst (a := 0) rfl C d_Model_size_9 ?_
      refine ks_iald C 8 2 rfl rfl (by omega) (by omega) d_Model_size_10 ?_
      refine ks_icmp_ge (tgt := 49) C (by omega) (by omega) (by decide) d_Model_size_11 (fun u2 => ?_) (fun u2 => ?_)
      · exact (by omega : False).elim
      · obtain ⟨q1, q2, q3, q4, q5⟩ := hg.2 i (by omega)
        refine ks_iload_n rfl rfl C d_Model_size_14 ?_
        refine ks_bipush (a := 16) rfl C d_Model_size_15 ?_
        refine ks_aload_n rfl rfl C d_Model_size_17 ?_
        refine ks_get (k := 2) C 0 9 in_Model rfl (by decide) fk_Model_16 rfl rfl rfl d_Model_size_18 ?_
        refine ks_aload_n rfl rfl C d_Model_size_21 ?_
        refine ks_get (k := 8) C 0 9 in_Model rfl (by decide) fk_Model_30 rfl rfl rfl d_Model_size_22 ?_
        refine ks_iload_n rfl rfl C d_Model_size_25 ?_
        refine ks_iald C 7 2 rfl rfl (by omega) (by omega) d_Model_size_26 ?_
        refine ks_iald C 3 2 rfl rfl (by omega) (by omega) d_Model_size_27 ?_
        refine ks_iadd C d_Model_size_28 ?_
        refine ks_aload_n rfl rfl C d_Model_size_29 ?_
        refine ks_get (k := 3) C 0 9 in_Model rfl (by decide) fk_Model_19 rfl rfl rfl d_Model_size_30 ?_
        refine ks_aload_n rfl rfl C d_Model_size_33 ?_
        refine ks_get (k := 8) C 0 9 in_Model rfl (by decide) fk_Model_30 rfl rfl rfl d_Model_size_34 ?_
        refine ks_iload_n rfl rfl C d_Model_size_37 ?_
        refine ks_iald C 7 2 rfl rfl (by omega) (by omega) d_Model_size_38 ?_
        refine ks_iald C 4 2 rfl rfl (by omega) (by omega) d_Model_size_39 ?_
        refine ks_iadd C d_Model_size_40 ?_
        refine ks_iadd C d_Model_size_41 ?_
        refine ks_istore_n C rfl (by decide) rfl d_Model_size_42 ?_
        refine ks_iinc C rfl (z := 1) rfl (by decide) rfl d_Model_size_43 ?_
        refine ks_goto (tgt := 4) C (by decide) d_Model_size_46 ?_
        exact ih _ _ (by omega) g2
  refine ks_iconst (a := 0) rfl C d_Model_size_0 ?_
  refine ks_istore_n C rfl (by decide) rfl d_Model_size_1 ?_
  refine ks_iconst (a := 0) rfl C d_Model_size_2 ?_
  refine ks_istore_n C rfl (by decide) rfl d_Model_size_3 ?_
  exact loop (MY 0) 0 0 (by omega) rfl
set_option maxRecDepth 100000 in
set_option maxHeartbeats 4000000 in
theorem c_Model_entries (l : Launch) (D : va_G) (K : Nat → ClassId) (a0 a1 a2 a3 a4 a5 a6 a7 a8 a9 a10 a11 a12 a13 : Nat) (TO PL KS VS MV : Nat → Nat) (Y : Nat → UInt8) (LI MY : Nat → Nat) (TR : Nat → Int64) (KY VY FK FV : Nat → UInt8) (rn us kn vn fkn fvn mk : Nat) (off opn fnd : Bool) (wh af th : Nat) (t : Nat) (hg : km_g TO PL KS VS LI (MY 0)) (h1 : t < 64) : ks_M l D (ks_T K) (ks_R 0) y_Model_entries b_Model_entries 4 (some .int) [.ref a0, .int (nI t)] (kw_model K a0 a1 a2 a3 a4 a5 a6 a7 a8 a9 a10 a11 a12 a13 TO PL KS VS MV Y LI MY TR KY VY FK FV rn us kn vn fkn fvn mk off opn fnd wh af th) (ks_f (some (.int (nI (km_ents LI TO t (MY 0))))) (kw_model K a0 a1 a2 a3 a4 a5 a6 a7 a8 a9 a10 a11 a12 a13 TO PL KS VS MV Y LI MY TR KY VY FK FV rn us kn vn fkn fvn mk off opn fnd wh af th)) := by
  refine ks_M.of 2 (by decide) (Nat.le_of_ble_eq_true rfl) ?_
  intro E C Z
  have hm := hg.1
  have loop : ∀ (f : Nat) (n i : Nat), i + f = MY 0 → km_enL LI TO t f i n = km_ents LI TO t (MY 0) → ks_w E D 4 (kw_model K a0 a1 a2 a3 a4 a5 a6 a7 a8 a9 a10 a11 a12 a13 TO PL KS VS MV Y LI MY TR KY VY FK FV rn us kn vn fkn fvn mk off opn fnd wh af th) [some (.ref a0), some (.int (nI t)), some (.int (nI n)), some (.int (nI i))] 0 0 4 [] := by
    intro f
    induction f with
    | zero =>
      intro n i g1 g2
      refine ks_iload_n rfl rfl C d_Model_entries_4 ?_
      refine ks_aload_n rfl rfl C d_Model_entries_5 ?_
      refine ks_get (k := 9) C 0 9 in_Model rfl (by decide) fk_Model_33 rfl rfl rfl d_Model_entries_6 ?_
      refine ks_iconst (a := 0) rfl C d_Model_entries_9 ?_
      refine ks_iald C 8 2 rfl rfl (by omega) (by omega) d_Model_entries_10 ?_
      refine ks_icmp_ge (tgt := 38) C (by omega) (by omega) (by decide) d_Model_entries_11 (fun u1 => ?_) (fun u1 => ?_)
      · refine ks_iload_n rfl rfl C d_Model_entries_38 ?_
        exact ks_iret C Z rfl rfl d_Model_entries_39 rfl rfl ⟨ks_eqN g2, rfl⟩
      · exact (by omega : False).elim
    | succ f ih =>
      intro n i g1 g2
      refine ks_iload_n rfl rfl C d_Model_entries_4 ?_
      refine ks_aload_n rfl rfl C d_Model_entries_5 ?_
      refine ks_get (k := 9) C 0 9 in_Model rfl (by decide) fk_Model_33 rfl rfl rfl d_Model_entries_6 ?_
      refine ks_iconst (a := 0) rfl C d_Model_entries_9 ?_
      refine ks_iald C 8 2 rfl rfl (by omega) (by omega) d_Model_entries_10 ?_
      refine ks_icmp_ge (tgt := 38) C (by omega) (by omega) (by decide) d_Model_entries_11 (fun u2 => ?_) (fun u2 => ?_)
      · exact (by omega : False).elim
      · obtain ⟨q1, q2, q3, q4, q5⟩ := hg.2 i (by omega)
        refine ks_aload_n rfl rfl C d_Model_entries_14 ?_
        refine ks_get (k := 0) C 0 9 in_Model rfl (by decide) fk_Model_7 rfl rfl rfl d_Model_entries_15 ?_
        refine ks_aload_n rfl rfl C d_Model_entries_18 ?_
        refine ks_get (k := 8) C 0 9 in_Model rfl (by decide) fk_Model_30 rfl rfl rfl d_Model_entries_19 ?_
        refine ks_iload_n rfl rfl C d_Model_entries_22 ?_
        refine ks_iald C 7 2 rfl rfl (by omega) (by omega) d_Model_entries_23 ?_
        refine ks_iald C 1 2 rfl rfl (by omega) (by omega) d_Model_entries_24 ?_
        refine ks_iload_n rfl rfl C d_Model_entries_25 ?_
        refine ks_icmp_ne (tgt := 32) C (by omega) (by omega) (by decide) d_Model_entries_26 (fun u3 => ?_) (fun u3 => ?_)
        · refine ks_iinc C rfl (z := 1) rfl (by decide) rfl d_Model_entries_32 ?_
          refine ks_goto (tgt := 4) C (by decide) d_Model_entries_35 ?_
          exact ih _ _ (by omega) (by rw [← g2, km_enL, if_neg u3])
        · refine ks_iinc C rfl (z := 1) rfl (by decide) rfl d_Model_entries_29 ?_
          refine ks_iinc C rfl (z := 1) rfl (by decide) rfl d_Model_entries_32 ?_
          refine ks_goto (tgt := 4) C (by decide) d_Model_entries_35 ?_
          exact ih _ _ (by omega) (by rw [← g2, km_enL, if_pos (by omega)])
  refine ks_iconst (a := 0) rfl C d_Model_entries_0 ?_
  refine ks_istore_n C rfl (by decide) rfl d_Model_entries_1 ?_
  refine ks_iconst (a := 0) rfl C d_Model_entries_2 ?_
  refine ks_istore_n C rfl (by decide) rfl d_Model_entries_3 ?_
  exact loop (MY 0) 0 0 (by omega) rfl
set_option maxRecDepth 100000 in
set_option maxHeartbeats 4000000 in
theorem c_Model_compare (l : Launch) (D : va_G) (K : Nat → ClassId) (a0 a1 a2 a3 a4 a5 a6 a7 a8 a9 a10 a11 a12 a13 : Nat) (TO PL KS VS MV : Nat → Nat) (Y : Nat → UInt8) (LI MY : Nat → Nat) (TR : Nat → Int64) (KY VY FK FV : Nat → UInt8) (rn us kn vn fkn fvn mk : Nat) (off opn fnd : Bool) (wh af th : Nat) (e : Nat) (h1 : e < 20600) (h2 : PL e + KS e ≤ 400000) (h3 : KS e ≤ 8448) (h4 : kn ≤ 8448) : ks_M l D (ks_T K) (ks_R 0) y_Model_compare b_Model_compare 5 (some .int) [.ref a0, .int (nI e)] (kw_model K a0 a1 a2 a3 a4 a5 a6 a7 a8 a9 a10 a11 a12 a13 TO PL KS VS MV Y LI MY TR KY VY FK FV rn us kn vn fkn fvn mk off opn fnd wh af th) (ks_f (some (.int (Int32.ofInt (km_cmp Y KY (PL e) (KS e) kn)))) (kw_model K a0 a1 a2 a3 a4 a5 a6 a7 a8 a9 a10 a11 a12 a13 TO PL KS VS MV Y LI MY TR KY VY FK FV rn us kn vn fkn fvn mk off opn fnd wh af th)) := by
  refine ks_M.of 3 (by decide) (Nat.le_of_ble_eq_true rfl) ?_
  intro E C Z
  have loop : ∀ (f : Nat) (i : Nat), i + f = min (KS e) kn → km_cmpL Y KY (PL e) ((KS e : Int) - kn) f i = km_cmp Y KY (PL e) (KS e) kn → ks_w E D 5 (kw_model K a0 a1 a2 a3 a4 a5 a6 a7 a8 a9 a10 a11 a12 a13 TO PL KS VS MV Y LI MY TR KY VY FK FV rn us kn vn fkn fvn mk off opn fnd wh af th) [some (.ref a0), some (.int (nI e)), some (.int (nI (min (KS e) kn))), some (.int (nI i)), none] 0 0 29 [] := by
    intro f
    induction f with
    | zero =>
      intro i g1 g2
      refine ks_iload_n rfl rfl C d_Model_compare_29 ?_
      refine ks_iload_n rfl rfl C d_Model_compare_30 ?_
      refine ks_icmp_ge (tgt := 78) C (by omega) (by omega) (by decide) d_Model_compare_31 (fun u1 => ?_) (fun u1 => ?_)
      · refine ks_aload_n rfl rfl C d_Model_compare_78 ?_
        refine ks_get (k := 2) C 0 9 in_Model rfl (by decide) fk_Model_16 rfl rfl rfl d_Model_compare_79 ?_
        refine ks_iload_n rfl rfl C d_Model_compare_82 ?_
        refine ks_iald C 3 2 rfl rfl (by omega) (by omega) d_Model_compare_83 ?_
        refine ks_aload_n rfl rfl C d_Model_compare_84 ?_
        refine ks_get (k := 15) C 0 9 in_Model rfl (by decide) fk_Model_59 rfl rfl rfl d_Model_compare_85 ?_
        refine ks_isubZ C d_Model_compare_88 ?_
        exact ks_iret C Z rfl rfl d_Model_compare_89 rfl rfl ⟨by rw [← g2]; rfl, rfl⟩
      · exact (by omega : False).elim
    | succ f ih =>
      intro i g1 g2
      refine ks_iload_n rfl rfl C d_Model_compare_29 ?_
      refine ks_iload_n rfl rfl C d_Model_compare_30 ?_
      refine ks_icmp_ge (tgt := 78) C (by omega) (by omega) (by decide) d_Model_compare_31 (fun u2 => ?_) (fun u2 => ?_)
      · exact (by omega : False).elim
      · refine ks_aload_n rfl rfl C d_Model_compare_34 ?_
        refine ks_get (k := 5) C 0 9 in_Model rfl (by decide) fk_Model_26 rfl rfl rfl d_Model_compare_35 ?_
        refine ks_aload_n rfl rfl C d_Model_compare_38 ?_
        refine ks_get (k := 1) C 0 9 in_Model rfl (by decide) fk_Model_13 rfl rfl rfl d_Model_compare_39 ?_
        refine ks_iload_n rfl rfl C d_Model_compare_42 ?_
        refine ks_iald C 2 2 rfl rfl (by omega) (by omega) d_Model_compare_43 ?_
        refine ks_iload_n rfl rfl C d_Model_compare_44 ?_
        refine ks_iadd C d_Model_compare_45 ?_
        refine ks_bald C 6 0 rfl rfl (by omega) (by omega) d_Model_compare_46 d_Model_compare_47 d_Model_compare_50 ?_
        refine ks_top_byte (fun u3 => ?_)
        refine ks_aload_n rfl rfl C d_Model_compare_51 ?_
        refine ks_get (k := 11) C 0 9 in_Model rfl (by decide) fk_Model_40 rfl rfl rfl d_Model_compare_52 ?_
        refine ks_iload_n rfl rfl C d_Model_compare_55 ?_
        refine ks_bald C 10 0 rfl rfl (by omega) (by omega) d_Model_compare_56 d_Model_compare_57 d_Model_compare_60 ?_
        refine ks_top_byte (fun u4 => ?_)
        refine ks_isubZ C d_Model_compare_61 ?_
        refine ks_istore C (by decide) rfl d_Model_compare_62 ?_
        refine ks_iload rfl C d_Model_compare_64 ?_
        refine ks_ifZ_eq (tgt := 72) C (by omega) (by omega) (by decide) d_Model_compare_66 (fun u5 => ?_) (fun u5 => ?_)
        · refine ks_iinc C rfl (z := 1) rfl (by decide) rfl d_Model_compare_72 ?_
          refine ks_goto (tgt := 29) C (by decide) d_Model_compare_75 ?_
          refine ks_forget 4 ?_
          exact ih (i + 1) (by omega) (by rw [← g2, km_cmpL, if_pos (by omega)])
        · refine ks_iload rfl C d_Model_compare_69 ?_
          exact ks_iret C Z rfl rfl d_Model_compare_71 rfl rfl ⟨by rw [← g2, km_cmpL, if_neg (by omega)], rfl⟩
  refine ks_aload_n rfl rfl C d_Model_compare_0 ?_
  refine ks_get (k := 2) C 0 9 in_Model rfl (by decide) fk_Model_16 rfl rfl rfl d_Model_compare_1 ?_
  refine ks_iload_n rfl rfl C d_Model_compare_4 ?_
  refine ks_iald C 3 2 rfl rfl (by omega) (by omega) d_Model_compare_5 ?_
  refine ks_aload_n rfl rfl C d_Model_compare_6 ?_
  refine ks_get (k := 15) C 0 9 in_Model rfl (by decide) fk_Model_59 rfl rfl rfl d_Model_compare_7 ?_
  refine ks_icmp_ge (tgt := 22) C (by omega) (by omega) (by decide) d_Model_compare_10 (fun u6 => ?_) (fun u6 => ?_)
  · refine ks_aload_n rfl rfl C d_Model_compare_22 ?_
    refine ks_get (k := 15) C 0 9 in_Model rfl (by decide) fk_Model_59 rfl rfl rfl d_Model_compare_23 ?_
    refine ks_istore_n C rfl (by decide) rfl d_Model_compare_26 ?_
    refine ks_iconst (a := 0) rfl C d_Model_compare_27 ?_
    refine ks_istore_n C rfl (by decide) rfl d_Model_compare_28 ?_
    rw [show nI (kn) = nI (min (KS e) kn) by rw [Nat.min_eq_right (by omega)]]
    exact loop (min (KS e) kn) 0 (by omega) rfl
  · refine ks_aload_n rfl rfl C d_Model_compare_13 ?_
    refine ks_get (k := 2) C 0 9 in_Model rfl (by decide) fk_Model_16 rfl rfl rfl d_Model_compare_14 ?_
    refine ks_iload_n rfl rfl C d_Model_compare_17 ?_
    refine ks_iald C 3 2 rfl rfl (by omega) (by omega) d_Model_compare_18 ?_
    refine ks_goto (tgt := 26) C (by decide) d_Model_compare_19 ?_
    refine ks_istore_n C rfl (by decide) rfl d_Model_compare_26 ?_
    refine ks_iconst (a := 0) rfl C d_Model_compare_27 ?_
    refine ks_istore_n C rfl (by decide) rfl d_Model_compare_28 ?_
    rw [show nI (KS e) = nI (min (KS e) kn) by rw [Nat.min_eq_left (by omega)]]
    exact loop (min (KS e) kn) 0 (by omega) rfl
set_option maxRecDepth 100000 in
set_option maxHeartbeats 4000000 in
theorem c_Model_find (l : Launch) (D : va_G) (K : Nat → ClassId) (a0 a1 a2 a3 a4 a5 a6 a7 a8 a9 a10 a11 a12 a13 : Nat) (TO PL KS VS MV : Nat → Nat) (Y : Nat → UInt8) (LI MY : Nat → Nat) (TR : Nat → Int64) (KY VY FK FV : Nat → UInt8) (rn us kn vn fkn fvn mk : Nat) (off opn fnd : Bool) (wh af th : Nat) (t : Nat) (hg : km_g TO PL KS VS LI (MY 0)) (h1 : t < 64) (h2 : kn ≤ 8448) : ks_M l D (ks_T K) (ks_R 1) y_Model_find b_Model_find 3 (some .int) [.ref a0, .int (nI t)] (kw_model K a0 a1 a2 a3 a4 a5 a6 a7 a8 a9 a10 a11 a12 a13 TO PL KS VS MV Y LI MY TR KY VY FK FV rn us kn vn fkn fvn mk off opn fnd wh af th) (ks_f (some (.int (nI (km_find TO PL KS Y KY LI kn t (MY 0))))) (kw_model K a0 a1 a2 a3 a4 a5 a6 a7 a8 a9 a10 a11 a12 a13 TO PL KS VS MV Y LI MY TR KY VY FK FV rn us kn vn fkn fvn mk off opn fnd wh af th)) := by
  refine ks_M.of 1 (by decide) (Nat.le_of_ble_eq_true rfl) ?_
  intro E C Z
  have hm := hg.1
  have loop : ∀ (f : Nat) (k : Nat), k + f = MY 0 → km_fiL TO PL KS Y KY LI kn t f k = km_find TO PL KS Y KY LI kn t (MY 0) → ks_w E D 3 (kw_model K a0 a1 a2 a3 a4 a5 a6 a7 a8 a9 a10 a11 a12 a13 TO PL KS VS MV Y LI MY TR KY VY FK FV rn us kn vn fkn fvn mk off opn fnd wh af th) [some (.ref a0), some (.int (nI t)), some (.int (nI k))] 0 0 2 [] := by
    intro f
    induction f with
    | zero =>
      intro k g1 g2
      refine ks_iload_n rfl rfl C d_Model_find_2 ?_
      refine ks_aload_n rfl rfl C d_Model_find_3 ?_
      refine ks_get (k := 9) C 0 9 in_Model rfl (by decide) fk_Model_33 rfl rfl rfl d_Model_find_4 ?_
      refine ks_iconst (a := 0) rfl C d_Model_find_7 ?_
      refine ks_iald C 8 2 rfl rfl (by omega) (by omega) d_Model_find_8 ?_
      refine ks_icmp_ge (tgt := 61) C (by omega) (by omega) (by decide) d_Model_find_9 (fun u1 => ?_) (fun u1 => ?_)
      · refine ks_iload_n rfl rfl C d_Model_find_61 ?_
        exact ks_iret C Z rfl rfl d_Model_find_62 rfl rfl ⟨ks_eqN g2, rfl⟩
      · exact (by omega : False).elim
    | succ f ih =>
      intro k g1 g2
      refine ks_iload_n rfl rfl C d_Model_find_2 ?_
      refine ks_aload_n rfl rfl C d_Model_find_3 ?_
      refine ks_get (k := 9) C 0 9 in_Model rfl (by decide) fk_Model_33 rfl rfl rfl d_Model_find_4 ?_
      refine ks_iconst (a := 0) rfl C d_Model_find_7 ?_
      refine ks_iald C 8 2 rfl rfl (by omega) (by omega) d_Model_find_8 ?_
      refine ks_icmp_ge (tgt := 61) C (by omega) (by omega) (by decide) d_Model_find_9 (fun u2 => ?_) (fun u2 => ?_)
      · refine ks_iload_n rfl rfl C d_Model_find_61 ?_
        exact ks_iret C Z rfl rfl d_Model_find_62 rfl rfl (False.elim (by omega))
      · obtain ⟨q1, q2, q3, q4, q5⟩ := hg.2 k (by omega)
        refine ks_aload_n rfl rfl C d_Model_find_12 ?_
        refine ks_get (k := 0) C 0 9 in_Model rfl (by decide) fk_Model_7 rfl rfl rfl d_Model_find_13 ?_
        refine ks_aload_n rfl rfl C d_Model_find_16 ?_
        refine ks_get (k := 8) C 0 9 in_Model rfl (by decide) fk_Model_30 rfl rfl rfl d_Model_find_17 ?_
        refine ks_iload_n rfl rfl C d_Model_find_20 ?_
        refine ks_iald C 7 2 rfl rfl (by omega) (by omega) d_Model_find_21 ?_
        refine ks_iald C 1 2 rfl rfl (by omega) (by omega) d_Model_find_22 ?_
        refine ks_iload_n rfl rfl C d_Model_find_23 ?_
        refine ks_icmp_lt (tgt := 55) C (by omega) (by omega) (by decide) d_Model_find_24 (fun u3 => ?_) (fun u3 => ?_)
        · refine ks_iinc C rfl (z := 1) rfl (by decide) rfl d_Model_find_55 ?_
          refine ks_goto (tgt := 2) C (by decide) d_Model_find_58 ?_
          exact ih (k + 1) (by omega) (by rw [← g2, km_fiL, if_pos (show km_bef TO PL KS Y KY LI kn t k by unfold km_bef; omega)])
        · refine ks_aload_n rfl rfl C d_Model_find_27 ?_
          refine ks_get (k := 0) C 0 9 in_Model rfl (by decide) fk_Model_7 rfl rfl rfl d_Model_find_28 ?_
          refine ks_aload_n rfl rfl C d_Model_find_31 ?_
          refine ks_get (k := 8) C 0 9 in_Model rfl (by decide) fk_Model_30 rfl rfl rfl d_Model_find_32 ?_
          refine ks_iload_n rfl rfl C d_Model_find_35 ?_
          refine ks_iald C 7 2 rfl rfl (by omega) (by omega) d_Model_find_36 ?_
          refine ks_iald C 1 2 rfl rfl (by omega) (by omega) d_Model_find_37 ?_
          refine ks_iload_n rfl rfl C d_Model_find_38 ?_
          refine ks_icmp_ne (tgt := 61) C (by omega) (by omega) (by decide) d_Model_find_39 (fun u4 => ?_) (fun u4 => ?_)
          · refine ks_iload_n rfl rfl C d_Model_find_61 ?_
            exact ks_iret C Z rfl rfl d_Model_find_62 rfl rfl ⟨ks_eqN (by rw [← g2, km_fiL, if_neg (show ¬ km_bef TO PL KS Y KY LI kn t k by unfold km_bef; omega)]), rfl⟩
          · refine ks_aload_n rfl rfl C d_Model_find_42 ?_
            refine ks_aload_n rfl rfl C d_Model_find_43 ?_
            refine ks_get (k := 8) C 0 9 in_Model rfl (by decide) fk_Model_30 rfl rfl rfl d_Model_find_44 ?_
            refine ks_iload_n rfl rfl C d_Model_find_47 ?_
            refine ks_iald C 7 2 rfl rfl (by omega) (by omega) d_Model_find_48 ?_
            refine ks_cx (ci := 9) (q0 := 0) (kw_model K a0 a1 a2 a3 a4 a5 a6 a7 a8 a9 a10 a11 a12 a13 _ _ _ _ _ _ _ _ _ _ _ _ _ _ _ _ _ _ _ _ _ _ _ _ _ _) C (c_Model_compare l D K a0 a1 a2 a3 a4 a5 a6 a7 a8 a9 a10 a11 a12 a13 _ _ _ _ _ _ _ _ _ _ _ _ _ _ _ _ _ _ _ _ _ _ _ _ _ _ _ (by omega) (by omega) (by omega) (by omega)) yw_Model_compare sel_Model_compare lk_Model_81 d_Model_find_49 rfl rfl rfl [0, 1, 2, 3, 4, 5, 6, 7, 8, 9, 10, 11, 12, 13] [] [0, 1, 2, 3, 4, 5, 6, 7, 8, 9, 10, 11, 12, 13] rfl rfl rfl rfl (by decide) rfl rfl rfl rfl rfl ⟨by decide, by decide⟩ ⟨by decide, by decide⟩ rfl (Nat.le_of_ble_eq_true rfl) ?_
            refine ks_top_kcmp (by omega) (by omega) (fun u5 => ?_)
            refine ks_ifZ_ge (tgt := 61) C (by omega) (by omega) (by decide) d_Model_find_52 (fun u6 => ?_) (fun u6 => ?_)
            · refine ks_iload_n rfl rfl C d_Model_find_61 ?_
              exact ks_iret C Z rfl rfl d_Model_find_62 rfl rfl ⟨ks_eqN (by rw [← g2, km_fiL, if_neg (show ¬ km_bef TO PL KS Y KY LI kn t k by unfold km_bef; omega)]), rfl⟩
            · refine ks_iinc C rfl (z := 1) rfl (by decide) rfl d_Model_find_55 ?_
              refine ks_goto (tgt := 2) C (by decide) d_Model_find_58 ?_
              exact ih (k + 1) (by omega) (by rw [← g2, km_fiL, if_pos (show km_bef TO PL KS Y KY LI kn t k by unfold km_bef; omega)])
  refine ks_iconst (a := 0) rfl C d_Model_find_0 ?_
  refine ks_istore_n C rfl (by decide) rfl d_Model_find_1 ?_
  exact loop (MY 0) 0 (by omega) rfl
set_option maxRecDepth 100000 in
set_option maxHeartbeats 4000000 in
theorem c_Model_isThere (l : Launch) (D : va_G) (K : Nat → ClassId) (a0 a1 a2 a3 a4 a5 a6 a7 a8 a9 a10 a11 a12 a13 : Nat) (TO PL KS VS MV : Nat → Nat) (Y : Nat → UInt8) (LI MY : Nat → Nat) (TR : Nat → Int64) (KY VY FK FV : Nat → UInt8) (rn us kn vn fkn fvn mk : Nat) (off opn fnd : Bool) (wh af th : Nat) (k t : Nat) (hg : km_g TO PL KS VS LI (MY 0)) (h1 : t < 64) (h2 : kn ≤ 8448) (h3 : k ≤ 20000) : ks_M l D (ks_T K) (ks_R 1) y_Model_isThere b_Model_isThere 3 (some .boolean) [.ref a0, .int (nI k), .int (nI t)] (kw_model K a0 a1 a2 a3 a4 a5 a6 a7 a8 a9 a10 a11 a12 a13 TO PL KS VS MV Y LI MY TR KY VY FK FV rn us kn vn fkn fvn mk off opn fnd wh af th) (ks_f (some (.int (ks_b (km_is TO PL KS Y KY LI kn (MY 0) k t)))) (kw_model K a0 a1 a2 a3 a4 a5 a6 a7 a8 a9 a10 a11 a12 a13 TO PL KS VS MV Y LI MY TR KY VY FK FV rn us kn vn fkn fvn mk off opn fnd wh af th)) := by
  refine ks_M.of 0 (by decide) (Nat.le_of_ble_eq_true rfl) ?_
  intro E C Z
  have hm := hg.1
  refine ks_iload_n rfl rfl C d_Model_isThere_0 ?_
  refine ks_aload_n rfl rfl C d_Model_isThere_1 ?_
  refine ks_get (k := 9) C 0 9 in_Model rfl (by decide) fk_Model_33 rfl rfl rfl d_Model_isThere_2 ?_
  refine ks_iconst (a := 0) rfl C d_Model_isThere_5 ?_
  refine ks_iald C 8 2 rfl rfl (by omega) (by omega) d_Model_isThere_6 ?_
  refine ks_icmp_ge (tgt := 42) C (by omega) (by omega) (by decide) d_Model_isThere_7 (fun u1 => ?_) (fun u1 => ?_)
  · refine ks_iconstB false rfl C d_Model_isThere_42 ?_
    exact ks_iret C Z rfl (ks_nb1 _) d_Model_isThere_43 rfl rfl ⟨ks_eqF (by omega), rfl⟩
  · obtain ⟨q1, q2, q3, q4, q5⟩ := hg.2 k (by omega)
    refine ks_aload_n rfl rfl C d_Model_isThere_10 ?_
    refine ks_get (k := 0) C 0 9 in_Model rfl (by decide) fk_Model_7 rfl rfl rfl d_Model_isThere_11 ?_
    refine ks_aload_n rfl rfl C d_Model_isThere_14 ?_
    refine ks_get (k := 8) C 0 9 in_Model rfl (by decide) fk_Model_30 rfl rfl rfl d_Model_isThere_15 ?_
    refine ks_iload_n rfl rfl C d_Model_isThere_18 ?_
    refine ks_iald C 7 2 rfl rfl (by omega) (by omega) d_Model_isThere_19 ?_
    refine ks_iald C 1 2 rfl rfl (by omega) (by omega) d_Model_isThere_20 ?_
    refine ks_iload_n rfl rfl C d_Model_isThere_21 ?_
    refine ks_icmp_ne (tgt := 42) C (by omega) (by omega) (by decide) d_Model_isThere_22 (fun u2 => ?_) (fun u2 => ?_)
    · refine ks_iconstB false rfl C d_Model_isThere_42 ?_
      exact ks_iret C Z rfl (ks_nb1 _) d_Model_isThere_43 rfl rfl ⟨ks_eqF (by omega), rfl⟩
    · refine ks_aload_n rfl rfl C d_Model_isThere_25 ?_
      refine ks_aload_n rfl rfl C d_Model_isThere_26 ?_
      refine ks_get (k := 8) C 0 9 in_Model rfl (by decide) fk_Model_30 rfl rfl rfl d_Model_isThere_27 ?_
      refine ks_iload_n rfl rfl C d_Model_isThere_30 ?_
      refine ks_iald C 7 2 rfl rfl (by omega) (by omega) d_Model_isThere_31 ?_
      refine ks_cx (ci := 9) (q0 := 0) (kw_model K a0 a1 a2 a3 a4 a5 a6 a7 a8 a9 a10 a11 a12 a13 _ _ _ _ _ _ _ _ _ _ _ _ _ _ _ _ _ _ _ _ _ _ _ _ _ _) C (c_Model_compare l D K a0 a1 a2 a3 a4 a5 a6 a7 a8 a9 a10 a11 a12 a13 _ _ _ _ _ _ _ _ _ _ _ _ _ _ _ _ _ _ _ _ _ _ _ _ _ _ _ (by omega) (by omega) (by omega) (by omega)) yw_Model_compare sel_Model_compare lk_Model_81 d_Model_isThere_32 rfl rfl rfl [0, 1, 2, 3, 4, 5, 6, 7, 8, 9, 10, 11, 12, 13] [] [0, 1, 2, 3, 4, 5, 6, 7, 8, 9, 10, 11, 12, 13] rfl rfl rfl rfl (by decide) rfl rfl rfl rfl rfl ⟨by decide, by decide⟩ ⟨by decide, by decide⟩ rfl (Nat.le_of_ble_eq_true rfl) ?_
      refine ks_top_kcmp (by omega) (by omega) (fun u3 => ?_)
      refine ks_ifZ_ne (tgt := 42) C (by omega) (by omega) (by decide) d_Model_isThere_35 (fun u4 => ?_) (fun u4 => ?_)
      · refine ks_iconstB false rfl C d_Model_isThere_42 ?_
        exact ks_iret C Z rfl (ks_nb1 _) d_Model_isThere_43 rfl rfl ⟨ks_eqF (by omega), rfl⟩
      · refine ks_iconstB true rfl C d_Model_isThere_38 ?_
        refine ks_goto (tgt := 43) C (by decide) d_Model_isThere_39 ?_
        exact ks_iret C Z rfl (ks_nb1 _) d_Model_isThere_43 rfl rfl ⟨ks_eqT (by omega), rfl⟩
set_option maxRecDepth 100000 in
set_option maxHeartbeats 4000000 in
theorem c_Model_copy (l : Launch) (D : va_G) (K : Nat → ClassId) (a0 a1 a2 a3 a4 a5 a6 a7 a8 a9 a10 a11 a12 a13 : Nat) (TO PL KS VS MV : Nat → Nat) (Y : Nat → UInt8) (LI MY : Nat → Nat) (TR : Nat → Int64) (KY VY FK FV : Nat → UInt8) (rn us kn vn fkn fvn mk : Nat) (off opn fnd : Bool) (wh af th : Nat) (a b : Nat) (h1 : a < 7) (h2 : b < 7) (h3 : a ≠ b) (h4 : MY a ≤ 2900) : ks_M l D (ks_T K) (ks_R 0) y_Model_copy b_Model_copy 4 none [.ref a0, .int (nI a), .int (nI b)] (kw_model K a0 a1 a2 a3 a4 a5 a6 a7 a8 a9 a10 a11 a12 a13 TO PL KS VS MV Y LI MY TR KY VY FK FV rn us kn vn fkn fvn mk off opn fnd wh af th) (ks_f none (kw_model K a0 a1 a2 a3 a4 a5 a6 a7 a8 a9 a10 a11 a12 a13 TO PL KS VS MV Y (va_cpy LI LI (2900 * a) (2900 * b) (MY a)) (va_up MY b (MY a)) (va_up TR b (TR a)) KY VY FK FV rn us kn vn fkn fvn mk off opn fnd wh af th)) := by
  refine ks_M.of 1 (by decide) (Nat.le_of_ble_eq_true rfl) ?_
  intro E C Z
  have loop : ∀ (f : Nat) (i : Nat), i + f = MY a → ks_w E D 4 (kw_model K a0 a1 a2 a3 a4 a5 a6 a7 a8 a9 a10 a11 a12 a13 TO PL KS VS MV Y (va_cpy LI LI (2900 * a) (2900 * b) i) MY TR KY VY FK FV rn us kn vn fkn fvn mk off opn fnd wh af th) [some (.ref a0), some (.int (nI a)), some (.int (nI b)), some (.int (nI i))] 0 0 2 [] := by
    intro f
    induction f with
    | zero =>
      intro i g1
      refine ks_iload_n rfl rfl C d_Model_copy_2 ?_
      refine ks_aload_n rfl rfl C d_Model_copy_3 ?_
      refine ks_get (k := 9) C 0 9 in_Model rfl (by decide) fk_Model_33 rfl rfl rfl d_Model_copy_4 ?_
      refine ks_iload_n rfl rfl C d_Model_copy_7 ?_
      refine ks_iald C 8 2 rfl rfl (by omega) (by omega) d_Model_copy_8 ?_
      refine ks_icmp_ge (tgt := 42) C (by omega) (by omega) (by decide) d_Model_copy_9 (fun u1 => ?_) (fun u1 => ?_)
      · refine ks_aload_n rfl rfl C d_Model_copy_42 ?_
        refine ks_get (k := 9) C 0 9 in_Model rfl (by decide) fk_Model_33 rfl rfl rfl d_Model_copy_43 ?_
        refine ks_iload_n rfl rfl C d_Model_copy_46 ?_
        refine ks_aload_n rfl rfl C d_Model_copy_47 ?_
        refine ks_get (k := 9) C 0 9 in_Model rfl (by decide) fk_Model_33 rfl rfl rfl d_Model_copy_48 ?_
        refine ks_iload_n rfl rfl C d_Model_copy_51 ?_
        refine ks_iald C 8 2 rfl rfl (by omega) (by omega) d_Model_copy_52 ?_
        refine ks_iast (ws' := (kw_model K a0 a1 a2 a3 a4 a5 a6 a7 a8 a9 a10 a11 a12 a13 _ _ _ _ _ _ _ _ _ _ _ _ _ _ _ _ _ _ _ _ _ _ _ _ _ _)) C 8 2 rfl rfl (by omega) (by omega) rfl d_Model_copy_53 ?_
        refine ks_aload_n rfl rfl C d_Model_copy_54 ?_
        refine ks_get (k := 10) C 0 9 in_Model rfl (by decide) fk_Model_36 rfl rfl rfl d_Model_copy_55 ?_
        refine ks_iload_n rfl rfl C d_Model_copy_58 ?_
        refine ks_aload_n rfl rfl C d_Model_copy_59 ?_
        refine ks_get (k := 10) C 0 9 in_Model rfl (by decide) fk_Model_36 rfl rfl rfl d_Model_copy_60 ?_
        refine ks_iload_n rfl rfl C d_Model_copy_63 ?_
        refine ks_lald C 9 3 rfl rfl (by omega) (by omega) d_Model_copy_64 ?_
        refine ks_last (ws' := (kw_model K a0 a1 a2 a3 a4 a5 a6 a7 a8 a9 a10 a11 a12 a13 _ _ _ _ _ _ _ _ _ _ _ _ _ _ _ _ _ _ _ _ _ _ _ _ _ _)) C 9 3 rfl rfl (by omega) (by omega) rfl d_Model_copy_65 ?_
        exact ks_vret C Z rfl d_Model_copy_66 rfl rfl ⟨rfl, by rw [show i = MY a by omega]⟩
      · exact (by omega : False).elim
    | succ f ih =>
      intro i g1
      refine ks_iload_n rfl rfl C d_Model_copy_2 ?_
      refine ks_aload_n rfl rfl C d_Model_copy_3 ?_
      refine ks_get (k := 9) C 0 9 in_Model rfl (by decide) fk_Model_33 rfl rfl rfl d_Model_copy_4 ?_
      refine ks_iload_n rfl rfl C d_Model_copy_7 ?_
      refine ks_iald C 8 2 rfl rfl (by omega) (by omega) d_Model_copy_8 ?_
      refine ks_icmp_ge (tgt := 42) C (by omega) (by omega) (by decide) d_Model_copy_9 (fun u2 => ?_) (fun u2 => ?_)
      · exact (by omega : False).elim
      · refine ks_aload_n rfl rfl C d_Model_copy_12 ?_
        refine ks_get (k := 8) C 0 9 in_Model rfl (by decide) fk_Model_30 rfl rfl rfl d_Model_copy_13 ?_
        refine ks_sipush (a := 2900) rfl C d_Model_copy_16 ?_
        refine ks_iload_n rfl rfl C d_Model_copy_19 ?_
        refine ks_imul C d_Model_copy_20 ?_
        refine ks_iload_n rfl rfl C d_Model_copy_21 ?_
        refine ks_iadd C d_Model_copy_22 ?_
        refine ks_aload_n rfl rfl C d_Model_copy_23 ?_
        refine ks_get (k := 8) C 0 9 in_Model rfl (by decide) fk_Model_30 rfl rfl rfl d_Model_copy_24 ?_
        refine ks_sipush (a := 2900) rfl C d_Model_copy_27 ?_
        refine ks_iload_n rfl rfl C d_Model_copy_30 ?_
        refine ks_imul C d_Model_copy_31 ?_
        refine ks_iload_n rfl rfl C d_Model_copy_32 ?_
        refine ks_iadd C d_Model_copy_33 ?_
        refine ks_iald C 7 2 rfl rfl (by omega) (by omega) d_Model_copy_34 ?_
        refine ks_iast (ws' := (kw_model K a0 a1 a2 a3 a4 a5 a6 a7 a8 a9 a10 a11 a12 a13 _ _ _ _ _ _ _ _ _ _ _ _ _ _ _ _ _ _ _ _ _ _ _ _ _ _)) C 7 2 rfl rfl (by omega) (by omega) rfl d_Model_copy_35 ?_
        refine ks_iinc C rfl (z := 1) rfl (by decide) rfl d_Model_copy_36 ?_
        refine ks_goto (tgt := 2) C (by decide) d_Model_copy_39 ?_
        rw [km_cpy_s LI (fun j z1 z2 z3 => by omega)]
        exact ih (i + 1) (by omega)
  refine ks_iconst (a := 0) rfl C d_Model_copy_0 ?_
  refine ks_istore_n C rfl (by decide) rfl d_Model_copy_1 ?_
  have e := loop (MY a) 0 (by omega)
  rw [km_cpy_0] at e
  exact e
