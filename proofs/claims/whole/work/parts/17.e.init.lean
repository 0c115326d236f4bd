/-! the empty store -/
def kz_S0 : kz_S := ((fun _ => none, fun _ => none, []), ([], [], none), (true, false), (4, 0))
theorem kp_num0 (a : Nat) : kv_num (fun _ => 0) a = 0 := by unfold kv_num; simp
theorem kp_sum_z : ∀ n : Nat, kp_sum (fun _ => 0) n = 0
  | 0 => rfl
  | n + 1 => by rw [kp_sum, kp_sum_z n]
set_option maxRecDepth 100000 in
theorem kp_ok0 : kp_okA (fun _ => none) := ⟨fun t l _ h => by simp at h, by
  show kp_sum (fun _ => 0) 64 ≤ 36864
  rw [kp_sum_z]; exact Nat.zero_le _⟩
set_option maxRecDepth 100000 in
theorem kp_inv0 : kp_inv (fun _ => 0) (fun _ => none) := by
  refine ⟨fun _ => 0, fun _ _ => [], fun _ => [], [], 0, ⟨?_, kp_num0 2, kp_num0 4, kp_num0 0, Nat.zero_le _, fun q h => absurd h List.not_mem_nil⟩, fun q => ?_, fun t _ => ⟨kp_num0 _, kp_num0 _, rfl, rfl, rfl⟩, ?_, ?_, kp_ok0⟩
  · trivial
  · have e : kp_ctA (fun _ => 0) (fun _ _ => []) (fun _ => []) q = fun _ => 0 := by
      funext t
      simp [kp_ctA, kp_ct, kp_cn]
    rw [e, kp_sum_z]
    unfold kp_ind
    rw [if_neg (by omega)]
    rfl
  · rw [kp_num0]
    exact (kp_sum_z 64).symm
  · rw [kp_num0]
    exact (kp_sum_z 64).symm
set_option maxRecDepth 100000 in
theorem kz_C0 : kz_C kz_D0 kz_S0 := by
  refine ⟨⟨by decide, by decide, by decide, by decide, by decide, by decide, by decide, by decide, by decide, by decide⟩, ⟨fun _ => (by decide : 0 < 65536), fun _ => (by decide : 0 < 65536), fun _ => (by decide : 0 < 65536)⟩, ⟨rfl, rfl, rfl, rfl, fun _ => rfl⟩, ⟨⟨rfl, fun j hj => absurd hj (Nat.not_lt_zero j)⟩, ⟨rfl, fun j hj => absurd hj (Nat.not_lt_zero j)⟩, rfl, rfl⟩, fun _ => ⟨rfl, kp_inv0, ⟨kp_inv0, Nat.le_refl _, fun q _ _ i _ => rfl⟩, fun i a h => by simp at h, rfl, rfl⟩, fun h => by cases h⟩
set_option maxRecDepth 100000 in
theorem kq_fl0 : kq_flat (fun _ => none) = [] := rfl
theorem km_t0 : ∀ t, t < 64 → km_tree 0 t = false := by decide +kernel
set_option maxRecDepth 100000 in
theorem kz_N0 : kz_N kz_E0 kz_S0 := by
  refine ⟨⟨by decide, by decide, by decide, by decide, by decide, by decide⟩, ⟨rfl, rfl, rfl, rfl, rfl, rfl⟩, ⟨⟨by decide, by decide, fun j hj => absurd hj (Nat.not_lt_zero j), fun j j2 _ hj => absurd hj (Nat.not_lt_zero j2)⟩, by decide, fun i a h => ?_⟩, ⟨rfl, fun j hj => absurd hj (Nat.not_lt_zero j)⟩, ⟨rfl, fun j hj => absurd hj (Nat.not_lt_zero j)⟩, trivial⟩
  have e : a = fun _ => none := by
    match i, h with
    | 0, h => exact (Option.some.inj h).symm
    | 1, h => exact (Option.some.inj h).symm
    | i + 2, h => simp at h
  subst e
  exact ⟨⟨kq_fl0.symm ▸ rfl, fun t ht => km_t0 t ht, fun k hk => absurd hk (Nat.not_lt_zero k)⟩, kp_ok0⟩
