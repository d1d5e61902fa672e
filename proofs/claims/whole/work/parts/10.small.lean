/-! contracts: the small tests of SixWalls, Comb -/
theorem zri {x y : Int} (h : x = y) : some (Sum.inl x : zV) = some (.inl y) := by rw [h]
def zb (p : Prop) [Decidable p] : Int := if p then 1 else 0
theorem zb1 {p : Prop} [Decidable p] (h : p) : zb p = 1 := if_pos h
theorem zb0 {p : Prop} [Decidable p] (h : ¬ p) : zb p = 0 := if_neg h
set_option maxHeartbeats 4000000 in
theorem cX9_within {M : zMm} (v a b : Int) : zW mX9_within 1 (fun rv S' M' => S' = zS0 ∧ M' = M ∧ rv = some (.inl (zb (a ≤ v ∧ v ≤ b)))) (0, 0) zS0 0 (zargs 0 [.inl v, .inl a, .inl b]) [] M := by
  change zW _ _ _ _ _ 0 [(0, .inl v), (1, .inl a), (2, .inl b)] [] M
  refine z_iload_n 0 (zdec DX9_within 0 rfl) rfl rfl ?_
  refine z_iload_n 1 (zdec DX9_within 1 rfl) rfl rfl ?_
  refine z_icmp_lt 14 (zdec DX9_within 2 rfl) rfl (fun h2 => ?_) (fun h2 => ?_)
  ·
    refine z_iconst 0 (zdec DX9_within 8 rfl) (by decide) ?_
    exact z_zret (zdec DX9_within 9 rfl) rfl (by omega) (⟨rfl, rfl, zri (by unfold zb; split <;> omega)⟩)
  ·
    refine z_iload_n 0 (zdec DX9_within 3 rfl) rfl rfl ?_
    refine z_iload_n 2 (zdec DX9_within 4 rfl) rfl rfl ?_
    refine z_icmp_gt 14 (zdec DX9_within 5 rfl) rfl (fun h7 => ?_) (fun h7 => ?_)
    ·
      refine z_iconst 0 (zdec DX9_within 8 rfl) (by decide) ?_
      exact z_zret (zdec DX9_within 9 rfl) rfl (by omega) (⟨rfl, rfl, zri (by unfold zb; split <;> omega)⟩)
    ·
      refine z_iconst 1 (zdec DX9_within 6 rfl) (by decide) ?_
      refine z_goto 15 (zdec DX9_within 7 rfl) rfl ?_
      exact z_zret (zdec DX9_within 9 rfl) rfl (by omega) (⟨rfl, rfl, zri (by unfold zb; split <;> omega)⟩)
set_option maxHeartbeats 4000000 in
theorem cX9_isHouse {M : zMm} (v : Int) : zW mX9_isHouse 2 (fun rv S' M' => S' = zS0 ∧ M' = M ∧ rv = some (.inl (zb (0 ≤ v ∧ v < 16)))) (0, 0) zS0 0 (zargs 0 [.inl v]) [] M := by
  change zW _ _ _ _ _ 0 [(0, .inl v)] [] M
  refine z_iload_n 0 (zdec DX9_isHouse 0 rfl) rfl rfl ?_
  refine z_iconst 0 (zdec DX9_isHouse 1 rfl) (by decide) ?_
  refine z_bipush 15 (zdec DX9_isHouse 2 rfl) (by decide) ?_
  refine z_invs mX9_within [.inl v, .inl 0, .inl 15] (zdec DX9_isHouse 3 rfl) (Or.inl ml_SixWalls_76) okX9_within rfl rfl (Nat.le_of_ble_eq_true rfl) (Nat.le_of_ble_eq_true rfl) (b' := (0, 0)) ⟨Nat.le_refl 0, Nat.le_refl 0⟩ (Nat.le_of_ble_eq_true rfl) (cX9_within v 0 15) (fun rv9 S9 M4 h9 => ?_)
  obtain ⟨rfl, rfl, rfl⟩ := h9
  change zW _ _ _ _ _ 7 [(0, .inl v)] [.inl (zb (0 ≤ v ∧ v ≤ 15))] M
  exact z_zret (zdec DX9_isHouse 4 rfl) rfl (by unfold zb; split <;> omega) (⟨rfl, rfl, zri (by unfold zb; split <;> split <;> omega)⟩)
set_option maxHeartbeats 4000000 in
theorem cX9_isWall {M : zMm} (v : Int) : zW mX9_isWall 2 (fun rv S' M' => S' = zS0 ∧ M' = M ∧ rv = some (.inl (zb (0 ≤ v ∧ v < 33)))) (0, 0) zS0 0 (zargs 0 [.inl v]) [] M := by
  change zW _ _ _ _ _ 0 [(0, .inl v)] [] M
  refine z_iload_n 0 (zdec DX9_isWall 0 rfl) rfl rfl ?_
  refine z_iconst 0 (zdec DX9_isWall 1 rfl) (by decide) ?_
  refine z_bipush 32 (zdec DX9_isWall 2 rfl) (by decide) ?_
  refine z_invs mX9_within [.inl v, .inl 0, .inl 32] (zdec DX9_isWall 3 rfl) (Or.inl ml_SixWalls_76) okX9_within rfl rfl (Nat.le_of_ble_eq_true rfl) (Nat.le_of_ble_eq_true rfl) (b' := (0, 0)) ⟨Nat.le_refl 0, Nat.le_refl 0⟩ (Nat.le_of_ble_eq_true rfl) (cX9_within v 0 32) (fun rv9 S9 M4 h9 => ?_)
  obtain ⟨rfl, rfl, rfl⟩ := h9
  change zW _ _ _ _ _ 7 [(0, .inl v)] [.inl (zb (0 ≤ v ∧ v ≤ 32))] M
  exact z_zret (zdec DX9_isWall 4 rfl) rfl (by unfold zb; split <;> omega) (⟨rfl, rfl, zri (by unfold zb; split <;> split <;> omega)⟩)
set_option maxHeartbeats 4000000 in
theorem cX9_isThought {M : zMm} (v : Int) : zW mX9_isThought 2 (fun rv S' M' => S' = zS0 ∧ M' = M ∧ rv = some (.inl (zb (0 ≤ v ∧ v < 31)))) (0, 0) zS0 0 (zargs 0 [.inl v]) [] M := by
  change zW _ _ _ _ _ 0 [(0, .inl v)] [] M
  refine z_iload_n 0 (zdec DX9_isThought 0 rfl) rfl rfl ?_
  refine z_iconst 0 (zdec DX9_isThought 1 rfl) (by decide) ?_
  refine z_bipush 30 (zdec DX9_isThought 2 rfl) (by decide) ?_
  refine z_invs mX9_within [.inl v, .inl 0, .inl 30] (zdec DX9_isThought 3 rfl) (Or.inl ml_SixWalls_76) okX9_within rfl rfl (Nat.le_of_ble_eq_true rfl) (Nat.le_of_ble_eq_true rfl) (b' := (0, 0)) ⟨Nat.le_refl 0, Nat.le_refl 0⟩ (Nat.le_of_ble_eq_true rfl) (cX9_within v 0 30) (fun rv9 S9 M4 h9 => ?_)
  obtain ⟨rfl, rfl, rfl⟩ := h9
  change zW _ _ _ _ _ 7 [(0, .inl v)] [.inl (zb (0 ≤ v ∧ v ≤ 30))] M
  exact z_zret (zdec DX9_isThought 4 rfl) rfl (by unfold zb; split <;> omega) (⟨rfl, rfl, zri (by unfold zb; split <;> split <;> omega)⟩)
