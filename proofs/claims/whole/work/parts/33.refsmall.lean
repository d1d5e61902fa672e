/-! contracts of the reference: small ones -/
set_option maxHeartbeats 4000000 in
theorem cX10_within {M : zMm} (v a b : Int) : zW mX10_within 1 (fun rv S' M' => S' = zS0 ∧ M = M' ∧ rv = some (.inl (zb (a ≤ v ∧ v ≤ b)))) (0, 0) zS0 0 (zargs 0 [.inr (.inl v), .inr (.inl a), .inr (.inl b)]) [] M := by
  change zW _ _ _ _ _ 0 [(0, .inr (.inl v)), (2, .inr (.inl a)), (4, .inr (.inl b))] [] M
  refine z_lload_n 0 (zdec DX10_within 0 rfl) rfl rfl ?_
  refine z_lload_n 1 (zdec DX10_within 1 rfl) rfl rfl ?_
  refine z_lcmp (zdec DX10_within 2 rfl) ?_
  refine z_if_lt 17 (zdec DX10_within 3 rfl) rfl (fun h3 => ?_) (fun h3 => ?_)
  ·
    have c3 : v < a := by unfold zcmp at h3; (repeat split at h3) <;> omega
    refine z_iconst 0 (zdec DX10_within 10 rfl) (by decide) ?_
    exact z_zret (zdec DX10_within 11 rfl) rfl (by omega) (⟨rfl, rfl, zri (by unfold zb; first | rw [if_pos (by omega)] | rw [if_neg (by omega)])⟩)
  ·
    have c3 : a ≤ v := by unfold zcmp at h3; (repeat split at h3) <;> omega
    refine z_lload_n 0 (zdec DX10_within 4 rfl) rfl rfl ?_
    refine z_lload 2 (zdec DX10_within 5 rfl) rfl ?_
    refine z_lcmp (zdec DX10_within 6 rfl) ?_
    refine z_if_gt 17 (zdec DX10_within 7 rfl) rfl (fun h10 => ?_) (fun h10 => ?_)
    ·
      have c10 : b < v := by unfold zcmp at h10; (repeat split at h10) <;> omega
      refine z_iconst 0 (zdec DX10_within 10 rfl) (by decide) ?_
      exact z_zret (zdec DX10_within 11 rfl) rfl (by omega) (⟨rfl, rfl, zri (by unfold zb; first | rw [if_pos (by omega)] | rw [if_neg (by omega)])⟩)
    ·
      have c10 : v ≤ b := by unfold zcmp at h10; (repeat split at h10) <;> omega
      refine z_iconst 1 (zdec DX10_within 8 rfl) (by decide) ?_
      refine z_goto 18 (zdec DX10_within 9 rfl) rfl ?_
      exact z_zret (zdec DX10_within 11 rfl) rfl (by omega) (⟨rfl, rfl, zri (by unfold zb; first | rw [if_pos (by omega)] | rw [if_neg (by omega)])⟩)
set_option maxHeartbeats 4000000 in
theorem cX10_isHouse {M : zMm} (v : Int) : zW mX10_isHouse 2 (fun rv S' M' => S' = zS0 ∧ M = M' ∧ rv = some (.inl (zb (0 ≤ v ∧ v < 16)))) (0, 0) zS0 0 (zargs 0 [.inl v]) [] M := by
  change zW _ _ _ _ _ 0 [(0, .inl v)] [] M
  refine z_iload_n 0 (zdec DX10_isHouse 0 rfl) rfl rfl ?_
  refine z_i2l (zdec DX10_isHouse 1 rfl) ?_
  refine z_lconst 0 (zdec DX10_isHouse 2 rfl) rfl ?_
  refine z_ldc2 15 (zdec DX10_isHouse 3 rfl) kl_SixWallsModel_110 rfl ⟨by decide, by decide⟩ ?_
  refine z_invs mX10_within [.inr (.inl v), .inr (.inl 0), .inr (.inl 15)] (zdec DX10_isHouse 4 rfl) (Or.inl ml_SixWallsModel_112) okX10_within rfl rfl (Nat.le_of_ble_eq_true rfl) (Nat.le_of_ble_eq_true rfl) (b' := (0, 0)) ⟨Nat.le_refl 0, Nat.le_refl 0⟩ (Nat.le_of_ble_eq_true rfl) (cX10_within v 0 15) (fun rv9 S9 M6 h9 => ?_)
  obtain ⟨rfl, rfl, rfl⟩ := h9
  change zW _ _ _ _ _ 9 [(0, .inl v)] [.inl (zb (0 ≤ v ∧ v ≤ 15))] M
  exact z_zret (zdec DX10_isHouse 5 rfl) rfl (by unfold zb; split <;> omega) (⟨rfl, rfl, zri (by unfold zb; split <;> split <;> omega)⟩)
set_option maxHeartbeats 4000000 in
theorem cX10_isWall {M : zMm} (v : Int) : zW mX10_isWall 2 (fun rv S' M' => S' = zS0 ∧ M = M' ∧ rv = some (.inl (zb (0 ≤ v ∧ v < 33)))) (0, 0) zS0 0 (zargs 0 [.inl v]) [] M := by
  change zW _ _ _ _ _ 0 [(0, .inl v)] [] M
  refine z_iload_n 0 (zdec DX10_isWall 0 rfl) rfl rfl ?_
  refine z_i2l (zdec DX10_isWall 1 rfl) ?_
  refine z_lconst 0 (zdec DX10_isWall 2 rfl) rfl ?_
  refine z_ldc2 32 (zdec DX10_isWall 3 rfl) kl_SixWallsModel_116 rfl ⟨by decide, by decide⟩ ?_
  refine z_invs mX10_within [.inr (.inl v), .inr (.inl 0), .inr (.inl 32)] (zdec DX10_isWall 4 rfl) (Or.inl ml_SixWallsModel_112) okX10_within rfl rfl (Nat.le_of_ble_eq_true rfl) (Nat.le_of_ble_eq_true rfl) (b' := (0, 0)) ⟨Nat.le_refl 0, Nat.le_refl 0⟩ (Nat.le_of_ble_eq_true rfl) (cX10_within v 0 32) (fun rv9 S9 M6 h9 => ?_)
  obtain ⟨rfl, rfl, rfl⟩ := h9
  change zW _ _ _ _ _ 9 [(0, .inl v)] [.inl (zb (0 ≤ v ∧ v ≤ 32))] M
  exact z_zret (zdec DX10_isWall 5 rfl) rfl (by unfold zb; split <;> omega) (⟨rfl, rfl, zri (by unfold zb; split <;> split <;> omega)⟩)
