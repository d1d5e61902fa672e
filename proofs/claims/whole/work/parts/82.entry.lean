/-! the law from its entry, in the small machine -/
set_option maxHeartbeats 4000000 in
theorem zL_start {M0 : zMm} (hs : M0 (-3) (-1) = 8 ∧ M0 (-4) (-1) = 32 ∧ (∀ k : Int, 0 ≤ k → k < 8 → M0 (-3) k = zabv k) ∧ ∀ k : Int, 0 ≤ k → k < 32 → M0 (-4) k = zbod k) (h0 : 0 ≤ M0 (-2) (-1)) (hm : M0 (-2) (-1) < 2147483648) : zW mL_law 100 zQL (84, 3500) [] 0 [(0, .inr (.inr (-2)))] [] M0 := by
  refine z_new (b := (83, 3491)) 9 (n := 9) (zdec DL_law_0 0 rfl) rfl cl_SixWallsLaw_7 zins_SixWalls zini_SixWalls zfd9 ?_
  change zW _ _ _ _ (zS0.take 1) 3 [(0, .inr (.inr (-2)))] [.inr (.inr 0)] (znew M0 0)
  refine z_dup (zdec DL_law_0 1 rfl) rfl ?_
  refine z_init mX9_init [] (zdec DL_law_0 2 rfl) (Or.inl ml_SixWallsLaw_9) okX9_init (by decide) rfl rfl (Nat.le_of_ble_eq_true rfl) (Nat.le_of_ble_eq_true rfl) (b' := (28, 1391)) ⟨by decide, by decide⟩ (Nat.le_of_ble_eq_true rfl) (zW_scr cX9_init) (fun rv9 S9 M1 h9 => ?_)
  obtain ⟨⟨rfl, rfl, h9⟩, f1⟩ := h9
  change zW _ _ _ _ _ 7 [(0, .inr (.inr (-2)))] [.inr (.inr 0)] M1
  refine z_astore_n (L' := [(0, .inr (.inr (-2))), (1, .inr (.inr 0))]) (zdec DL_law_0 3 rfl) rfl (by decide) rfl (by decide) ?_
  refine z_new (b := (27, 1347)) 10 (n := 44) (zdec DL_law_0 4 rfl) rfl cl_SixWallsLaw_10 zins_SixWallsModel zini_SixWallsModel zfd10 ?_
  change zW _ _ _ _ (zS0.take 57) 11 [(0, .inr (.inr (-2))), (1, .inr (.inr 0))] [.inr (.inr 56)] (znew M1 56)
  refine z_dup (zdec DL_law_0 5 rfl) rfl ?_
  refine z_init mX10_init [] (zdec DL_law_0 6 rfl) (Or.inl ml_SixWallsLaw_12) okX10_init (by decide) rfl rfl (Nat.le_of_ble_eq_true rfl) (Nat.le_of_ble_eq_true rfl) (b' := (0, 0)) ⟨by decide, by decide⟩ (Nat.le_of_ble_eq_true rfl) (zW_scr (cX10_init (fun j => znew_at))) (fun rv9 S9 M3 h10 => ?_)
  obtain ⟨⟨rfl, rfl, a1, a2, a3, a4, a5, a6, a7, a8, a9, a10, a11, a12⟩, f2⟩ := h10
  have hI := zstart_I hs h9 a1 a2 a3 a4 a5 a6 a7 a8 a9 a10 a11 a12
  have e : M3 (-2) = M0 (-2) := by
    rw [f2 (-2) (by decide) (by decide), znew_row (by decide) (by decide), f1 (-2) (by decide) (by decide), znew_row (by decide) (by decide)]
  change zW _ _ _ _ zS0 15 [(0, .inr (.inr (-2))), (1, .inr (.inr 0))] [.inr (.inr 56)] M3
  refine z_astore_n (L' := [(0, .inr (.inr (-2))), (1, .inr (.inr 0)), (2, .inr (.inr 56))]) (zdec DL_law_0 7 rfl) rfl (by decide) rfl (by decide) ?_
  refine z_iconst 0 (zdec DL_law_0 8 rfl) (by decide) ?_
  refine z_istore_n (L' := [(0, .inr (.inr (-2))), (1, .inr (.inr 0)), (2, .inr (.inr 56)), (3, .inl 0)]) (zdec DL_law_0 9 rfl) rfl rfl (by decide) ?_
  exact zL_loop _ 0 M3 hI (by decide) (by decide) (by rw [e]; exact h0) (by rw [e]; exact hm) (Nat.lt_succ_self _)
