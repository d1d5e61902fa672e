/-! contracts: keep, row, taken, body, trace, count, fires of SixWalls -/
set_option maxHeartbeats 4000000 in
theorem cX9_keep {M : zMm} (hP : zP M) (s b : Int) : zW mX9_keep 3 (fun rv S' M' => S' = zS0 ∧ ((¬ ((0 ≤ s ∧ s < 6) ∧ (b = -1 ∨ (0 ≤ b ∧ b < M 42 1))) ∧ rv = some (.inl (-1)) ∧ M' = M) ∨ (((0 ≤ s ∧ s < 6) ∧ (b = -1 ∨ (0 ≤ b ∧ b < M 42 1))) ∧ rv = some (.inl 1) ∧ M' = zup (zup (zup M 46 s (if b < 0 then -1 else 5)) 47 s b) 48 s 0))) (0, 0) zS0 0 (zargs 0 [.inr (.inr 0), .inl s, .inl b]) [] M := by
  change zW _ _ _ _ _ 0 [(0, .inr (.inr 0)), (1, .inl s), (2, .inl b)] [] M
  refine z_aload_n 0 (zdec DX9_keep 0 rfl) rfl rfl (by decide) ?_
  refine z_getr (rw1 := -10) (ki := 8) (r' := 45) 0 9 (zdec DX9_keep 1 rfl) rfl rfl shp0 rfl (by decide) rfl rfl fl_SixWalls_72 (zPa hP 8 rfl) ?_
  refine z_iload_n 1 (zdec DX9_keep 2 rfl) rfl rfl ?_
  refine z_inv mX6_isShelf 45 6 [.inl s] (zdec DX9_keep 3 rfl) ml_SixWalls_163 okX6_isShelf rfl shp45 rfl rfl rfl rfl (Nat.le_of_ble_eq_true rfl) (Nat.le_of_ble_eq_true rfl) (b' := (0, 0)) ⟨Nat.le_refl 0, Nat.le_refl 0⟩ (Nat.le_of_ble_eq_true rfl) (cX6_isShelf s) (fun rv9 S9 M5 h9 => ?_)
  obtain ⟨rfl, rfl, rfl⟩ := h9
  change zW _ _ _ _ _ 8 [(0, .inr (.inr 0)), (1, .inl s), (2, .inl b)] [.inl (zb (0 ≤ s ∧ s < 6))] M
  refine z_if_eq 27 (zdec DX9_keep 4 rfl) rfl (fun h8 => ?_) (fun h8 => ?_)
  ·
    have hq8 := zb_eq0.mp h8
    refine z_iconst (-1) (zdec DX9_keep 13 rfl) (by decide) ?_
    exact z_iret (zdec DX9_keep 14 rfl) rfl (⟨rfl, Or.inl ⟨by omega, rfl, rfl⟩⟩)
  ·
    have hq8 := zb_ne0.mp h8
    refine z_iload_n 2 (zdec DX9_keep 5 rfl) rfl rfl ?_
    refine z_iconst (-1) (zdec DX9_keep 6 rfl) (by decide) ?_
    refine z_icmp_eq 29 (zdec DX9_keep 7 rfl) rfl (fun h13 => ?_) (fun h13 => ?_)
    ·
      refine z_aload_n 0 (zdec DX9_keep 15 rfl) rfl rfl (by decide) ?_
      refine z_getr (rw1 := -10) (ki := 8) (r' := 45) 0 9 (zdec DX9_keep 16 rfl) rfl rfl shp0 rfl (by decide) rfl rfl fl_SixWalls_72 (zPa hP 8 rfl) ?_
      refine z_iload_n 1 (zdec DX9_keep 17 rfl) rfl rfl ?_
      refine z_iload_n 2 (zdec DX9_keep 18 rfl) rfl rfl ?_
      refine z_inv mX6_hold 45 6 [.inl s, .inl b] (zdec DX9_keep 19 rfl) ml_SixWalls_312 okX6_hold rfl shp45 rfl rfl rfl rfl (Nat.le_of_ble_eq_true rfl) (Nat.le_of_ble_eq_true rfl) (b' := (0, 0)) ⟨Nat.le_refl 0, Nat.le_refl 0⟩ (Nat.le_of_ble_eq_true rfl) (cX6_hold hP s b hq8) (fun rv9 S9 M35 h9 => ?_)
      obtain ⟨rfl, rfl, e35⟩ := h9
      change zW _ _ _ _ _ 38 [(0, .inr (.inr 0)), (1, .inl s), (2, .inl b)] [] M35
      refine z_iconst 1 (zdec DX9_keep 20 rfl) (by decide) ?_
      exact z_iret (zdec DX9_keep 21 rfl) rfl (⟨rfl, Or.inr ⟨⟨hq8, by omega⟩, rfl, e35⟩⟩)
    ·
      refine z_aload_n 0 (zdec DX9_keep 8 rfl) rfl rfl (by decide) ?_
      refine z_getr (rw1 := -10) (ki := 7) (r' := 42) 0 9 (zdec DX9_keep 9 rfl) rfl rfl shp0 rfl (by decide) rfl rfl fl_SixWalls_65 (zPa hP 7 rfl) ?_
      refine z_iload_n 2 (zdec DX9_keep 10 rfl) rfl rfl ?_
      refine z_inv mX0_isBody 42 0 [.inl b] (zdec DX9_keep 11 rfl) ml_SixWalls_309 okX0_isBody rfl shp42 rfl rfl rfl rfl (Nat.le_of_ble_eq_true rfl) (Nat.le_of_ble_eq_true rfl) (b' := (0, 0)) ⟨Nat.le_refl 0, Nat.le_refl 0⟩ (Nat.le_of_ble_eq_true rfl) (cX0_isBody hP b) (fun rv9 S9 M21 h9 => ?_)
      obtain ⟨rfl, rfl, rfl⟩ := h9
      change zW _ _ _ _ _ 24 [(0, .inr (.inr 0)), (1, .inl s), (2, .inl b)] [.inl (zb (0 ≤ b ∧ b < M 42 1))] M
      refine z_if_ne 29 (zdec DX9_keep 12 rfl) rfl (fun h24 => ?_) (fun h24 => ?_)
      ·
        have hq24 := zb_ne0.mp h24
        refine z_aload_n 0 (zdec DX9_keep 15 rfl) rfl rfl (by decide) ?_
        refine z_getr (rw1 := -10) (ki := 8) (r' := 45) 0 9 (zdec DX9_keep 16 rfl) rfl rfl shp0 rfl (by decide) rfl rfl fl_SixWalls_72 (zPa hP 8 rfl) ?_
        refine z_iload_n 1 (zdec DX9_keep 17 rfl) rfl rfl ?_
        refine z_iload_n 2 (zdec DX9_keep 18 rfl) rfl rfl ?_
        refine z_inv mX6_hold 45 6 [.inl s, .inl b] (zdec DX9_keep 19 rfl) ml_SixWalls_312 okX6_hold rfl shp45 rfl rfl rfl rfl (Nat.le_of_ble_eq_true rfl) (Nat.le_of_ble_eq_true rfl) (b' := (0, 0)) ⟨Nat.le_refl 0, Nat.le_refl 0⟩ (Nat.le_of_ble_eq_true rfl) (cX6_hold hP s b hq8) (fun rv9 S9 M35 h9 => ?_)
        obtain ⟨rfl, rfl, e35⟩ := h9
        change zW _ _ _ _ _ 38 [(0, .inr (.inr 0)), (1, .inl s), (2, .inl b)] [] M35
        refine z_iconst 1 (zdec DX9_keep 20 rfl) (by decide) ?_
        exact z_iret (zdec DX9_keep 21 rfl) rfl (⟨rfl, Or.inr ⟨⟨hq8, by omega⟩, rfl, e35⟩⟩)
      ·
        have hq24 := zb_eq0.mp (Decidable.not_not.mp h24)
        refine z_iconst (-1) (zdec DX9_keep 13 rfl) (by decide) ?_
        exact z_iret (zdec DX9_keep 14 rfl) rfl (⟨rfl, Or.inl ⟨by omega, rfl, rfl⟩⟩)
set_option maxHeartbeats 4000000 in
theorem cX9_row {M : zMm} (hP : zP M) (s t n : Int) : zW mX9_row 3 (fun rv S' M' => S' = zS0 ∧ ((¬ ((0 ≤ s ∧ s < 6) ∧ (0 ≤ t ∧ t ≤ 4) ∧ n ≤ 60) ∧ rv = some (.inl (-1)) ∧ M' = M) ∨ (((0 ≤ s ∧ s < 6) ∧ (0 ≤ t ∧ t ≤ 4) ∧ n ≤ 60) ∧ n < 0 ∧ rv = some (.inl (-14)) ∧ M' = M) ∨ (((0 ≤ s ∧ s < 6) ∧ (0 ≤ t ∧ t ≤ 4) ∧ n ≤ 60) ∧ 0 ≤ n ∧ rv = some (.inl 1) ∧ M' = zfill (zup (zup M 46 s t) 48 s n) (50 + s) 60 0))) (0, 0) zS0 0 (zargs 0 [.inr (.inr 0), .inl s, .inl t, .inl n]) [] M := by
  change zW _ _ _ _ _ 0 [(0, .inr (.inr 0)), (1, .inl s), (2, .inl t), (3, .inl n)] [] M
  refine z_aload_n 0 (zdec DX9_row 0 rfl) rfl rfl (by decide) ?_
  refine z_getr (rw1 := -10) (ki := 8) (r' := 45) 0 9 (zdec DX9_row 1 rfl) rfl rfl shp0 rfl (by decide) rfl rfl fl_SixWalls_72 (zPa hP 8 rfl) ?_
  refine z_iload_n 1 (zdec DX9_row 2 rfl) rfl rfl ?_
  refine z_inv mX6_isShelf 45 6 [.inl s] (zdec DX9_row 3 rfl) ml_SixWalls_163 okX6_isShelf rfl shp45 rfl rfl rfl rfl (Nat.le_of_ble_eq_true rfl) (Nat.le_of_ble_eq_true rfl) (b' := (0, 0)) ⟨Nat.le_refl 0, Nat.le_refl 0⟩ (Nat.le_of_ble_eq_true rfl) (cX6_isShelf s) (fun rv9 S9 M5 h9 => ?_)
  obtain ⟨rfl, rfl, rfl⟩ := h9
  change zW _ _ _ _ _ 8 [(0, .inr (.inr 0)), (1, .inl s), (2, .inl t), (3, .inl n)] [.inl (zb (0 ≤ s ∧ s < 6))] M
  refine z_if_eq 28 (zdec DX9_row 4 rfl) rfl (fun h8 => ?_) (fun h8 => ?_)
  ·
    have hq8 := zb_eq0.mp h8
    refine z_iconst (-1) (zdec DX9_row 13 rfl) (by decide) ?_
    exact z_iret (zdec DX9_row 14 rfl) rfl (⟨rfl, Or.inl ⟨by omega, rfl, rfl⟩⟩)
  ·
    have hq8 := zb_ne0.mp h8
    refine z_aload_n 0 (zdec DX9_row 5 rfl) rfl rfl (by decide) ?_
    refine z_getr (rw1 := -10) (ki := 8) (r' := 45) 0 9 (zdec DX9_row 6 rfl) rfl rfl shp0 rfl (by decide) rfl rfl fl_SixWalls_72 (zPa hP 8 rfl) ?_
    refine z_iload_n 2 (zdec DX9_row 7 rfl) rfl rfl ?_
    refine z_inv mX6_isSort 45 6 [.inl t] (zdec DX9_row 8 rfl) ml_SixWalls_315 okX6_isSort rfl shp45 rfl rfl rfl rfl (Nat.le_of_ble_eq_true rfl) (Nat.le_of_ble_eq_true rfl) (b' := (0, 0)) ⟨Nat.le_refl 0, Nat.le_refl 0⟩ (Nat.le_of_ble_eq_true rfl) (cX6_isSort t) (fun rv9 S9 M16 h9 => ?_)
    obtain ⟨rfl, rfl, rfl⟩ := h9
    change zW _ _ _ _ _ 19 [(0, .inr (.inr 0)), (1, .inl s), (2, .inl t), (3, .inl n)] [.inl (zb (0 ≤ t ∧ t ≤ 4))] M
    refine z_if_eq 28 (zdec DX9_row 9 rfl) rfl (fun h19 => ?_) (fun h19 => ?_)
    ·
      have hq19 := zb_eq0.mp h19
      refine z_iconst (-1) (zdec DX9_row 13 rfl) (by decide) ?_
      exact z_iret (zdec DX9_row 14 rfl) rfl (⟨rfl, Or.inl ⟨by omega, rfl, rfl⟩⟩)
    ·
      have hq19 := zb_ne0.mp h19
      refine z_iload_n 3 (zdec DX9_row 10 rfl) rfl rfl ?_
      refine z_bipush 60 (zdec DX9_row 11 rfl) (by decide) ?_
      refine z_icmp_le 30 (zdec DX9_row 12 rfl) rfl (fun h25 => ?_) (fun h25 => ?_)
      ·
        refine z_iload_n 3 (zdec DX9_row 15 rfl) rfl rfl ?_
        refine z_if_ge 37 (zdec DX9_row 16 rfl) rfl (fun h31 => ?_) (fun h31 => ?_)
        ·
          refine z_aload_n 0 (zdec DX9_row 19 rfl) rfl rfl (by decide) ?_
          refine z_getr (rw1 := -10) (ki := 8) (r' := 45) 0 9 (zdec DX9_row 20 rfl) rfl rfl shp0 rfl (by decide) rfl rfl fl_SixWalls_72 (zPa hP 8 rfl) ?_
          refine z_iload_n 1 (zdec DX9_row 21 rfl) rfl rfl ?_
          refine z_iload_n 2 (zdec DX9_row 22 rfl) rfl rfl ?_
          refine z_iload_n 3 (zdec DX9_row 23 rfl) rfl rfl ?_
          refine z_inv mX6_lay 45 6 [.inl s, .inl t, .inl n] (zdec DX9_row 24 rfl) ml_SixWalls_318 okX6_lay rfl shp45 rfl rfl rfl rfl (Nat.le_of_ble_eq_true rfl) (Nat.le_of_ble_eq_true rfl) (b' := (0, 0)) ⟨Nat.le_refl 0, Nat.le_refl 0⟩ (Nat.le_of_ble_eq_true rfl) (cX6_lay hP s t n hq8) (fun rv9 S9 M44 h9 => ?_)
          obtain ⟨rfl, rfl, e44⟩ := h9
          change zW _ _ _ _ _ 47 [(0, .inr (.inr 0)), (1, .inl s), (2, .inl t), (3, .inl n)] [] M44
          refine z_iconst 1 (zdec DX9_row 25 rfl) (by decide) ?_
          exact z_iret (zdec DX9_row 26 rfl) rfl (⟨rfl, Or.inr (Or.inr ⟨⟨hq8, hq19, by omega⟩, by omega, rfl, e44⟩)⟩)
        ·
          refine z_bipush (-14) (zdec DX9_row 17 rfl) (by decide) ?_
          exact z_iret (zdec DX9_row 18 rfl) rfl (⟨rfl, Or.inr (Or.inl ⟨⟨hq8, hq19, by omega⟩, by omega, rfl, rfl⟩)⟩)
      ·
        refine z_iconst (-1) (zdec DX9_row 13 rfl) (by decide) ?_
        exact z_iret (zdec DX9_row 14 rfl) rfl (⟨rfl, Or.inl ⟨by omega, rfl, rfl⟩⟩)
set_option maxHeartbeats 4000000 in
theorem cX9_taken {M : zMm} (hP : zP M) (hC : zCe M) (hX : zSx M) (s k : Int) : zW mX9_taken 4 (fun rv S' M' => S' = zS0 ∧ M = M' ∧ rv = some (.inl (if (0 ≤ s ∧ s < 6) ∧ 0 ≤ k ∧ k < 8 then (if M 46 s = -1 then -11 else if zund k 8 (zkof M (if M 46 s = 5 then M 47 s else -1)) ≠ 0 then zkof M (if M 46 s = 5 then M 47 s else -1) else -12) else -1))) (0, 0) zS0 0 (zargs 0 [.inr (.inr 0), .inl s, .inl k]) [] M := by
  change zW _ _ _ _ _ 0 [(0, .inr (.inr 0)), (1, .inl s), (2, .inl k)] [] M
  refine z_aload_n 0 (zdec DX9_taken 0 rfl) rfl rfl (by decide) ?_
  refine z_getr (rw1 := -10) (ki := 8) (r' := 45) 0 9 (zdec DX9_taken 1 rfl) rfl rfl shp0 rfl (by decide) rfl rfl fl_SixWalls_72 (zPa hP 8 rfl) ?_
  refine z_iload_n 1 (zdec DX9_taken 2 rfl) rfl rfl ?_
  refine z_inv mX6_isShelf 45 6 [.inl s] (zdec DX9_taken 3 rfl) ml_SixWalls_163 okX6_isShelf rfl shp45 rfl rfl rfl rfl (Nat.le_of_ble_eq_true rfl) (Nat.le_of_ble_eq_true rfl) (b' := (0, 0)) ⟨Nat.le_refl 0, Nat.le_refl 0⟩ (Nat.le_of_ble_eq_true rfl) (cX6_isShelf s) (fun rv9 S9 M5 h9 => ?_)
  obtain ⟨rfl, rfl, rfl⟩ := h9
  change zW _ _ _ _ _ 8 [(0, .inr (.inr 0)), (1, .inl s), (2, .inl k)] [.inl (zb (0 ≤ s ∧ s < 6))] M
  refine z_if_eq 22 (zdec DX9_taken 4 rfl) rfl (fun h8 => ?_) (fun h8 => ?_)
  ·
    have hq8 := zb_eq0.mp h8
    refine z_iconst (-1) (zdec DX9_taken 10 rfl) (by decide) ?_
    exact z_iret (zdec DX9_taken 11 rfl) rfl (⟨rfl, rfl, zri (by rw [if_neg (by omega)])⟩)
  ·
    have hq8 := zb_ne0.mp h8
    refine z_aload_n 0 (zdec DX9_taken 5 rfl) rfl rfl (by decide) ?_
    refine z_getr (rw1 := -10) (ki := 7) (r' := 42) 0 9 (zdec DX9_taken 6 rfl) rfl rfl shp0 rfl (by decide) rfl rfl fl_SixWalls_65 (zPa hP 7 rfl) ?_
    refine z_iload_n 2 (zdec DX9_taken 7 rfl) rfl rfl ?_
    refine z_inv mX0_isKind 42 0 [.inl k] (zdec DX9_taken 8 rfl) ml_SixWalls_297 okX0_isKind rfl shp42 rfl rfl rfl rfl (Nat.le_of_ble_eq_true rfl) (Nat.le_of_ble_eq_true rfl) (b' := (0, 0)) ⟨Nat.le_refl 0, Nat.le_refl 0⟩ (Nat.le_of_ble_eq_true rfl) (cX0_isKind hP hX k) (fun rv9 S9 M16 h9 => ?_)
    obtain ⟨rfl, rfl, rfl⟩ := h9
    change zW _ _ _ _ _ 19 [(0, .inr (.inr 0)), (1, .inl s), (2, .inl k)] [.inl (zb (0 ≤ k ∧ k < 8))] M
    refine z_if_ne 24 (zdec DX9_taken 9 rfl) rfl (fun h19 => ?_) (fun h19 => ?_)
    ·
      have hq19 := zb_ne0.mp h19
      refine z_aload_n 0 (zdec DX9_taken 12 rfl) rfl rfl (by decide) ?_
      refine z_getr (rw1 := -10) (ki := 8) (r' := 45) 0 9 (zdec DX9_taken 13 rfl) rfl rfl shp0 rfl (by decide) rfl rfl fl_SixWalls_72 (zPa hP 8 rfl) ?_
      refine z_iload_n 1 (zdec DX9_taken 14 rfl) rfl rfl ?_
      refine z_inv mX6_isBare 45 6 [.inl s] (zdec DX9_taken 15 rfl) ml_SixWalls_338 okX6_isBare rfl shp45 rfl rfl rfl rfl (Nat.le_of_ble_eq_true rfl) (Nat.le_of_ble_eq_true rfl) (b' := (0, 0)) ⟨Nat.le_refl 0, Nat.le_refl 0⟩ (Nat.le_of_ble_eq_true rfl) (cX6_isBare hP s hq8) (fun rv9 S9 M29 h9 => ?_)
      obtain ⟨rfl, rfl, rfl⟩ := h9
      change zW _ _ _ _ _ 32 [(0, .inr (.inr 0)), (1, .inl s), (2, .inl k)] [.inl (zb (M 46 s = -1))] M
      refine z_if_eq 38 (zdec DX9_taken 16 rfl) rfl (fun h32 => ?_) (fun h32 => ?_)
      ·
        have hq32 := zb_eq0.mp h32
        refine z_aload_n 0 (zdec DX9_taken 19 rfl) rfl rfl (by decide) ?_
        refine z_getr (rw1 := -10) (ki := 8) (r' := 45) 0 9 (zdec DX9_taken 20 rfl) rfl rfl shp0 rfl (by decide) rfl rfl fl_SixWalls_72 (zPa hP 8 rfl) ?_
        refine z_iload_n 1 (zdec DX9_taken 21 rfl) rfl rfl ?_
        refine z_inv mX6_cellOn 45 6 [.inl s] (zdec DX9_taken 22 rfl) ml_SixWalls_341 okX6_cellOn rfl shp45 rfl rfl rfl rfl (Nat.le_of_ble_eq_true rfl) (Nat.le_of_ble_eq_true rfl) (b' := (0, 0)) ⟨Nat.le_refl 0, Nat.le_refl 0⟩ (Nat.le_of_ble_eq_true rfl) (cX6_cellOn hP s hq8) (fun rv9 S9 M43 h9 => ?_)
        obtain ⟨rfl, rfl, rfl⟩ := h9
        change zW _ _ _ _ _ 46 [(0, .inr (.inr 0)), (1, .inl s), (2, .inl k)] [.inl (if M 46 s = 5 then M 47 s else -1)] M
        refine z_istore_n (L' := [(0, .inr (.inr 0)), (1, .inl s), (2, .inl k), (3, .inl (if M 46 s = 5 then M 47 s else -1))]) (zdec DX9_taken 23 rfl) rfl rfl (by decide) ?_
        refine z_aload_n 0 (zdec DX9_taken 24 rfl) rfl rfl (by decide) ?_
        refine z_getr (rw1 := -10) (ki := 7) (r' := 42) 0 9 (zdec DX9_taken 25 rfl) rfl rfl shp0 rfl (by decide) rfl rfl fl_SixWalls_65 (zPa hP 7 rfl) ?_
        refine z_iload_n 3 (zdec DX9_taken 26 rfl) rfl rfl ?_
        refine z_iload_n 2 (zdec DX9_taken 27 rfl) rfl rfl ?_
        refine z_inv mX0_isUnder 42 0 [.inl (if M 46 s = 5 then M 47 s else -1), .inl k] (zdec DX9_taken 28 rfl) ml_SixWalls_344 okX0_isUnder rfl shp42 rfl rfl rfl rfl (Nat.le_of_ble_eq_true rfl) (Nat.le_of_ble_eq_true rfl) (b' := (0, 0)) ⟨Nat.le_refl 0, Nat.le_refl 0⟩ (Nat.le_of_ble_eq_true rfl) (cX0_isUnder hP hC hX (if M 46 s = 5 then M 47 s else -1) k) (fun rv9 S9 M53 h9 => ?_)
        obtain ⟨rfl, rfl, rfl⟩ := h9
        change zW _ _ _ _ _ 56 [(0, .inr (.inr 0)), (1, .inl s), (2, .inl k), (3, .inl (if M 46 s = 5 then M 47 s else -1))] [.inl (zund k 8 (zkof M (if M 46 s = 5 then M 47 s else -1)))] M
        refine z_if_eq 70 (zdec DX9_taken 29 rfl) rfl (fun h56 => ?_) (fun h56 => ?_)
        ·
          refine z_bipush (-12) (zdec DX9_taken 35 rfl) (by decide) ?_
          exact z_iret (zdec DX9_taken 36 rfl) rfl (⟨rfl, rfl, zri (by first | exact ((if_pos (show (0 ≤ s ∧ s < 6) ∧ 0 ≤ k ∧ k < 8 from ⟨hq8, hq19⟩)).trans ((if_neg hq32).trans (if_pos h56))).symm | exact ((if_pos (show (0 ≤ s ∧ s < 6) ∧ 0 ≤ k ∧ k < 8 from ⟨hq8, hq19⟩)).trans ((if_neg hq32).trans (if_neg (fun e => e h56)))).symm)⟩)
        ·
          refine z_aload_n 0 (zdec DX9_taken 30 rfl) rfl rfl (by decide) ?_
          refine z_getr (rw1 := -10) (ki := 7) (r' := 42) 0 9 (zdec DX9_taken 31 rfl) rfl rfl shp0 rfl (by decide) rfl rfl fl_SixWalls_65 (zPa hP 7 rfl) ?_
          refine z_iload_n 3 (zdec DX9_taken 32 rfl) rfl rfl ?_
          refine z_inv mX0_kindOf 42 0 [.inl (if M 46 s = 5 then M 47 s else -1)] (zdec DX9_taken 33 rfl) ml_SixWalls_347 okX0_kindOf rfl shp42 rfl rfl rfl rfl (Nat.le_of_ble_eq_true rfl) (Nat.le_of_ble_eq_true rfl) (b' := (0, 0)) ⟨Nat.le_refl 0, Nat.le_refl 0⟩ (Nat.le_of_ble_eq_true rfl) (cX0_kindOf hP hC (if M 46 s = 5 then M 47 s else -1)) (fun rv9 S9 M64 h9 => ?_)
          obtain ⟨rfl, rfl, rfl⟩ := h9
          change zW _ _ _ _ _ 67 [(0, .inr (.inr 0)), (1, .inl s), (2, .inl k), (3, .inl (if M 46 s = 5 then M 47 s else -1))] [.inl (zkof M (if M 46 s = 5 then M 47 s else -1))] M
          refine z_goto 72 (zdec DX9_taken 34 rfl) rfl ?_
          exact z_iret (zdec DX9_taken 36 rfl) rfl (⟨rfl, rfl, zri (by first | exact ((if_pos (show (0 ≤ s ∧ s < 6) ∧ 0 ≤ k ∧ k < 8 from ⟨hq8, hq19⟩)).trans ((if_neg hq32).trans (if_pos h56))).symm | exact ((if_pos (show (0 ≤ s ∧ s < 6) ∧ 0 ≤ k ∧ k < 8 from ⟨hq8, hq19⟩)).trans ((if_neg hq32).trans (if_neg (fun e => e h56)))).symm)⟩)
      ·
        have hq32 := zb_ne0.mp h32
        refine z_bipush (-11) (zdec DX9_taken 17 rfl) (by decide) ?_
        exact z_iret (zdec DX9_taken 18 rfl) rfl (⟨rfl, rfl, zri (by rw [if_pos ⟨hq8, hq19⟩, if_pos hq32])⟩)
    ·
      have hq19 := zb_eq0.mp (Decidable.not_not.mp h19)
      refine z_iconst (-1) (zdec DX9_taken 10 rfl) (by decide) ?_
      exact z_iret (zdec DX9_taken 11 rfl) rfl (⟨rfl, rfl, zri (by rw [if_neg (by omega)])⟩)
set_option maxHeartbeats 4000000 in
theorem cX9_body {M : zMm} (hP : zP M) (hC : zCe M) (hX : zSx M) (k : Int) : zW mX9_body 3 (fun rv S' M' => S' = zS0 ∧ rv = some (.inl (if 0 ≤ k ∧ k < 8 then (if M 42 1 < 50 then M 42 1 else -3) else -1)) ∧ M' = if (0 ≤ k ∧ k < 8) ∧ M 42 1 < 50 then zup (zup M 43 (M 42 1) k) 42 1 (M 42 1 + 1) else M) (0, 0) zS0 0 (zargs 0 [.inr (.inr 0), .inl k]) [] M := by
  change zW _ _ _ _ _ 0 [(0, .inr (.inr 0)), (1, .inl k)] [] M
  refine z_aload_n 0 (zdec DX9_body 0 rfl) rfl rfl (by decide) ?_
  refine z_getr (rw1 := -10) (ki := 7) (r' := 42) 0 9 (zdec DX9_body 1 rfl) rfl rfl shp0 rfl (by decide) rfl rfl fl_SixWalls_65 (zPa hP 7 rfl) ?_
  refine z_iload_n 1 (zdec DX9_body 2 rfl) rfl rfl ?_
  refine z_inv mX0_isKind 42 0 [.inl k] (zdec DX9_body 3 rfl) ml_SixWalls_297 okX0_isKind rfl shp42 rfl rfl rfl rfl (Nat.le_of_ble_eq_true rfl) (Nat.le_of_ble_eq_true rfl) (b' := (0, 0)) ⟨Nat.le_refl 0, Nat.le_refl 0⟩ (Nat.le_of_ble_eq_true rfl) (cX0_isKind hP hX k) (fun rv9 S9 M5 h9 => ?_)
  obtain ⟨rfl, rfl, rfl⟩ := h9
  change zW _ _ _ _ _ 8 [(0, .inr (.inr 0)), (1, .inl k)] [.inl (zb (0 ≤ k ∧ k < 8))] M
  refine z_if_ne 13 (zdec DX9_body 4 rfl) rfl (fun h8 => ?_) (fun h8 => ?_)
  ·
    have hq8 := zb_ne0.mp h8
    refine z_aload_n 0 (zdec DX9_body 7 rfl) rfl rfl (by decide) ?_
    refine z_getr (rw1 := -10) (ki := 7) (r' := 42) 0 9 (zdec DX9_body 8 rfl) rfl rfl shp0 rfl (by decide) rfl rfl fl_SixWalls_65 (zPa hP 7 rfl) ?_
    refine z_iload_n 1 (zdec DX9_body 9 rfl) rfl rfl ?_
    refine z_inv mX0_add 42 0 [.inl k] (zdec DX9_body 10 rfl) ml_SixWalls_300 okX0_add rfl shp42 rfl rfl rfl rfl (Nat.le_of_ble_eq_true rfl) (Nat.le_of_ble_eq_true rfl) (b' := (0, 0)) ⟨Nat.le_refl 0, Nat.le_refl 0⟩ (Nat.le_of_ble_eq_true rfl) (cX0_add hP hC k) (fun rv9 S9 M18 h9 => ?_)
    obtain ⟨rfl, rfl, e18⟩ := h9
    change zW _ _ _ _ _ 21 [(0, .inr (.inr 0)), (1, .inl k)] [.inl (if M 42 1 < 50 then M 42 1 else -3)] M18
    exact z_iret (zdec DX9_body 11 rfl) rfl (⟨rfl, zri ((if_pos hq8)).symm, (by rw [e18]; by_cases e : M 42 1 < 50; (rw [if_pos e, if_pos ⟨hq8, e⟩]); (rw [if_neg e, if_neg (fun x => e x.2)]))⟩)
  ·
    have hq8 := zb_eq0.mp (Decidable.not_not.mp h8)
    refine z_iconst (-1) (zdec DX9_body 5 rfl) (by decide) ?_
    exact z_iret (zdec DX9_body 6 rfl) rfl (⟨rfl, zri (by rw [if_neg hq8]), (by rw [if_neg (fun e => hq8 e.1)])⟩)
set_option maxHeartbeats 4000000 in
theorem cX9_trace {M : zMm} (hP : zP M) (hC : zCe M) (i : Int) : zW mX9_trace 3 (fun rv S' M' => S' = zS0 ∧ M = M' ∧ rv = some (.inl (if 0 ≤ i ∧ i < (if 24 < M 42 3 then 24 else M 42 3) then M 44 i else -1))) (0, 0) zS0 0 (zargs 0 [.inr (.inr 0), .inl i]) [] M := by
  change zW _ _ _ _ _ 0 [(0, .inr (.inr 0)), (1, .inl i)] [] M
  refine z_aload_n 0 (zdec DX9_trace 0 rfl) rfl rfl (by decide) ?_
  refine z_getr (rw1 := -10) (ki := 7) (r' := 42) 0 9 (zdec DX9_trace 1 rfl) rfl rfl shp0 rfl (by decide) rfl rfl fl_SixWalls_65 (zPa hP 7 rfl) ?_
  refine z_iload_n 1 (zdec DX9_trace 2 rfl) rfl rfl ?_
  refine z_inv mX0_ranAt 42 0 [.inl i] (zdec DX9_trace 3 rfl) ml_SixWalls_306 okX0_ranAt rfl shp42 rfl rfl rfl rfl (Nat.le_of_ble_eq_true rfl) (Nat.le_of_ble_eq_true rfl) (b' := (0, 0)) ⟨Nat.le_refl 0, Nat.le_refl 0⟩ (Nat.le_of_ble_eq_true rfl) (cX0_ranAt hP hC i) (fun rv9 S9 M5 h9 => ?_)
  obtain ⟨rfl, rfl, rfl⟩ := h9
  change zW _ _ _ _ _ 8 [(0, .inr (.inr 0)), (1, .inl i)] [.inl (if 0 ≤ i ∧ i < (if 24 < M 42 3 then 24 else M 42 3) then M 44 i else -1)] M
  exact z_iret (zdec DX9_trace 4 rfl) rfl (⟨rfl, rfl, rfl⟩)
def zcnt (M : zMm) (k : Int) : Int := if k = 0 then zsum (M 7) 16 else if k = 1 then zsum (M 12) 33 else if k = 2 then M 21 7 else if k = 3 then M 14 1 else if k = 4 then M 37 5 else if k = 5 then M 42 1 else if k = 6 then M 42 3 else -1
set_option maxHeartbeats 4000000 in
theorem cX9_count {M : zMm} (hP : zP M) (hR : zRg M) (k : Int) : zW mX9_count 3 (fun rv S' M' => S' = zS0 ∧ M = M' ∧ rv = some (.inl (zcnt M k))) (0, 0) zS0 0 (zargs 0 [.inr (.inr 0), .inl k]) [] M := by
  change zW _ _ _ _ _ 0 [(0, .inr (.inr 0)), (1, .inl k)] [] M
  refine z_iload_n 1 (zdec DX9_count 0 rfl) rfl rfl ?_
  refine z_tsw (zdec DX9_count 1 rfl) (by decide) (fun j off hj he => ?_) (fun hd => ?_)
  · match j, hj, he with
    | 0, hj, he =>
      cases hj
      refine ⟨44, rfl, ?_⟩
      have h1 : k = 0 := by simpa using he
      refine z_aload_n 0 (zdec DX9_count 2 rfl) rfl rfl (by decide) ?_
      refine z_getr (rw1 := -10) (ki := 0) (r' := 1) 0 9 (zdec DX9_count 3 rfl) rfl rfl shp0 rfl (by decide) rfl rfl fl_SixWalls_10 (zPa hP 0 rfl) ?_
      refine z_getr (rw1 := -11) (ki := 5) (r' := 7) 1 1 (zdec DX9_count 4 rfl) rfl rfl shp1 rfl (by decide) rfl rfl fl_SixWalls_132 (zPa hP 14 rfl) ?_
      refine z_invs mX9_sum [.inr (.inr 7)] (zdec DX9_count 5 rfl) (Or.inl ml_SixWalls_204) okX9_sum rfl rfl (Nat.le_of_ble_eq_true rfl) (Nat.le_of_ble_eq_true rfl) (b' := (0, 0)) ⟨Nat.le_refl 0, Nat.le_refl 0⟩ (Nat.le_of_ble_eq_true rfl) (cX9_sum_7 (fun i h0 h1 => (hR.1 i h0 h1).1)) (fun rv9 S9 M51 h9 => ?_)
      obtain ⟨rfl, rfl, rfl⟩ := h9
      change zW _ _ _ _ _ 54 [(0, .inr (.inr 0)), (1, .inl k)] [.inl (zsum (M 7) 16)] M
      exact z_iret (zdec DX9_count 6 rfl) rfl (⟨rfl, rfl, zri (by unfold zcnt; (repeat (first | rw [if_pos (by omega)] | rw [if_neg (by omega)])))⟩)
    | 1, hj, he =>
      cases hj
      refine ⟨55, rfl, ?_⟩
      have h1 : k = 1 := by simpa using he
      refine z_aload_n 0 (zdec DX9_count 7 rfl) rfl rfl (by decide) ?_
      refine z_getr (rw1 := -10) (ki := 0) (r' := 1) 0 9 (zdec DX9_count 8 rfl) rfl rfl shp0 rfl (by decide) rfl rfl fl_SixWalls_10 (zPa hP 0 rfl) ?_
      refine z_getr (rw1 := -11) (ki := 10) (r' := 12) 1 1 (zdec DX9_count 9 rfl) rfl rfl shp1 rfl (by decide) rfl rfl fl_SixWalls_145 (zPa hP 19 rfl) ?_
      refine z_invs mX9_sum [.inr (.inr 12)] (zdec DX9_count 10 rfl) (Or.inl ml_SixWalls_204) okX9_sum rfl rfl (Nat.le_of_ble_eq_true rfl) (Nat.le_of_ble_eq_true rfl) (b' := (0, 0)) ⟨Nat.le_refl 0, Nat.le_refl 0⟩ (Nat.le_of_ble_eq_true rfl) (cX9_sum_12 (fun i h0 h1 => (hR.2.1 i h0 h1).2.1)) (fun rv9 S9 M62 h9 => ?_)
      obtain ⟨rfl, rfl, rfl⟩ := h9
      change zW _ _ _ _ _ 65 [(0, .inr (.inr 0)), (1, .inl k)] [.inl (zsum (M 12) 33)] M
      exact z_iret (zdec DX9_count 11 rfl) rfl (⟨rfl, rfl, zri (by unfold zcnt; (repeat (first | rw [if_pos (by omega)] | rw [if_neg (by omega)])))⟩)
    | 2, hj, he =>
      cases hj
      refine ⟨66, rfl, ?_⟩
      have h1 : k = 2 := by simpa using he
      refine z_aload_n 0 (zdec DX9_count 12 rfl) rfl rfl (by decide) ?_
      refine z_getr (rw1 := -10) (ki := 2) (r' := 21) 0 9 (zdec DX9_count 13 rfl) rfl rfl shp0 rfl (by decide) rfl rfl fl_SixWalls_28 (zPa hP 2 rfl) ?_
      refine z_geti (ki := 7) 21 8 (zdec DX9_count 14 rfl) rfl shp21 rfl (by decide) rfl rfl fl_SixWalls_221 ?_
      exact z_iret (zdec DX9_count 15 rfl) rfl (⟨rfl, rfl, zri (by unfold zcnt; (repeat (first | rw [if_pos (by omega)] | rw [if_neg (by omega)])))⟩)
    | 3, hj, he =>
      cases hj
      refine ⟨74, rfl, ?_⟩
      have h1 : k = 3 := by simpa using he
      refine z_aload_n 0 (zdec DX9_count 16 rfl) rfl rfl (by decide) ?_
      refine z_getr (rw1 := -10) (ki := 1) (r' := 14) 0 9 (zdec DX9_count 17 rfl) rfl rfl shp0 rfl (by decide) rfl rfl fl_SixWalls_19 (zPa hP 1 rfl) ?_
      refine z_inv mX4_fed 14 4 [] (zdec DX9_count 18 rfl) ml_SixWalls_187 okX4_fed rfl shp14 rfl rfl rfl rfl (Nat.le_of_ble_eq_true rfl) (Nat.le_of_ble_eq_true rfl) (b' := (0, 0)) ⟨Nat.le_refl 0, Nat.le_refl 0⟩ (Nat.le_of_ble_eq_true rfl) (cX4_fed hP) (fun rv9 S9 M78 h9 => ?_)
      obtain ⟨rfl, rfl, rfl⟩ := h9
      change zW _ _ _ _ _ 81 [(0, .inr (.inr 0)), (1, .inl k)] [.inl (M 14 1)] M
      exact z_iret (zdec DX9_count 19 rfl) rfl (⟨rfl, rfl, zri (by unfold zcnt; (repeat (first | rw [if_pos (by omega)] | rw [if_neg (by omega)])))⟩)
    | 4, hj, he =>
      cases hj
      refine ⟨82, rfl, ?_⟩
      have h1 : k = 4 := by simpa using he
      refine z_aload_n 0 (zdec DX9_count 20 rfl) rfl rfl (by decide) ?_
      refine z_getr (rw1 := -10) (ki := 6) (r' := 37) 0 9 (zdec DX9_count 21 rfl) rfl rfl shp0 rfl (by decide) rfl rfl fl_SixWalls_58 (zPa hP 6 rfl) ?_
      refine z_inv mX3_undoable 37 3 [] (zdec DX9_count 22 rfl) ml_SixWalls_350 okX3_undoable rfl shp37 rfl rfl rfl rfl (Nat.le_of_ble_eq_true rfl) (Nat.le_of_ble_eq_true rfl) (b' := (0, 0)) ⟨Nat.le_refl 0, Nat.le_refl 0⟩ (Nat.le_of_ble_eq_true rfl) cX3_undoable (fun rv9 S9 M86 h9 => ?_)
      obtain ⟨rfl, rfl, rfl⟩ := h9
      change zW _ _ _ _ _ 89 [(0, .inr (.inr 0)), (1, .inl k)] [.inl (M 37 5)] M
      exact z_iret (zdec DX9_count 23 rfl) rfl (⟨rfl, rfl, zri (by unfold zcnt; (repeat (first | rw [if_pos (by omega)] | rw [if_neg (by omega)])))⟩)
    | 5, hj, he =>
      cases hj
      refine ⟨90, rfl, ?_⟩
      have h1 : k = 5 := by simpa using he
      refine z_aload_n 0 (zdec DX9_count 24 rfl) rfl rfl (by decide) ?_
      refine z_getr (rw1 := -10) (ki := 7) (r' := 42) 0 9 (zdec DX9_count 25 rfl) rfl rfl shp0 rfl (by decide) rfl rfl fl_SixWalls_65 (zPa hP 7 rfl) ?_
      refine z_inv mX0_many 42 0 [] (zdec DX9_count 26 rfl) ml_SixWalls_353 okX0_many rfl shp42 rfl rfl rfl rfl (Nat.le_of_ble_eq_true rfl) (Nat.le_of_ble_eq_true rfl) (b' := (0, 0)) ⟨Nat.le_refl 0, Nat.le_refl 0⟩ (Nat.le_of_ble_eq_true rfl) (cX0_many hP) (fun rv9 S9 M94 h9 => ?_)
      obtain ⟨rfl, rfl, rfl⟩ := h9
      change zW _ _ _ _ _ 97 [(0, .inr (.inr 0)), (1, .inl k)] [.inl (M 42 1)] M
      exact z_iret (zdec DX9_count 27 rfl) rfl (⟨rfl, rfl, zri (by unfold zcnt; (repeat (first | rw [if_pos (by omega)] | rw [if_neg (by omega)])))⟩)
    | 6, hj, he =>
      cases hj
      refine ⟨98, rfl, ?_⟩
      have h1 : k = 6 := by simpa using he
      refine z_aload_n 0 (zdec DX9_count 28 rfl) rfl rfl (by decide) ?_
      refine z_getr (rw1 := -10) (ki := 7) (r' := 42) 0 9 (zdec DX9_count 29 rfl) rfl rfl shp0 rfl (by decide) rfl rfl fl_SixWalls_65 (zPa hP 7 rfl) ?_
      refine z_inv mX0_ran 42 0 [] (zdec DX9_count 30 rfl) ml_SixWalls_356 okX0_ran rfl shp42 rfl rfl rfl rfl (Nat.le_of_ble_eq_true rfl) (Nat.le_of_ble_eq_true rfl) (b' := (0, 0)) ⟨Nat.le_refl 0, Nat.le_refl 0⟩ (Nat.le_of_ble_eq_true rfl) (cX0_ran hP) (fun rv9 S9 M102 h9 => ?_)
      obtain ⟨rfl, rfl, rfl⟩ := h9
      change zW _ _ _ _ _ 105 [(0, .inr (.inr 0)), (1, .inl k)] [.inl (M 42 3)] M
      exact z_iret (zdec DX9_count 31 rfl) rfl (⟨rfl, rfl, zri (by unfold zcnt; (repeat (first | rw [if_pos (by omega)] | rw [if_neg (by omega)])))⟩)
    | j + 7, hj, he => exact absurd (List.getElem?_eq_some_iff.mp hj).1 (by simp)
  · refine ⟨106, rfl, ?_⟩
    refine z_iconst (-1) (zdec DX9_count 32 rfl) (by decide) ?_
    exact z_iret (zdec DX9_count 33 rfl) rfl (⟨rfl, rfl, zri (by unfold zcnt; (repeat (first | rw [if_pos (by omega)] | rw [if_neg (by omega)])))⟩)
