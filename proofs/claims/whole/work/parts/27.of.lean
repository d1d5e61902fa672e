/-! contracts: of of SixWalls -/
def zofH (M : zMm) (h k : Int) : Int := if k = 0 then M 8 h else if k = 1 then M 10 h else if k = 2 then M 9 h else if k = 3 then M 7 h else if k = 4 then zsid h else zload (M 11) h
def zofW (M : zMm) (q w k : Int) : Int := if k = 10 then M 11 w else if k = 11 then M 12 w else if k = 12 then M 13 w else if k = 13 then 100 * zlow w + zhigh w else if k = 14 then zagree M w (M 11 w) else zflow M q (M 9) w
def zof (M : zMm) (q n k : Int) : Int := if 0 ≤ k ∧ k ≤ 5 then (if 0 ≤ n ∧ n < 16 then zofH M n k else -2000000000) else if 10 ≤ k ∧ k ≤ 15 then (if 0 ≤ n ∧ n < 33 then zofW M q n k else -2000000000) else if n ≠ 0 then -2000000000 else if k = 20 then M 1 12 else if k = 21 then M 1 13 else -2000000000
set_option maxHeartbeats 4000000 in
theorem cX9_ofHouse {M : zMm} (hP : zP M) (hG : zG M) (hR : zRg M) (h k : Int) (hh : 0 ≤ h ∧ h < 16) (hk : 0 ≤ k ∧ k ≤ 5) : zW mX9_ofHouse 3 (fun rv S' M' => S' = zS0 ∧ M = M' ∧ rv = some (.inl (zofH M h k))) (0, 0) zS0 0 (zargs 0 [.inr (.inr 0), .inl h, .inl k]) [] M := by
  change zW _ _ _ _ _ 0 [(0, .inr (.inr 0)), (1, .inl h), (2, .inl k)] [] M
  refine z_iload_n 2 (zdec DX9_ofHouse 0 rfl) rfl rfl ?_
  refine z_tsw (zdec DX9_ofHouse 1 rfl) (by decide) (fun j off hj he => ?_) (fun hd => ?_)
  · match j, hj, he with
    | 0, hj, he =>
      cases hj
      refine ⟨36, rfl, ?_⟩
      have h1 : k = 0 := by simpa using he
      refine z_aload_n 0 (zdec DX9_ofHouse 2 rfl) rfl rfl (by decide) ?_
      refine z_getr (rw1 := -10) (ki := 0) (r' := 1) 0 9 (zdec DX9_ofHouse 3 rfl) rfl rfl shp0 rfl (by decide) rfl rfl fl_SixWalls_10 (zPa hP 0 rfl) ?_
      refine z_getr (rw1 := -11) (ki := 6) (r' := 8) 1 1 (zdec DX9_ofHouse 4 rfl) rfl rfl shp1 rfl (by decide) rfl rfl fl_SixWalls_122 (zPa hP 15 rfl) ?_
      refine z_iload_n 1 (zdec DX9_ofHouse 5 rfl) rfl rfl ?_
      refine z_iald 8 (zdec DX9_ofHouse 6 rfl) rfl shp8 ⟨by omega, by omega⟩ ?_
      exact z_iret (zdec DX9_ofHouse 7 rfl) rfl (⟨rfl, rfl, zri (by unfold zofH; (repeat (first | rw [if_pos (by omega)] | rw [if_neg (by omega)])))⟩)
    | 1, hj, he =>
      cases hj
      refine ⟨46, rfl, ?_⟩
      have h1 : k = 1 := by simpa using he
      refine z_aload_n 0 (zdec DX9_ofHouse 8 rfl) rfl rfl (by decide) ?_
      refine z_getr (rw1 := -10) (ki := 0) (r' := 1) 0 9 (zdec DX9_ofHouse 9 rfl) rfl rfl shp0 rfl (by decide) rfl rfl fl_SixWalls_10 (zPa hP 0 rfl) ?_
      refine z_getr (rw1 := -11) (ki := 8) (r' := 10) 1 1 (zdec DX9_ofHouse 10 rfl) rfl rfl shp1 rfl (by decide) rfl rfl fl_SixWalls_126 (zPa hP 17 rfl) ?_
      refine z_iload_n 1 (zdec DX9_ofHouse 11 rfl) rfl rfl ?_
      refine z_iald 10 (zdec DX9_ofHouse 12 rfl) rfl shp10 ⟨by omega, by omega⟩ ?_
      exact z_iret (zdec DX9_ofHouse 13 rfl) rfl (⟨rfl, rfl, zri (by unfold zofH; (repeat (first | rw [if_pos (by omega)] | rw [if_neg (by omega)])))⟩)
    | 2, hj, he =>
      cases hj
      refine ⟨56, rfl, ?_⟩
      have h1 : k = 2 := by simpa using he
      refine z_aload_n 0 (zdec DX9_ofHouse 14 rfl) rfl rfl (by decide) ?_
      refine z_getr (rw1 := -10) (ki := 0) (r' := 1) 0 9 (zdec DX9_ofHouse 15 rfl) rfl rfl shp0 rfl (by decide) rfl rfl fl_SixWalls_10 (zPa hP 0 rfl) ?_
      refine z_getr (rw1 := -11) (ki := 7) (r' := 9) 1 1 (zdec DX9_ofHouse 16 rfl) rfl rfl shp1 rfl (by decide) rfl rfl fl_SixWalls_129 (zPa hP 16 rfl) ?_
      refine z_iload_n 1 (zdec DX9_ofHouse 17 rfl) rfl rfl ?_
      refine z_iald 9 (zdec DX9_ofHouse 18 rfl) rfl shp9 ⟨by omega, by omega⟩ ?_
      exact z_iret (zdec DX9_ofHouse 19 rfl) rfl (⟨rfl, rfl, zri (by unfold zofH; (repeat (first | rw [if_pos (by omega)] | rw [if_neg (by omega)])))⟩)
    | 3, hj, he =>
      cases hj
      refine ⟨66, rfl, ?_⟩
      have h1 : k = 3 := by simpa using he
      refine z_aload_n 0 (zdec DX9_ofHouse 20 rfl) rfl rfl (by decide) ?_
      refine z_getr (rw1 := -10) (ki := 0) (r' := 1) 0 9 (zdec DX9_ofHouse 21 rfl) rfl rfl shp0 rfl (by decide) rfl rfl fl_SixWalls_10 (zPa hP 0 rfl) ?_
      refine z_getr (rw1 := -11) (ki := 5) (r' := 7) 1 1 (zdec DX9_ofHouse 22 rfl) rfl rfl shp1 rfl (by decide) rfl rfl fl_SixWalls_132 (zPa hP 14 rfl) ?_
      refine z_iload_n 1 (zdec DX9_ofHouse 23 rfl) rfl rfl ?_
      refine z_iald 7 (zdec DX9_ofHouse 24 rfl) rfl shp7 ⟨by omega, by omega⟩ ?_
      exact z_iret (zdec DX9_ofHouse 25 rfl) rfl (⟨rfl, rfl, zri (by unfold zofH; (repeat (first | rw [if_pos (by omega)] | rw [if_neg (by omega)])))⟩)
    | 4, hj, he =>
      cases hj
      refine ⟨76, rfl, ?_⟩
      have h1 : k = 4 := by simpa using he
      refine z_aload_n 0 (zdec DX9_ofHouse 26 rfl) rfl rfl (by decide) ?_
      refine z_getr (rw1 := -10) (ki := 0) (r' := 1) 0 9 (zdec DX9_ofHouse 27 rfl) rfl rfl shp0 rfl (by decide) rfl rfl fl_SixWalls_10 (zPa hP 0 rfl) ?_
      refine z_getr (rw1 := -11) (ki := 2) (r' := 4) 1 1 (zdec DX9_ofHouse 28 rfl) rfl rfl shp1 rfl (by decide) rfl rfl fl_SixWalls_135 (zPa hP 11 rfl) ?_
      refine z_iload_n 1 (zdec DX9_ofHouse 29 rfl) rfl rfl ?_
      refine z_iald 4 (zdec DX9_ofHouse 30 rfl) rfl shp4 ⟨by omega, by omega⟩ ?_
      rw [hG.sid (by omega) (by omega)]
      exact z_iret (zdec DX9_ofHouse 31 rfl) rfl (⟨rfl, rfl, zri (by unfold zofH; (repeat (first | rw [if_pos (by omega)] | rw [if_neg (by omega)])))⟩)
    | j + 5, hj, he => exact absurd (List.getElem?_eq_some_iff.mp hj).1 (by simp)
  · refine ⟨86, rfl, ?_⟩
    refine z_aload_n 0 (zdec DX9_ofHouse 32 rfl) rfl rfl (by decide) ?_
    refine z_getr (rw1 := -10) (ki := 0) (r' := 1) 0 9 (zdec DX9_ofHouse 33 rfl) rfl rfl shp0 rfl (by decide) rfl rfl fl_SixWalls_10 (zPa hP 0 rfl) ?_
    refine z_iload_n 1 (zdec DX9_ofHouse 34 rfl) rfl rfl ?_
    refine z_aload_n 0 (zdec DX9_ofHouse 35 rfl) rfl rfl (by decide) ?_
    refine z_getr (rw1 := -10) (ki := 0) (r' := 1) 0 9 (zdec DX9_ofHouse 36 rfl) rfl rfl shp0 rfl (by decide) rfl rfl fl_SixWalls_10 (zPa hP 0 rfl) ?_
    refine z_getr (rw1 := -11) (ki := 9) (r' := 11) 1 1 (zdec DX9_ofHouse 37 rfl) rfl rfl shp1 rfl (by decide) rfl rfl fl_SixWalls_138 (zPa hP 18 rfl) ?_
    refine z_inv mX1_load 1 1 [.inl h, .inr (.inr 11)] (zdec DX9_ofHouse 38 rfl) ml_SixWalls_141 okX1_load rfl shp1 rfl rfl rfl rfl (Nat.le_of_ble_eq_true rfl) (Nat.le_of_ble_eq_true rfl) (b' := (0, 0)) ⟨Nat.le_refl 0, Nat.le_refl 0⟩ (Nat.le_of_ble_eq_true rfl) (cX1_load_11 hP hG (fun w h0 h1 => (hR.2.1 w h0 h1).1) h hh) (fun rv9 S9 M98 h9 => ?_)
    obtain ⟨rfl, rfl, rfl⟩ := h9
    change zW _ _ _ _ _ 101 [(0, .inr (.inr 0)), (1, .inl h), (2, .inl k)] [.inl (zload (M 11) h)] M
    exact z_iret (zdec DX9_ofHouse 39 rfl) rfl (⟨rfl, rfl, zri (by unfold zofH; (repeat (first | rw [if_pos (by omega)] | rw [if_neg (by omega)])))⟩)
set_option maxHeartbeats 4000000 in
theorem cX9_ofWall {M : zMm} (hP : zP M) {q : Int} (hG : zG M) (hR : zRg M) (hT : zTx M q) (w k : Int) (hw : 0 ≤ w ∧ w < 33) (hk : 10 ≤ k ∧ k ≤ 15) : zW mX9_ofWall 6 (fun rv S' M' => S' = zS0 ∧ zonly 20 M M' ∧ rv = some (.inl (zofW M q w k))) (0, 0) zS0 0 (zargs 0 [.inr (.inr 0), .inl w, .inl k]) [] M := by
  change zW _ _ _ _ _ 0 [(0, .inr (.inr 0)), (1, .inl w), (2, .inl k)] [] M
  have lb := zlow_b w
  have lh := zhigh_b w
  refine z_iload_n 2 (zdec DX9_ofWall 0 rfl) rfl rfl ?_
  refine z_tsw (zdec DX9_ofWall 1 rfl) (by decide) (fun j off hj he => ?_) (fun hd => ?_)
  · match j, hj, he with
    | 0, hj, he =>
      cases hj
      refine ⟨36, rfl, ?_⟩
      have h1 : k = 10 := by simpa using he
      refine z_aload_n 0 (zdec DX9_ofWall 2 rfl) rfl rfl (by decide) ?_
      refine z_getr (rw1 := -10) (ki := 0) (r' := 1) 0 9 (zdec DX9_ofWall 3 rfl) rfl rfl shp0 rfl (by decide) rfl rfl fl_SixWalls_10 (zPa hP 0 rfl) ?_
      refine z_getr (rw1 := -11) (ki := 9) (r' := 11) 1 1 (zdec DX9_ofWall 4 rfl) rfl rfl shp1 rfl (by decide) rfl rfl fl_SixWalls_138 (zPa hP 18 rfl) ?_
      refine z_iload_n 1 (zdec DX9_ofWall 5 rfl) rfl rfl ?_
      refine z_iald 11 (zdec DX9_ofWall 6 rfl) rfl shp11 ⟨by omega, by omega⟩ ?_
      exact z_iret (zdec DX9_ofWall 7 rfl) rfl (⟨rfl, zonly.rf, zri (by unfold zofW; (repeat (first | rw [if_pos (by omega)] | rw [if_neg (by omega)])))⟩)
    | 1, hj, he =>
      cases hj
      refine ⟨46, rfl, ?_⟩
      have h1 : k = 11 := by simpa using he
      refine z_aload_n 0 (zdec DX9_ofWall 8 rfl) rfl rfl (by decide) ?_
      refine z_getr (rw1 := -10) (ki := 0) (r' := 1) 0 9 (zdec DX9_ofWall 9 rfl) rfl rfl shp0 rfl (by decide) rfl rfl fl_SixWalls_10 (zPa hP 0 rfl) ?_
      refine z_getr (rw1 := -11) (ki := 10) (r' := 12) 1 1 (zdec DX9_ofWall 10 rfl) rfl rfl shp1 rfl (by decide) rfl rfl fl_SixWalls_145 (zPa hP 19 rfl) ?_
      refine z_iload_n 1 (zdec DX9_ofWall 11 rfl) rfl rfl ?_
      refine z_iald 12 (zdec DX9_ofWall 12 rfl) rfl shp12 ⟨by omega, by omega⟩ ?_
      exact z_iret (zdec DX9_ofWall 13 rfl) rfl (⟨rfl, zonly.rf, zri (by unfold zofW; (repeat (first | rw [if_pos (by omega)] | rw [if_neg (by omega)])))⟩)
    | 2, hj, he =>
      cases hj
      refine ⟨56, rfl, ?_⟩
      have h1 : k = 12 := by simpa using he
      refine z_aload_n 0 (zdec DX9_ofWall 14 rfl) rfl rfl (by decide) ?_
      refine z_getr (rw1 := -10) (ki := 0) (r' := 1) 0 9 (zdec DX9_ofWall 15 rfl) rfl rfl shp0 rfl (by decide) rfl rfl fl_SixWalls_10 (zPa hP 0 rfl) ?_
      refine z_getr (rw1 := -11) (ki := 11) (r' := 13) 1 1 (zdec DX9_ofWall 16 rfl) rfl rfl shp1 rfl (by decide) rfl rfl fl_SixWalls_148 (zPa hP 20 rfl) ?_
      refine z_iload_n 1 (zdec DX9_ofWall 17 rfl) rfl rfl ?_
      refine z_iald 13 (zdec DX9_ofWall 18 rfl) rfl shp13 ⟨by omega, by omega⟩ ?_
      exact z_iret (zdec DX9_ofWall 19 rfl) rfl (⟨rfl, zonly.rf, zri (by unfold zofW; (repeat (first | rw [if_pos (by omega)] | rw [if_neg (by omega)])))⟩)
    | 3, hj, he =>
      cases hj
      refine ⟨66, rfl, ?_⟩
      have h1 : k = 13 := by simpa using he
      refine z_bipush 100 (zdec DX9_ofWall 20 rfl) (by decide) ?_
      refine z_aload_n 0 (zdec DX9_ofWall 21 rfl) rfl rfl (by decide) ?_
      refine z_getr (rw1 := -10) (ki := 0) (r' := 1) 0 9 (zdec DX9_ofWall 22 rfl) rfl rfl shp0 rfl (by decide) rfl rfl fl_SixWalls_10 (zPa hP 0 rfl) ?_
      refine z_getr (rw1 := -11) (ki := 0) (r' := 2) 1 1 (zdec DX9_ofWall 23 rfl) rfl rfl shp1 rfl (by decide) rfl rfl fl_SixWalls_151 (zPa hP 9 rfl) ?_
      refine z_iload_n 1 (zdec DX9_ofWall 24 rfl) rfl rfl ?_
      refine z_iald 2 (zdec DX9_ofWall 25 rfl) rfl shp2 ⟨by omega, by omega⟩ ?_
      rw [hG.low (by omega) (by omega)]
      refine z_imul (zdec DX9_ofWall 26 rfl) (by unfold z32; omega) ?_
      refine z_aload_n 0 (zdec DX9_ofWall 27 rfl) rfl rfl (by decide) ?_
      refine z_getr (rw1 := -10) (ki := 0) (r' := 1) 0 9 (zdec DX9_ofWall 28 rfl) rfl rfl shp0 rfl (by decide) rfl rfl fl_SixWalls_10 (zPa hP 0 rfl) ?_
      refine z_getr (rw1 := -11) (ki := 1) (r' := 3) 1 1 (zdec DX9_ofWall 29 rfl) rfl rfl shp1 rfl (by decide) rfl rfl fl_SixWalls_154 (zPa hP 10 rfl) ?_
      refine z_iload_n 1 (zdec DX9_ofWall 30 rfl) rfl rfl ?_
      refine z_iald 3 (zdec DX9_ofWall 31 rfl) rfl shp3 ⟨by omega, by omega⟩ ?_
      rw [hG.high (by omega) (by omega)]
      refine z_iadd (zdec DX9_ofWall 32 rfl) (by unfold z32; omega) ?_
      exact z_iret (zdec DX9_ofWall 33 rfl) rfl (⟨rfl, zonly.rf, zri (by unfold zofW; (repeat (first | rw [if_pos (by omega)] | rw [if_neg (by omega)])))⟩)
    | 4, hj, he =>
      cases hj
      refine ⟨89, rfl, ?_⟩
      have h1 : k = 14 := by simpa using he
      refine z_aload_n 0 (zdec DX9_ofWall 34 rfl) rfl rfl (by decide) ?_
      refine z_getr (rw1 := -10) (ki := 3) (r' := 27) 0 9 (zdec DX9_ofWall 35 rfl) rfl rfl shp0 rfl (by decide) rfl rfl fl_SixWalls_37 (zPa hP 3 rfl) ?_
      refine z_iload_n 1 (zdec DX9_ofWall 36 rfl) rfl rfl ?_
      refine z_aload_n 0 (zdec DX9_ofWall 37 rfl) rfl rfl (by decide) ?_
      refine z_getr (rw1 := -10) (ki := 0) (r' := 1) 0 9 (zdec DX9_ofWall 38 rfl) rfl rfl shp0 rfl (by decide) rfl rfl fl_SixWalls_10 (zPa hP 0 rfl) ?_
      refine z_getr (rw1 := -11) (ki := 9) (r' := 11) 1 1 (zdec DX9_ofWall 39 rfl) rfl rfl shp1 rfl (by decide) rfl rfl fl_SixWalls_138 (zPa hP 18 rfl) ?_
      refine z_iload_n 1 (zdec DX9_ofWall 40 rfl) rfl rfl ?_
      refine z_iald 11 (zdec DX9_ofWall 41 rfl) rfl shp11 ⟨by omega, by omega⟩ ?_
      refine z_inv mX5_agreed 27 5 [.inl w, .inl (M 11 w)] (zdec DX9_ofWall 42 rfl) ml_SixWalls_157 okX5_agreed rfl shp27 rfl rfl rfl rfl (Nat.le_of_ble_eq_true rfl) (Nat.le_of_ble_eq_true rfl) (b' := (0, 0)) ⟨Nat.le_refl 0, Nat.le_refl 0⟩ (Nat.le_of_ble_eq_true rfl) (cX5_agreed hP hG hR w (M 11 w) hw) (fun rv9 S9 M103 h9 => ?_)
      obtain ⟨rfl, rfl, rfl⟩ := h9
      change zW _ _ _ _ _ 106 [(0, .inr (.inr 0)), (1, .inl w), (2, .inl k)] [.inl (zagree M w (M 11 w))] M
      exact z_iret (zdec DX9_ofWall 43 rfl) rfl (⟨rfl, zonly.rf, zri (by unfold zofW; (repeat (first | rw [if_pos (by omega)] | rw [if_neg (by omega)])))⟩)
    | j + 5, hj, he => exact absurd (List.getElem?_eq_some_iff.mp hj).1 (by simp)
  · refine ⟨107, rfl, ?_⟩
    refine z_aload_n 0 (zdec DX9_ofWall 44 rfl) rfl rfl (by decide) ?_
    refine z_getr (rw1 := -10) (ki := 2) (r' := 21) 0 9 (zdec DX9_ofWall 45 rfl) rfl rfl shp0 rfl (by decide) rfl rfl fl_SixWalls_28 (zPa hP 2 rfl) ?_
    refine z_iload_n 1 (zdec DX9_ofWall 46 rfl) rfl rfl ?_
    refine z_aload_n 0 (zdec DX9_ofWall 47 rfl) rfl rfl (by decide) ?_
    refine z_getr (rw1 := -10) (ki := 0) (r' := 1) 0 9 (zdec DX9_ofWall 48 rfl) rfl rfl shp0 rfl (by decide) rfl rfl fl_SixWalls_10 (zPa hP 0 rfl) ?_
    refine z_getr (rw1 := -11) (ki := 7) (r' := 9) 1 1 (zdec DX9_ofWall 49 rfl) rfl rfl shp1 rfl (by decide) rfl rfl fl_SixWalls_129 (zPa hP 16 rfl) ?_
    refine z_inv mX8_flow 21 8 [.inl w, .inr (.inr 9)] (zdec DX9_ofWall 50 rfl) ml_SixWalls_160 okX8_flow rfl shp21 rfl rfl rfl rfl (Nat.le_of_ble_eq_true rfl) (Nat.le_of_ble_eq_true rfl) (b' := (0, 0)) ⟨Nat.le_refl 0, Nat.le_refl 0⟩ (Nat.le_of_ble_eq_true rfl) (cX8_flow hP hT hR hG w 9 hw ⟨by omega, rfl⟩ (zb9 hR)) (fun rv9 S9 M119 h9 => ?_)
    obtain ⟨rfl, rfl, ho⟩ := h9
    change zW _ _ _ _ _ 122 [(0, .inr (.inr 0)), (1, .inl w), (2, .inl k)] [.inl (zflow M q (M 9) w)] M119
    exact z_iret (zdec DX9_ofWall 51 rfl) rfl (⟨rfl, ho, zri (by unfold zofW; (repeat (first | rw [if_pos (by omega)] | rw [if_neg (by omega)])))⟩)
set_option maxHeartbeats 4000000 in
theorem cX9_of {M : zMm} (hP : zP M) {q : Int} (hG : zG M) (hR : zRg M) (hT : zTx M q) (n k : Int) : zW mX9_of 7 (fun rv S' M' => S' = zS0 ∧ zonly 20 M M' ∧ rv = some (.inl (zof M q n k))) (0, 0) zS0 0 (zargs 0 [.inr (.inr 0), .inl n, .inl k]) [] M := by
  change zW _ _ _ _ _ 0 [(0, .inr (.inr 0)), (1, .inl n), (2, .inl k)] [] M
  refine z_iload_n 2 (zdec DX9_of 0 rfl) rfl rfl ?_
  refine z_iconst 0 (zdec DX9_of 1 rfl) (by decide) ?_
  refine z_iconst 5 (zdec DX9_of 2 rfl) (by decide) ?_
  refine z_invs mX9_within [.inl k, .inl 0, .inl 5] (zdec DX9_of 3 rfl) (Or.inl ml_SixWalls_76) okX9_within rfl rfl (Nat.le_of_ble_eq_true rfl) (Nat.le_of_ble_eq_true rfl) (b' := (0, 0)) ⟨Nat.le_refl 0, Nat.le_refl 0⟩ (Nat.le_of_ble_eq_true rfl) (cX9_within k 0 5) (fun rv9 S9 M3 h9 => ?_)
  obtain ⟨rfl, rfl, rfl⟩ := h9
  change zW _ _ _ _ _ 6 [(0, .inr (.inr 0)), (1, .inl n), (2, .inl k)] [.inl (zb (0 ≤ k ∧ k ≤ 5))] M
  refine z_if_eq 28 (zdec DX9_of 4 rfl) rfl (fun h6 => ?_) (fun h6 => ?_)
  ·
    have hq6 := zb_eq0.mp h6
    refine z_iload_n 2 (zdec DX9_of 15 rfl) rfl rfl ?_
    refine z_bipush 10 (zdec DX9_of 16 rfl) (by decide) ?_
    refine z_bipush 15 (zdec DX9_of 17 rfl) (by decide) ?_
    refine z_invs mX9_within [.inl k, .inl 10, .inl 15] (zdec DX9_of 18 rfl) (Or.inl ml_SixWalls_76) okX9_within rfl rfl (Nat.le_of_ble_eq_true rfl) (Nat.le_of_ble_eq_true rfl) (b' := (0, 0)) ⟨Nat.le_refl 0, Nat.le_refl 0⟩ (Nat.le_of_ble_eq_true rfl) (cX9_within k 10 15) (fun rv9 S9 M33 h9 => ?_)
    obtain ⟨rfl, rfl, rfl⟩ := h9
    change zW _ _ _ _ _ 36 [(0, .inr (.inr 0)), (1, .inl n), (2, .inl k)] [.inl (zb (10 ≤ k ∧ k ≤ 15))] M
    refine z_if_eq 58 (zdec DX9_of 19 rfl) rfl (fun h36 => ?_) (fun h36 => ?_)
    ·
      have hq36 := zb_eq0.mp h36
      refine z_iload_n 1 (zdec DX9_of 30 rfl) rfl rfl ?_
      refine z_if_eq 65 (zdec DX9_of 31 rfl) rfl (fun h59 => ?_) (fun h59 => ?_)
      ·
        refine z_iload_n 2 (zdec DX9_of 34 rfl) rfl rfl ?_
        refine z_bipush 20 (zdec DX9_of 35 rfl) (by decide) ?_
        refine z_icmp_ne 79 (zdec DX9_of 36 rfl) rfl (fun h68 => ?_) (fun h68 => ?_)
        ·
          refine z_iload_n 2 (zdec DX9_of 41 rfl) rfl rfl ?_
          refine z_bipush 21 (zdec DX9_of 42 rfl) (by decide) ?_
          refine z_icmp_ne 95 (zdec DX9_of 43 rfl) rfl (fun h82 => ?_) (fun h82 => ?_)
          ·
            refine z_ldc (-2000000000) (zdec DX9_of 48 rfl) kc_SixWalls_108 rfl ⟨by decide, by decide⟩ ?_
            exact z_iret (zdec DX9_of 49 rfl) rfl (⟨rfl, (by first | exact ho | exact zonly.rf), zri (by unfold zof; (repeat (first | rw [if_pos (by omega)] | rw [if_neg (by omega)])))⟩)
          ·
            refine z_aload_n 0 (zdec DX9_of 44 rfl) rfl rfl (by decide) ?_
            refine z_getr (rw1 := -10) (ki := 0) (r' := 1) 0 9 (zdec DX9_of 45 rfl) rfl rfl shp0 rfl (by decide) rfl rfl fl_SixWalls_10 (zPa hP 0 rfl) ?_
            refine z_geti (ki := 13) 1 1 (zdec DX9_of 46 rfl) rfl shp1 rfl (by decide) rfl rfl fl_SixWalls_119 ?_
            refine z_goto 97 (zdec DX9_of 47 rfl) rfl ?_
            exact z_iret (zdec DX9_of 49 rfl) rfl (⟨rfl, (by first | exact ho | exact zonly.rf), zri (by unfold zof; (repeat (first | rw [if_pos (by omega)] | rw [if_neg (by omega)])))⟩)
        ·
          refine z_aload_n 0 (zdec DX9_of 37 rfl) rfl rfl (by decide) ?_
          refine z_getr (rw1 := -10) (ki := 0) (r' := 1) 0 9 (zdec DX9_of 38 rfl) rfl rfl shp0 rfl (by decide) rfl rfl fl_SixWalls_10 (zPa hP 0 rfl) ?_
          refine z_geti (ki := 12) 1 1 (zdec DX9_of 39 rfl) rfl shp1 rfl (by decide) rfl rfl fl_SixWalls_115 ?_
          exact z_iret (zdec DX9_of 40 rfl) rfl (⟨rfl, (by first | exact ho | exact zonly.rf), zri (by unfold zof; (repeat (first | rw [if_pos (by omega)] | rw [if_neg (by omega)])))⟩)
      ·
        refine z_ldc (-2000000000) (zdec DX9_of 32 rfl) kc_SixWalls_108 rfl ⟨by decide, by decide⟩ ?_
        exact z_iret (zdec DX9_of 33 rfl) rfl (⟨rfl, (by first | exact ho | exact zonly.rf), zri (by unfold zof; (repeat (first | rw [if_pos (by omega)] | rw [if_neg (by omega)])))⟩)
    ·
      have hq36 := zb_ne0.mp h36
      refine z_iload_n 1 (zdec DX9_of 20 rfl) rfl rfl ?_
      refine z_invs mX9_isWall [.inl n] (zdec DX9_of 21 rfl) (Or.inl ml_SixWalls_109) okX9_isWall rfl rfl (Nat.le_of_ble_eq_true rfl) (Nat.le_of_ble_eq_true rfl) (b' := (0, 0)) ⟨Nat.le_refl 0, Nat.le_refl 0⟩ (Nat.le_of_ble_eq_true rfl) (cX9_isWall n) (fun rv9 S9 M40 h9 => ?_)
      obtain ⟨rfl, rfl, rfl⟩ := h9
      change zW _ _ _ _ _ 43 [(0, .inr (.inr 0)), (1, .inl n), (2, .inl k)] [.inl (zb (0 ≤ n ∧ n < 33))] M
      refine z_if_eq 55 (zdec DX9_of 22 rfl) rfl (fun h43 => ?_) (fun h43 => ?_)
      ·
        have hq43 := zb_eq0.mp h43
        refine z_ldc (-2000000000) (zdec DX9_of 28 rfl) kc_SixWalls_108 rfl ⟨by decide, by decide⟩ ?_
        exact z_iret (zdec DX9_of 29 rfl) rfl (⟨rfl, (by first | exact ho | exact zonly.rf), zri (by unfold zof; (repeat (first | rw [if_pos (by omega)] | rw [if_neg (by omega)])))⟩)
      ·
        have hq43 := zb_ne0.mp h43
        refine z_aload_n 0 (zdec DX9_of 23 rfl) rfl rfl (by decide) ?_
        refine z_iload_n 1 (zdec DX9_of 24 rfl) rfl rfl ?_
        refine z_iload_n 2 (zdec DX9_of 25 rfl) rfl rfl ?_
        refine z_inv mX9_ofWall 0 9 [.inl n, .inl k] (zdec DX9_of 26 rfl) ml_SixWalls_112 okX9_ofWall rfl shp0 rfl rfl rfl rfl (Nat.le_of_ble_eq_true rfl) (Nat.le_of_ble_eq_true rfl) (b' := (0, 0)) ⟨Nat.le_refl 0, Nat.le_refl 0⟩ (Nat.le_of_ble_eq_true rfl) (cX9_ofWall hP hG hR hT n k hq43 hq36) (fun rv9 S9 M49 h9 => ?_)
        obtain ⟨rfl, ho, rfl⟩ := h9
        change zW _ _ _ _ _ 52 [(0, .inr (.inr 0)), (1, .inl n), (2, .inl k)] [.inl (zofW M q n k)] M49
        refine z_goto 57 (zdec DX9_of 27 rfl) rfl ?_
        exact z_iret (zdec DX9_of 29 rfl) rfl (⟨rfl, (by first | exact ho | exact zonly.rf), zri (by unfold zof; (repeat (first | rw [if_pos (by omega)] | rw [if_neg (by omega)])))⟩)
  ·
    have hq6 := zb_ne0.mp h6
    refine z_iload_n 1 (zdec DX9_of 5 rfl) rfl rfl ?_
    refine z_invs mX9_isHouse [.inl n] (zdec DX9_of 6 rfl) (Or.inl ml_SixWalls_80) okX9_isHouse rfl rfl (Nat.le_of_ble_eq_true rfl) (Nat.le_of_ble_eq_true rfl) (b' := (0, 0)) ⟨Nat.le_refl 0, Nat.le_refl 0⟩ (Nat.le_of_ble_eq_true rfl) (cX9_isHouse n) (fun rv9 S9 M10 h9 => ?_)
    obtain ⟨rfl, rfl, rfl⟩ := h9
    change zW _ _ _ _ _ 13 [(0, .inr (.inr 0)), (1, .inl n), (2, .inl k)] [.inl (zb (0 ≤ n ∧ n < 16))] M
    refine z_if_eq 25 (zdec DX9_of 7 rfl) rfl (fun h13 => ?_) (fun h13 => ?_)
    ·
      have hq13 := zb_eq0.mp h13
      refine z_ldc (-2000000000) (zdec DX9_of 13 rfl) kc_SixWalls_108 rfl ⟨by decide, by decide⟩ ?_
      exact z_iret (zdec DX9_of 14 rfl) rfl (⟨rfl, (by first | exact ho | exact zonly.rf), zri (by unfold zof; (repeat (first | rw [if_pos (by omega)] | rw [if_neg (by omega)])))⟩)
    ·
      have hq13 := zb_ne0.mp h13
      refine z_aload_n 0 (zdec DX9_of 8 rfl) rfl rfl (by decide) ?_
      refine z_iload_n 1 (zdec DX9_of 9 rfl) rfl rfl ?_
      refine z_iload_n 2 (zdec DX9_of 10 rfl) rfl rfl ?_
      refine z_inv mX9_ofHouse 0 9 [.inl n, .inl k] (zdec DX9_of 11 rfl) ml_SixWalls_105 okX9_ofHouse rfl shp0 rfl rfl rfl rfl (Nat.le_of_ble_eq_true rfl) (Nat.le_of_ble_eq_true rfl) (b' := (0, 0)) ⟨Nat.le_refl 0, Nat.le_refl 0⟩ (Nat.le_of_ble_eq_true rfl) (cX9_ofHouse hP hG hR n k hq13 hq6) (fun rv9 S9 M19 h9 => ?_)
      obtain ⟨rfl, rfl, rfl⟩ := h9
      change zW _ _ _ _ _ 22 [(0, .inr (.inr 0)), (1, .inl n), (2, .inl k)] [.inl (zofH M n k)] M
      refine z_goto 27 (zdec DX9_of 12 rfl) rfl ?_
      exact z_iret (zdec DX9_of 14 rfl) rfl (⟨rfl, (by first | exact ho | exact zonly.rf), zri (by unfold zof; (repeat (first | rw [if_pos (by omega)] | rw [if_neg (by omega)])))⟩)
