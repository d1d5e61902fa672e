/-! the constructor of the class -/
def zFq (k : Int) (M M' : zMm) : Prop := ∀ c : Int, -10 - k < c → c < k → c ≠ -10 → M' c = M c
theorem zFq.tr {k k' : Int} {M M1 M2 : zMm} (h : zFq k M M1) (h2 : zFq k' M1 M2) (hk : k ≤ k') : zFq k M M2 := fun c a b d => (h2 c (by omega) (by omega) d).trans (h c a b d)
theorem zPt.fq {k : Int} {l : List (Int × Int × Int)} {M M' : zMm} (h : zPt l M) (hf : zFq k M M') (hl : ∀ q ∈ l, -10 - k < q.1 ∧ q.1 < k ∧ q.1 ≠ -10) : zPt l M' := fun q hq => by rw [hf q.1 (hl q hq).1 (hl q hq).2.1 (hl q hq).2.2]; exact h q hq
theorem zZr.fq {k : Int} {l : List Int} {M M' : zMm} (h : zZr l M) (hf : zFq k M M') (hl : ∀ q ∈ l, -10 - k < q ∧ q < k ∧ q ≠ -10) : zZr l M' := fun q hq j => by rw [hf q (hl q hq).1 (hl q hq).2.1 (hl q hq).2.2]; exact h q hq j
theorem zX9s {r k1 j v : Int} {B C B' : zMm} (f : zFk r (znew B r) C) (e : B' = zup C (-10) j v) (hr : 0 < r) : B' (-10) = zpu (B (-10)) j v ∧ zFq r B B' ∧ zFq k1 C B' := by
  subst e
  refine ⟨?_, fun c a b d => ?_, fun c a b d => zup_row d⟩
  · rw [zup_zpu, f (-10) (by omega) (by omega), znew_row (by omega) (by omega)]
  · rw [zup_row d, f c a b, znew_row (by omega) (by omega)]
def zTr (M : zMm) : Prop := True
def zX9 (M M' : zMm) : Prop := zFk 0 M M' ∧ zPt [((-10), 0, 1), ((-10), 1, 14), ((-10), 2, 21), ((-10), 3, 27), ((-10), 4, 31), ((-10), 5, 34), ((-10), 6, 37), ((-10), 7, 42), ((-10), 8, 45)] M' ∧ zG M' ∧ (∀ h : Int, 0 ≤ h → h < 16 → M' 7 h = 1 ∧ M' 9 h = 20 ∧ M' 10 h = 4) ∧ (∀ w : Int, 0 ≤ w → w < 33 → M' 11 w = 3) ∧ (∀ k : Int, 0 ≤ k → k < 6 → M' 46 k = -1) ∧ zPt [((-11), 0, 2), ((-11), 1, 3), ((-11), 2, 4), ((-11), 3, 5), ((-11), 4, 6), ((-11), 5, 7), ((-11), 6, 8), ((-11), 7, 9), ((-11), 8, 10), ((-11), 9, 11), ((-11), 10, 12), ((-11), 11, 13), (1, 12, 2), (1, 13, 30)] M' ∧ zZr [8, 12, 13] M' ∧ zPt [((-24), 0, 15), (14, 1, 0), (14, 2, 0), (14, 3, 0), ((-24), 4, 16), ((-24), 5, 17), (14, 6, 0), ((-24), 7, 18), ((-24), 8, 19), (14, 9, 0), ((-24), 10, 20)] M' ∧ zZr [15, 16, 17, 18, 19, 20] M' ∧ zPt [((-31), 0, 1), ((-31), 1, 14), ((-31), 2, 22), ((-31), 3, 23), ((-31), 4, 24), ((-31), 5, 25), ((-31), 6, 26), (21, 7, 0)] M' ∧ zZr [22, 23, 24, 25, 26] M' ∧ zPt [((-37), 0, 1), ((-37), 1, 28), ((-37), 2, 29), ((-37), 3, 30)] M' ∧ zZr [28, 29, 30] M' ∧ zPt [((-41), 0, 1), ((-41), 1, 32), ((-41), 2, 33)] M' ∧ zZr [32, 33] M' ∧ zPt [((-44), 0, 1), ((-44), 1, 35), ((-44), 2, 36), (34, 3, 0)] M' ∧ zZr [35, 36] M' ∧ zPt [((-47), 0, 1), ((-47), 1, 38), ((-47), 2, 39), ((-47), 3, 40), ((-47), 4, 41), (37, 5, 0), (37, 6, 0)] M' ∧ zZr [38, 39, 40, 41] M' ∧ zPt [((-52), 0, 43), (42, 1, 0), ((-52), 2, 44), (42, 3, 0), (42, 4, 0)] M' ∧ zZr [43, 44] M' ∧ zPt [((-55), 0, 46), ((-55), 1, 47), ((-55), 2, 48), ((-55), 3, 49), ((-59), 0, 50), ((-59), 1, 51), ((-59), 2, 52), ((-59), 3, 53), ((-59), 4, 54), ((-59), 5, 55)] M' ∧ zZr [47, 48, 50, 51, 52, 53, 54, 55] M'
set_option maxHeartbeats 4000000 in
theorem cX9_init {M : zMm} : zW mX9_init 5 (fun rv S' M' => S' = zS0.take 56 ∧ rv = none ∧ zX9 M M') (55, 2100) (zS0.take 1) 0 (zargs 0 [.inr (.inr 0)]) [] M := by
  change zW _ _ _ _ _ 0 [(0, .inr (.inr 0))] [] M
  refine z_aload_n 0 (zdec DX9_init 0 rfl) rfl rfl (by decide) ?_
  refine z_objInit (zdec DX9_init 1 rfl) ml_SixWalls_1 zoi1 zoi2 (by decide) (by decide) rfl ?_
  refine z_aload_n 0 (zdec DX9_init 2 rfl) rfl rfl (by decide) ?_
  refine z_new (b := (54, 2086)) 1 (n := 14) (zdec DX9_init 3 rfl) rfl cl_SixWalls_7 zins_SixWalls_Comb zini_SixWalls_Comb zfd1 ?_
  change zW _ _ _ _ (zS0.take 2) 8 [(0, .inr (.inr 0))] [.inr (.inr 1), .inr (.inr 0)] (znew M 1)
  refine z_dup (zdec DX9_init 4 rfl) rfl ?_
  refine z_init mX1_init [] (zdec DX9_init 5 rfl) (Or.inl ml_SixWalls_9) okX1_init (by decide) rfl rfl (Nat.le_of_ble_eq_true rfl) (Nat.le_of_ble_eq_true rfl) (b' := (42, 1649)) ⟨by decide, by decide⟩ (Nat.le_of_ble_eq_true rfl) cX1_init (fun rv9 S9 C1 h9 => ?_)
  obtain ⟨rfl, rfl, f1, p1, z1, g1, h1, w1⟩ := h9
  change zW _ _ _ _ _ 12 [(0, .inr (.inr 0))] [.inr (.inr 1), .inr (.inr 0)] C1
  refine z_putr (rw1 := -10) (ki := 0) 0 9 (zdec DX9_init 6 rfl) rfl rfl rfl rfl (by decide) rfl rfl fl_SixWalls_10 (Or.inr ⟨rfl, rfl⟩) ?_
  obtain ⟨B1, eB1⟩ : ∃ x, x = zup C1 (-10) 0 1 := ⟨_, rfl⟩
  have hPB1 : zTr B1 := by rw [eB1]; exact True.intro
  rw [← eB1]
  have s1 := zX9s (k1 := 14) f1 eB1 (by decide)
  have q0 : B1 (-10) 0 = 1 := by rw [s1.1]; exact zpu_s
  refine z_aload_n 0 (zdec DX9_init 7 rfl) rfl rfl (by decide) ?_
  refine z_new (b := (41, 1638)) 4 (n := 11) (zdec DX9_init 8 rfl) rfl cl_SixWalls_16 zins_SixWalls_LawText zini_SixWalls_LawText zfd4 ?_
  change zW _ _ _ _ (zS0.take 15) 19 [(0, .inr (.inr 0))] [.inr (.inr 14), .inr (.inr 0)] (znew B1 14)
  refine z_dup (zdec DX9_init 9 rfl) rfl ?_
  refine z_init mX4_init [] (zdec DX9_init 10 rfl) (Or.inr mn_SixWalls_18) okX4_init (by decide) rfl rfl (Nat.le_of_ble_eq_true rfl) (Nat.le_of_ble_eq_true rfl) (b' := (35, 913)) ⟨by decide, by decide⟩ (Nat.le_of_ble_eq_true rfl) cX4_init (fun rv9 S9 C2 h9 => ?_)
  obtain ⟨rfl, rfl, f2, p2, z2⟩ := h9
  change zW _ _ _ _ _ 23 [(0, .inr (.inr 0))] [.inr (.inr 14), .inr (.inr 0)] C2
  refine z_putr (rw1 := -10) (ki := 1) 0 9 (zdec DX9_init 11 rfl) rfl rfl rfl rfl (by decide) rfl rfl fl_SixWalls_19 (Or.inr ⟨rfl, rfl⟩) ?_
  obtain ⟨B2, eB2⟩ : ∃ x, x = zup C2 (-10) 1 14 := ⟨_, rfl⟩
  have hPB2 : zTr B2 := by rw [eB2]; exact True.intro
  rw [← eB2]
  have s2 := zX9s (k1 := 21) f2 eB2 (by decide)
  have q0 : B2 (-10) 0 = 1 := by rw [s2.1]; rw [zpu_n (by decide)]; exact q0
  have q1 : B2 (-10) 1 = 14 := by rw [s2.1]; exact zpu_s
  refine z_aload_n 0 (zdec DX9_init 12 rfl) rfl rfl (by decide) ?_
  refine z_new (b := (34, 905)) 8 (n := 8) (zdec DX9_init 13 rfl) rfl cl_SixWalls_23 zins_SixWalls_Winter zini_SixWalls_Winter zfd8 ?_
  change zW _ _ _ _ (zS0.take 22) 30 [(0, .inr (.inr 0))] [.inr (.inr 21), .inr (.inr 0)] (znew B2 21)
  refine z_dup (zdec DX9_init 14 rfl) rfl ?_
  refine z_aload_n 0 (zdec DX9_init 15 rfl) rfl rfl (by decide) ?_
  refine z_getr (rw1 := -10) (ki := 0) (r' := 1) 0 9 (zdec DX9_init 16 rfl) rfl rfl rfl rfl (by decide) rfl rfl fl_SixWalls_10 (by rw [znew_row (by decide) (by decide)]; exact q0) ?_
  refine z_aload_n 0 (zdec DX9_init 17 rfl) rfl rfl (by decide) ?_
  refine z_getr (rw1 := -10) (ki := 1) (r' := 14) 0 9 (zdec DX9_init 18 rfl) rfl rfl rfl rfl (by decide) rfl rfl fl_SixWalls_19 (by rw [znew_row (by decide) (by decide)]; exact q1) ?_
  refine z_init mX8_init [.inr (.inr 1), .inr (.inr 14)] (zdec DX9_init 19 rfl) (Or.inl ml_SixWalls_25) okX8_init (by decide) rfl rfl (Nat.le_of_ble_eq_true rfl) (Nat.le_of_ble_eq_true rfl) (b' := (29, 791)) ⟨by decide, by decide⟩ (Nat.le_of_ble_eq_true rfl) cX8_init (fun rv9 S9 C3 h9 => ?_)
  obtain ⟨rfl, rfl, f3, p3, z3⟩ := h9
  change zW _ _ _ _ _ 42 [(0, .inr (.inr 0))] [.inr (.inr 21), .inr (.inr 0)] C3
  refine z_putr (rw1 := -10) (ki := 2) 0 9 (zdec DX9_init 20 rfl) rfl rfl rfl rfl (by decide) rfl rfl fl_SixWalls_28 (Or.inr ⟨rfl, rfl⟩) ?_
  obtain ⟨B3, eB3⟩ : ∃ x, x = zup C3 (-10) 2 21 := ⟨_, rfl⟩
  have hPB3 : zTr B3 := by rw [eB3]; exact True.intro
  rw [← eB3]
  have s3 := zX9s (k1 := 27) f3 eB3 (by decide)
  have q0 : B3 (-10) 0 = 1 := by rw [s3.1]; rw [zpu_n (by decide)]; exact q0
  have q1 : B3 (-10) 1 = 14 := by rw [s3.1]; rw [zpu_n (by decide)]; exact q1
  refine z_aload_n 0 (zdec DX9_init 21 rfl) rfl rfl (by decide) ?_
  refine z_new (b := (28, 787)) 5 (n := 4) (zdec DX9_init 22 rfl) rfl cl_SixWalls_32 zins_SixWalls_Masonry zini_SixWalls_Masonry zfd5 ?_
  change zW _ _ _ _ (zS0.take 28) 49 [(0, .inr (.inr 0))] [.inr (.inr 27), .inr (.inr 0)] (znew B3 27)
  refine z_dup (zdec DX9_init 23 rfl) rfl ?_
  refine z_aload_n 0 (zdec DX9_init 24 rfl) rfl rfl (by decide) ?_
  refine z_getr (rw1 := -10) (ki := 0) (r' := 1) 0 9 (zdec DX9_init 25 rfl) rfl rfl rfl rfl (by decide) rfl rfl fl_SixWalls_10 (by rw [znew_row (by decide) (by decide)]; exact q0) ?_
  refine z_init mX5_init [.inr (.inr 1)] (zdec DX9_init 26 rfl) (Or.inl ml_SixWalls_34) okX5_init (by decide) rfl rfl (Nat.le_of_ble_eq_true rfl) (Nat.le_of_ble_eq_true rfl) (b' := (25, 705)) ⟨by decide, by decide⟩ (Nat.le_of_ble_eq_true rfl) cX5_init (fun rv9 S9 C4 h9 => ?_)
  obtain ⟨rfl, rfl, f4, p4, z4⟩ := h9
  change zW _ _ _ _ _ 57 [(0, .inr (.inr 0))] [.inr (.inr 27), .inr (.inr 0)] C4
  refine z_putr (rw1 := -10) (ki := 3) 0 9 (zdec DX9_init 27 rfl) rfl rfl rfl rfl (by decide) rfl rfl fl_SixWalls_37 (Or.inr ⟨rfl, rfl⟩) ?_
  obtain ⟨B4, eB4⟩ : ∃ x, x = zup C4 (-10) 3 27 := ⟨_, rfl⟩
  have hPB4 : zTr B4 := by rw [eB4]; exact True.intro
  rw [← eB4]
  have s4 := zX9s (k1 := 31) f4 eB4 (by decide)
  have q0 : B4 (-10) 0 = 1 := by rw [s4.1]; rw [zpu_n (by decide)]; exact q0
  have q1 : B4 (-10) 1 = 14 := by rw [s4.1]; rw [zpu_n (by decide)]; exact q1
  refine z_aload_n 0 (zdec DX9_init 28 rfl) rfl rfl (by decide) ?_
  refine z_new (b := (24, 702)) 7 (n := 3) (zdec DX9_init 29 rfl) rfl cl_SixWalls_41 zins_SixWalls_Ways zini_SixWalls_Ways zfd7 ?_
  change zW _ _ _ _ (zS0.take 32) 64 [(0, .inr (.inr 0))] [.inr (.inr 31), .inr (.inr 0)] (znew B4 31)
  refine z_dup (zdec DX9_init 30 rfl) rfl ?_
  refine z_aload_n 0 (zdec DX9_init 31 rfl) rfl rfl (by decide) ?_
  refine z_getr (rw1 := -10) (ki := 0) (r' := 1) 0 9 (zdec DX9_init 32 rfl) rfl rfl rfl rfl (by decide) rfl rfl fl_SixWalls_10 (by rw [znew_row (by decide) (by decide)]; exact q0) ?_
  refine z_init mX7_init [.inr (.inr 1)] (zdec DX9_init 33 rfl) (Or.inl ml_SixWalls_43) okX7_init (by decide) rfl rfl (Nat.le_of_ble_eq_true rfl) (Nat.le_of_ble_eq_true rfl) (b' := (22, 670)) ⟨by decide, by decide⟩ (Nat.le_of_ble_eq_true rfl) cX7_init (fun rv9 S9 C5 h9 => ?_)
  obtain ⟨rfl, rfl, f5, p5, z5⟩ := h9
  change zW _ _ _ _ _ 72 [(0, .inr (.inr 0))] [.inr (.inr 31), .inr (.inr 0)] C5
  refine z_putr (rw1 := -10) (ki := 4) 0 9 (zdec DX9_init 34 rfl) rfl rfl rfl rfl (by decide) rfl rfl fl_SixWalls_44 (Or.inr ⟨rfl, rfl⟩) ?_
  obtain ⟨B5, eB5⟩ : ∃ x, x = zup C5 (-10) 4 31 := ⟨_, rfl⟩
  have hPB5 : zTr B5 := by rw [eB5]; exact True.intro
  rw [← eB5]
  have s5 := zX9s (k1 := 34) f5 eB5 (by decide)
  have q0 : B5 (-10) 0 = 1 := by rw [s5.1]; rw [zpu_n (by decide)]; exact q0
  have q1 : B5 (-10) 1 = 14 := by rw [s5.1]; rw [zpu_n (by decide)]; exact q1
  refine z_aload_n 0 (zdec DX9_init 35 rfl) rfl rfl (by decide) ?_
  refine z_new (b := (21, 666)) 2 (n := 4) (zdec DX9_init 36 rfl) rfl cl_SixWalls_48 zins_SixWalls_Families zini_SixWalls_Families zfd2 ?_
  change zW _ _ _ _ (zS0.take 35) 79 [(0, .inr (.inr 0))] [.inr (.inr 34), .inr (.inr 0)] (znew B5 34)
  refine z_dup (zdec DX9_init 37 rfl) rfl ?_
  refine z_aload_n 0 (zdec DX9_init 38 rfl) rfl rfl (by decide) ?_
  refine z_getr (rw1 := -10) (ki := 0) (r' := 1) 0 9 (zdec DX9_init 39 rfl) rfl rfl rfl rfl (by decide) rfl rfl fl_SixWalls_10 (by rw [znew_row (by decide) (by decide)]; exact q0) ?_
  refine z_init mX2_init [.inr (.inr 1)] (zdec DX9_init 40 rfl) (Or.inl ml_SixWalls_50) okX2_init (by decide) rfl rfl (Nat.le_of_ble_eq_true rfl) (Nat.le_of_ble_eq_true rfl) (b' := (19, 634)) ⟨by decide, by decide⟩ (Nat.le_of_ble_eq_true rfl) cX2_init (fun rv9 S9 C6 h9 => ?_)
  obtain ⟨rfl, rfl, f6, p6, z6⟩ := h9
  change zW _ _ _ _ _ 87 [(0, .inr (.inr 0))] [.inr (.inr 34), .inr (.inr 0)] C6
  refine z_putr (rw1 := -10) (ki := 5) 0 9 (zdec DX9_init 41 rfl) rfl rfl rfl rfl (by decide) rfl rfl fl_SixWalls_51 (Or.inr ⟨rfl, rfl⟩) ?_
  obtain ⟨B6, eB6⟩ : ∃ x, x = zup C6 (-10) 5 34 := ⟨_, rfl⟩
  have hPB6 : zTr B6 := by rw [eB6]; exact True.intro
  rw [← eB6]
  have s6 := zX9s (k1 := 37) f6 eB6 (by decide)
  have q0 : B6 (-10) 0 = 1 := by rw [s6.1]; rw [zpu_n (by decide)]; exact q0
  have q1 : B6 (-10) 1 = 14 := by rw [s6.1]; rw [zpu_n (by decide)]; exact q1
  refine z_aload_n 0 (zdec DX9_init 42 rfl) rfl rfl (by decide) ?_
  refine z_new (b := (18, 627)) 3 (n := 7) (zdec DX9_init 43 rfl) rfl cl_SixWalls_55 zins_SixWalls_History zini_SixWalls_History zfd3 ?_
  change zW _ _ _ _ (zS0.take 38) 94 [(0, .inr (.inr 0))] [.inr (.inr 37), .inr (.inr 0)] (znew B6 37)
  refine z_dup (zdec DX9_init 44 rfl) rfl ?_
  refine z_aload_n 0 (zdec DX9_init 45 rfl) rfl rfl (by decide) ?_
  refine z_getr (rw1 := -10) (ki := 0) (r' := 1) 0 9 (zdec DX9_init 46 rfl) rfl rfl rfl rfl (by decide) rfl rfl fl_SixWalls_10 (by rw [znew_row (by decide) (by decide)]; exact q0) ?_
  refine z_init mX3_init [.inr (.inr 1)] (zdec DX9_init 47 rfl) (Or.inl ml_SixWalls_57) okX3_init (by decide) rfl rfl (Nat.le_of_ble_eq_true rfl) (Nat.le_of_ble_eq_true rfl) (b' := (14, 467)) ⟨by decide, by decide⟩ (Nat.le_of_ble_eq_true rfl) cX3_init (fun rv9 S9 C7 h9 => ?_)
  obtain ⟨rfl, rfl, f7, p7, z7⟩ := h9
  change zW _ _ _ _ _ 102 [(0, .inr (.inr 0))] [.inr (.inr 37), .inr (.inr 0)] C7
  refine z_putr (rw1 := -10) (ki := 6) 0 9 (zdec DX9_init 48 rfl) rfl rfl rfl rfl (by decide) rfl rfl fl_SixWalls_58 (Or.inr ⟨rfl, rfl⟩) ?_
  obtain ⟨B7, eB7⟩ : ∃ x, x = zup C7 (-10) 6 37 := ⟨_, rfl⟩
  have hPB7 : zTr B7 := by rw [eB7]; exact True.intro
  rw [← eB7]
  have s7 := zX9s (k1 := 42) f7 eB7 (by decide)
  have q0 : B7 (-10) 0 = 1 := by rw [s7.1]; rw [zpu_n (by decide)]; exact q0
  have q1 : B7 (-10) 1 = 14 := by rw [s7.1]; rw [zpu_n (by decide)]; exact q1
  refine z_aload_n 0 (zdec DX9_init 49 rfl) rfl rfl (by decide) ?_
  refine z_new (b := (13, 462)) 0 (n := 5) (zdec DX9_init 50 rfl) rfl cl_SixWalls_62 zins_SixWalls_Cells zini_SixWalls_Cells zfd0 ?_
  change zW _ _ _ _ (zS0.take 43) 109 [(0, .inr (.inr 0))] [.inr (.inr 42), .inr (.inr 0)] (znew B7 42)
  refine z_dup (zdec DX9_init 51 rfl) rfl ?_
  refine z_init mX0_init [] (zdec DX9_init 52 rfl) (Or.inr mn_SixWalls_64) okX0_init (by decide) rfl rfl (Nat.le_of_ble_eq_true rfl) (Nat.le_of_ble_eq_true rfl) (b' := (11, 388)) ⟨by decide, by decide⟩ (Nat.le_of_ble_eq_true rfl) cX0_init (fun rv9 S9 C8 h9 => ?_)
  obtain ⟨rfl, rfl, f8, p8, z8⟩ := h9
  change zW _ _ _ _ _ 113 [(0, .inr (.inr 0))] [.inr (.inr 42), .inr (.inr 0)] C8
  refine z_putr (rw1 := -10) (ki := 7) 0 9 (zdec DX9_init 53 rfl) rfl rfl rfl rfl (by decide) rfl rfl fl_SixWalls_65 (Or.inr ⟨rfl, rfl⟩) ?_
  obtain ⟨B8, eB8⟩ : ∃ x, x = zup C8 (-10) 7 42 := ⟨_, rfl⟩
  have hPB8 : zTr B8 := by rw [eB8]; exact True.intro
  rw [← eB8]
  have s8 := zX9s (k1 := 45) f8 eB8 (by decide)
  have q0 : B8 (-10) 0 = 1 := by rw [s8.1]; rw [zpu_n (by decide)]; exact q0
  have q1 : B8 (-10) 1 = 14 := by rw [s8.1]; rw [zpu_n (by decide)]; exact q1
  refine z_aload_n 0 (zdec DX9_init 54 rfl) rfl rfl (by decide) ?_
  refine z_new (b := (10, 384)) 6 (n := 4) (zdec DX9_init 55 rfl) rfl cl_SixWalls_69 zins_SixWalls_Shelves zini_SixWalls_Shelves zfd6 ?_
  change zW _ _ _ _ (zS0.take 46) 120 [(0, .inr (.inr 0))] [.inr (.inr 45), .inr (.inr 0)] (znew B8 45)
  refine z_dup (zdec DX9_init 56 rfl) rfl ?_
  refine z_init mX6_init [] (zdec DX9_init 57 rfl) (Or.inl ml_SixWalls_71) okX6_init (by decide) rfl rfl (Nat.le_of_ble_eq_true rfl) (Nat.le_of_ble_eq_true rfl) (b' := (0, 0)) ⟨by decide, by decide⟩ (Nat.le_of_ble_eq_true rfl) cX6_init (fun rv9 S9 C9 h9 => ?_)
  obtain ⟨rfl, rfl, f9, p9, z9, m9⟩ := h9
  change zW _ _ _ _ _ 124 [(0, .inr (.inr 0))] [.inr (.inr 45), .inr (.inr 0)] C9
  refine z_putr (rw1 := -10) (ki := 8) 0 9 (zdec DX9_init 58 rfl) rfl rfl rfl rfl (by decide) rfl rfl fl_SixWalls_72 (Or.inr ⟨rfl, rfl⟩) ?_
  obtain ⟨B9, eB9⟩ : ∃ x, x = zup C9 (-10) 8 45 := ⟨_, rfl⟩
  have hPB9 : zTr B9 := by rw [eB9]; exact True.intro
  rw [← eB9]
  have s9 := zX9s (k1 := 56) f9 eB9 (by decide)
  have q0 : B9 (-10) 0 = 1 := by rw [s9.1]; rw [zpu_n (by decide)]; exact q0
  have q1 : B9 (-10) 1 = 14 := by rw [s9.1]; rw [zpu_n (by decide)]; exact q1
  exact z_vret (zdec DX9_init 59 rfl) rfl (⟨rfl, rfl, (by
    have t9 : zFq 56 C9 B9 := s9.2.2
    have v9 := s9.2.1
    have v8 := s8.2.1.tr v9 (by decide)
    have v7 := s7.2.1.tr v8 (by decide)
    have v6 := s6.2.1.tr v7 (by decide)
    have v5 := s5.2.1.tr v6 (by decide)
    have v4 := s4.2.1.tr v5 (by decide)
    have v3 := s3.2.1.tr v4 (by decide)
    have v2 := s2.2.1.tr v3 (by decide)
    have v1 := s1.2.1.tr v2 (by decide)
    have t1 := s1.2.2.tr v2 (by decide)
    have t2 := s2.2.2.tr v3 (by decide)
    have t3 := s3.2.2.tr v4 (by decide)
    have t4 := s4.2.2.tr v5 (by decide)
    have t5 := s5.2.2.tr v6 (by decide)
    have t6 := s6.2.2.tr v7 (by decide)
    have t7 := s7.2.2.tr v8 (by decide)
    have t8 := s8.2.2.tr v9 (by decide)
    have r10 : B9 (-10) = zpu (zpu (zpu (zpu (zpu (zpu (zpu (zpu (zpu (M (-10)) 0 1) 1 14) 2 21) 3 27) 4 31) 5 34) 6 37) 7 42) 8 45 := by rw [s9.1, s8.1, s7.1, s6.1, s5.1, s4.1, s3.1, s2.1, s1.1]
    have e1 : ∀ c : Int, 0 ≤ c → c < 14 → B9 c = C1 c := fun c a b => t1 c (by omega) (by omega) (by omega)
    refine ⟨(fun c a b => ?_), ?_, ?_, (fun h a b => ?_), (fun w a b => ?_), (fun k a b => ?_), ?_, ?_, ?_, ?_, ?_, ?_, ?_, ?_, ?_, ?_, ?_, ?_, ?_, ?_, ?_, ?_, ?_, ?_⟩
    · exact v1 c (by omega) (by omega) (by omega)
    · exact List.forall_mem_cons.mpr ⟨by rw [r10]; simp [zpu], List.forall_mem_cons.mpr ⟨by rw [r10]; simp [zpu], List.forall_mem_cons.mpr ⟨by rw [r10]; simp [zpu], List.forall_mem_cons.mpr ⟨by rw [r10]; simp [zpu], List.forall_mem_cons.mpr ⟨by rw [r10]; simp [zpu], List.forall_mem_cons.mpr ⟨by rw [r10]; simp [zpu], List.forall_mem_cons.mpr ⟨by rw [r10]; simp [zpu], List.forall_mem_cons.mpr ⟨by rw [r10]; simp [zpu], List.forall_mem_cons.mpr ⟨by rw [r10]; simp [zpu], by simp⟩⟩⟩⟩⟩⟩⟩⟩⟩
    · exact ⟨fun v a b => by rw [e1 2 (by decide) (by decide), e1 3 (by decide) (by decide)]; exact g1.1 v a b, fun v a b => by rw [e1 4 (by decide) (by decide)]; exact g1.2.1 v a b, fun v a b => by rw [e1 5 (by decide) (by decide), e1 6 (by decide) (by decide)]; exact g1.2.2 v a b⟩
    · rw [e1 7 (by decide) (by decide), e1 9 (by decide) (by decide), e1 10 (by decide) (by decide)]; exact h1 h a b
    · rw [e1 11 (by decide) (by decide)]; exact w1 w a b
    · rw [t9 46 (by decide) (by decide) (by decide)]; exact m9 k a b
    · exact p1.fq t1 (by decide)
    · exact z1.fq t1 (by decide)
    · exact p2.fq t2 (by decide)
    · exact z2.fq t2 (by decide)
    · exact p3.fq t3 (by decide)
    · exact z3.fq t3 (by decide)
    · exact p4.fq t4 (by decide)
    · exact z4.fq t4 (by decide)
    · exact p5.fq t5 (by decide)
    · exact z5.fq t5 (by decide)
    · exact p6.fq t6 (by decide)
    · exact z6.fq t6 (by decide)
    · exact p7.fq t7 (by decide)
    · exact z7.fq t7 (by decide)
    · exact p8.fq t8 (by decide)
    · exact z8.fq t8 (by decide)
    · exact p9.fq t9 (by decide)
    · exact z9.fq t9 (by decide))⟩)
