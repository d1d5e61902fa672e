/-! contracts of History; wall, mend, undo, redo of SixWalls -/
def zrec0 (M : zMm) : zMm := zup (zcpy (zcpy (zcpy (zcpy M 38 1 38 0 39) 39 1 39 0 39) 40 1 40 0 39) 41 1 41 0 39) 37 5 39
def zrec1 (M : zMm) (k n what was now : Int) : zMm := zup (zup (zup (zup (zup (zup M 38 k n) 39 k what) 40 k was) 41 k now) 37 5 (k + 1)) 37 6 (k + 1)
def zrec (M : zMm) (n what was now : Int) : zMm := if M 37 5 < 40 then zrec1 M (M 37 5) n what was now else zrec1 (zrec0 M) 39 n what was now
/-- the history's own bounds -/
def zHi (M : zMm) : Prop := 0 ≤ M 37 5 ∧ M 37 5 ≤ M 37 6 ∧ M 37 6 ≤ 40 ∧ ∀ k : Int, 0 ≤ k → k < M 37 6 → zknown (M 38 k) (M 39 k)
theorem ztell_row {M : zMm} {n what v c : Int} (h : c ≠ 8 ∧ c ≠ 10 ∧ c ≠ 11 ∧ c ≠ 12 ∧ c ≠ 13 ∧ c ≠ 1) : ztell M n what v c = M c := by
  unfold ztell
  repeat (first | rw [zup_row (by omega)] | split)
theorem zP_tell {M : zMm} {n what v : Int} (h : zP M) : zP (ztell M n what v) := zP_of h fun r hr => ztell_row (by omega)
def zundo (M : zMm) : zMm := ztell (zup M 37 5 (M 37 5 - 1)) (M 38 (M 37 5 - 1)) (M 39 (M 37 5 - 1)) (M 40 (M 37 5 - 1))
def zredo (M : zMm) : zMm := zup (ztell M (M 38 (M 37 5)) (M 39 (M 37 5)) (M 41 (M 37 5))) 37 5 (M 37 5 + 1)
set_option maxHeartbeats 4000000 in
theorem cX3_dropOldest_38 {M : zMm} : zW mX3_dropOldest 1 (fun rv S' M' => S' = zS0 ∧ rv = none ∧ M' = zcpy M 38 1 38 0 39) (0, 0) zS0 0 (zargs 0 [.inr (.inr 38)]) [] M := by
  change zW _ _ _ _ _ 0 [(0, .inr (.inr 38))] [] M
  refine z_aload_n 0 (zdec DX3_dropOldest 0 rfl) rfl rfl (by decide) ?_
  refine z_iconst 1 (zdec DX3_dropOldest 1 rfl) (by decide) ?_
  refine z_aload_n 0 (zdec DX3_dropOldest 2 rfl) rfl rfl (by decide) ?_
  refine z_iconst 0 (zdec DX3_dropOldest 3 rfl) (by decide) ?_
  refine z_bipush 39 (zdec DX3_dropOldest 4 rfl) (by decide) ?_
  refine z_copyi 38 38 (zdec DX3_dropOldest 5 rfl) ml_SixWalls_History_39 zcp1 zcp2 zcp3 rfl rfl shp38 shp38 ⟨by omega, by omega, by omega⟩ ⟨by omega, by omega⟩ (by decide) rfl ?_
  exact z_vret (zdec DX3_dropOldest 6 rfl) rfl (⟨rfl, rfl, rfl⟩)
set_option maxHeartbeats 4000000 in
theorem cX3_dropOldest_39 {M : zMm} : zW mX3_dropOldest 1 (fun rv S' M' => S' = zS0 ∧ rv = none ∧ M' = zcpy M 39 1 39 0 39) (0, 0) zS0 0 (zargs 0 [.inr (.inr 39)]) [] M := by
  change zW _ _ _ _ _ 0 [(0, .inr (.inr 39))] [] M
  refine z_aload_n 0 (zdec DX3_dropOldest 0 rfl) rfl rfl (by decide) ?_
  refine z_iconst 1 (zdec DX3_dropOldest 1 rfl) (by decide) ?_
  refine z_aload_n 0 (zdec DX3_dropOldest 2 rfl) rfl rfl (by decide) ?_
  refine z_iconst 0 (zdec DX3_dropOldest 3 rfl) (by decide) ?_
  refine z_bipush 39 (zdec DX3_dropOldest 4 rfl) (by decide) ?_
  refine z_copyi 39 39 (zdec DX3_dropOldest 5 rfl) ml_SixWalls_History_39 zcp1 zcp2 zcp3 rfl rfl shp39 shp39 ⟨by omega, by omega, by omega⟩ ⟨by omega, by omega⟩ (by decide) rfl ?_
  exact z_vret (zdec DX3_dropOldest 6 rfl) rfl (⟨rfl, rfl, rfl⟩)
set_option maxHeartbeats 4000000 in
theorem cX3_dropOldest_40 {M : zMm} : zW mX3_dropOldest 1 (fun rv S' M' => S' = zS0 ∧ rv = none ∧ M' = zcpy M 40 1 40 0 39) (0, 0) zS0 0 (zargs 0 [.inr (.inr 40)]) [] M := by
  change zW _ _ _ _ _ 0 [(0, .inr (.inr 40))] [] M
  refine z_aload_n 0 (zdec DX3_dropOldest 0 rfl) rfl rfl (by decide) ?_
  refine z_iconst 1 (zdec DX3_dropOldest 1 rfl) (by decide) ?_
  refine z_aload_n 0 (zdec DX3_dropOldest 2 rfl) rfl rfl (by decide) ?_
  refine z_iconst 0 (zdec DX3_dropOldest 3 rfl) (by decide) ?_
  refine z_bipush 39 (zdec DX3_dropOldest 4 rfl) (by decide) ?_
  refine z_copyi 40 40 (zdec DX3_dropOldest 5 rfl) ml_SixWalls_History_39 zcp1 zcp2 zcp3 rfl rfl shp40 shp40 ⟨by omega, by omega, by omega⟩ ⟨by omega, by omega⟩ (by decide) rfl ?_
  exact z_vret (zdec DX3_dropOldest 6 rfl) rfl (⟨rfl, rfl, rfl⟩)
set_option maxHeartbeats 4000000 in
theorem cX3_dropOldest_41 {M : zMm} : zW mX3_dropOldest 1 (fun rv S' M' => S' = zS0 ∧ rv = none ∧ M' = zcpy M 41 1 41 0 39) (0, 0) zS0 0 (zargs 0 [.inr (.inr 41)]) [] M := by
  change zW _ _ _ _ _ 0 [(0, .inr (.inr 41))] [] M
  refine z_aload_n 0 (zdec DX3_dropOldest 0 rfl) rfl rfl (by decide) ?_
  refine z_iconst 1 (zdec DX3_dropOldest 1 rfl) (by decide) ?_
  refine z_aload_n 0 (zdec DX3_dropOldest 2 rfl) rfl rfl (by decide) ?_
  refine z_iconst 0 (zdec DX3_dropOldest 3 rfl) (by decide) ?_
  refine z_bipush 39 (zdec DX3_dropOldest 4 rfl) (by decide) ?_
  refine z_copyi 41 41 (zdec DX3_dropOldest 5 rfl) ml_SixWalls_History_39 zcp1 zcp2 zcp3 rfl rfl shp41 shp41 ⟨by omega, by omega, by omega⟩ ⟨by omega, by omega⟩ (by decide) rfl ?_
  exact z_vret (zdec DX3_dropOldest 6 rfl) rfl (⟨rfl, rfl, rfl⟩)
set_option maxHeartbeats 4000000 in
theorem cX3_record {M : zMm} (hP : zP M) (hs : 0 ≤ M 37 5 ∧ M 37 5 ≤ 40) (n what was now : Int) : zW mX3_record 2 (fun rv S' M' => S' = zS0 ∧ rv = none ∧ M' = zrec M n what was now) (0, 0) zS0 0 (zargs 0 [.inr (.inr 37), .inl n, .inl what, .inl was, .inl now]) [] M := by
  change zW _ _ _ _ _ 0 [(0, .inr (.inr 37)), (1, .inl n), (2, .inl what), (3, .inl was), (4, .inl now)] [] M
  refine z_aload_n 0 (zdec DX3_record 0 rfl) rfl rfl (by decide) ?_
  refine z_geti (ki := 5) 37 3 (zdec DX3_record 1 rfl) rfl shp37 rfl (by decide) rfl rfl fl_SixWalls_History_24 ?_
  refine z_bipush 40 (zdec DX3_record 2 rfl) (by decide) ?_
  refine z_icmp_lt 43 (zdec DX3_record 3 rfl) rfl (fun h6 => ?_) (fun h6 => ?_)
  ·
    refine z_aload_n 0 (zdec DX3_record 19 rfl) rfl rfl (by decide) ?_
    refine z_getr (rw1 := -47) (ki := 1) (r' := 38) 37 3 (zdec DX3_record 20 rfl) rfl rfl shp37 rfl (by decide) rfl rfl fl_SixWalls_History_11 (zPa hP 41 rfl) ?_
    refine z_aload_n 0 (zdec DX3_record 21 rfl) rfl rfl (by decide) ?_
    refine z_geti (ki := 5) 37 3 (zdec DX3_record 22 rfl) rfl shp37 rfl (by decide) rfl rfl fl_SixWalls_History_24 ?_
    refine z_iload_n 1 (zdec DX3_record 23 rfl) rfl rfl ?_
    refine z_iast 38 (zdec DX3_record 24 rfl) rfl shp38 ⟨by omega, by omega⟩ ?_
    refine z_aload_n 0 (zdec DX3_record 25 rfl) rfl rfl (by decide) ?_
    refine z_getr (rw1 := -47) (ki := 2) (r' := 39) 37 3 (zdec DX3_record 26 rfl) rfl rfl shp37 rfl (by decide) rfl rfl fl_SixWalls_History_15 (zPa (zP_up hP (by decide)) 42 rfl) ?_
    refine z_aload_n 0 (zdec DX3_record 27 rfl) rfl rfl (by decide) ?_
    refine z_geti (ki := 5) 37 3 (zdec DX3_record 28 rfl) rfl shp37 rfl (by decide) rfl rfl fl_SixWalls_History_24 ?_
    rw [show (zup M 38 (M 37 5) n) 37 5 = M 37 5 from by simp [zup, zcpy]]
    refine z_iload_n 2 (zdec DX3_record 29 rfl) rfl rfl ?_
    refine z_iast 39 (zdec DX3_record 30 rfl) rfl shp39 ⟨by omega, by omega⟩ ?_
    refine z_aload_n 0 (zdec DX3_record 31 rfl) rfl rfl (by decide) ?_
    refine z_getr (rw1 := -47) (ki := 3) (r' := 40) 37 3 (zdec DX3_record 32 rfl) rfl rfl shp37 rfl (by decide) rfl rfl fl_SixWalls_History_18 (zPa (zP_up (zP_up hP (by decide)) (by decide)) 43 rfl) ?_
    refine z_aload_n 0 (zdec DX3_record 33 rfl) rfl rfl (by decide) ?_
    refine z_geti (ki := 5) 37 3 (zdec DX3_record 34 rfl) rfl shp37 rfl (by decide) rfl rfl fl_SixWalls_History_24 ?_
    rw [show (zup (zup M 38 (M 37 5) n) 39 (M 37 5) what) 37 5 = M 37 5 from by simp [zup, zcpy]]
    refine z_iload_n 3 (zdec DX3_record 35 rfl) rfl rfl ?_
    refine z_iast 40 (zdec DX3_record 36 rfl) rfl shp40 ⟨by omega, by omega⟩ ?_
    refine z_aload_n 0 (zdec DX3_record 37 rfl) rfl rfl (by decide) ?_
    refine z_getr (rw1 := -47) (ki := 4) (r' := 41) 37 3 (zdec DX3_record 38 rfl) rfl rfl shp37 rfl (by decide) rfl rfl fl_SixWalls_History_21 (zPa (zP_up (zP_up (zP_up hP (by decide)) (by decide)) (by decide)) 44 rfl) ?_
    refine z_aload_n 0 (zdec DX3_record 39 rfl) rfl rfl (by decide) ?_
    refine z_geti (ki := 5) 37 3 (zdec DX3_record 40 rfl) rfl shp37 rfl (by decide) rfl rfl fl_SixWalls_History_24 ?_
    rw [show (zup (zup (zup M 38 (M 37 5) n) 39 (M 37 5) what) 40 (M 37 5) was) 37 5 = M 37 5 from by simp [zup, zcpy]]
    refine z_iload 4 (zdec DX3_record 41 rfl) rfl ?_
    refine z_iast 41 (zdec DX3_record 42 rfl) rfl shp41 ⟨by omega, by omega⟩ ?_
    refine z_aload_n 0 (zdec DX3_record 43 rfl) rfl rfl (by decide) ?_
    refine z_dup (zdec DX3_record 44 rfl) rfl ?_
    refine z_geti (ki := 5) 37 3 (zdec DX3_record 45 rfl) rfl shp37 rfl (by decide) rfl rfl fl_SixWalls_History_24 ?_
    rw [show (zup (zup (zup (zup M 38 (M 37 5) n) 39 (M 37 5) what) 40 (M 37 5) was) 41 (M 37 5) now) 37 5 = M 37 5 from by simp [zup, zcpy]]
    refine z_iconst 1 (zdec DX3_record 46 rfl) (by decide) ?_
    refine z_iadd (zdec DX3_record 47 rfl) (by unfold z32; omega) ?_
    refine z_puti (ki := 5) 37 3 (zdec DX3_record 48 rfl) rfl shp37 rfl (by decide) rfl rfl fl_SixWalls_History_24 (Or.inl rfl) ?_
    refine z_aload_n 0 (zdec DX3_record 49 rfl) rfl rfl (by decide) ?_
    refine z_aload_n 0 (zdec DX3_record 50 rfl) rfl rfl (by decide) ?_
    refine z_geti (ki := 5) 37 3 (zdec DX3_record 51 rfl) rfl shp37 rfl (by decide) rfl rfl fl_SixWalls_History_24 ?_
    rw [show (zup (zup (zup (zup (zup M 38 (M 37 5) n) 39 (M 37 5) what) 40 (M 37 5) was) 41 (M 37 5) now) 37 5 ((M 37 5) + 1)) 37 5 = (M 37 5) + 1 from by simp [zup, zcpy]]
    refine z_puti (ki := 6) 37 3 (zdec DX3_record 52 rfl) rfl shp37 rfl (by decide) rfl rfl fl_SixWalls_History_28 (Or.inl rfl) ?_
    exact z_vret (zdec DX3_record 53 rfl) rfl (⟨rfl, rfl, by unfold zrec; rw [if_pos h6]; rfl⟩)
  ·
    refine z_aload_n 0 (zdec DX3_record 4 rfl) rfl rfl (by decide) ?_
    refine z_getr (rw1 := -47) (ki := 1) (r' := 38) 37 3 (zdec DX3_record 5 rfl) rfl rfl shp37 rfl (by decide) rfl rfl fl_SixWalls_History_11 (zPa hP 41 rfl) ?_
    refine z_invs mX3_dropOldest [.inr (.inr 38)] (zdec DX3_record 6 rfl) (Or.inl ml_SixWalls_History_35) okX3_dropOldest rfl rfl (Nat.le_of_ble_eq_true rfl) (Nat.le_of_ble_eq_true rfl) (b' := (0, 0)) ⟨Nat.le_refl 0, Nat.le_refl 0⟩ (Nat.le_of_ble_eq_true rfl) cX3_dropOldest_38 (fun rv9 S9 M13 h9 => ?_)
    obtain ⟨rfl, rfl, rfl⟩ := h9
    change zW _ _ _ _ _ 16 [(0, .inr (.inr 37)), (1, .inl n), (2, .inl what), (3, .inl was), (4, .inl now)] [] (zcpy M 38 1 38 0 39)
    refine z_aload_n 0 (zdec DX3_record 7 rfl) rfl rfl (by decide) ?_
    refine z_getr (rw1 := -47) (ki := 2) (r' := 39) 37 3 (zdec DX3_record 8 rfl) rfl rfl shp37 rfl (by decide) rfl rfl fl_SixWalls_History_15 (zPa (zP_cpy hP (by decide)) 42 rfl) ?_
    refine z_invs mX3_dropOldest [.inr (.inr 39)] (zdec DX3_record 9 rfl) (Or.inl ml_SixWalls_History_35) okX3_dropOldest rfl rfl (Nat.le_of_ble_eq_true rfl) (Nat.le_of_ble_eq_true rfl) (b' := (0, 0)) ⟨Nat.le_refl 0, Nat.le_refl 0⟩ (Nat.le_of_ble_eq_true rfl) cX3_dropOldest_39 (fun rv9 S9 M20 h9 => ?_)
    obtain ⟨rfl, rfl, rfl⟩ := h9
    change zW _ _ _ _ _ 23 [(0, .inr (.inr 37)), (1, .inl n), (2, .inl what), (3, .inl was), (4, .inl now)] [] (zcpy (zcpy M 38 1 38 0 39) 39 1 39 0 39)
    refine z_aload_n 0 (zdec DX3_record 10 rfl) rfl rfl (by decide) ?_
    refine z_getr (rw1 := -47) (ki := 3) (r' := 40) 37 3 (zdec DX3_record 11 rfl) rfl rfl shp37 rfl (by decide) rfl rfl fl_SixWalls_History_18 (zPa (zP_cpy (zP_cpy hP (by decide)) (by decide)) 43 rfl) ?_
    refine z_invs mX3_dropOldest [.inr (.inr 40)] (zdec DX3_record 12 rfl) (Or.inl ml_SixWalls_History_35) okX3_dropOldest rfl rfl (Nat.le_of_ble_eq_true rfl) (Nat.le_of_ble_eq_true rfl) (b' := (0, 0)) ⟨Nat.le_refl 0, Nat.le_refl 0⟩ (Nat.le_of_ble_eq_true rfl) cX3_dropOldest_40 (fun rv9 S9 M27 h9 => ?_)
    obtain ⟨rfl, rfl, rfl⟩ := h9
    change zW _ _ _ _ _ 30 [(0, .inr (.inr 37)), (1, .inl n), (2, .inl what), (3, .inl was), (4, .inl now)] [] (zcpy (zcpy (zcpy M 38 1 38 0 39) 39 1 39 0 39) 40 1 40 0 39)
    refine z_aload_n 0 (zdec DX3_record 13 rfl) rfl rfl (by decide) ?_
    refine z_getr (rw1 := -47) (ki := 4) (r' := 41) 37 3 (zdec DX3_record 14 rfl) rfl rfl shp37 rfl (by decide) rfl rfl fl_SixWalls_History_21 (zPa (zP_cpy (zP_cpy (zP_cpy hP (by decide)) (by decide)) (by decide)) 44 rfl) ?_
    refine z_invs mX3_dropOldest [.inr (.inr 41)] (zdec DX3_record 15 rfl) (Or.inl ml_SixWalls_History_35) okX3_dropOldest rfl rfl (Nat.le_of_ble_eq_true rfl) (Nat.le_of_ble_eq_true rfl) (b' := (0, 0)) ⟨Nat.le_refl 0, Nat.le_refl 0⟩ (Nat.le_of_ble_eq_true rfl) cX3_dropOldest_41 (fun rv9 S9 M34 h9 => ?_)
    obtain ⟨rfl, rfl, rfl⟩ := h9
    change zW _ _ _ _ _ 37 [(0, .inr (.inr 37)), (1, .inl n), (2, .inl what), (3, .inl was), (4, .inl now)] [] (zcpy (zcpy (zcpy (zcpy M 38 1 38 0 39) 39 1 39 0 39) 40 1 40 0 39) 41 1 41 0 39)
    refine z_aload_n 0 (zdec DX3_record 16 rfl) rfl rfl (by decide) ?_
    refine z_bipush 39 (zdec DX3_record 17 rfl) (by decide) ?_
    refine z_puti (ki := 5) 37 3 (zdec DX3_record 18 rfl) rfl shp37 rfl (by decide) rfl rfl fl_SixWalls_History_24 (Or.inl rfl) ?_
    refine z_aload_n 0 (zdec DX3_record 19 rfl) rfl rfl (by decide) ?_
    refine z_getr (rw1 := -47) (ki := 1) (r' := 38) 37 3 (zdec DX3_record 20 rfl) rfl rfl shp37 rfl (by decide) rfl rfl fl_SixWalls_History_11 (zPa (zP_up (zP_cpy (zP_cpy (zP_cpy (zP_cpy hP (by decide)) (by decide)) (by decide)) (by decide)) (by decide)) 41 rfl) ?_
    refine z_aload_n 0 (zdec DX3_record 21 rfl) rfl rfl (by decide) ?_
    refine z_geti (ki := 5) 37 3 (zdec DX3_record 22 rfl) rfl shp37 rfl (by decide) rfl rfl fl_SixWalls_History_24 ?_
    rw [show (zup (zcpy (zcpy (zcpy (zcpy M 38 1 38 0 39) 39 1 39 0 39) 40 1 40 0 39) 41 1 41 0 39) 37 5 39) 37 5 = 39 from by simp [zup, zcpy]]
    refine z_iload_n 1 (zdec DX3_record 23 rfl) rfl rfl ?_
    refine z_iast 38 (zdec DX3_record 24 rfl) rfl shp38 ⟨by omega, by omega⟩ ?_
    refine z_aload_n 0 (zdec DX3_record 25 rfl) rfl rfl (by decide) ?_
    refine z_getr (rw1 := -47) (ki := 2) (r' := 39) 37 3 (zdec DX3_record 26 rfl) rfl rfl shp37 rfl (by decide) rfl rfl fl_SixWalls_History_15 (zPa (zP_up (zP_up (zP_cpy (zP_cpy (zP_cpy (zP_cpy hP (by decide)) (by decide)) (by decide)) (by decide)) (by decide)) (by decide)) 42 rfl) ?_
    refine z_aload_n 0 (zdec DX3_record 27 rfl) rfl rfl (by decide) ?_
    refine z_geti (ki := 5) 37 3 (zdec DX3_record 28 rfl) rfl shp37 rfl (by decide) rfl rfl fl_SixWalls_History_24 ?_
    rw [show (zup (zup (zcpy (zcpy (zcpy (zcpy M 38 1 38 0 39) 39 1 39 0 39) 40 1 40 0 39) 41 1 41 0 39) 37 5 39) 38 39 n) 37 5 = 39 from by simp [zup, zcpy]]
    refine z_iload_n 2 (zdec DX3_record 29 rfl) rfl rfl ?_
    refine z_iast 39 (zdec DX3_record 30 rfl) rfl shp39 ⟨by omega, by omega⟩ ?_
    refine z_aload_n 0 (zdec DX3_record 31 rfl) rfl rfl (by decide) ?_
    refine z_getr (rw1 := -47) (ki := 3) (r' := 40) 37 3 (zdec DX3_record 32 rfl) rfl rfl shp37 rfl (by decide) rfl rfl fl_SixWalls_History_18 (zPa (zP_up (zP_up (zP_up (zP_cpy (zP_cpy (zP_cpy (zP_cpy hP (by decide)) (by decide)) (by decide)) (by decide)) (by decide)) (by decide)) (by decide)) 43 rfl) ?_
    refine z_aload_n 0 (zdec DX3_record 33 rfl) rfl rfl (by decide) ?_
    refine z_geti (ki := 5) 37 3 (zdec DX3_record 34 rfl) rfl shp37 rfl (by decide) rfl rfl fl_SixWalls_History_24 ?_
    rw [show (zup (zup (zup (zcpy (zcpy (zcpy (zcpy M 38 1 38 0 39) 39 1 39 0 39) 40 1 40 0 39) 41 1 41 0 39) 37 5 39) 38 39 n) 39 39 what) 37 5 = 39 from by simp [zup, zcpy]]
    refine z_iload_n 3 (zdec DX3_record 35 rfl) rfl rfl ?_
    refine z_iast 40 (zdec DX3_record 36 rfl) rfl shp40 ⟨by omega, by omega⟩ ?_
    refine z_aload_n 0 (zdec DX3_record 37 rfl) rfl rfl (by decide) ?_
    refine z_getr (rw1 := -47) (ki := 4) (r' := 41) 37 3 (zdec DX3_record 38 rfl) rfl rfl shp37 rfl (by decide) rfl rfl fl_SixWalls_History_21 (zPa (zP_up (zP_up (zP_up (zP_up (zP_cpy (zP_cpy (zP_cpy (zP_cpy hP (by decide)) (by decide)) (by decide)) (by decide)) (by decide)) (by decide)) (by decide)) (by decide)) 44 rfl) ?_
    refine z_aload_n 0 (zdec DX3_record 39 rfl) rfl rfl (by decide) ?_
    refine z_geti (ki := 5) 37 3 (zdec DX3_record 40 rfl) rfl shp37 rfl (by decide) rfl rfl fl_SixWalls_History_24 ?_
    rw [show (zup (zup (zup (zup (zcpy (zcpy (zcpy (zcpy M 38 1 38 0 39) 39 1 39 0 39) 40 1 40 0 39) 41 1 41 0 39) 37 5 39) 38 39 n) 39 39 what) 40 39 was) 37 5 = 39 from by simp [zup, zcpy]]
    refine z_iload 4 (zdec DX3_record 41 rfl) rfl ?_
    refine z_iast 41 (zdec DX3_record 42 rfl) rfl shp41 ⟨by omega, by omega⟩ ?_
    refine z_aload_n 0 (zdec DX3_record 43 rfl) rfl rfl (by decide) ?_
    refine z_dup (zdec DX3_record 44 rfl) rfl ?_
    refine z_geti (ki := 5) 37 3 (zdec DX3_record 45 rfl) rfl shp37 rfl (by decide) rfl rfl fl_SixWalls_History_24 ?_
    rw [show (zup (zup (zup (zup (zup (zcpy (zcpy (zcpy (zcpy M 38 1 38 0 39) 39 1 39 0 39) 40 1 40 0 39) 41 1 41 0 39) 37 5 39) 38 39 n) 39 39 what) 40 39 was) 41 39 now) 37 5 = 39 from by simp [zup, zcpy]]
    refine z_iconst 1 (zdec DX3_record 46 rfl) (by decide) ?_
    refine z_iadd (zdec DX3_record 47 rfl) (by unfold z32; omega) ?_
    refine z_puti (ki := 5) 37 3 (zdec DX3_record 48 rfl) rfl shp37 rfl (by decide) rfl rfl fl_SixWalls_History_24 (Or.inl rfl) ?_
    refine z_aload_n 0 (zdec DX3_record 49 rfl) rfl rfl (by decide) ?_
    refine z_aload_n 0 (zdec DX3_record 50 rfl) rfl rfl (by decide) ?_
    refine z_geti (ki := 5) 37 3 (zdec DX3_record 51 rfl) rfl shp37 rfl (by decide) rfl rfl fl_SixWalls_History_24 ?_
    rw [show (zup (zup (zup (zup (zup (zup (zcpy (zcpy (zcpy (zcpy M 38 1 38 0 39) 39 1 39 0 39) 40 1 40 0 39) 41 1 41 0 39) 37 5 39) 38 39 n) 39 39 what) 40 39 was) 41 39 now) 37 5 (39 + 1)) 37 5 = 39 + 1 from by simp [zup, zcpy]]
    refine z_puti (ki := 6) 37 3 (zdec DX3_record 52 rfl) rfl shp37 rfl (by decide) rfl rfl fl_SixWalls_History_28 (Or.inl rfl) ?_
    exact z_vret (zdec DX3_record 53 rfl) rfl (⟨rfl, rfl, by unfold zrec; rw [if_neg h6]; rfl⟩)
set_option maxHeartbeats 4000000 in
theorem cX3_undoable {M : zMm} : zW mX3_undoable 1 (fun rv S' M' => S' = zS0 ∧ M = M' ∧ rv = some (.inl (M 37 5))) (0, 0) zS0 0 (zargs 0 [.inr (.inr 37)]) [] M := by
  change zW _ _ _ _ _ 0 [(0, .inr (.inr 37))] [] M
  refine z_aload_n 0 (zdec DX3_undoable 0 rfl) rfl rfl (by decide) ?_
  refine z_geti (ki := 5) 37 3 (zdec DX3_undoable 1 rfl) rfl shp37 rfl (by decide) rfl rfl fl_SixWalls_History_24 ?_
  exact z_iret (zdec DX3_undoable 2 rfl) rfl (⟨rfl, rfl, rfl⟩)
set_option maxHeartbeats 4000000 in
theorem cX3_takeBack {M : zMm} (hP : zP M) (hH : zHi M) : zW mX3_takeBack 2 (fun rv S' M' => S' = zS0 ∧ ((M 37 5 = 0 ∧ rv = some (.inl (-5)) ∧ M = M') ∨ (M 37 5 ≠ 0 ∧ rv = some (.inl (M 37 5 - 1)) ∧ M' = zundo M))) (0, 0) zS0 0 (zargs 0 [.inr (.inr 37)]) [] M := by
  change zW _ _ _ _ _ 0 [(0, .inr (.inr 37))] [] M
  obtain ⟨hH1, hH2, hH3, hH4⟩ := hH
  refine z_aload_n 0 (zdec DX3_takeBack 0 rfl) rfl rfl (by decide) ?_
  refine z_geti (ki := 5) 37 3 (zdec DX3_takeBack 1 rfl) rfl shp37 rfl (by decide) rfl rfl fl_SixWalls_History_24 ?_
  refine z_if_ne 10 (zdec DX3_takeBack 2 rfl) rfl (fun h4 => ?_) (fun h4 => ?_)
  ·
    refine z_aload_n 0 (zdec DX3_takeBack 5 rfl) rfl rfl (by decide) ?_
    refine z_dup (zdec DX3_takeBack 6 rfl) rfl ?_
    refine z_geti (ki := 5) 37 3 (zdec DX3_takeBack 7 rfl) rfl shp37 rfl (by decide) rfl rfl fl_SixWalls_History_24 ?_
    refine z_iconst 1 (zdec DX3_takeBack 8 rfl) (by decide) ?_
    refine z_isub (zdec DX3_takeBack 9 rfl) (by unfold z32; omega) ?_
    refine z_puti (ki := 5) 37 3 (zdec DX3_takeBack 10 rfl) rfl shp37 rfl (by decide) rfl rfl fl_SixWalls_History_24 (Or.inl rfl) ?_
    refine z_aload_n 0 (zdec DX3_takeBack 11 rfl) rfl rfl (by decide) ?_
    refine z_getr (rw1 := -47) (ki := 0) (r' := 1) 37 3 (zdec DX3_takeBack 12 rfl) rfl rfl shp37 rfl (by decide) rfl rfl fl_SixWalls_History_31 (zPa (zP_up hP (by decide)) 40 rfl) ?_
    refine z_aload_n 0 (zdec DX3_takeBack 13 rfl) rfl rfl (by decide) ?_
    refine z_getr (rw1 := -47) (ki := 1) (r' := 38) 37 3 (zdec DX3_takeBack 14 rfl) rfl rfl shp37 rfl (by decide) rfl rfl fl_SixWalls_History_11 (zPa (zP_up hP (by decide)) 41 rfl) ?_
    refine z_aload_n 0 (zdec DX3_takeBack 15 rfl) rfl rfl (by decide) ?_
    refine z_geti (ki := 5) 37 3 (zdec DX3_takeBack 16 rfl) rfl shp37 rfl (by decide) rfl rfl fl_SixWalls_History_24 ?_
    rw [show (zup M 37 5 ((M 37 5) - 1)) 37 5 = (M 37 5) - 1 from by simp [zup, zcpy]]
    refine z_iald 38 (zdec DX3_takeBack 17 rfl) rfl shp38 ⟨by omega, by omega⟩ ?_
    rw [show (zup M 37 5 ((M 37 5) - 1)) 38 ((M 37 5) - 1) = M 38 ((M 37 5) - 1) from by simp [zup, zcpy]]
    refine z_aload_n 0 (zdec DX3_takeBack 18 rfl) rfl rfl (by decide) ?_
    refine z_getr (rw1 := -47) (ki := 2) (r' := 39) 37 3 (zdec DX3_takeBack 19 rfl) rfl rfl shp37 rfl (by decide) rfl rfl fl_SixWalls_History_15 (zPa (zP_up hP (by decide)) 42 rfl) ?_
    refine z_aload_n 0 (zdec DX3_takeBack 20 rfl) rfl rfl (by decide) ?_
    refine z_geti (ki := 5) 37 3 (zdec DX3_takeBack 21 rfl) rfl shp37 rfl (by decide) rfl rfl fl_SixWalls_History_24 ?_
    rw [show (zup M 37 5 ((M 37 5) - 1)) 37 5 = (M 37 5) - 1 from by simp [zup, zcpy]]
    refine z_iald 39 (zdec DX3_takeBack 22 rfl) rfl shp39 ⟨by omega, by omega⟩ ?_
    rw [show (zup M 37 5 ((M 37 5) - 1)) 39 ((M 37 5) - 1) = M 39 ((M 37 5) - 1) from by simp [zup, zcpy]]
    refine z_aload_n 0 (zdec DX3_takeBack 23 rfl) rfl rfl (by decide) ?_
    refine z_getr (rw1 := -47) (ki := 3) (r' := 40) 37 3 (zdec DX3_takeBack 24 rfl) rfl rfl shp37 rfl (by decide) rfl rfl fl_SixWalls_History_18 (zPa (zP_up hP (by decide)) 43 rfl) ?_
    refine z_aload_n 0 (zdec DX3_takeBack 25 rfl) rfl rfl (by decide) ?_
    refine z_geti (ki := 5) 37 3 (zdec DX3_takeBack 26 rfl) rfl shp37 rfl (by decide) rfl rfl fl_SixWalls_History_24 ?_
    rw [show (zup M 37 5 ((M 37 5) - 1)) 37 5 = (M 37 5) - 1 from by simp [zup, zcpy]]
    refine z_iald 40 (zdec DX3_takeBack 27 rfl) rfl shp40 ⟨by omega, by omega⟩ ?_
    rw [show (zup M 37 5 ((M 37 5) - 1)) 40 ((M 37 5) - 1) = M 40 ((M 37 5) - 1) from by simp [zup, zcpy]]
    refine z_inv mX1_tell 1 1 [.inl (M 38 ((M 37 5) - 1)), .inl (M 39 ((M 37 5) - 1)), .inl (M 40 ((M 37 5) - 1))] (zdec DX3_takeBack 28 rfl) ml_SixWalls_History_45 okX1_tell rfl shp1 rfl rfl rfl rfl (Nat.le_of_ble_eq_true rfl) (Nat.le_of_ble_eq_true rfl) (b' := (0, 0)) ⟨Nat.le_refl 0, Nat.le_refl 0⟩ (Nat.le_of_ble_eq_true rfl) (cX1_tell (zP_up hP (by decide)) (M 38 ((M 37 5) - 1)) (M 39 ((M 37 5) - 1)) (M 40 ((M 37 5) - 1)) (hH4 _ (by omega) (by omega))) (fun rv9 S9 M51 h9 => ?_)
    obtain ⟨rfl, rfl, e51⟩ := h9
    have hPM51 : zP M51 := by rw [e51]; exact zP_tell (zP_up hP (by decide))
    change zW _ _ _ _ _ 54 [(0, .inr (.inr 37))] [] M51
    refine z_aload_n 0 (zdec DX3_takeBack 29 rfl) rfl rfl (by decide) ?_
    refine z_geti (ki := 5) 37 3 (zdec DX3_takeBack 30 rfl) rfl shp37 rfl (by decide) rfl rfl fl_SixWalls_History_24 ?_
    rw [show M51 37 5 = M 37 5 - 1 from by rw [e51, ztell_row (by decide)]; exact zup_self _ _ _ _]
    exact z_iret (zdec DX3_takeBack 31 rfl) rfl (⟨rfl, Or.inr ⟨h4, rfl, e51⟩⟩)
  ·
    refine z_bipush (-5) (zdec DX3_takeBack 3 rfl) (by decide) ?_
    exact z_iret (zdec DX3_takeBack 4 rfl) rfl (⟨rfl, Or.inl ⟨by omega, rfl, rfl⟩⟩)
set_option maxHeartbeats 4000000 in
theorem cX3_doAgain {M : zMm} (hP : zP M) (hH : zHi M) : zW mX3_doAgain 2 (fun rv S' M' => S' = zS0 ∧ ((M 37 5 = M 37 6 ∧ rv = some (.inl (-5)) ∧ M = M') ∨ (M 37 5 < M 37 6 ∧ rv = some (.inl (M 37 6 - (M 37 5 + 1))) ∧ M' = zredo M))) (0, 0) zS0 0 (zargs 0 [.inr (.inr 37)]) [] M := by
  change zW _ _ _ _ _ 0 [(0, .inr (.inr 37))] [] M
  obtain ⟨hH1, hH2, hH3, hH4⟩ := hH
  refine z_aload_n 0 (zdec DX3_doAgain 0 rfl) rfl rfl (by decide) ?_
  refine z_geti (ki := 5) 37 3 (zdec DX3_doAgain 1 rfl) rfl shp37 rfl (by decide) rfl rfl fl_SixWalls_History_24 ?_
  refine z_aload_n 0 (zdec DX3_doAgain 2 rfl) rfl rfl (by decide) ?_
  refine z_geti (ki := 6) 37 3 (zdec DX3_doAgain 3 rfl) rfl shp37 rfl (by decide) rfl rfl fl_SixWalls_History_28 ?_
  refine z_icmp_lt 14 (zdec DX3_doAgain 4 rfl) rfl (fun h8 => ?_) (fun h8 => ?_)
  ·
    refine z_aload_n 0 (zdec DX3_doAgain 7 rfl) rfl rfl (by decide) ?_
    refine z_getr (rw1 := -47) (ki := 0) (r' := 1) 37 3 (zdec DX3_doAgain 8 rfl) rfl rfl shp37 rfl (by decide) rfl rfl fl_SixWalls_History_31 (zPa hP 40 rfl) ?_
    refine z_aload_n 0 (zdec DX3_doAgain 9 rfl) rfl rfl (by decide) ?_
    refine z_getr (rw1 := -47) (ki := 1) (r' := 38) 37 3 (zdec DX3_doAgain 10 rfl) rfl rfl shp37 rfl (by decide) rfl rfl fl_SixWalls_History_11 (zPa hP 41 rfl) ?_
    refine z_aload_n 0 (zdec DX3_doAgain 11 rfl) rfl rfl (by decide) ?_
    refine z_geti (ki := 5) 37 3 (zdec DX3_doAgain 12 rfl) rfl shp37 rfl (by decide) rfl rfl fl_SixWalls_History_24 ?_
    refine z_iald 38 (zdec DX3_doAgain 13 rfl) rfl shp38 ⟨by omega, by omega⟩ ?_
    refine z_aload_n 0 (zdec DX3_doAgain 14 rfl) rfl rfl (by decide) ?_
    refine z_getr (rw1 := -47) (ki := 2) (r' := 39) 37 3 (zdec DX3_doAgain 15 rfl) rfl rfl shp37 rfl (by decide) rfl rfl fl_SixWalls_History_15 (zPa hP 42 rfl) ?_
    refine z_aload_n 0 (zdec DX3_doAgain 16 rfl) rfl rfl (by decide) ?_
    refine z_geti (ki := 5) 37 3 (zdec DX3_doAgain 17 rfl) rfl shp37 rfl (by decide) rfl rfl fl_SixWalls_History_24 ?_
    refine z_iald 39 (zdec DX3_doAgain 18 rfl) rfl shp39 ⟨by omega, by omega⟩ ?_
    refine z_aload_n 0 (zdec DX3_doAgain 19 rfl) rfl rfl (by decide) ?_
    refine z_getr (rw1 := -47) (ki := 4) (r' := 41) 37 3 (zdec DX3_doAgain 20 rfl) rfl rfl shp37 rfl (by decide) rfl rfl fl_SixWalls_History_21 (zPa hP 44 rfl) ?_
    refine z_aload_n 0 (zdec DX3_doAgain 21 rfl) rfl rfl (by decide) ?_
    refine z_geti (ki := 5) 37 3 (zdec DX3_doAgain 22 rfl) rfl shp37 rfl (by decide) rfl rfl fl_SixWalls_History_24 ?_
    refine z_iald 41 (zdec DX3_doAgain 23 rfl) rfl shp41 ⟨by omega, by omega⟩ ?_
    refine z_inv mX1_tell 1 1 [.inl (M 38 (M 37 5)), .inl (M 39 (M 37 5)), .inl (M 41 (M 37 5))] (zdec DX3_doAgain 24 rfl) ml_SixWalls_History_45 okX1_tell rfl shp1 rfl rfl rfl rfl (Nat.le_of_ble_eq_true rfl) (Nat.le_of_ble_eq_true rfl) (b' := (0, 0)) ⟨Nat.le_refl 0, Nat.le_refl 0⟩ (Nat.le_of_ble_eq_true rfl) (cX1_tell hP (M 38 (M 37 5)) (M 39 (M 37 5)) (M 41 (M 37 5)) (hH4 _ (by omega) (by omega))) (fun rv9 S9 M45 h9 => ?_)
    obtain ⟨rfl, rfl, e45⟩ := h9
    have hPM45 : zP M45 := by rw [e45]; exact zP_tell hP
    have r45 : M45 37 = M 37 := by rw [e45, ztell_row (by decide)]
    change zW _ _ _ _ _ 48 [(0, .inr (.inr 37))] [] M45
    refine z_aload_n 0 (zdec DX3_doAgain 25 rfl) rfl rfl (by decide) ?_
    refine z_dup (zdec DX3_doAgain 26 rfl) rfl ?_
    refine z_geti (ki := 5) 37 3 (zdec DX3_doAgain 27 rfl) rfl shp37 rfl (by decide) rfl rfl fl_SixWalls_History_24 ?_
    rw [r45]
    refine z_iconst 1 (zdec DX3_doAgain 28 rfl) (by decide) ?_
    refine z_iadd (zdec DX3_doAgain 29 rfl) (by unfold z32; omega) ?_
    refine z_puti (ki := 5) 37 3 (zdec DX3_doAgain 30 rfl) rfl shp37 rfl (by decide) rfl rfl fl_SixWalls_History_24 (Or.inl rfl) ?_
    refine z_aload_n 0 (zdec DX3_doAgain 31 rfl) rfl rfl (by decide) ?_
    refine z_geti (ki := 6) 37 3 (zdec DX3_doAgain 32 rfl) rfl shp37 rfl (by decide) rfl rfl fl_SixWalls_History_28 ?_
    rw [show (zup M45 37 5 ((M 37 5) + 1)) 37 6 = M45 37 6 from by simp [zup, zcpy]]
    rw [r45]
    refine z_aload_n 0 (zdec DX3_doAgain 33 rfl) rfl rfl (by decide) ?_
    refine z_geti (ki := 5) 37 3 (zdec DX3_doAgain 34 rfl) rfl shp37 rfl (by decide) rfl rfl fl_SixWalls_History_24 ?_
    rw [show (zup M45 37 5 ((M 37 5) + 1)) 37 5 = (M 37 5) + 1 from by simp [zup, zcpy]]
    refine z_isub (zdec DX3_doAgain 35 rfl) (by unfold z32; omega) ?_
    exact z_iret (zdec DX3_doAgain 36 rfl) rfl (⟨rfl, Or.inr ⟨h8, rfl, by unfold zredo; rw [e45]⟩⟩)
  ·
    refine z_bipush (-5) (zdec DX3_doAgain 5 rfl) (by decide) ?_
    exact z_iret (zdec DX3_doAgain 6 rfl) rfl (⟨rfl, Or.inl ⟨by omega, rfl, rfl⟩⟩)
set_option maxHeartbeats 4000000 in
theorem cX9_undo {M : zMm} (hP : zP M) (hH : zHi M) : zW mX9_undo 3 (fun rv S' M' => S' = zS0 ∧ ((M 37 5 = 0 ∧ rv = some (.inl (-5)) ∧ M = M') ∨ (M 37 5 ≠ 0 ∧ rv = some (.inl (M 37 5 - 1)) ∧ M' = zundo M))) (0, 0) zS0 0 (zargs 0 [.inr (.inr 0)]) [] M := by
  change zW _ _ _ _ _ 0 [(0, .inr (.inr 0))] [] M
  refine z_aload_n 0 (zdec DX9_undo 0 rfl) rfl rfl (by decide) ?_
  refine z_getr (rw1 := -10) (ki := 6) (r' := 37) 0 9 (zdec DX9_undo 1 rfl) rfl rfl shp0 rfl (by decide) rfl rfl fl_SixWalls_58 (zPa hP 6 rfl) ?_
  refine z_inv mX3_takeBack 37 3 [] (zdec DX9_undo 2 rfl) ml_SixWalls_291 okX3_takeBack rfl shp37 rfl rfl rfl rfl (Nat.le_of_ble_eq_true rfl) (Nat.le_of_ble_eq_true rfl) (b' := (0, 0)) ⟨Nat.le_refl 0, Nat.le_refl 0⟩ (Nat.le_of_ble_eq_true rfl) (cX3_takeBack hP hH) (fun rv9 S9 M7 h9 => ?_)
  obtain ⟨rfl, h7⟩ := h9
  obtain ⟨r7, rfl⟩ : ∃ r, rv9 = some (.inl r) := by rcases h7 with h | h <;> exact ⟨_, h.2.1⟩
  change zW _ _ _ _ _ 7 [(0, .inr (.inr 0))] [.inl r7] M7
  exact z_iret (zdec DX9_undo 3 rfl) rfl (⟨rfl, h7⟩)
set_option maxHeartbeats 4000000 in
theorem cX9_redo {M : zMm} (hP : zP M) (hH : zHi M) : zW mX9_redo 3 (fun rv S' M' => S' = zS0 ∧ ((M 37 5 = M 37 6 ∧ rv = some (.inl (-5)) ∧ M = M') ∨ (M 37 5 < M 37 6 ∧ rv = some (.inl (M 37 6 - (M 37 5 + 1))) ∧ M' = zredo M))) (0, 0) zS0 0 (zargs 0 [.inr (.inr 0)]) [] M := by
  change zW _ _ _ _ _ 0 [(0, .inr (.inr 0))] [] M
  refine z_aload_n 0 (zdec DX9_redo 0 rfl) rfl rfl (by decide) ?_
  refine z_getr (rw1 := -10) (ki := 6) (r' := 37) 0 9 (zdec DX9_redo 1 rfl) rfl rfl shp0 rfl (by decide) rfl rfl fl_SixWalls_58 (zPa hP 6 rfl) ?_
  refine z_inv mX3_doAgain 37 3 [] (zdec DX9_redo 2 rfl) ml_SixWalls_294 okX3_doAgain rfl shp37 rfl rfl rfl rfl (Nat.le_of_ble_eq_true rfl) (Nat.le_of_ble_eq_true rfl) (b' := (0, 0)) ⟨Nat.le_refl 0, Nat.le_refl 0⟩ (Nat.le_of_ble_eq_true rfl) (cX3_doAgain hP hH) (fun rv9 S9 M7 h9 => ?_)
  obtain ⟨rfl, h7⟩ := h9
  obtain ⟨r7, rfl⟩ : ∃ r, rv9 = some (.inl r) := by rcases h7 with h | h <;> exact ⟨_, h.2.1⟩
  change zW _ _ _ _ _ 7 [(0, .inr (.inr 0))] [.inl r7] M7
  exact z_iret (zdec DX9_redo 3 rfl) rfl (⟨rfl, h7⟩)
set_option maxHeartbeats 4000000 in
theorem cX9_wall {M : zMm} (hP : zP M) (hG : zG M) (v : Int) : zW mX9_wall 4 (fun rv S' M' => S' = zS0 ∧ M = M' ∧ rv = some (.inl (if (0 ≤ v ∧ v / 100 < 16 ∧ v % 100 < 16) ∧ v / 100 ≠ v % 100 then (if zwb (v / 100) (v % 100) < 0 then -2 else zwb (v / 100) (v % 100)) else -1))) (0, 0) zS0 0 (zargs 0 [.inr (.inr 0), .inl v]) [] M := by
  change zW _ _ _ _ _ 0 [(0, .inr (.inr 0)), (1, .inl v)] [] M
  refine z_iload_n 1 (zdec DX9_wall 0 rfl) rfl rfl ?_
  refine z_invs mX9_isPair [.inl v] (zdec DX9_wall 1 rfl) (Or.inl ml_SixWalls_84) okX9_isPair rfl rfl (Nat.le_of_ble_eq_true rfl) (Nat.le_of_ble_eq_true rfl) (b' := (0, 0)) ⟨Nat.le_refl 0, Nat.le_refl 0⟩ (Nat.le_of_ble_eq_true rfl) (cX9_isPair v) (fun rv9 S9 M1 h9 => ?_)
  obtain ⟨rfl, rfl, rfl⟩ := h9
  change zW _ _ _ _ _ 4 [(0, .inr (.inr 0)), (1, .inl v)] [.inl (zb (0 ≤ v ∧ v / 100 < 16 ∧ v % 100 < 16))] M
  refine z_if_eq 18 (zdec DX9_wall 2 rfl) rfl (fun h4 => ?_) (fun h4 => ?_)
  ·
    refine z_iconst (-1) (zdec DX9_wall 10 rfl) (by decide) ?_
    exact z_iret (zdec DX9_wall 11 rfl) rfl (⟨rfl, rfl, zri (by (try rw [zb_eq0] at h4); (repeat (first | rw [if_pos (by omega)] | rw [if_neg (by omega)])))⟩)
  ·
    rw [zb_eq0, Classical.not_not] at h4
    refine z_iload_n 1 (zdec DX9_wall 3 rfl) rfl rfl ?_
    refine z_bipush 100 (zdec DX9_wall 4 rfl) (by decide) ?_
    refine z_idivp (zdec DX9_wall 5 rfl) (by omega) (by omega) ?_
    refine z_iload_n 1 (zdec DX9_wall 6 rfl) rfl rfl ?_
    refine z_bipush 100 (zdec DX9_wall 7 rfl) (by decide) ?_
    refine z_iremp (zdec DX9_wall 8 rfl) (by omega) (by omega) ?_
    refine z_icmp_ne 20 (zdec DX9_wall 9 rfl) rfl (fun h15 => ?_) (fun h15 => ?_)
    ·
      refine z_aload_n 0 (zdec DX9_wall 12 rfl) rfl rfl (by decide) ?_
      refine z_getr (rw1 := -10) (ki := 0) (r' := 1) 0 9 (zdec DX9_wall 13 rfl) rfl rfl shp0 rfl (by decide) rfl rfl fl_SixWalls_10 (zPa hP 0 rfl) ?_
      refine z_iload_n 1 (zdec DX9_wall 14 rfl) rfl rfl ?_
      refine z_bipush 100 (zdec DX9_wall 15 rfl) (by decide) ?_
      refine z_idivp (zdec DX9_wall 16 rfl) (by omega) (by omega) ?_
      refine z_iload_n 1 (zdec DX9_wall 17 rfl) rfl rfl ?_
      refine z_bipush 100 (zdec DX9_wall 18 rfl) (by decide) ?_
      refine z_iremp (zdec DX9_wall 19 rfl) (by omega) (by omega) ?_
      refine z_inv mX1_wallBetween 1 1 [.inl (v / 100), .inl (v % 100)] (zdec DX9_wall 20 rfl) ml_SixWalls_87 okX1_wallBetween rfl shp1 rfl rfl rfl rfl (Nat.le_of_ble_eq_true rfl) (Nat.le_of_ble_eq_true rfl) (b' := (0, 0)) ⟨Nat.le_refl 0, Nat.le_refl 0⟩ (Nat.le_of_ble_eq_true rfl) (cX1_wallBetween hP hG (v / 100) (v % 100) ⟨by omega, by omega⟩ ⟨by omega, by omega⟩) (fun rv9 S9 M32 h9 => ?_)
      obtain ⟨rfl, rfl, rfl⟩ := h9
      change zW _ _ _ _ _ 35 [(0, .inr (.inr 0)), (1, .inl v)] [.inl (zwb (v / 100) (v % 100))] M
      refine z_istore_n (L' := [(0, .inr (.inr 0)), (1, .inl v), (2, .inl (zwb (v / 100) (v % 100)))]) (zdec DX9_wall 21 rfl) rfl rfl (by decide) ?_
      refine z_iload_n 2 (zdec DX9_wall 22 rfl) rfl rfl ?_
      refine z_if_ge 45 (zdec DX9_wall 23 rfl) rfl (fun h37 => ?_) (fun h37 => ?_)
      ·
        refine z_iload_n 2 (zdec DX9_wall 26 rfl) rfl rfl ?_
        exact z_iret (zdec DX9_wall 27 rfl) rfl (⟨rfl, rfl, zri (by (try rw [zb_eq0] at h4); (repeat (first | rw [if_pos (by omega)] | rw [if_neg (by omega)])))⟩)
      ·
        refine z_bipush (-2) (zdec DX9_wall 24 rfl) (by decide) ?_
        refine z_goto 46 (zdec DX9_wall 25 rfl) rfl ?_
        exact z_iret (zdec DX9_wall 27 rfl) rfl (⟨rfl, rfl, zri (by (try rw [zb_eq0] at h4); (repeat (first | rw [if_pos (by omega)] | rw [if_neg (by omega)])))⟩)
    ·
      refine z_iconst (-1) (zdec DX9_wall 10 rfl) (by decide) ?_
      exact z_iret (zdec DX9_wall 11 rfl) rfl (⟨rfl, rfl, zri (by (try rw [zb_eq0] at h4); (repeat (first | rw [if_pos (by omega)] | rw [if_neg (by omega)])))⟩)
set_option maxHeartbeats 4000000 in
theorem cX9_mend {M : zMm} (hP : zP M) (hs : 0 ≤ M 37 5 ∧ M 37 5 ≤ 40) (n what v : Int) : zW mX9_mend 4 (fun rv S' M' => S' = zS0 ∧ ((¬ zfit n what v ∧ rv = some (.inl (-1)) ∧ M = M') ∨ (zfit n what v ∧ rv = some (.inl (ztold M n what)) ∧ M' = if ztold M n what = v then M else zrec (ztell M n what v) n what (ztold M n what) v))) (0, 0) zS0 0 (zargs 0 [.inr (.inr 0), .inl n, .inl what, .inl v]) [] M := by
  change zW _ _ _ _ _ 0 [(0, .inr (.inr 0)), (1, .inl n), (2, .inl what), (3, .inl v)] [] M
  refine z_aload_n 0 (zdec DX9_mend 0 rfl) rfl rfl (by decide) ?_
  refine z_getr (rw1 := -10) (ki := 0) (r' := 1) 0 9 (zdec DX9_mend 1 rfl) rfl rfl shp0 rfl (by decide) rfl rfl fl_SixWalls_10 (zPa hP 0 rfl) ?_
  refine z_iload_n 1 (zdec DX9_mend 2 rfl) rfl rfl ?_
  refine z_iload_n 2 (zdec DX9_mend 3 rfl) rfl rfl ?_
  refine z_iload_n 3 (zdec DX9_mend 4 rfl) rfl rfl ?_
  refine z_inv mX1_fits 1 1 [.inl n, .inl what, .inl v] (zdec DX9_mend 5 rfl) ml_SixWalls_91 okX1_fits rfl shp1 rfl rfl rfl rfl (Nat.le_of_ble_eq_true rfl) (Nat.le_of_ble_eq_true rfl) (b' := (0, 0)) ⟨Nat.le_refl 0, Nat.le_refl 0⟩ (Nat.le_of_ble_eq_true rfl) (cX1_fits n what v) (fun rv9 S9 M7 h9 => ?_)
  obtain ⟨rfl, rfl, r7, rfl, hf⟩ := h9
  change zW _ _ _ _ _ 10 [(0, .inr (.inr 0)), (1, .inl n), (2, .inl what), (3, .inl v)] [.inl r7] M
  refine z_if_ne 15 (zdec DX9_mend 6 rfl) rfl (fun h10 => ?_) (fun h10 => ?_)
  ·
    obtain ⟨-, hf⟩ : r7 = 1 ∧ zfit n what v := hf.resolve_right (fun h => h10 h.1)
    have hk : zknown n what := hf.1
    refine z_aload_n 0 (zdec DX9_mend 9 rfl) rfl rfl (by decide) ?_
    refine z_getr (rw1 := -10) (ki := 0) (r' := 1) 0 9 (zdec DX9_mend 10 rfl) rfl rfl shp0 rfl (by decide) rfl rfl fl_SixWalls_10 (zPa hP 0 rfl) ?_
    refine z_iload_n 1 (zdec DX9_mend 11 rfl) rfl rfl ?_
    refine z_iload_n 2 (zdec DX9_mend 12 rfl) rfl rfl ?_
    refine z_inv mX1_told 1 1 [.inl n, .inl what] (zdec DX9_mend 13 rfl) ml_SixWalls_94 okX1_told rfl shp1 rfl rfl rfl rfl (Nat.le_of_ble_eq_true rfl) (Nat.le_of_ble_eq_true rfl) (b' := (0, 0)) ⟨Nat.le_refl 0, Nat.le_refl 0⟩ (Nat.le_of_ble_eq_true rfl) (cX1_told hP n what hk) (fun rv9 S9 M21 h9 => ?_)
    obtain ⟨rfl, rfl, rfl⟩ := h9
    change zW _ _ _ _ _ 24 [(0, .inr (.inr 0)), (1, .inl n), (2, .inl what), (3, .inl v)] [.inl (ztold M n what)] M
    refine z_istore (L' := [(0, .inr (.inr 0)), (1, .inl n), (2, .inl what), (3, .inl v), (4, .inl (ztold M n what))]) (zdec DX9_mend 14 rfl) rfl (by decide) ?_
    refine z_iload 4 (zdec DX9_mend 15 rfl) rfl ?_
    refine z_iload_n 3 (zdec DX9_mend 16 rfl) rfl rfl ?_
    refine z_icmp_eq 54 (zdec DX9_mend 17 rfl) rfl (fun h29 => ?_) (fun h29 => ?_)
    ·
      refine z_iload 4 (zdec DX9_mend 31 rfl) rfl ?_
      exact z_iret (zdec DX9_mend 32 rfl) rfl (⟨rfl, Or.inr ⟨hf, rfl, by rw [if_pos h29]⟩⟩)
    ·
      refine z_aload_n 0 (zdec DX9_mend 18 rfl) rfl rfl (by decide) ?_
      refine z_getr (rw1 := -10) (ki := 0) (r' := 1) 0 9 (zdec DX9_mend 19 rfl) rfl rfl shp0 rfl (by decide) rfl rfl fl_SixWalls_10 (zPa hP 0 rfl) ?_
      refine z_iload_n 1 (zdec DX9_mend 20 rfl) rfl rfl ?_
      refine z_iload_n 2 (zdec DX9_mend 21 rfl) rfl rfl ?_
      refine z_iload_n 3 (zdec DX9_mend 22 rfl) rfl rfl ?_
      refine z_inv mX1_tell 1 1 [.inl n, .inl what, .inl v] (zdec DX9_mend 23 rfl) ml_SixWalls_97 okX1_tell rfl shp1 rfl rfl rfl rfl (Nat.le_of_ble_eq_true rfl) (Nat.le_of_ble_eq_true rfl) (b' := (0, 0)) ⟨Nat.le_refl 0, Nat.le_refl 0⟩ (Nat.le_of_ble_eq_true rfl) (cX1_tell hP n what v hk) (fun rv9 S9 M39 h9 => ?_)
      obtain ⟨rfl, rfl, e39⟩ := h9
      have hPM39 : zP M39 := by rw [e39]; exact zP_tell hP
      have r39 : M39 37 = M 37 := by rw [e39, ztell_row (by decide)]
      change zW _ _ _ _ _ 42 [(0, .inr (.inr 0)), (1, .inl n), (2, .inl what), (3, .inl v), (4, .inl (ztold M n what))] [] M39
      refine z_aload_n 0 (zdec DX9_mend 24 rfl) rfl rfl (by decide) ?_
      refine z_getr (rw1 := -10) (ki := 6) (r' := 37) 0 9 (zdec DX9_mend 25 rfl) rfl rfl shp0 rfl (by decide) rfl rfl fl_SixWalls_58 (zPa hPM39 6 rfl) ?_
      refine z_iload_n 1 (zdec DX9_mend 26 rfl) rfl rfl ?_
      refine z_iload_n 2 (zdec DX9_mend 27 rfl) rfl rfl ?_
      refine z_iload 4 (zdec DX9_mend 28 rfl) rfl ?_
      refine z_iload_n 3 (zdec DX9_mend 29 rfl) rfl rfl ?_
      refine z_inv mX3_record 37 3 [.inl n, .inl what, .inl (ztold M n what), .inl v] (zdec DX9_mend 30 rfl) ml_SixWalls_101 okX3_record rfl shp37 rfl rfl rfl rfl (Nat.le_of_ble_eq_true rfl) (Nat.le_of_ble_eq_true rfl) (b' := (0, 0)) ⟨Nat.le_refl 0, Nat.le_refl 0⟩ (Nat.le_of_ble_eq_true rfl) (cX3_record hPM39 (by rw [r39]; exact hs) n what (ztold M n what) v) (fun rv9 S9 M51 h9 => ?_)
      obtain ⟨rfl, rfl, e51⟩ := h9
      change zW _ _ _ _ _ 54 [(0, .inr (.inr 0)), (1, .inl n), (2, .inl what), (3, .inl v), (4, .inl (ztold M n what))] [] M51
      refine z_iload 4 (zdec DX9_mend 31 rfl) rfl ?_
      exact z_iret (zdec DX9_mend 32 rfl) rfl (⟨rfl, Or.inr ⟨hf, rfl, by rw [if_neg h29, e51, e39]⟩⟩)
  ·
    refine z_iconst (-1) (zdec DX9_mend 7 rfl) (by decide) ?_
    exact z_iret (zdec DX9_mend 8 rfl) rfl (⟨rfl, Or.inl ⟨(hf.resolve_left (fun h => h10 (by omega))).2, rfl, rfl⟩⟩)
