/-! the law: each call on both sides, and the loop -/
/-- the rows outside stay -/
theorem zW_scr {y : zM} {d : Nat} {Q : zPost} {b : Nat × Nat} {S : List zSh} {pc : Nat} {L : List (Nat × zV)} {st : List zV} {M : zMm} (h : zW y d Q b S pc L st M) : zW y d (fun rv S' M' => Q rv S' M' ∧ ∀ r : Int, -5 < r → r < 0 → M' r = M r) b S pc L st M := by
  intro p l e R s m args below meth c D cA ad0 n0 Mn A Z hE hR ad H locs cells slots ls hW hL hs
  exact h p l e R s m args below meth c D cA ad0 n0 Mn A Z hE (fun rv S2 M2 ad2 H2 locs2 cells2 slots2 pc2 ls2 hW2 hv2 hQ2 => hR rv S2 M2 ad2 H2 locs2 cells2 slots2 pc2 ls2 hW2 hv2 ⟨hQ2, fun r a b => (hW2.2.2.1 r a b).trans (hW.2.2.1 r a b).symm⟩) ad H locs cells slots ls hW hL hs
def mL_law : zM := (⟨"SixWallsLaw", "law", "([I)Z"⟩, code, 4, some .boolean)
theorem zcmp_s (r : Int) : zcmp r r = 0 := by unfold zcmp; simp
def zQL : zPost := fun rv _ _ => rv = some (.inl 1)
set_option maxHeartbeats 4000000 in
theorem zL_c0 {M : zMm} (hI : zI M) {i : Int} (h0 : 0 ≤ i) (h6 : i + 6 ≤ M (-2) (-1)) (hm : M (-2) (-1) < 2147483648) (kk : ∀ M2 : zMm, zI M2 → (∀ x : Int, -5 < x → x < 0 → M2 x = M x) → zW mL_law 100 zQL (0, 0) zS0 1333 [(0, .inr (.inr (-2))), (1, .inr (.inr 0)), (2, .inr (.inr 56)), (3, .inl i)] [] M2) : zW mL_law 100 zQL (0, 0) zS0 204 [(0, .inr (.inr (-2))), (1, .inr (.inr 0)), (2, .inr (.inr 56)), (3, .inl i)] [] M := by
  refine z_aload_n 1 (zdec DL_law_0 22 rfl) rfl rfl (by decide) ?_
  refine z_aload_n 0 (zdec DL_law_0 23 rfl) rfl rfl (by decide) ?_
  refine z_iload_n 3 (zdec DL_law_0 24 rfl) rfl rfl ?_
  refine z_iconst 1 (zdec DL_law_0 25 rfl) (by decide) ?_
  refine z_iadd (zdec DL_law_0 26 rfl) (by unfold z32; omega) ?_
  refine z_sald (zdec DL_law_0 27 rfl) (Or.inl rfl) (by exact ⟨by omega, by omega⟩) ?_
  refine z_inv mX9_wall 0 9 [.inl (M (-2) (i + 1))] (zdec DL_law_0 28 rfl) ml_SixWallsLaw_13 okX9_wall rfl shp0 rfl rfl rfl rfl (Nat.le_of_ble_eq_true rfl) (Nat.le_of_ble_eq_true rfl) (b' := (0, 0)) ⟨Nat.le_refl 0, Nat.le_refl 0⟩ (Nat.le_of_ble_eq_true rfl) (zW_scr (zK_wall hI (M (-2) (i + 1)))) (fun rv9 S9 M1 h9 => ?_)
  obtain ⟨⟨rfl, r, rfl, hw⟩, f1⟩ := h9
  have e1 : M1 (-2) = M (-2) := f1 (-2) (by decide) (by decide)
  change zW _ _ _ _ _ 213 [(0, .inr (.inr (-2))), (1, .inr (.inr 0)), (2, .inr (.inr 56)), (3, .inl i)] [.inl (r)] M1
  refine z_aload_n 2 (zdec DL_law_0 29 rfl) rfl rfl (by decide) ?_
  refine z_aload_n 0 (zdec DL_law_0 30 rfl) rfl rfl (by decide) ?_
  refine z_iload_n 3 (zdec DL_law_0 31 rfl) rfl rfl ?_
  refine z_iconst 1 (zdec DL_law_0 32 rfl) (by decide) ?_
  refine z_iadd (zdec DL_law_0 33 rfl) (by unfold z32; omega) ?_
  refine z_sald (zdec DL_law_0 34 rfl) (Or.inl rfl) (by rw [e1]; exact ⟨by omega, by omega⟩) ?_
  rw [e1]
  refine z_inv mX10_wall 56 10 [.inl (M (-2) (i + 1))] (zdec DL_law_0 35 rfl) ml_SixWallsLaw_17 okX10_wall rfl shp56 rfl rfl rfl rfl (Nat.le_of_ble_eq_true rfl) (Nat.le_of_ble_eq_true rfl) (b' := (0, 0)) ⟨Nat.le_refl 0, Nat.le_refl 0⟩ (Nat.le_of_ble_eq_true rfl) (zW_scr hw) (fun rv9 S9 M2 h9 => ?_)
  obtain ⟨⟨rfl, rfl, hI2⟩, f2⟩ := h9
  have fr : ∀ x : Int, -5 < x → x < 0 → M2 x = M x := fun x a b => (f2 x a b).trans (f1 x a b)
  change zW _ _ _ _ _ 222 [(0, .inr (.inr (-2))), (1, .inr (.inr 0)), (2, .inr (.inr 56)), (3, .inl i)] [.inl (r), .inl (r)] M2
  exact z_icmp_eq 1333 (zdec DL_law_0 36 rfl) rfl (fun _ => kk M2 hI2 fr) (fun h => absurd rfl h)
set_option maxHeartbeats 4000000 in
theorem zL_c1 {M : zMm} (hI : zI M) {i : Int} (h0 : 0 ≤ i) (h6 : i + 6 ≤ M (-2) (-1)) (hm : M (-2) (-1) < 2147483648) (kk : ∀ M2 : zMm, zI M2 → (∀ x : Int, -5 < x → x < 0 → M2 x = M x) → zW mL_law 100 zQL (0, 0) zS0 1333 [(0, .inr (.inr (-2))), (1, .inr (.inr 0)), (2, .inr (.inr 56)), (3, .inl i)] [] M2) : zW mL_law 100 zQL (0, 0) zS0 227 [(0, .inr (.inr (-2))), (1, .inr (.inr 0)), (2, .inr (.inr 56)), (3, .inl i)] [] M := by
  refine z_aload_n 1 (zdec DL_law_0 39 rfl) rfl rfl (by decide) ?_
  refine z_aload_n 0 (zdec DL_law_1 0 rfl) rfl rfl (by decide) ?_
  refine z_iload_n 3 (zdec DL_law_1 1 rfl) rfl rfl ?_
  refine z_iconst 1 (zdec DL_law_1 2 rfl) (by decide) ?_
  refine z_iadd (zdec DL_law_1 3 rfl) (by unfold z32; omega) ?_
  refine z_sald (zdec DL_law_1 4 rfl) (Or.inl rfl) (by exact ⟨by omega, by omega⟩) ?_
  refine z_aload_n 0 (zdec DL_law_1 5 rfl) rfl rfl (by decide) ?_
  refine z_iload_n 3 (zdec DL_law_1 6 rfl) rfl rfl ?_
  refine z_iconst 2 (zdec DL_law_1 7 rfl) (by decide) ?_
  refine z_iadd (zdec DL_law_1 8 rfl) (by unfold z32; omega) ?_
  refine z_sald (zdec DL_law_1 9 rfl) (Or.inl rfl) (by exact ⟨by omega, by omega⟩) ?_
  refine z_aload_n 0 (zdec DL_law_1 10 rfl) rfl rfl (by decide) ?_
  refine z_iload_n 3 (zdec DL_law_1 11 rfl) rfl rfl ?_
  refine z_iconst 3 (zdec DL_law_1 12 rfl) (by decide) ?_
  refine z_iadd (zdec DL_law_1 13 rfl) (by unfold z32; omega) ?_
  refine z_sald (zdec DL_law_1 14 rfl) (Or.inl rfl) (by exact ⟨by omega, by omega⟩) ?_
  refine z_inv mX9_mend 0 9 [.inl (M (-2) (i + 1)), .inl (M (-2) (i + 2)), .inl (M (-2) (i + 3))] (zdec DL_law_1 15 rfl) ml_SixWallsLaw_18 okX9_mend rfl shp0 rfl rfl rfl rfl (Nat.le_of_ble_eq_true rfl) (Nat.le_of_ble_eq_true rfl) (b' := (0, 0)) ⟨Nat.le_refl 0, Nat.le_refl 0⟩ (Nat.le_of_ble_eq_true rfl) (zW_scr (zK_mend hI (M (-2) (i + 1)) (M (-2) (i + 2)) (M (-2) (i + 3)))) (fun rv9 S9 M1 h9 => ?_)
  obtain ⟨⟨rfl, r, rfl, hw⟩, f1⟩ := h9
  have e1 : M1 (-2) = M (-2) := f1 (-2) (by decide) (by decide)
  change zW _ _ _ _ _ 246 [(0, .inr (.inr (-2))), (1, .inr (.inr 0)), (2, .inr (.inr 56)), (3, .inl i)] [.inl (r)] M1
  refine z_aload_n 2 (zdec DL_law_1 16 rfl) rfl rfl (by decide) ?_
  refine z_aload_n 0 (zdec DL_law_1 17 rfl) rfl rfl (by decide) ?_
  refine z_iload_n 3 (zdec DL_law_1 18 rfl) rfl rfl ?_
  refine z_iconst 1 (zdec DL_law_1 19 rfl) (by decide) ?_
  refine z_iadd (zdec DL_law_1 20 rfl) (by unfold z32; omega) ?_
  refine z_sald (zdec DL_law_1 21 rfl) (Or.inl rfl) (by rw [e1]; exact ⟨by omega, by omega⟩) ?_
  rw [e1]
  refine z_aload_n 0 (zdec DL_law_1 22 rfl) rfl rfl (by decide) ?_
  refine z_iload_n 3 (zdec DL_law_1 23 rfl) rfl rfl ?_
  refine z_iconst 2 (zdec DL_law_1 24 rfl) (by decide) ?_
  refine z_iadd (zdec DL_law_1 25 rfl) (by unfold z32; omega) ?_
  refine z_sald (zdec DL_law_1 26 rfl) (Or.inl rfl) (by rw [e1]; exact ⟨by omega, by omega⟩) ?_
  rw [e1]
  refine z_aload_n 0 (zdec DL_law_1 27 rfl) rfl rfl (by decide) ?_
  refine z_iload_n 3 (zdec DL_law_1 28 rfl) rfl rfl ?_
  refine z_iconst 3 (zdec DL_law_1 29 rfl) (by decide) ?_
  refine z_iadd (zdec DL_law_1 30 rfl) (by unfold z32; omega) ?_
  refine z_sald (zdec DL_law_1 31 rfl) (Or.inl rfl) (by rw [e1]; exact ⟨by omega, by omega⟩) ?_
  rw [e1]
  refine z_inv mX10_mend 56 10 [.inl (M (-2) (i + 1)), .inl (M (-2) (i + 2)), .inl (M (-2) (i + 3))] (zdec DL_law_1 32 rfl) ml_SixWallsLaw_22 okX10_mend rfl shp56 rfl rfl rfl rfl (Nat.le_of_ble_eq_true rfl) (Nat.le_of_ble_eq_true rfl) (b' := (0, 0)) ⟨Nat.le_refl 0, Nat.le_refl 0⟩ (Nat.le_of_ble_eq_true rfl) (zW_scr hw) (fun rv9 S9 M2 h9 => ?_)
  obtain ⟨⟨rfl, rfl, hI2⟩, f2⟩ := h9
  have fr : ∀ x : Int, -5 < x → x < 0 → M2 x = M x := fun x a b => (f2 x a b).trans (f1 x a b)
  change zW _ _ _ _ _ 265 [(0, .inr (.inr (-2))), (1, .inr (.inr 0)), (2, .inr (.inr 56)), (3, .inl i)] [.inl (r), .inl (r)] M2
  exact z_icmp_eq 1333 (zdec DL_law_1 33 rfl) rfl (fun _ => kk M2 hI2 fr) (fun h => absurd rfl h)
set_option maxHeartbeats 4000000 in
theorem zL_c2 {M : zMm} (hI : zI M) {i : Int} (h0 : 0 ≤ i) (h6 : i + 6 ≤ M (-2) (-1)) (hm : M (-2) (-1) < 2147483648) (kk : ∀ M2 : zMm, zI M2 → (∀ x : Int, -5 < x → x < 0 → M2 x = M x) → zW mL_law 100 zQL (0, 0) zS0 1333 [(0, .inr (.inr (-2))), (1, .inr (.inr 0)), (2, .inr (.inr 56)), (3, .inl i)] [] M2) : zW mL_law 100 zQL (0, 0) zS0 270 [(0, .inr (.inr (-2))), (1, .inr (.inr 0)), (2, .inr (.inr 56)), (3, .inl i)] [] M := by
  refine z_aload_n 1 (zdec DL_law_1 36 rfl) rfl rfl (by decide) ?_
  refine z_aload_n 0 (zdec DL_law_1 37 rfl) rfl rfl (by decide) ?_
  refine z_iload_n 3 (zdec DL_law_1 38 rfl) rfl rfl ?_
  refine z_iconst 1 (zdec DL_law_1 39 rfl) (by decide) ?_
  refine z_iadd (zdec DL_law_2 0 rfl) (by unfold z32; omega) ?_
  refine z_sald (zdec DL_law_2 1 rfl) (Or.inl rfl) (by exact ⟨by omega, by omega⟩) ?_
  refine z_aload_n 0 (zdec DL_law_2 2 rfl) rfl rfl (by decide) ?_
  refine z_iload_n 3 (zdec DL_law_2 3 rfl) rfl rfl ?_
  refine z_iconst 2 (zdec DL_law_2 4 rfl) (by decide) ?_
  refine z_iadd (zdec DL_law_2 5 rfl) (by unfold z32; omega) ?_
  refine z_sald (zdec DL_law_2 6 rfl) (Or.inl rfl) (by exact ⟨by omega, by omega⟩) ?_
  refine z_inv mX9_of 0 9 [.inl (M (-2) (i + 1)), .inl (M (-2) (i + 2))] (zdec DL_law_2 7 rfl) ml_SixWallsLaw_23 okX9_of rfl shp0 rfl rfl rfl rfl (Nat.le_of_ble_eq_true rfl) (Nat.le_of_ble_eq_true rfl) (b' := (0, 0)) ⟨Nat.le_refl 0, Nat.le_refl 0⟩ (Nat.le_of_ble_eq_true rfl) (zW_scr (zK_of hI (M (-2) (i + 1)) (M (-2) (i + 2)))) (fun rv9 S9 M1 h9 => ?_)
  obtain ⟨⟨rfl, r, rfl, hw⟩, f1⟩ := h9
  have e1 : M1 (-2) = M (-2) := f1 (-2) (by decide) (by decide)
  change zW _ _ _ _ _ 284 [(0, .inr (.inr (-2))), (1, .inr (.inr 0)), (2, .inr (.inr 56)), (3, .inl i)] [.inl (r)] M1
  refine z_aload_n 2 (zdec DL_law_2 8 rfl) rfl rfl (by decide) ?_
  refine z_aload_n 0 (zdec DL_law_2 9 rfl) rfl rfl (by decide) ?_
  refine z_iload_n 3 (zdec DL_law_2 10 rfl) rfl rfl ?_
  refine z_iconst 1 (zdec DL_law_2 11 rfl) (by decide) ?_
  refine z_iadd (zdec DL_law_2 12 rfl) (by unfold z32; omega) ?_
  refine z_sald (zdec DL_law_2 13 rfl) (Or.inl rfl) (by rw [e1]; exact ⟨by omega, by omega⟩) ?_
  rw [e1]
  refine z_aload_n 0 (zdec DL_law_2 14 rfl) rfl rfl (by decide) ?_
  refine z_iload_n 3 (zdec DL_law_2 15 rfl) rfl rfl ?_
  refine z_iconst 2 (zdec DL_law_2 16 rfl) (by decide) ?_
  refine z_iadd (zdec DL_law_2 17 rfl) (by unfold z32; omega) ?_
  refine z_sald (zdec DL_law_2 18 rfl) (Or.inl rfl) (by rw [e1]; exact ⟨by omega, by omega⟩) ?_
  rw [e1]
  refine z_inv mX10_of 56 10 [.inl (M (-2) (i + 1)), .inl (M (-2) (i + 2))] (zdec DL_law_2 19 rfl) ml_SixWallsLaw_27 okX10_of rfl shp56 rfl rfl rfl rfl (Nat.le_of_ble_eq_true rfl) (Nat.le_of_ble_eq_true rfl) (b' := (0, 0)) ⟨Nat.le_refl 0, Nat.le_refl 0⟩ (Nat.le_of_ble_eq_true rfl) (zW_scr hw) (fun rv9 S9 M2 h9 => ?_)
  obtain ⟨⟨rfl, rfl, hI2⟩, f2⟩ := h9
  have fr : ∀ x : Int, -5 < x → x < 0 → M2 x = M x := fun x a b => (f2 x a b).trans (f1 x a b)
  change zW _ _ _ _ _ 298 [(0, .inr (.inr (-2))), (1, .inr (.inr 0)), (2, .inr (.inr 56)), (3, .inl i)] [.inl (r), .inl (r)] M2
  exact z_icmp_eq 1333 (zdec DL_law_2 20 rfl) rfl (fun _ => kk M2 hI2 fr) (fun h => absurd rfl h)
set_option maxHeartbeats 4000000 in
theorem zL_c3 {M : zMm} (hI : zI M) {i : Int} (h0 : 0 ≤ i) (h6 : i + 6 ≤ M (-2) (-1)) (hm : M (-2) (-1) < 2147483648) (kk : ∀ M2 : zMm, zI M2 → (∀ x : Int, -5 < x → x < 0 → M2 x = M x) → zW mL_law 100 zQL (0, 0) zS0 1333 [(0, .inr (.inr (-2))), (1, .inr (.inr 0)), (2, .inr (.inr 56)), (3, .inl i)] [] M2) : zW mL_law 100 zQL (0, 0) zS0 303 [(0, .inr (.inr (-2))), (1, .inr (.inr 0)), (2, .inr (.inr 56)), (3, .inl i)] [] M := by
  refine z_aload_n 1 (zdec DL_law_2 23 rfl) rfl rfl (by decide) ?_
  refine z_aload_n 0 (zdec DL_law_2 24 rfl) rfl rfl (by decide) ?_
  refine z_iload_n 3 (zdec DL_law_2 25 rfl) rfl rfl ?_
  refine z_iconst 1 (zdec DL_law_2 26 rfl) (by decide) ?_
  refine z_iadd (zdec DL_law_2 27 rfl) (by unfold z32; omega) ?_
  refine z_sald (zdec DL_law_2 28 rfl) (Or.inl rfl) (by exact ⟨by omega, by omega⟩) ?_
  refine z_aload_n 0 (zdec DL_law_2 29 rfl) rfl rfl (by decide) ?_
  refine z_iload_n 3 (zdec DL_law_2 30 rfl) rfl rfl ?_
  refine z_iconst 2 (zdec DL_law_2 31 rfl) (by decide) ?_
  refine z_iadd (zdec DL_law_2 32 rfl) (by unfold z32; omega) ?_
  refine z_sald (zdec DL_law_2 33 rfl) (Or.inl rfl) (by exact ⟨by omega, by omega⟩) ?_
  refine z_aload_n 0 (zdec DL_law_2 34 rfl) rfl rfl (by decide) ?_
  refine z_iload_n 3 (zdec DL_law_2 35 rfl) rfl rfl ?_
  refine z_iconst 3 (zdec DL_law_2 36 rfl) (by decide) ?_
  refine z_iadd (zdec DL_law_2 37 rfl) (by unfold z32; omega) ?_
  refine z_sald (zdec DL_law_2 38 rfl) (Or.inl rfl) (by exact ⟨by omega, by omega⟩) ?_
  refine z_can fun _ _ hs => ?_
  have h2 : z32 (M (-2) (i + 2)) := hs (.inl (M (-2) (i + 2))) (by simp)
  refine z_inv mX9_fires 0 9 [.inl (M (-2) (i + 1)), .inl (M (-2) (i + 2)), .inl (M (-2) (i + 3))] (zdec DL_law_2 39 rfl) ml_SixWallsLaw_28 okX9_fires rfl shp0 rfl rfl rfl rfl (Nat.le_of_ble_eq_true rfl) (Nat.le_of_ble_eq_true rfl) (b' := (0, 0)) ⟨Nat.le_refl 0, Nat.le_refl 0⟩ (Nat.le_of_ble_eq_true rfl) (zW_scr (zK_fires hI (M (-2) (i + 1)) (M (-2) (i + 2)) (M (-2) (i + 3)) h2)) (fun rv9 S9 M1 h9 => ?_)
  obtain ⟨⟨rfl, r, rfl, hw⟩, f1⟩ := h9
  have e1 : M1 (-2) = M (-2) := f1 (-2) (by decide) (by decide)
  change zW _ _ _ _ _ 322 [(0, .inr (.inr (-2))), (1, .inr (.inr 0)), (2, .inr (.inr 56)), (3, .inl i)] [.inl (r)] M1
  refine z_aload_n 2 (zdec DL_law_3 0 rfl) rfl rfl (by decide) ?_
  refine z_aload_n 0 (zdec DL_law_3 1 rfl) rfl rfl (by decide) ?_
  refine z_iload_n 3 (zdec DL_law_3 2 rfl) rfl rfl ?_
  refine z_iconst 1 (zdec DL_law_3 3 rfl) (by decide) ?_
  refine z_iadd (zdec DL_law_3 4 rfl) (by unfold z32; omega) ?_
  refine z_sald (zdec DL_law_3 5 rfl) (Or.inl rfl) (by rw [e1]; exact ⟨by omega, by omega⟩) ?_
  rw [e1]
  refine z_aload_n 0 (zdec DL_law_3 6 rfl) rfl rfl (by decide) ?_
  refine z_iload_n 3 (zdec DL_law_3 7 rfl) rfl rfl ?_
  refine z_iconst 2 (zdec DL_law_3 8 rfl) (by decide) ?_
  refine z_iadd (zdec DL_law_3 9 rfl) (by unfold z32; omega) ?_
  refine z_sald (zdec DL_law_3 10 rfl) (Or.inl rfl) (by rw [e1]; exact ⟨by omega, by omega⟩) ?_
  rw [e1]
  refine z_aload_n 0 (zdec DL_law_3 11 rfl) rfl rfl (by decide) ?_
  refine z_iload_n 3 (zdec DL_law_3 12 rfl) rfl rfl ?_
  refine z_iconst 3 (zdec DL_law_3 13 rfl) (by decide) ?_
  refine z_iadd (zdec DL_law_3 14 rfl) (by unfold z32; omega) ?_
  refine z_sald (zdec DL_law_3 15 rfl) (Or.inl rfl) (by rw [e1]; exact ⟨by omega, by omega⟩) ?_
  rw [e1]
  refine z_inv mX10_fires 56 10 [.inl (M (-2) (i + 1)), .inl (M (-2) (i + 2)), .inl (M (-2) (i + 3))] (zdec DL_law_3 16 rfl) ml_SixWallsLaw_31 okX10_fires rfl shp56 rfl rfl rfl rfl (Nat.le_of_ble_eq_true rfl) (Nat.le_of_ble_eq_true rfl) (b' := (0, 0)) ⟨Nat.le_refl 0, Nat.le_refl 0⟩ (Nat.le_of_ble_eq_true rfl) (zW_scr hw) (fun rv9 S9 M2 h9 => ?_)
  obtain ⟨⟨rfl, rfl, hI2⟩, f2⟩ := h9
  have fr : ∀ x : Int, -5 < x → x < 0 → M2 x = M x := fun x a b => (f2 x a b).trans (f1 x a b)
  change zW _ _ _ _ _ 341 [(0, .inr (.inr (-2))), (1, .inr (.inr 0)), (2, .inr (.inr 56)), (3, .inl i)] [.inl (r), .inl (r)] M2
  exact z_icmp_eq 1333 (zdec DL_law_3 17 rfl) rfl (fun _ => kk M2 hI2 fr) (fun h => absurd rfl h)
set_option maxHeartbeats 4000000 in
theorem zL_c4 {M : zMm} (hI : zI M) {i : Int} (h0 : 0 ≤ i) (h6 : i + 6 ≤ M (-2) (-1)) (hm : M (-2) (-1) < 2147483648) (kk : ∀ M2 : zMm, zI M2 → (∀ x : Int, -5 < x → x < 0 → M2 x = M x) → zW mL_law 100 zQL (0, 0) zS0 1333 [(0, .inr (.inr (-2))), (1, .inr (.inr 0)), (2, .inr (.inr 56)), (3, .inl i)] [] M2) : zW mL_law 100 zQL (0, 0) zS0 346 [(0, .inr (.inr (-2))), (1, .inr (.inr 0)), (2, .inr (.inr 56)), (3, .inl i)] [] M := by
  refine z_aload_n 1 (zdec DL_law_3 20 rfl) rfl rfl (by decide) ?_
  refine z_aload_n 0 (zdec DL_law_3 21 rfl) rfl rfl (by decide) ?_
  refine z_iload_n 3 (zdec DL_law_3 22 rfl) rfl rfl ?_
  refine z_iconst 1 (zdec DL_law_3 23 rfl) (by decide) ?_
  refine z_iadd (zdec DL_law_3 24 rfl) (by unfold z32; omega) ?_
  refine z_sald (zdec DL_law_3 25 rfl) (Or.inl rfl) (by exact ⟨by omega, by omega⟩) ?_
  refine z_inv mX9_feed 0 9 [.inl (M (-2) (i + 1))] (zdec DL_law_3 26 rfl) ml_SixWallsLaw_32 okX9_feed rfl shp0 rfl rfl rfl rfl (Nat.le_of_ble_eq_true rfl) (Nat.le_of_ble_eq_true rfl) (b' := (0, 0)) ⟨Nat.le_refl 0, Nat.le_refl 0⟩ (Nat.le_of_ble_eq_true rfl) (zW_scr (zK_feed hI (M (-2) (i + 1)))) (fun rv9 S9 M1 h9 => ?_)
  obtain ⟨⟨rfl, r, rfl, hw⟩, f1⟩ := h9
  have e1 : M1 (-2) = M (-2) := f1 (-2) (by decide) (by decide)
  change zW _ _ _ _ _ 355 [(0, .inr (.inr (-2))), (1, .inr (.inr 0)), (2, .inr (.inr 56)), (3, .inl i)] [.inl (r)] M1
  refine z_aload_n 2 (zdec DL_law_3 27 rfl) rfl rfl (by decide) ?_
  refine z_aload_n 0 (zdec DL_law_3 28 rfl) rfl rfl (by decide) ?_
  refine z_iload_n 3 (zdec DL_law_3 29 rfl) rfl rfl ?_
  refine z_iconst 1 (zdec DL_law_3 30 rfl) (by decide) ?_
  refine z_iadd (zdec DL_law_3 31 rfl) (by unfold z32; omega) ?_
  refine z_sald (zdec DL_law_3 32 rfl) (Or.inl rfl) (by rw [e1]; exact ⟨by omega, by omega⟩) ?_
  rw [e1]
  refine z_inv mX10_feed 56 10 [.inl (M (-2) (i + 1))] (zdec DL_law_3 33 rfl) ml_SixWallsLaw_35 okX10_feed rfl shp56 rfl rfl rfl rfl (Nat.le_of_ble_eq_true rfl) (Nat.le_of_ble_eq_true rfl) (b' := (0, 0)) ⟨Nat.le_refl 0, Nat.le_refl 0⟩ (Nat.le_of_ble_eq_true rfl) (zW_scr hw) (fun rv9 S9 M2 h9 => ?_)
  obtain ⟨⟨rfl, rfl, hI2⟩, f2⟩ := h9
  have fr : ∀ x : Int, -5 < x → x < 0 → M2 x = M x := fun x a b => (f2 x a b).trans (f1 x a b)
  change zW _ _ _ _ _ 364 [(0, .inr (.inr (-2))), (1, .inr (.inr 0)), (2, .inr (.inr 56)), (3, .inl i)] [.inl (r), .inl (r)] M2
  exact z_icmp_eq 1333 (zdec DL_law_3 34 rfl) rfl (fun _ => kk M2 hI2 fr) (fun h => absurd rfl h)
set_option maxHeartbeats 4000000 in
theorem zL_c5 {M : zMm} (hI : zI M) {i : Int} (h0 : 0 ≤ i) (h6 : i + 6 ≤ M (-2) (-1)) (hm : M (-2) (-1) < 2147483648) (kk : ∀ M2 : zMm, zI M2 → (∀ x : Int, -5 < x → x < 0 → M2 x = M x) → zW mL_law 100 zQL (0, 0) zS0 1333 [(0, .inr (.inr (-2))), (1, .inr (.inr 0)), (2, .inr (.inr 56)), (3, .inl i)] [] M2) : zW mL_law 100 zQL (0, 0) zS0 369 [(0, .inr (.inr (-2))), (1, .inr (.inr 0)), (2, .inr (.inr 56)), (3, .inl i)] [] M := by
  refine z_aload_n 1 (zdec DL_law_3 37 rfl) rfl rfl (by decide) ?_
  refine z_inv mX9_law 0 9 [] (zdec DL_law_3 38 rfl) ml_SixWallsLaw_36 okX9_law rfl shp0 rfl rfl rfl rfl (Nat.le_of_ble_eq_true rfl) (Nat.le_of_ble_eq_true rfl) (b' := (0, 0)) ⟨Nat.le_refl 0, Nat.le_refl 0⟩ (Nat.le_of_ble_eq_true rfl) (zW_scr (zK_law hI)) (fun rv9 S9 M1 h9 => ?_)
  obtain ⟨⟨rfl, r, rfl, hw⟩, f1⟩ := h9
  have e1 : M1 (-2) = M (-2) := f1 (-2) (by decide) (by decide)
  change zW _ _ _ _ _ 373 [(0, .inr (.inr (-2))), (1, .inr (.inr 0)), (2, .inr (.inr 56)), (3, .inl i)] [.inl (r)] M1
  refine z_aload_n 2 (zdec DL_law_3 39 rfl) rfl rfl (by decide) ?_
  refine z_inv mX10_law 56 10 [] (zdec DL_law_4 0 rfl) ml_SixWallsLaw_40 okX10_law rfl shp56 rfl rfl rfl rfl (Nat.le_of_ble_eq_true rfl) (Nat.le_of_ble_eq_true rfl) (b' := (0, 0)) ⟨Nat.le_refl 0, Nat.le_refl 0⟩ (Nat.le_of_ble_eq_true rfl) (zW_scr hw) (fun rv9 S9 M2 h9 => ?_)
  obtain ⟨⟨rfl, rfl, hI2⟩, f2⟩ := h9
  have fr : ∀ x : Int, -5 < x → x < 0 → M2 x = M x := fun x a b => (f2 x a b).trans (f1 x a b)
  change zW _ _ _ _ _ 377 [(0, .inr (.inr (-2))), (1, .inr (.inr 0)), (2, .inr (.inr 56)), (3, .inl i)] [.inl (r), .inl (r)] M2
  exact z_icmp_eq 1333 (zdec DL_law_4 1 rfl) rfl (fun _ => kk M2 hI2 fr) (fun h => absurd rfl h)
set_option maxHeartbeats 4000000 in
theorem zL_c6 {M : zMm} (hI : zI M) {i : Int} (h0 : 0 ≤ i) (h6 : i + 6 ≤ M (-2) (-1)) (hm : M (-2) (-1) < 2147483648) (kk : ∀ M2 : zMm, zI M2 → (∀ x : Int, -5 < x → x < 0 → M2 x = M x) → zW mL_law 100 zQL (0, 0) zS0 1333 [(0, .inr (.inr (-2))), (1, .inr (.inr 0)), (2, .inr (.inr 56)), (3, .inl i)] [] M2) : zW mL_law 100 zQL (0, 0) zS0 382 [(0, .inr (.inr (-2))), (1, .inr (.inr 0)), (2, .inr (.inr 56)), (3, .inl i)] [] M := by
  refine z_aload_n 1 (zdec DL_law_4 4 rfl) rfl rfl (by decide) ?_
  refine z_aload_n 0 (zdec DL_law_4 5 rfl) rfl rfl (by decide) ?_
  refine z_iload_n 3 (zdec DL_law_4 6 rfl) rfl rfl ?_
  refine z_iconst 1 (zdec DL_law_4 7 rfl) (by decide) ?_
  refine z_iadd (zdec DL_law_4 8 rfl) (by unfold z32; omega) ?_
  refine z_sald (zdec DL_law_4 9 rfl) (Or.inl rfl) (by exact ⟨by omega, by omega⟩) ?_
  refine z_aload_n 0 (zdec DL_law_4 10 rfl) rfl rfl (by decide) ?_
  refine z_iload_n 3 (zdec DL_law_4 11 rfl) rfl rfl ?_
  refine z_iconst 2 (zdec DL_law_4 12 rfl) (by decide) ?_
  refine z_iadd (zdec DL_law_4 13 rfl) (by unfold z32; omega) ?_
  refine z_sald (zdec DL_law_4 14 rfl) (Or.inl rfl) (by exact ⟨by omega, by omega⟩) ?_
  refine z_inv mX9_warmth 0 9 [.inl (M (-2) (i + 1)), .inl (M (-2) (i + 2))] (zdec DL_law_4 15 rfl) ml_SixWallsLaw_41 okX9_warmth rfl shp0 rfl rfl rfl rfl (Nat.le_of_ble_eq_true rfl) (Nat.le_of_ble_eq_true rfl) (b' := (0, 0)) ⟨Nat.le_refl 0, Nat.le_refl 0⟩ (Nat.le_of_ble_eq_true rfl) (zW_scr (zK_warmth hI (M (-2) (i + 1)) (M (-2) (i + 2)))) (fun rv9 S9 M1 h9 => ?_)
  obtain ⟨⟨rfl, r, rfl, hw⟩, f1⟩ := h9
  have e1 : M1 (-2) = M (-2) := f1 (-2) (by decide) (by decide)
  change zW _ _ _ _ _ 396 [(0, .inr (.inr (-2))), (1, .inr (.inr 0)), (2, .inr (.inr 56)), (3, .inl i)] [.inl (r)] M1
  refine z_aload_n 2 (zdec DL_law_4 16 rfl) rfl rfl (by decide) ?_
  refine z_aload_n 0 (zdec DL_law_4 17 rfl) rfl rfl (by decide) ?_
  refine z_iload_n 3 (zdec DL_law_4 18 rfl) rfl rfl ?_
  refine z_iconst 1 (zdec DL_law_4 19 rfl) (by decide) ?_
  refine z_iadd (zdec DL_law_4 20 rfl) (by unfold z32; omega) ?_
  refine z_sald (zdec DL_law_4 21 rfl) (Or.inl rfl) (by rw [e1]; exact ⟨by omega, by omega⟩) ?_
  rw [e1]
  refine z_aload_n 0 (zdec DL_law_4 22 rfl) rfl rfl (by decide) ?_
  refine z_iload_n 3 (zdec DL_law_4 23 rfl) rfl rfl ?_
  refine z_iconst 2 (zdec DL_law_4 24 rfl) (by decide) ?_
  refine z_iadd (zdec DL_law_4 25 rfl) (by unfold z32; omega) ?_
  refine z_sald (zdec DL_law_4 26 rfl) (Or.inl rfl) (by rw [e1]; exact ⟨by omega, by omega⟩) ?_
  rw [e1]
  refine z_inv mX10_warmth 56 10 [.inl (M (-2) (i + 1)), .inl (M (-2) (i + 2))] (zdec DL_law_4 27 rfl) ml_SixWallsLaw_44 okX10_warmth rfl shp56 rfl rfl rfl rfl (Nat.le_of_ble_eq_true rfl) (Nat.le_of_ble_eq_true rfl) (b' := (0, 0)) ⟨Nat.le_refl 0, Nat.le_refl 0⟩ (Nat.le_of_ble_eq_true rfl) (zW_scr hw) (fun rv9 S9 M2 h9 => ?_)
  obtain ⟨⟨rfl, rfl, hI2⟩, f2⟩ := h9
  have fr : ∀ x : Int, -5 < x → x < 0 → M2 x = M x := fun x a b => (f2 x a b).trans (f1 x a b)
  change zW _ _ _ _ _ 410 [(0, .inr (.inr (-2))), (1, .inr (.inr 0)), (2, .inr (.inr 56)), (3, .inl i)] [.inl (r), .inl (r)] M2
  exact z_icmp_eq 1333 (zdec DL_law_4 28 rfl) rfl (fun _ => kk M2 hI2 fr) (fun h => absurd rfl h)
set_option maxHeartbeats 4000000 in
theorem zL_c7 {M : zMm} (hI : zI M) {i : Int} (h0 : 0 ≤ i) (h6 : i + 6 ≤ M (-2) (-1)) (hm : M (-2) (-1) < 2147483648) (kk : ∀ M2 : zMm, zI M2 → (∀ x : Int, -5 < x → x < 0 → M2 x = M x) → zW mL_law 100 zQL (0, 0) zS0 1333 [(0, .inr (.inr (-2))), (1, .inr (.inr 0)), (2, .inr (.inr 56)), (3, .inl i)] [] M2) : zW mL_law 100 zQL (0, 0) zS0 415 [(0, .inr (.inr (-2))), (1, .inr (.inr 0)), (2, .inr (.inr 56)), (3, .inl i)] [] M := by
  refine z_aload_n 1 (zdec DL_law_4 31 rfl) rfl rfl (by decide) ?_
  refine z_aload_n 0 (zdec DL_law_4 32 rfl) rfl rfl (by decide) ?_
  refine z_iload_n 3 (zdec DL_law_4 33 rfl) rfl rfl ?_
  refine z_iconst 1 (zdec DL_law_4 34 rfl) (by decide) ?_
  refine z_iadd (zdec DL_law_4 35 rfl) (by unfold z32; omega) ?_
  refine z_sald (zdec DL_law_4 36 rfl) (Or.inl rfl) (by exact ⟨by omega, by omega⟩) ?_
  refine z_aload_n 0 (zdec DL_law_4 37 rfl) rfl rfl (by decide) ?_
  refine z_iload_n 3 (zdec DL_law_4 38 rfl) rfl rfl ?_
  refine z_iconst 2 (zdec DL_law_4 39 rfl) (by decide) ?_
  refine z_iadd (zdec DL_law_5 0 rfl) (by unfold z32; omega) ?_
  refine z_sald (zdec DL_law_5 1 rfl) (Or.inl rfl) (by exact ⟨by omega, by omega⟩) ?_
  refine z_inv mX9_cold 0 9 [.inl (M (-2) (i + 1)), .inl (M (-2) (i + 2))] (zdec DL_law_5 2 rfl) ml_SixWallsLaw_45 okX9_cold rfl shp0 rfl rfl rfl rfl (Nat.le_of_ble_eq_true rfl) (Nat.le_of_ble_eq_true rfl) (b' := (0, 0)) ⟨Nat.le_refl 0, Nat.le_refl 0⟩ (Nat.le_of_ble_eq_true rfl) (zW_scr (zK_cold hI (M (-2) (i + 1)) (M (-2) (i + 2)))) (fun rv9 S9 M1 h9 => ?_)
  obtain ⟨⟨rfl, r, rfl, hw⟩, f1⟩ := h9
  have e1 : M1 (-2) = M (-2) := f1 (-2) (by decide) (by decide)
  change zW _ _ _ _ _ 429 [(0, .inr (.inr (-2))), (1, .inr (.inr 0)), (2, .inr (.inr 56)), (3, .inl i)] [.inl (r)] M1
  refine z_aload_n 2 (zdec DL_law_5 3 rfl) rfl rfl (by decide) ?_
  refine z_aload_n 0 (zdec DL_law_5 4 rfl) rfl rfl (by decide) ?_
  refine z_iload_n 3 (zdec DL_law_5 5 rfl) rfl rfl ?_
  refine z_iconst 1 (zdec DL_law_5 6 rfl) (by decide) ?_
  refine z_iadd (zdec DL_law_5 7 rfl) (by unfold z32; omega) ?_
  refine z_sald (zdec DL_law_5 8 rfl) (Or.inl rfl) (by rw [e1]; exact ⟨by omega, by omega⟩) ?_
  rw [e1]
  refine z_aload_n 0 (zdec DL_law_5 9 rfl) rfl rfl (by decide) ?_
  refine z_iload_n 3 (zdec DL_law_5 10 rfl) rfl rfl ?_
  refine z_iconst 2 (zdec DL_law_5 11 rfl) (by decide) ?_
  refine z_iadd (zdec DL_law_5 12 rfl) (by unfold z32; omega) ?_
  refine z_sald (zdec DL_law_5 13 rfl) (Or.inl rfl) (by rw [e1]; exact ⟨by omega, by omega⟩) ?_
  rw [e1]
  refine z_inv mX10_cold 56 10 [.inl (M (-2) (i + 1)), .inl (M (-2) (i + 2))] (zdec DL_law_5 14 rfl) ml_SixWallsLaw_48 okX10_cold rfl shp56 rfl rfl rfl rfl (Nat.le_of_ble_eq_true rfl) (Nat.le_of_ble_eq_true rfl) (b' := (0, 0)) ⟨Nat.le_refl 0, Nat.le_refl 0⟩ (Nat.le_of_ble_eq_true rfl) (zW_scr hw) (fun rv9 S9 M2 h9 => ?_)
  obtain ⟨⟨rfl, rfl, hI2⟩, f2⟩ := h9
  have fr : ∀ x : Int, -5 < x → x < 0 → M2 x = M x := fun x a b => (f2 x a b).trans (f1 x a b)
  change zW _ _ _ _ _ 443 [(0, .inr (.inr (-2))), (1, .inr (.inr 0)), (2, .inr (.inr 56)), (3, .inl i)] [.inl (r), .inl (r)] M2
  exact z_icmp_eq 1333 (zdec DL_law_5 15 rfl) rfl (fun _ => kk M2 hI2 fr) (fun h => absurd rfl h)
set_option maxHeartbeats 4000000 in
theorem zL_c8 {M : zMm} (hI : zI M) {i : Int} (h0 : 0 ≤ i) (h6 : i + 6 ≤ M (-2) (-1)) (hm : M (-2) (-1) < 2147483648) (kk : ∀ M2 : zMm, zI M2 → (∀ x : Int, -5 < x → x < 0 → M2 x = M x) → zW mL_law 100 zQL (0, 0) zS0 1333 [(0, .inr (.inr (-2))), (1, .inr (.inr 0)), (2, .inr (.inr 56)), (3, .inl i)] [] M2) : zW mL_law 100 zQL (0, 0) zS0 448 [(0, .inr (.inr (-2))), (1, .inr (.inr 0)), (2, .inr (.inr 56)), (3, .inl i)] [] M := by
  refine z_aload_n 1 (zdec DL_law_5 18 rfl) rfl rfl (by decide) ?_
  refine z_inv mX9_still 0 9 [] (zdec DL_law_5 19 rfl) ml_SixWallsLaw_49 okX9_still rfl shp0 rfl rfl rfl rfl (Nat.le_of_ble_eq_true rfl) (Nat.le_of_ble_eq_true rfl) (b' := (0, 0)) ⟨Nat.le_refl 0, Nat.le_refl 0⟩ (Nat.le_of_ble_eq_true rfl) (zW_scr (zK_still hI)) (fun rv9 S9 M1 h9 => ?_)
  obtain ⟨⟨rfl, r, rfl, hw⟩, f1⟩ := h9
  have e1 : M1 (-2) = M (-2) := f1 (-2) (by decide) (by decide)
  change zW _ _ _ _ _ 452 [(0, .inr (.inr (-2))), (1, .inr (.inr 0)), (2, .inr (.inr 56)), (3, .inl i)] [.inl (r)] M1
  refine z_aload_n 2 (zdec DL_law_5 20 rfl) rfl rfl (by decide) ?_
  refine z_inv mX10_still 56 10 [] (zdec DL_law_5 21 rfl) ml_SixWallsLaw_52 okX10_still rfl shp56 rfl rfl rfl rfl (Nat.le_of_ble_eq_true rfl) (Nat.le_of_ble_eq_true rfl) (b' := (0, 0)) ⟨Nat.le_refl 0, Nat.le_refl 0⟩ (Nat.le_of_ble_eq_true rfl) (zW_scr hw) (fun rv9 S9 M2 h9 => ?_)
  obtain ⟨⟨rfl, rfl, hI2⟩, f2⟩ := h9
  have fr : ∀ x : Int, -5 < x → x < 0 → M2 x = M x := fun x a b => (f2 x a b).trans (f1 x a b)
  change zW _ _ _ _ _ 456 [(0, .inr (.inr (-2))), (1, .inr (.inr 0)), (2, .inr (.inr 56)), (3, .inl i)] [.inl (r), .inl (r)] M2
  exact z_icmp_eq 1333 (zdec DL_law_5 22 rfl) rfl (fun _ => kk M2 hI2 fr) (fun h => absurd rfl h)
set_option maxHeartbeats 4000000 in
theorem zL_c9 {M : zMm} (hI : zI M) {i : Int} (h0 : 0 ≤ i) (h6 : i + 6 ≤ M (-2) (-1)) (hm : M (-2) (-1) < 2147483648) (kk : ∀ M2 : zMm, zI M2 → (∀ x : Int, -5 < x → x < 0 → M2 x = M x) → zW mL_law 100 zQL (0, 0) zS0 1333 [(0, .inr (.inr (-2))), (1, .inr (.inr 0)), (2, .inr (.inr 56)), (3, .inl i)] [] M2) : zW mL_law 100 zQL (0, 0) zS0 461 [(0, .inr (.inr (-2))), (1, .inr (.inr 0)), (2, .inr (.inr 56)), (3, .inl i)] [] M := by
  refine z_aload_n 1 (zdec DL_law_5 25 rfl) rfl rfl (by decide) ?_
  refine z_aload_n 0 (zdec DL_law_5 26 rfl) rfl rfl (by decide) ?_
  refine z_iload_n 3 (zdec DL_law_5 27 rfl) rfl rfl ?_
  refine z_iconst 1 (zdec DL_law_5 28 rfl) (by decide) ?_
  refine z_iadd (zdec DL_law_5 29 rfl) (by unfold z32; omega) ?_
  refine z_sald (zdec DL_law_5 30 rfl) (Or.inl rfl) (by exact ⟨by omega, by omega⟩) ?_
  refine z_aload_n 0 (zdec DL_law_5 31 rfl) rfl rfl (by decide) ?_
  refine z_iload_n 3 (zdec DL_law_5 32 rfl) rfl rfl ?_
  refine z_iconst 2 (zdec DL_law_5 33 rfl) (by decide) ?_
  refine z_iadd (zdec DL_law_5 34 rfl) (by unfold z32; omega) ?_
  refine z_sald (zdec DL_law_5 35 rfl) (Or.inl rfl) (by exact ⟨by omega, by omega⟩) ?_
  refine z_inv mX9_gave 0 9 [.inl (M (-2) (i + 1)), .inl (M (-2) (i + 2))] (zdec DL_law_5 36 rfl) ml_SixWallsLaw_53 okX9_gave rfl shp0 rfl rfl rfl rfl (Nat.le_of_ble_eq_true rfl) (Nat.le_of_ble_eq_true rfl) (b' := (0, 0)) ⟨Nat.le_refl 0, Nat.le_refl 0⟩ (Nat.le_of_ble_eq_true rfl) (zW_scr (zK_gave hI (M (-2) (i + 1)) (M (-2) (i + 2)))) (fun rv9 S9 M1 h9 => ?_)
  obtain ⟨⟨rfl, r, rfl, hw⟩, f1⟩ := h9
  have e1 : M1 (-2) = M (-2) := f1 (-2) (by decide) (by decide)
  change zW _ _ _ _ _ 475 [(0, .inr (.inr (-2))), (1, .inr (.inr 0)), (2, .inr (.inr 56)), (3, .inl i)] [.inl (r)] M1
  refine z_aload_n 2 (zdec DL_law_5 37 rfl) rfl rfl (by decide) ?_
  refine z_aload_n 0 (zdec DL_law_5 38 rfl) rfl rfl (by decide) ?_
  refine z_iload_n 3 (zdec DL_law_5 39 rfl) rfl rfl ?_
  refine z_iconst 1 (zdec DL_law_6 0 rfl) (by decide) ?_
  refine z_iadd (zdec DL_law_6 1 rfl) (by unfold z32; omega) ?_
  refine z_sald (zdec DL_law_6 2 rfl) (Or.inl rfl) (by rw [e1]; exact ⟨by omega, by omega⟩) ?_
  rw [e1]
  refine z_aload_n 0 (zdec DL_law_6 3 rfl) rfl rfl (by decide) ?_
  refine z_iload_n 3 (zdec DL_law_6 4 rfl) rfl rfl ?_
  refine z_iconst 2 (zdec DL_law_6 5 rfl) (by decide) ?_
  refine z_iadd (zdec DL_law_6 6 rfl) (by unfold z32; omega) ?_
  refine z_sald (zdec DL_law_6 7 rfl) (Or.inl rfl) (by rw [e1]; exact ⟨by omega, by omega⟩) ?_
  rw [e1]
  refine z_inv mX10_gave 56 10 [.inl (M (-2) (i + 1)), .inl (M (-2) (i + 2))] (zdec DL_law_6 8 rfl) ml_SixWallsLaw_56 okX10_gave rfl shp56 rfl rfl rfl rfl (Nat.le_of_ble_eq_true rfl) (Nat.le_of_ble_eq_true rfl) (b' := (0, 0)) ⟨Nat.le_refl 0, Nat.le_refl 0⟩ (Nat.le_of_ble_eq_true rfl) (zW_scr hw) (fun rv9 S9 M2 h9 => ?_)
  obtain ⟨⟨rfl, rfl, hI2⟩, f2⟩ := h9
  have fr : ∀ x : Int, -5 < x → x < 0 → M2 x = M x := fun x a b => (f2 x a b).trans (f1 x a b)
  change zW _ _ _ _ _ 489 [(0, .inr (.inr (-2))), (1, .inr (.inr 0)), (2, .inr (.inr 56)), (3, .inl i)] [.inl (r), .inl (r)] M2
  exact z_icmp_eq 1333 (zdec DL_law_6 9 rfl) rfl (fun _ => kk M2 hI2 fr) (fun h => absurd rfl h)
set_option maxHeartbeats 4000000 in
theorem zL_c10 {M : zMm} (hI : zI M) {i : Int} (h0 : 0 ≤ i) (h6 : i + 6 ≤ M (-2) (-1)) (hm : M (-2) (-1) < 2147483648) (kk : ∀ M2 : zMm, zI M2 → (∀ x : Int, -5 < x → x < 0 → M2 x = M x) → zW mL_law 100 zQL (0, 0) zS0 1333 [(0, .inr (.inr (-2))), (1, .inr (.inr 0)), (2, .inr (.inr 56)), (3, .inl i)] [] M2) : zW mL_law 100 zQL (0, 0) zS0 494 [(0, .inr (.inr (-2))), (1, .inr (.inr 0)), (2, .inr (.inr 56)), (3, .inl i)] [] M := by
  refine z_aload_n 1 (zdec DL_law_6 12 rfl) rfl rfl (by decide) ?_
  refine z_aload_n 0 (zdec DL_law_6 13 rfl) rfl rfl (by decide) ?_
  refine z_iload_n 3 (zdec DL_law_6 14 rfl) rfl rfl ?_
  refine z_iconst 1 (zdec DL_law_6 15 rfl) (by decide) ?_
  refine z_iadd (zdec DL_law_6 16 rfl) (by unfold z32; omega) ?_
  refine z_sald (zdec DL_law_6 17 rfl) (Or.inl rfl) (by exact ⟨by omega, by omega⟩) ?_
  refine z_aload_n 0 (zdec DL_law_6 18 rfl) rfl rfl (by decide) ?_
  refine z_iload_n 3 (zdec DL_law_6 19 rfl) rfl rfl ?_
  refine z_iconst 2 (zdec DL_law_6 20 rfl) (by decide) ?_
  refine z_iadd (zdec DL_law_6 21 rfl) (by unfold z32; omega) ?_
  refine z_sald (zdec DL_law_6 22 rfl) (Or.inl rfl) (by exact ⟨by omega, by omega⟩) ?_
  refine z_inv mX9_leastFire 0 9 [.inl (M (-2) (i + 1)), .inl (M (-2) (i + 2))] (zdec DL_law_6 23 rfl) ml_SixWallsLaw_57 okX9_leastFire rfl shp0 rfl rfl rfl rfl (Nat.le_of_ble_eq_true rfl) (Nat.le_of_ble_eq_true rfl) (b' := (0, 0)) ⟨Nat.le_refl 0, Nat.le_refl 0⟩ (Nat.le_of_ble_eq_true rfl) (zW_scr (zK_leastFire hI (M (-2) (i + 1)) (M (-2) (i + 2)))) (fun rv9 S9 M1 h9 => ?_)
  obtain ⟨⟨rfl, r, rfl, hw⟩, f1⟩ := h9
  have e1 : M1 (-2) = M (-2) := f1 (-2) (by decide) (by decide)
  change zW _ _ _ _ _ 508 [(0, .inr (.inr (-2))), (1, .inr (.inr 0)), (2, .inr (.inr 56)), (3, .inl i)] [.inl (r)] M1
  refine z_aload_n 2 (zdec DL_law_6 24 rfl) rfl rfl (by decide) ?_
  refine z_aload_n 0 (zdec DL_law_6 25 rfl) rfl rfl (by decide) ?_
  refine z_iload_n 3 (zdec DL_law_6 26 rfl) rfl rfl ?_
  refine z_iconst 1 (zdec DL_law_6 27 rfl) (by decide) ?_
  refine z_iadd (zdec DL_law_6 28 rfl) (by unfold z32; omega) ?_
  refine z_sald (zdec DL_law_6 29 rfl) (Or.inl rfl) (by rw [e1]; exact ⟨by omega, by omega⟩) ?_
  rw [e1]
  refine z_aload_n 0 (zdec DL_law_6 30 rfl) rfl rfl (by decide) ?_
  refine z_iload_n 3 (zdec DL_law_6 31 rfl) rfl rfl ?_
  refine z_iconst 2 (zdec DL_law_6 32 rfl) (by decide) ?_
  refine z_iadd (zdec DL_law_6 33 rfl) (by unfold z32; omega) ?_
  refine z_sald (zdec DL_law_6 34 rfl) (Or.inl rfl) (by rw [e1]; exact ⟨by omega, by omega⟩) ?_
  rw [e1]
  refine z_inv mX10_leastFire 56 10 [.inl (M (-2) (i + 1)), .inl (M (-2) (i + 2))] (zdec DL_law_6 35 rfl) ml_SixWallsLaw_60 okX10_leastFire rfl shp56 rfl rfl rfl rfl (Nat.le_of_ble_eq_true rfl) (Nat.le_of_ble_eq_true rfl) (b' := (0, 0)) ⟨Nat.le_refl 0, Nat.le_refl 0⟩ (Nat.le_of_ble_eq_true rfl) (zW_scr hw) (fun rv9 S9 M2 h9 => ?_)
  obtain ⟨⟨rfl, rfl, hI2⟩, f2⟩ := h9
  have fr : ∀ x : Int, -5 < x → x < 0 → M2 x = M x := fun x a b => (f2 x a b).trans (f1 x a b)
  change zW _ _ _ _ _ 522 [(0, .inr (.inr (-2))), (1, .inr (.inr 0)), (2, .inr (.inr 56)), (3, .inl i)] [.inl (r), .inl (r)] M2
  exact z_icmp_eq 1333 (zdec DL_law_6 36 rfl) rfl (fun _ => kk M2 hI2 fr) (fun h => absurd rfl h)
set_option maxHeartbeats 4000000 in
theorem zL_c11 {M : zMm} (hI : zI M) {i : Int} (h0 : 0 ≤ i) (h6 : i + 6 ≤ M (-2) (-1)) (hm : M (-2) (-1) < 2147483648) (kk : ∀ M2 : zMm, zI M2 → (∀ x : Int, -5 < x → x < 0 → M2 x = M x) → zW mL_law 100 zQL (0, 0) zS0 1333 [(0, .inr (.inr (-2))), (1, .inr (.inr 0)), (2, .inr (.inr 56)), (3, .inl i)] [] M2) : zW mL_law 100 zQL (0, 0) zS0 527 [(0, .inr (.inr (-2))), (1, .inr (.inr 0)), (2, .inr (.inr 56)), (3, .inl i)] [] M := by
  refine z_aload_n 1 (zdec DL_law_6 39 rfl) rfl rfl (by decide) ?_
  refine z_aload_n 0 (zdec DL_law_7 0 rfl) rfl rfl (by decide) ?_
  refine z_iload_n 3 (zdec DL_law_7 1 rfl) rfl rfl ?_
  refine z_iconst 1 (zdec DL_law_7 2 rfl) (by decide) ?_
  refine z_iadd (zdec DL_law_7 3 rfl) (by unfold z32; omega) ?_
  refine z_sald (zdec DL_law_7 4 rfl) (Or.inl rfl) (by exact ⟨by omega, by omega⟩) ?_
  refine z_inv mX9_days 0 9 [.inl (M (-2) (i + 1))] (zdec DL_law_7 5 rfl) ml_SixWallsLaw_61 okX9_days rfl shp0 rfl rfl rfl rfl (Nat.le_of_ble_eq_true rfl) (Nat.le_of_ble_eq_true rfl) (b' := (0, 0)) ⟨Nat.le_refl 0, Nat.le_refl 0⟩ (Nat.le_of_ble_eq_true rfl) (zW_scr (zK_days hI (M (-2) (i + 1)))) (fun rv9 S9 M1 h9 => ?_)
  obtain ⟨⟨rfl, r, rfl, hw⟩, f1⟩ := h9
  have e1 : M1 (-2) = M (-2) := f1 (-2) (by decide) (by decide)
  change zW _ _ _ _ _ 536 [(0, .inr (.inr (-2))), (1, .inr (.inr 0)), (2, .inr (.inr 56)), (3, .inl i)] [.inl (r)] M1
  refine z_aload_n 2 (zdec DL_law_7 6 rfl) rfl rfl (by decide) ?_
  refine z_aload_n 0 (zdec DL_law_7 7 rfl) rfl rfl (by decide) ?_
  refine z_iload_n 3 (zdec DL_law_7 8 rfl) rfl rfl ?_
  refine z_iconst 1 (zdec DL_law_7 9 rfl) (by decide) ?_
  refine z_iadd (zdec DL_law_7 10 rfl) (by unfold z32; omega) ?_
  refine z_sald (zdec DL_law_7 11 rfl) (Or.inl rfl) (by rw [e1]; exact ⟨by omega, by omega⟩) ?_
  rw [e1]
  refine z_inv mX10_days 56 10 [.inl (M (-2) (i + 1))] (zdec DL_law_7 12 rfl) ml_SixWallsLaw_64 okX10_days rfl shp56 rfl rfl rfl rfl (Nat.le_of_ble_eq_true rfl) (Nat.le_of_ble_eq_true rfl) (b' := (0, 0)) ⟨Nat.le_refl 0, Nat.le_refl 0⟩ (Nat.le_of_ble_eq_true rfl) (zW_scr hw) (fun rv9 S9 M2 h9 => ?_)
  obtain ⟨⟨rfl, rfl, hI2⟩, f2⟩ := h9
  have fr : ∀ x : Int, -5 < x → x < 0 → M2 x = M x := fun x a b => (f2 x a b).trans (f1 x a b)
  change zW _ _ _ _ _ 545 [(0, .inr (.inr (-2))), (1, .inr (.inr 0)), (2, .inr (.inr 56)), (3, .inl i)] [.inl (r), .inl (r)] M2
  exact z_icmp_eq 1333 (zdec DL_law_7 13 rfl) rfl (fun _ => kk M2 hI2 fr) (fun h => absurd rfl h)
set_option maxHeartbeats 4000000 in
theorem zL_c12 {M : zMm} (hI : zI M) {i : Int} (h0 : 0 ≤ i) (h6 : i + 6 ≤ M (-2) (-1)) (hm : M (-2) (-1) < 2147483648) (kk : ∀ M2 : zMm, zI M2 → (∀ x : Int, -5 < x → x < 0 → M2 x = M x) → zW mL_law 100 zQL (0, 0) zS0 1333 [(0, .inr (.inr (-2))), (1, .inr (.inr 0)), (2, .inr (.inr 56)), (3, .inl i)] [] M2) : zW mL_law 100 zQL (0, 0) zS0 550 [(0, .inr (.inr (-2))), (1, .inr (.inr 0)), (2, .inr (.inr 56)), (3, .inl i)] [] M := by
  refine z_aload_n 1 (zdec DL_law_7 16 rfl) rfl rfl (by decide) ?_
  refine z_aload_n 0 (zdec DL_law_7 17 rfl) rfl rfl (by decide) ?_
  refine z_iload_n 3 (zdec DL_law_7 18 rfl) rfl rfl ?_
  refine z_iconst 1 (zdec DL_law_7 19 rfl) (by decide) ?_
  refine z_iadd (zdec DL_law_7 20 rfl) (by unfold z32; omega) ?_
  refine z_sald (zdec DL_law_7 21 rfl) (Or.inl rfl) (by exact ⟨by omega, by omega⟩) ?_
  refine z_inv mX9_led 0 9 [.inl (M (-2) (i + 1))] (zdec DL_law_7 22 rfl) ml_SixWallsLaw_65 okX9_led rfl shp0 rfl rfl rfl rfl (Nat.le_of_ble_eq_true rfl) (Nat.le_of_ble_eq_true rfl) (b' := (0, 0)) ⟨Nat.le_refl 0, Nat.le_refl 0⟩ (Nat.le_of_ble_eq_true rfl) (zW_scr (zK_led hI (M (-2) (i + 1)))) (fun rv9 S9 M1 h9 => ?_)
  obtain ⟨⟨rfl, r, rfl, hw⟩, f1⟩ := h9
  have e1 : M1 (-2) = M (-2) := f1 (-2) (by decide) (by decide)
  change zW _ _ _ _ _ 559 [(0, .inr (.inr (-2))), (1, .inr (.inr 0)), (2, .inr (.inr 56)), (3, .inl i)] [.inl (r)] M1
  refine z_aload_n 2 (zdec DL_law_7 23 rfl) rfl rfl (by decide) ?_
  refine z_aload_n 0 (zdec DL_law_7 24 rfl) rfl rfl (by decide) ?_
  refine z_iload_n 3 (zdec DL_law_7 25 rfl) rfl rfl ?_
  refine z_iconst 1 (zdec DL_law_7 26 rfl) (by decide) ?_
  refine z_iadd (zdec DL_law_7 27 rfl) (by unfold z32; omega) ?_
  refine z_sald (zdec DL_law_7 28 rfl) (Or.inl rfl) (by rw [e1]; exact ⟨by omega, by omega⟩) ?_
  rw [e1]
  refine z_inv mX10_led 56 10 [.inl (M (-2) (i + 1))] (zdec DL_law_7 29 rfl) ml_SixWallsLaw_68 okX10_led rfl shp56 rfl rfl rfl rfl (Nat.le_of_ble_eq_true rfl) (Nat.le_of_ble_eq_true rfl) (b' := (0, 0)) ⟨Nat.le_refl 0, Nat.le_refl 0⟩ (Nat.le_of_ble_eq_true rfl) (zW_scr hw) (fun rv9 S9 M2 h9 => ?_)
  obtain ⟨⟨rfl, rfl, hI2⟩, f2⟩ := h9
  have fr : ∀ x : Int, -5 < x → x < 0 → M2 x = M x := fun x a b => (f2 x a b).trans (f1 x a b)
  change zW _ _ _ _ _ 568 [(0, .inr (.inr (-2))), (1, .inr (.inr 0)), (2, .inr (.inr 56)), (3, .inl i)] [.inl (r), .inl (r)] M2
  exact z_icmp_eq 1333 (zdec DL_law_7 30 rfl) rfl (fun _ => kk M2 hI2 fr) (fun h => absurd rfl h)
set_option maxHeartbeats 4000000 in
theorem zL_c13 {M : zMm} (hI : zI M) {i : Int} (h0 : 0 ≤ i) (h6 : i + 6 ≤ M (-2) (-1)) (hm : M (-2) (-1) < 2147483648) (kk : ∀ M2 : zMm, zI M2 → (∀ x : Int, -5 < x → x < 0 → M2 x = M x) → zW mL_law 100 zQL (0, 0) zS0 1333 [(0, .inr (.inr (-2))), (1, .inr (.inr 0)), (2, .inr (.inr 56)), (3, .inl i)] [] M2) : zW mL_law 100 zQL (0, 0) zS0 573 [(0, .inr (.inr (-2))), (1, .inr (.inr 0)), (2, .inr (.inr 56)), (3, .inl i)] [] M := by
  refine z_aload_n 1 (zdec DL_law_7 33 rfl) rfl rfl (by decide) ?_
  refine z_aload_n 0 (zdec DL_law_7 34 rfl) rfl rfl (by decide) ?_
  refine z_iload_n 3 (zdec DL_law_7 35 rfl) rfl rfl ?_
  refine z_iconst 1 (zdec DL_law_7 36 rfl) (by decide) ?_
  refine z_iadd (zdec DL_law_7 37 rfl) (by unfold z32; omega) ?_
  refine z_sald (zdec DL_law_7 38 rfl) (Or.inl rfl) (by exact ⟨by omega, by omega⟩) ?_
  refine z_inv mX9_rounds 0 9 [.inl (M (-2) (i + 1))] (zdec DL_law_7 39 rfl) ml_SixWallsLaw_69 okX9_rounds rfl shp0 rfl rfl rfl rfl (Nat.le_of_ble_eq_true rfl) (Nat.le_of_ble_eq_true rfl) (b' := (0, 0)) ⟨Nat.le_refl 0, Nat.le_refl 0⟩ (Nat.le_of_ble_eq_true rfl) (zW_scr (zK_rounds hI (M (-2) (i + 1)))) (fun rv9 S9 M1 h9 => ?_)
  obtain ⟨⟨rfl, r, rfl, hw⟩, f1⟩ := h9
  have e1 : M1 (-2) = M (-2) := f1 (-2) (by decide) (by decide)
  change zW _ _ _ _ _ 582 [(0, .inr (.inr (-2))), (1, .inr (.inr 0)), (2, .inr (.inr 56)), (3, .inl i)] [.inl (r)] M1
  refine z_aload_n 2 (zdec DL_law_8 0 rfl) rfl rfl (by decide) ?_
  refine z_aload_n 0 (zdec DL_law_8 1 rfl) rfl rfl (by decide) ?_
  refine z_iload_n 3 (zdec DL_law_8 2 rfl) rfl rfl ?_
  refine z_iconst 1 (zdec DL_law_8 3 rfl) (by decide) ?_
  refine z_iadd (zdec DL_law_8 4 rfl) (by unfold z32; omega) ?_
  refine z_sald (zdec DL_law_8 5 rfl) (Or.inl rfl) (by rw [e1]; exact ⟨by omega, by omega⟩) ?_
  rw [e1]
  refine z_inv mX10_rounds 56 10 [.inl (M (-2) (i + 1))] (zdec DL_law_8 6 rfl) ml_SixWallsLaw_72 okX10_rounds rfl shp56 rfl rfl rfl rfl (Nat.le_of_ble_eq_true rfl) (Nat.le_of_ble_eq_true rfl) (b' := (0, 0)) ⟨Nat.le_refl 0, Nat.le_refl 0⟩ (Nat.le_of_ble_eq_true rfl) (zW_scr hw) (fun rv9 S9 M2 h9 => ?_)
  obtain ⟨⟨rfl, rfl, hI2⟩, f2⟩ := h9
  have fr : ∀ x : Int, -5 < x → x < 0 → M2 x = M x := fun x a b => (f2 x a b).trans (f1 x a b)
  change zW _ _ _ _ _ 591 [(0, .inr (.inr (-2))), (1, .inr (.inr 0)), (2, .inr (.inr 56)), (3, .inl i)] [.inl (r), .inl (r)] M2
  exact z_icmp_eq 1333 (zdec DL_law_8 7 rfl) rfl (fun _ => kk M2 hI2 fr) (fun h => absurd rfl h)
set_option maxHeartbeats 4000000 in
theorem zL_c14 {M : zMm} (hI : zI M) {i : Int} (h0 : 0 ≤ i) (h6 : i + 6 ≤ M (-2) (-1)) (hm : M (-2) (-1) < 2147483648) (kk : ∀ M2 : zMm, zI M2 → (∀ x : Int, -5 < x → x < 0 → M2 x = M x) → zW mL_law 100 zQL (0, 0) zS0 1333 [(0, .inr (.inr (-2))), (1, .inr (.inr 0)), (2, .inr (.inr 56)), (3, .inl i)] [] M2) : zW mL_law 100 zQL (0, 0) zS0 596 [(0, .inr (.inr (-2))), (1, .inr (.inr 0)), (2, .inr (.inr 56)), (3, .inl i)] [] M := by
  refine z_aload_n 1 (zdec DL_law_8 10 rfl) rfl rfl (by decide) ?_
  refine z_aload_n 0 (zdec DL_law_8 11 rfl) rfl rfl (by decide) ?_
  refine z_iload_n 3 (zdec DL_law_8 12 rfl) rfl rfl ?_
  refine z_iconst 1 (zdec DL_law_8 13 rfl) (by decide) ?_
  refine z_iadd (zdec DL_law_8 14 rfl) (by unfold z32; omega) ?_
  refine z_sald (zdec DL_law_8 15 rfl) (Or.inl rfl) (by exact ⟨by omega, by omega⟩) ?_
  refine z_inv mX9_way 0 9 [.inl (M (-2) (i + 1))] (zdec DL_law_8 16 rfl) ml_SixWallsLaw_73 okX9_way rfl shp0 rfl rfl rfl rfl (Nat.le_of_ble_eq_true rfl) (Nat.le_of_ble_eq_true rfl) (b' := (0, 0)) ⟨Nat.le_refl 0, Nat.le_refl 0⟩ (Nat.le_of_ble_eq_true rfl) (zW_scr (zK_way hI (M (-2) (i + 1)))) (fun rv9 S9 M1 h9 => ?_)
  obtain ⟨⟨rfl, r, rfl, hw⟩, f1⟩ := h9
  have e1 : M1 (-2) = M (-2) := f1 (-2) (by decide) (by decide)
  change zW _ _ _ _ _ 605 [(0, .inr (.inr (-2))), (1, .inr (.inr 0)), (2, .inr (.inr 56)), (3, .inl i)] [.inl (r)] M1
  refine z_aload_n 2 (zdec DL_law_8 17 rfl) rfl rfl (by decide) ?_
  refine z_aload_n 0 (zdec DL_law_8 18 rfl) rfl rfl (by decide) ?_
  refine z_iload_n 3 (zdec DL_law_8 19 rfl) rfl rfl ?_
  refine z_iconst 1 (zdec DL_law_8 20 rfl) (by decide) ?_
  refine z_iadd (zdec DL_law_8 21 rfl) (by unfold z32; omega) ?_
  refine z_sald (zdec DL_law_8 22 rfl) (Or.inl rfl) (by rw [e1]; exact ⟨by omega, by omega⟩) ?_
  rw [e1]
  refine z_inv mX10_way 56 10 [.inl (M (-2) (i + 1))] (zdec DL_law_8 23 rfl) ml_SixWallsLaw_76 okX10_way rfl shp56 rfl rfl rfl rfl (Nat.le_of_ble_eq_true rfl) (Nat.le_of_ble_eq_true rfl) (b' := (0, 0)) ⟨Nat.le_refl 0, Nat.le_refl 0⟩ (Nat.le_of_ble_eq_true rfl) (zW_scr hw) (fun rv9 S9 M2 h9 => ?_)
  obtain ⟨⟨rfl, rfl, hI2⟩, f2⟩ := h9
  have fr : ∀ x : Int, -5 < x → x < 0 → M2 x = M x := fun x a b => (f2 x a b).trans (f1 x a b)
  change zW _ _ _ _ _ 614 [(0, .inr (.inr (-2))), (1, .inr (.inr 0)), (2, .inr (.inr 56)), (3, .inl i)] [.inl (r), .inl (r)] M2
  exact z_icmp_eq 1333 (zdec DL_law_8 24 rfl) rfl (fun _ => kk M2 hI2 fr) (fun h => absurd rfl h)
set_option maxHeartbeats 4000000 in
theorem zL_c15 {M : zMm} (hI : zI M) {i : Int} (h0 : 0 ≤ i) (h6 : i + 6 ≤ M (-2) (-1)) (hm : M (-2) (-1) < 2147483648) (kk : ∀ M2 : zMm, zI M2 → (∀ x : Int, -5 < x → x < 0 → M2 x = M x) → zW mL_law 100 zQL (0, 0) zS0 1333 [(0, .inr (.inr (-2))), (1, .inr (.inr 0)), (2, .inr (.inr 56)), (3, .inl i)] [] M2) : zW mL_law 100 zQL (0, 0) zS0 619 [(0, .inr (.inr (-2))), (1, .inr (.inr 0)), (2, .inr (.inr 56)), (3, .inl i)] [] M := by
  refine z_aload_n 1 (zdec DL_law_8 27 rfl) rfl rfl (by decide) ?_
  refine z_aload_n 0 (zdec DL_law_8 28 rfl) rfl rfl (by decide) ?_
  refine z_iload_n 3 (zdec DL_law_8 29 rfl) rfl rfl ?_
  refine z_iconst 1 (zdec DL_law_8 30 rfl) (by decide) ?_
  refine z_iadd (zdec DL_law_8 31 rfl) (by unfold z32; omega) ?_
  refine z_sald (zdec DL_law_8 32 rfl) (Or.inl rfl) (by exact ⟨by omega, by omega⟩) ?_
  refine z_inv mX9_doors 0 9 [.inl (M (-2) (i + 1))] (zdec DL_law_8 33 rfl) ml_SixWallsLaw_77 okX9_doors rfl shp0 rfl rfl rfl rfl (Nat.le_of_ble_eq_true rfl) (Nat.le_of_ble_eq_true rfl) (b' := (0, 0)) ⟨Nat.le_refl 0, Nat.le_refl 0⟩ (Nat.le_of_ble_eq_true rfl) (zW_scr (zK_doors hI (M (-2) (i + 1)))) (fun rv9 S9 M1 h9 => ?_)
  obtain ⟨⟨rfl, r, rfl, hw⟩, f1⟩ := h9
  have e1 : M1 (-2) = M (-2) := f1 (-2) (by decide) (by decide)
  change zW _ _ _ _ _ 628 [(0, .inr (.inr (-2))), (1, .inr (.inr 0)), (2, .inr (.inr 56)), (3, .inl i)] [.inl (r)] M1
  refine z_aload_n 2 (zdec DL_law_8 34 rfl) rfl rfl (by decide) ?_
  refine z_aload_n 0 (zdec DL_law_8 35 rfl) rfl rfl (by decide) ?_
  refine z_iload_n 3 (zdec DL_law_8 36 rfl) rfl rfl ?_
  refine z_iconst 1 (zdec DL_law_8 37 rfl) (by decide) ?_
  refine z_iadd (zdec DL_law_8 38 rfl) (by unfold z32; omega) ?_
  refine z_sald (zdec DL_law_8 39 rfl) (Or.inl rfl) (by rw [e1]; exact ⟨by omega, by omega⟩) ?_
  rw [e1]
  refine z_inv mX10_doors 56 10 [.inl (M (-2) (i + 1))] (zdec DL_law_9 0 rfl) ml_SixWallsLaw_80 okX10_doors rfl shp56 rfl rfl rfl rfl (Nat.le_of_ble_eq_true rfl) (Nat.le_of_ble_eq_true rfl) (b' := (0, 0)) ⟨Nat.le_refl 0, Nat.le_refl 0⟩ (Nat.le_of_ble_eq_true rfl) (zW_scr hw) (fun rv9 S9 M2 h9 => ?_)
  obtain ⟨⟨rfl, rfl, hI2⟩, f2⟩ := h9
  have fr : ∀ x : Int, -5 < x → x < 0 → M2 x = M x := fun x a b => (f2 x a b).trans (f1 x a b)
  change zW _ _ _ _ _ 637 [(0, .inr (.inr (-2))), (1, .inr (.inr 0)), (2, .inr (.inr 56)), (3, .inl i)] [.inl (r), .inl (r)] M2
  exact z_icmp_eq 1333 (zdec DL_law_9 1 rfl) rfl (fun _ => kk M2 hI2 fr) (fun h => absurd rfl h)
set_option maxHeartbeats 4000000 in
theorem zL_c16 {M : zMm} (hI : zI M) {i : Int} (h0 : 0 ≤ i) (h6 : i + 6 ≤ M (-2) (-1)) (hm : M (-2) (-1) < 2147483648) (kk : ∀ M2 : zMm, zI M2 → (∀ x : Int, -5 < x → x < 0 → M2 x = M x) → zW mL_law 100 zQL (0, 0) zS0 1333 [(0, .inr (.inr (-2))), (1, .inr (.inr 0)), (2, .inr (.inr 56)), (3, .inl i)] [] M2) : zW mL_law 100 zQL (0, 0) zS0 642 [(0, .inr (.inr (-2))), (1, .inr (.inr 0)), (2, .inr (.inr 56)), (3, .inl i)] [] M := by
  refine z_aload_n 1 (zdec DL_law_9 4 rfl) rfl rfl (by decide) ?_
  refine z_aload_n 0 (zdec DL_law_9 5 rfl) rfl rfl (by decide) ?_
  refine z_iload_n 3 (zdec DL_law_9 6 rfl) rfl rfl ?_
  refine z_iconst 1 (zdec DL_law_9 7 rfl) (by decide) ?_
  refine z_iadd (zdec DL_law_9 8 rfl) (by unfold z32; omega) ?_
  refine z_sald (zdec DL_law_9 9 rfl) (Or.inl rfl) (by exact ⟨by omega, by omega⟩) ?_
  refine z_inv mX9_opened 0 9 [.inl (M (-2) (i + 1))] (zdec DL_law_9 10 rfl) ml_SixWallsLaw_81 okX9_opened rfl shp0 rfl rfl rfl rfl (Nat.le_of_ble_eq_true rfl) (Nat.le_of_ble_eq_true rfl) (b' := (0, 0)) ⟨Nat.le_refl 0, Nat.le_refl 0⟩ (Nat.le_of_ble_eq_true rfl) (zW_scr (zK_opened hI (M (-2) (i + 1)))) (fun rv9 S9 M1 h9 => ?_)
  obtain ⟨⟨rfl, r, rfl, hw⟩, f1⟩ := h9
  have e1 : M1 (-2) = M (-2) := f1 (-2) (by decide) (by decide)
  change zW _ _ _ _ _ 651 [(0, .inr (.inr (-2))), (1, .inr (.inr 0)), (2, .inr (.inr 56)), (3, .inl i)] [.inr (.inl (r))] M1
  refine z_aload_n 2 (zdec DL_law_9 11 rfl) rfl rfl (by decide) ?_
  refine z_aload_n 0 (zdec DL_law_9 12 rfl) rfl rfl (by decide) ?_
  refine z_iload_n 3 (zdec DL_law_9 13 rfl) rfl rfl ?_
  refine z_iconst 1 (zdec DL_law_9 14 rfl) (by decide) ?_
  refine z_iadd (zdec DL_law_9 15 rfl) (by unfold z32; omega) ?_
  refine z_sald (zdec DL_law_9 16 rfl) (Or.inl rfl) (by rw [e1]; exact ⟨by omega, by omega⟩) ?_
  rw [e1]
  refine z_inv mX10_opened 56 10 [.inl (M (-2) (i + 1))] (zdec DL_law_9 17 rfl) ml_SixWallsLaw_85 okX10_opened rfl shp56 rfl rfl rfl rfl (Nat.le_of_ble_eq_true rfl) (Nat.le_of_ble_eq_true rfl) (b' := (0, 0)) ⟨Nat.le_refl 0, Nat.le_refl 0⟩ (Nat.le_of_ble_eq_true rfl) (zW_scr hw) (fun rv9 S9 M2 h9 => ?_)
  obtain ⟨⟨rfl, rfl, hI2⟩, f2⟩ := h9
  have fr : ∀ x : Int, -5 < x → x < 0 → M2 x = M x := fun x a b => (f2 x a b).trans (f1 x a b)
  change zW _ _ _ _ _ 660 [(0, .inr (.inr (-2))), (1, .inr (.inr 0)), (2, .inr (.inr 56)), (3, .inl i)] [.inr (.inl (r)), .inr (.inl (r))] M2
  refine z_lcmp (zdec DL_law_9 18 rfl) ?_
  exact z_if_eq 1333 (zdec DL_law_9 19 rfl) rfl (fun _ => kk M2 hI2 fr) (fun h => absurd (zcmp_s r) h)
set_option maxHeartbeats 4000000 in
theorem zL_c17 {M : zMm} (hI : zI M) {i : Int} (h0 : 0 ≤ i) (h6 : i + 6 ≤ M (-2) (-1)) (hm : M (-2) (-1) < 2147483648) (kk : ∀ M2 : zMm, zI M2 → (∀ x : Int, -5 < x → x < 0 → M2 x = M x) → zW mL_law 100 zQL (0, 0) zS0 1333 [(0, .inr (.inr (-2))), (1, .inr (.inr 0)), (2, .inr (.inr 56)), (3, .inl i)] [] M2) : zW mL_law 100 zQL (0, 0) zS0 666 [(0, .inr (.inr (-2))), (1, .inr (.inr 0)), (2, .inr (.inr 56)), (3, .inl i)] [] M := by
  refine z_aload_n 1 (zdec DL_law_9 22 rfl) rfl rfl (by decide) ?_
  refine z_aload_n 0 (zdec DL_law_9 23 rfl) rfl rfl (by decide) ?_
  refine z_iload_n 3 (zdec DL_law_9 24 rfl) rfl rfl ?_
  refine z_iconst 1 (zdec DL_law_9 25 rfl) (by decide) ?_
  refine z_iadd (zdec DL_law_9 26 rfl) (by unfold z32; omega) ?_
  refine z_sald (zdec DL_law_9 27 rfl) (Or.inl rfl) (by exact ⟨by omega, by omega⟩) ?_
  refine z_aload_n 0 (zdec DL_law_9 28 rfl) rfl rfl (by decide) ?_
  refine z_iload_n 3 (zdec DL_law_9 29 rfl) rfl rfl ?_
  refine z_iconst 2 (zdec DL_law_9 30 rfl) (by decide) ?_
  refine z_iadd (zdec DL_law_9 31 rfl) (by unfold z32; omega) ?_
  refine z_sald (zdec DL_law_9 32 rfl) (Or.inl rfl) (by exact ⟨by omega, by omega⟩) ?_
  refine z_inv mX9_heard 0 9 [.inl (M (-2) (i + 1)), .inl (M (-2) (i + 2))] (zdec DL_law_9 33 rfl) ml_SixWallsLaw_86 okX9_heard rfl shp0 rfl rfl rfl rfl (Nat.le_of_ble_eq_true rfl) (Nat.le_of_ble_eq_true rfl) (b' := (0, 0)) ⟨Nat.le_refl 0, Nat.le_refl 0⟩ (Nat.le_of_ble_eq_true rfl) (zW_scr (zK_heard hI (M (-2) (i + 1)) (M (-2) (i + 2)))) (fun rv9 S9 M1 h9 => ?_)
  obtain ⟨⟨rfl, r, rfl, hw⟩, f1⟩ := h9
  have e1 : M1 (-2) = M (-2) := f1 (-2) (by decide) (by decide)
  change zW _ _ _ _ _ 680 [(0, .inr (.inr (-2))), (1, .inr (.inr 0)), (2, .inr (.inr 56)), (3, .inl i)] [.inl (r)] M1
  refine z_aload_n 2 (zdec DL_law_9 34 rfl) rfl rfl (by decide) ?_
  refine z_aload_n 0 (zdec DL_law_9 35 rfl) rfl rfl (by decide) ?_
  refine z_iload_n 3 (zdec DL_law_9 36 rfl) rfl rfl ?_
  refine z_iconst 1 (zdec DL_law_9 37 rfl) (by decide) ?_
  refine z_iadd (zdec DL_law_9 38 rfl) (by unfold z32; omega) ?_
  refine z_sald (zdec DL_law_9 39 rfl) (Or.inl rfl) (by rw [e1]; exact ⟨by omega, by omega⟩) ?_
  rw [e1]
  refine z_aload_n 0 (zdec DL_law_10 0 rfl) rfl rfl (by decide) ?_
  refine z_iload_n 3 (zdec DL_law_10 1 rfl) rfl rfl ?_
  refine z_iconst 2 (zdec DL_law_10 2 rfl) (by decide) ?_
  refine z_iadd (zdec DL_law_10 3 rfl) (by unfold z32; omega) ?_
  refine z_sald (zdec DL_law_10 4 rfl) (Or.inl rfl) (by rw [e1]; exact ⟨by omega, by omega⟩) ?_
  rw [e1]
  refine z_inv mX10_heard 56 10 [.inl (M (-2) (i + 1)), .inl (M (-2) (i + 2))] (zdec DL_law_10 5 rfl) ml_SixWallsLaw_89 okX10_heard rfl shp56 rfl rfl rfl rfl (Nat.le_of_ble_eq_true rfl) (Nat.le_of_ble_eq_true rfl) (b' := (0, 0)) ⟨Nat.le_refl 0, Nat.le_refl 0⟩ (Nat.le_of_ble_eq_true rfl) (zW_scr hw) (fun rv9 S9 M2 h9 => ?_)
  obtain ⟨⟨rfl, rfl, hI2⟩, f2⟩ := h9
  have fr : ∀ x : Int, -5 < x → x < 0 → M2 x = M x := fun x a b => (f2 x a b).trans (f1 x a b)
  change zW _ _ _ _ _ 694 [(0, .inr (.inr (-2))), (1, .inr (.inr 0)), (2, .inr (.inr 56)), (3, .inl i)] [.inl (r), .inl (r)] M2
  exact z_icmp_eq 1333 (zdec DL_law_10 6 rfl) rfl (fun _ => kk M2 hI2 fr) (fun h => absurd rfl h)
set_option maxHeartbeats 4000000 in
theorem zL_c18 {M : zMm} (hI : zI M) {i : Int} (h0 : 0 ≤ i) (h6 : i + 6 ≤ M (-2) (-1)) (hm : M (-2) (-1) < 2147483648) (kk : ∀ M2 : zMm, zI M2 → (∀ x : Int, -5 < x → x < 0 → M2 x = M x) → zW mL_law 100 zQL (0, 0) zS0 1333 [(0, .inr (.inr (-2))), (1, .inr (.inr 0)), (2, .inr (.inr 56)), (3, .inl i)] [] M2) : zW mL_law 100 zQL (0, 0) zS0 699 [(0, .inr (.inr (-2))), (1, .inr (.inr 0)), (2, .inr (.inr 56)), (3, .inl i)] [] M := by
  refine z_aload_n 1 (zdec DL_law_10 9 rfl) rfl rfl (by decide) ?_
  refine z_aload_n 0 (zdec DL_law_10 10 rfl) rfl rfl (by decide) ?_
  refine z_iload_n 3 (zdec DL_law_10 11 rfl) rfl rfl ?_
  refine z_iconst 1 (zdec DL_law_10 12 rfl) (by decide) ?_
  refine z_iadd (zdec DL_law_10 13 rfl) (by unfold z32; omega) ?_
  refine z_sald (zdec DL_law_10 14 rfl) (Or.inl rfl) (by exact ⟨by omega, by omega⟩) ?_
  refine z_aload_n 0 (zdec DL_law_10 15 rfl) rfl rfl (by decide) ?_
  refine z_iload_n 3 (zdec DL_law_10 16 rfl) rfl rfl ?_
  refine z_iconst 2 (zdec DL_law_10 17 rfl) (by decide) ?_
  refine z_iadd (zdec DL_law_10 18 rfl) (by unfold z32; omega) ?_
  refine z_sald (zdec DL_law_10 19 rfl) (Or.inl rfl) (by exact ⟨by omega, by omega⟩) ?_
  refine z_inv mX9_whose 0 9 [.inl (M (-2) (i + 1)), .inl (M (-2) (i + 2))] (zdec DL_law_10 20 rfl) ml_SixWallsLaw_90 okX9_whose rfl shp0 rfl rfl rfl rfl (Nat.le_of_ble_eq_true rfl) (Nat.le_of_ble_eq_true rfl) (b' := (0, 0)) ⟨Nat.le_refl 0, Nat.le_refl 0⟩ (Nat.le_of_ble_eq_true rfl) (zW_scr (zK_whose hI (M (-2) (i + 1)) (M (-2) (i + 2)))) (fun rv9 S9 M1 h9 => ?_)
  obtain ⟨⟨rfl, r, rfl, hw⟩, f1⟩ := h9
  have e1 : M1 (-2) = M (-2) := f1 (-2) (by decide) (by decide)
  change zW _ _ _ _ _ 713 [(0, .inr (.inr (-2))), (1, .inr (.inr 0)), (2, .inr (.inr 56)), (3, .inl i)] [.inl (r)] M1
  refine z_aload_n 2 (zdec DL_law_10 21 rfl) rfl rfl (by decide) ?_
  refine z_aload_n 0 (zdec DL_law_10 22 rfl) rfl rfl (by decide) ?_
  refine z_iload_n 3 (zdec DL_law_10 23 rfl) rfl rfl ?_
  refine z_iconst 1 (zdec DL_law_10 24 rfl) (by decide) ?_
  refine z_iadd (zdec DL_law_10 25 rfl) (by unfold z32; omega) ?_
  refine z_sald (zdec DL_law_10 26 rfl) (Or.inl rfl) (by rw [e1]; exact ⟨by omega, by omega⟩) ?_
  rw [e1]
  refine z_aload_n 0 (zdec DL_law_10 27 rfl) rfl rfl (by decide) ?_
  refine z_iload_n 3 (zdec DL_law_10 28 rfl) rfl rfl ?_
  refine z_iconst 2 (zdec DL_law_10 29 rfl) (by decide) ?_
  refine z_iadd (zdec DL_law_10 30 rfl) (by unfold z32; omega) ?_
  refine z_sald (zdec DL_law_10 31 rfl) (Or.inl rfl) (by rw [e1]; exact ⟨by omega, by omega⟩) ?_
  rw [e1]
  refine z_inv mX10_whose 56 10 [.inl (M (-2) (i + 1)), .inl (M (-2) (i + 2))] (zdec DL_law_10 32 rfl) ml_SixWallsLaw_93 okX10_whose rfl shp56 rfl rfl rfl rfl (Nat.le_of_ble_eq_true rfl) (Nat.le_of_ble_eq_true rfl) (b' := (0, 0)) ⟨Nat.le_refl 0, Nat.le_refl 0⟩ (Nat.le_of_ble_eq_true rfl) (zW_scr hw) (fun rv9 S9 M2 h9 => ?_)
  obtain ⟨⟨rfl, rfl, hI2⟩, f2⟩ := h9
  have fr : ∀ x : Int, -5 < x → x < 0 → M2 x = M x := fun x a b => (f2 x a b).trans (f1 x a b)
  change zW _ _ _ _ _ 727 [(0, .inr (.inr (-2))), (1, .inr (.inr 0)), (2, .inr (.inr 56)), (3, .inl i)] [.inl (r), .inl (r)] M2
  exact z_icmp_eq 1333 (zdec DL_law_10 33 rfl) rfl (fun _ => kk M2 hI2 fr) (fun h => absurd rfl h)
set_option maxHeartbeats 4000000 in
theorem zL_c19 {M : zMm} (hI : zI M) {i : Int} (h0 : 0 ≤ i) (h6 : i + 6 ≤ M (-2) (-1)) (hm : M (-2) (-1) < 2147483648) (kk : ∀ M2 : zMm, zI M2 → (∀ x : Int, -5 < x → x < 0 → M2 x = M x) → zW mL_law 100 zQL (0, 0) zS0 1333 [(0, .inr (.inr (-2))), (1, .inr (.inr 0)), (2, .inr (.inr 56)), (3, .inl i)] [] M2) : zW mL_law 100 zQL (0, 0) zS0 732 [(0, .inr (.inr (-2))), (1, .inr (.inr 0)), (2, .inr (.inr 56)), (3, .inl i)] [] M := by
  refine z_aload_n 1 (zdec DL_law_10 36 rfl) rfl rfl (by decide) ?_
  refine z_aload_n 0 (zdec DL_law_10 37 rfl) rfl rfl (by decide) ?_
  refine z_iload_n 3 (zdec DL_law_10 38 rfl) rfl rfl ?_
  refine z_iconst 1 (zdec DL_law_10 39 rfl) (by decide) ?_
  refine z_iadd (zdec DL_law_11 0 rfl) (by unfold z32; omega) ?_
  refine z_sald (zdec DL_law_11 1 rfl) (Or.inl rfl) (by exact ⟨by omega, by omega⟩) ?_
  refine z_inv mX9_colours 0 9 [.inl (M (-2) (i + 1))] (zdec DL_law_11 2 rfl) ml_SixWallsLaw_94 okX9_colours rfl shp0 rfl rfl rfl rfl (Nat.le_of_ble_eq_true rfl) (Nat.le_of_ble_eq_true rfl) (b' := (0, 0)) ⟨Nat.le_refl 0, Nat.le_refl 0⟩ (Nat.le_of_ble_eq_true rfl) (zW_scr (zK_colours hI (M (-2) (i + 1)))) (fun rv9 S9 M1 h9 => ?_)
  obtain ⟨⟨rfl, r, rfl, hw⟩, f1⟩ := h9
  have e1 : M1 (-2) = M (-2) := f1 (-2) (by decide) (by decide)
  change zW _ _ _ _ _ 741 [(0, .inr (.inr (-2))), (1, .inr (.inr 0)), (2, .inr (.inr 56)), (3, .inl i)] [.inl (r)] M1
  refine z_aload_n 2 (zdec DL_law_11 3 rfl) rfl rfl (by decide) ?_
  refine z_aload_n 0 (zdec DL_law_11 4 rfl) rfl rfl (by decide) ?_
  refine z_iload_n 3 (zdec DL_law_11 5 rfl) rfl rfl ?_
  refine z_iconst 1 (zdec DL_law_11 6 rfl) (by decide) ?_
  refine z_iadd (zdec DL_law_11 7 rfl) (by unfold z32; omega) ?_
  refine z_sald (zdec DL_law_11 8 rfl) (Or.inl rfl) (by rw [e1]; exact ⟨by omega, by omega⟩) ?_
  rw [e1]
  refine z_inv mX10_colours 56 10 [.inl (M (-2) (i + 1))] (zdec DL_law_11 9 rfl) ml_SixWallsLaw_97 okX10_colours rfl shp56 rfl rfl rfl rfl (Nat.le_of_ble_eq_true rfl) (Nat.le_of_ble_eq_true rfl) (b' := (0, 0)) ⟨Nat.le_refl 0, Nat.le_refl 0⟩ (Nat.le_of_ble_eq_true rfl) (zW_scr hw) (fun rv9 S9 M2 h9 => ?_)
  obtain ⟨⟨rfl, rfl, hI2⟩, f2⟩ := h9
  have fr : ∀ x : Int, -5 < x → x < 0 → M2 x = M x := fun x a b => (f2 x a b).trans (f1 x a b)
  change zW _ _ _ _ _ 750 [(0, .inr (.inr (-2))), (1, .inr (.inr 0)), (2, .inr (.inr 56)), (3, .inl i)] [.inl (r), .inl (r)] M2
  exact z_icmp_eq 1333 (zdec DL_law_11 10 rfl) rfl (fun _ => kk M2 hI2 fr) (fun h => absurd rfl h)
set_option maxHeartbeats 4000000 in
theorem zL_c20 {M : zMm} (hI : zI M) {i : Int} (h0 : 0 ≤ i) (h6 : i + 6 ≤ M (-2) (-1)) (hm : M (-2) (-1) < 2147483648) (kk : ∀ M2 : zMm, zI M2 → (∀ x : Int, -5 < x → x < 0 → M2 x = M x) → zW mL_law 100 zQL (0, 0) zS0 1333 [(0, .inr (.inr (-2))), (1, .inr (.inr 0)), (2, .inr (.inr 56)), (3, .inl i)] [] M2) : zW mL_law 100 zQL (0, 0) zS0 755 [(0, .inr (.inr (-2))), (1, .inr (.inr 0)), (2, .inr (.inr 56)), (3, .inl i)] [] M := by
  refine z_aload_n 1 (zdec DL_law_11 13 rfl) rfl rfl (by decide) ?_
  refine z_aload_n 0 (zdec DL_law_11 14 rfl) rfl rfl (by decide) ?_
  refine z_iload_n 3 (zdec DL_law_11 15 rfl) rfl rfl ?_
  refine z_iconst 1 (zdec DL_law_11 16 rfl) (by decide) ?_
  refine z_iadd (zdec DL_law_11 17 rfl) (by unfold z32; omega) ?_
  refine z_sald (zdec DL_law_11 18 rfl) (Or.inl rfl) (by exact ⟨by omega, by omega⟩) ?_
  refine z_inv mX9_paint 0 9 [.inl (M (-2) (i + 1))] (zdec DL_law_11 19 rfl) ml_SixWallsLaw_98 okX9_paint rfl shp0 rfl rfl rfl rfl (Nat.le_of_ble_eq_true rfl) (Nat.le_of_ble_eq_true rfl) (b' := (0, 0)) ⟨Nat.le_refl 0, Nat.le_refl 0⟩ (Nat.le_of_ble_eq_true rfl) (zW_scr (zK_paint hI (M (-2) (i + 1)))) (fun rv9 S9 M1 h9 => ?_)
  obtain ⟨⟨rfl, r, rfl, hw⟩, f1⟩ := h9
  have e1 : M1 (-2) = M (-2) := f1 (-2) (by decide) (by decide)
  change zW _ _ _ _ _ 764 [(0, .inr (.inr (-2))), (1, .inr (.inr 0)), (2, .inr (.inr 56)), (3, .inl i)] [.inl (r)] M1
  refine z_aload_n 2 (zdec DL_law_11 20 rfl) rfl rfl (by decide) ?_
  refine z_aload_n 0 (zdec DL_law_11 21 rfl) rfl rfl (by decide) ?_
  refine z_iload_n 3 (zdec DL_law_11 22 rfl) rfl rfl ?_
  refine z_iconst 1 (zdec DL_law_11 23 rfl) (by decide) ?_
  refine z_iadd (zdec DL_law_11 24 rfl) (by unfold z32; omega) ?_
  refine z_sald (zdec DL_law_11 25 rfl) (Or.inl rfl) (by rw [e1]; exact ⟨by omega, by omega⟩) ?_
  rw [e1]
  refine z_inv mX10_paint 56 10 [.inl (M (-2) (i + 1))] (zdec DL_law_11 26 rfl) ml_SixWallsLaw_101 okX10_paint rfl shp56 rfl rfl rfl rfl (Nat.le_of_ble_eq_true rfl) (Nat.le_of_ble_eq_true rfl) (b' := (0, 0)) ⟨Nat.le_refl 0, Nat.le_refl 0⟩ (Nat.le_of_ble_eq_true rfl) (zW_scr hw) (fun rv9 S9 M2 h9 => ?_)
  obtain ⟨⟨rfl, rfl, hI2⟩, f2⟩ := h9
  have fr : ∀ x : Int, -5 < x → x < 0 → M2 x = M x := fun x a b => (f2 x a b).trans (f1 x a b)
  change zW _ _ _ _ _ 773 [(0, .inr (.inr (-2))), (1, .inr (.inr 0)), (2, .inr (.inr 56)), (3, .inl i)] [.inl (r), .inl (r)] M2
  exact z_icmp_eq 1333 (zdec DL_law_11 27 rfl) rfl (fun _ => kk M2 hI2 fr) (fun h => absurd rfl h)
set_option maxHeartbeats 4000000 in
theorem zL_c21 {M : zMm} (hI : zI M) {i : Int} (h0 : 0 ≤ i) (h6 : i + 6 ≤ M (-2) (-1)) (hm : M (-2) (-1) < 2147483648) (kk : ∀ M2 : zMm, zI M2 → (∀ x : Int, -5 < x → x < 0 → M2 x = M x) → zW mL_law 100 zQL (0, 0) zS0 1333 [(0, .inr (.inr (-2))), (1, .inr (.inr 0)), (2, .inr (.inr 56)), (3, .inl i)] [] M2) : zW mL_law 100 zQL (0, 0) zS0 778 [(0, .inr (.inr (-2))), (1, .inr (.inr 0)), (2, .inr (.inr 56)), (3, .inl i)] [] M := by
  refine z_aload_n 1 (zdec DL_law_11 30 rfl) rfl rfl (by decide) ?_
  refine z_aload_n 0 (zdec DL_law_11 31 rfl) rfl rfl (by decide) ?_
  refine z_iload_n 3 (zdec DL_law_11 32 rfl) rfl rfl ?_
  refine z_iconst 1 (zdec DL_law_11 33 rfl) (by decide) ?_
  refine z_iadd (zdec DL_law_11 34 rfl) (by unfold z32; omega) ?_
  refine z_sald (zdec DL_law_11 35 rfl) (Or.inl rfl) (by exact ⟨by omega, by omega⟩) ?_
  refine z_inv mX9_empty 0 9 [.inl (M (-2) (i + 1))] (zdec DL_law_11 36 rfl) ml_SixWallsLaw_102 okX9_empty rfl shp0 rfl rfl rfl rfl (Nat.le_of_ble_eq_true rfl) (Nat.le_of_ble_eq_true rfl) (b' := (0, 0)) ⟨Nat.le_refl 0, Nat.le_refl 0⟩ (Nat.le_of_ble_eq_true rfl) (zW_scr (zK_empty hI (M (-2) (i + 1)))) (fun rv9 S9 M1 h9 => ?_)
  obtain ⟨⟨rfl, r, rfl, hw⟩, f1⟩ := h9
  have e1 : M1 (-2) = M (-2) := f1 (-2) (by decide) (by decide)
  change zW _ _ _ _ _ 787 [(0, .inr (.inr (-2))), (1, .inr (.inr 0)), (2, .inr (.inr 56)), (3, .inl i)] [.inl (r)] M1
  refine z_aload_n 2 (zdec DL_law_11 37 rfl) rfl rfl (by decide) ?_
  refine z_aload_n 0 (zdec DL_law_11 38 rfl) rfl rfl (by decide) ?_
  refine z_iload_n 3 (zdec DL_law_11 39 rfl) rfl rfl ?_
  refine z_iconst 1 (zdec DL_law_12 0 rfl) (by decide) ?_
  refine z_iadd (zdec DL_law_12 1 rfl) (by unfold z32; omega) ?_
  refine z_sald (zdec DL_law_12 2 rfl) (Or.inl rfl) (by rw [e1]; exact ⟨by omega, by omega⟩) ?_
  rw [e1]
  refine z_inv mX10_empty 56 10 [.inl (M (-2) (i + 1))] (zdec DL_law_12 3 rfl) ml_SixWallsLaw_105 okX10_empty rfl shp56 rfl rfl rfl rfl (Nat.le_of_ble_eq_true rfl) (Nat.le_of_ble_eq_true rfl) (b' := (0, 0)) ⟨Nat.le_refl 0, Nat.le_refl 0⟩ (Nat.le_of_ble_eq_true rfl) (zW_scr hw) (fun rv9 S9 M2 h9 => ?_)
  obtain ⟨⟨rfl, rfl, hI2⟩, f2⟩ := h9
  have fr : ∀ x : Int, -5 < x → x < 0 → M2 x = M x := fun x a b => (f2 x a b).trans (f1 x a b)
  change zW _ _ _ _ _ 796 [(0, .inr (.inr (-2))), (1, .inr (.inr 0)), (2, .inr (.inr 56)), (3, .inl i)] [.inl (r), .inl (r)] M2
  exact z_icmp_eq 1333 (zdec DL_law_12 4 rfl) rfl (fun _ => kk M2 hI2 fr) (fun h => absurd rfl h)
set_option maxHeartbeats 4000000 in
theorem zL_c22 {M : zMm} (hI : zI M) {i : Int} (h0 : 0 ≤ i) (h6 : i + 6 ≤ M (-2) (-1)) (hm : M (-2) (-1) < 2147483648) (kk : ∀ M2 : zMm, zI M2 → (∀ x : Int, -5 < x → x < 0 → M2 x = M x) → zW mL_law 100 zQL (0, 0) zS0 1333 [(0, .inr (.inr (-2))), (1, .inr (.inr 0)), (2, .inr (.inr 56)), (3, .inl i)] [] M2) : zW mL_law 100 zQL (0, 0) zS0 801 [(0, .inr (.inr (-2))), (1, .inr (.inr 0)), (2, .inr (.inr 56)), (3, .inl i)] [] M := by
  refine z_aload_n 1 (zdec DL_law_12 7 rfl) rfl rfl (by decide) ?_
  refine z_aload_n 0 (zdec DL_law_12 8 rfl) rfl rfl (by decide) ?_
  refine z_iload_n 3 (zdec DL_law_12 9 rfl) rfl rfl ?_
  refine z_iconst 1 (zdec DL_law_12 10 rfl) (by decide) ?_
  refine z_iadd (zdec DL_law_12 11 rfl) (by unfold z32; omega) ?_
  refine z_sald (zdec DL_law_12 12 rfl) (Or.inl rfl) (by exact ⟨by omega, by omega⟩) ?_
  refine z_aload_n 0 (zdec DL_law_12 13 rfl) rfl rfl (by decide) ?_
  refine z_iload_n 3 (zdec DL_law_12 14 rfl) rfl rfl ?_
  refine z_iconst 2 (zdec DL_law_12 15 rfl) (by decide) ?_
  refine z_iadd (zdec DL_law_12 16 rfl) (by unfold z32; omega) ?_
  refine z_sald (zdec DL_law_12 17 rfl) (Or.inl rfl) (by exact ⟨by omega, by omega⟩) ?_
  refine z_inv mX9_takes 0 9 [.inl (M (-2) (i + 1)), .inl (M (-2) (i + 2))] (zdec DL_law_12 18 rfl) ml_SixWallsLaw_106 okX9_takes rfl shp0 rfl rfl rfl rfl (Nat.le_of_ble_eq_true rfl) (Nat.le_of_ble_eq_true rfl) (b' := (0, 0)) ⟨Nat.le_refl 0, Nat.le_refl 0⟩ (Nat.le_of_ble_eq_true rfl) (zW_scr (zK_takes hI (M (-2) (i + 1)) (M (-2) (i + 2)))) (fun rv9 S9 M1 h9 => ?_)
  obtain ⟨⟨rfl, r, rfl, hw⟩, f1⟩ := h9
  have e1 : M1 (-2) = M (-2) := f1 (-2) (by decide) (by decide)
  change zW _ _ _ _ _ 815 [(0, .inr (.inr (-2))), (1, .inr (.inr 0)), (2, .inr (.inr 56)), (3, .inl i)] [.inl (r)] M1
  refine z_aload_n 2 (zdec DL_law_12 19 rfl) rfl rfl (by decide) ?_
  refine z_aload_n 0 (zdec DL_law_12 20 rfl) rfl rfl (by decide) ?_
  refine z_iload_n 3 (zdec DL_law_12 21 rfl) rfl rfl ?_
  refine z_iconst 1 (zdec DL_law_12 22 rfl) (by decide) ?_
  refine z_iadd (zdec DL_law_12 23 rfl) (by unfold z32; omega) ?_
  refine z_sald (zdec DL_law_12 24 rfl) (Or.inl rfl) (by rw [e1]; exact ⟨by omega, by omega⟩) ?_
  rw [e1]
  refine z_aload_n 0 (zdec DL_law_12 25 rfl) rfl rfl (by decide) ?_
  refine z_iload_n 3 (zdec DL_law_12 26 rfl) rfl rfl ?_
  refine z_iconst 2 (zdec DL_law_12 27 rfl) (by decide) ?_
  refine z_iadd (zdec DL_law_12 28 rfl) (by unfold z32; omega) ?_
  refine z_sald (zdec DL_law_12 29 rfl) (Or.inl rfl) (by rw [e1]; exact ⟨by omega, by omega⟩) ?_
  rw [e1]
  refine z_inv mX10_takes 56 10 [.inl (M (-2) (i + 1)), .inl (M (-2) (i + 2))] (zdec DL_law_12 30 rfl) ml_SixWallsLaw_109 okX10_takes rfl shp56 rfl rfl rfl rfl (Nat.le_of_ble_eq_true rfl) (Nat.le_of_ble_eq_true rfl) (b' := (0, 0)) ⟨Nat.le_refl 0, Nat.le_refl 0⟩ (Nat.le_of_ble_eq_true rfl) (zW_scr hw) (fun rv9 S9 M2 h9 => ?_)
  obtain ⟨⟨rfl, rfl, hI2⟩, f2⟩ := h9
  have fr : ∀ x : Int, -5 < x → x < 0 → M2 x = M x := fun x a b => (f2 x a b).trans (f1 x a b)
  change zW _ _ _ _ _ 829 [(0, .inr (.inr (-2))), (1, .inr (.inr 0)), (2, .inr (.inr 56)), (3, .inl i)] [.inl (r), .inl (r)] M2
  exact z_icmp_eq 1333 (zdec DL_law_12 31 rfl) rfl (fun _ => kk M2 hI2 fr) (fun h => absurd rfl h)
set_option maxHeartbeats 4000000 in
theorem zL_c23 {M : zMm} (hI : zI M) {i : Int} (h0 : 0 ≤ i) (h6 : i + 6 ≤ M (-2) (-1)) (hm : M (-2) (-1) < 2147483648) (kk : ∀ M2 : zMm, zI M2 → (∀ x : Int, -5 < x → x < 0 → M2 x = M x) → zW mL_law 100 zQL (0, 0) zS0 1333 [(0, .inr (.inr (-2))), (1, .inr (.inr 0)), (2, .inr (.inr 56)), (3, .inl i)] [] M2) : zW mL_law 100 zQL (0, 0) zS0 834 [(0, .inr (.inr (-2))), (1, .inr (.inr 0)), (2, .inr (.inr 56)), (3, .inl i)] [] M := by
  refine z_aload_n 1 (zdec DL_law_12 34 rfl) rfl rfl (by decide) ?_
  refine z_aload_n 0 (zdec DL_law_12 35 rfl) rfl rfl (by decide) ?_
  refine z_iload_n 3 (zdec DL_law_12 36 rfl) rfl rfl ?_
  refine z_iconst 1 (zdec DL_law_12 37 rfl) (by decide) ?_
  refine z_iadd (zdec DL_law_12 38 rfl) (by unfold z32; omega) ?_
  refine z_sald (zdec DL_law_12 39 rfl) (Or.inl rfl) (by exact ⟨by omega, by omega⟩) ?_
  refine z_inv mX9_where 0 9 [.inl (M (-2) (i + 1))] (zdec DL_law_13 0 rfl) ml_SixWallsLaw_110 okX9_where rfl shp0 rfl rfl rfl rfl (Nat.le_of_ble_eq_true rfl) (Nat.le_of_ble_eq_true rfl) (b' := (0, 0)) ⟨Nat.le_refl 0, Nat.le_refl 0⟩ (Nat.le_of_ble_eq_true rfl) (zW_scr (zK_where hI (M (-2) (i + 1)))) (fun rv9 S9 M1 h9 => ?_)
  obtain ⟨⟨rfl, r, rfl, hw⟩, f1⟩ := h9
  have e1 : M1 (-2) = M (-2) := f1 (-2) (by decide) (by decide)
  change zW _ _ _ _ _ 843 [(0, .inr (.inr (-2))), (1, .inr (.inr 0)), (2, .inr (.inr 56)), (3, .inl i)] [.inl (r)] M1
  refine z_aload_n 2 (zdec DL_law_13 1 rfl) rfl rfl (by decide) ?_
  refine z_aload_n 0 (zdec DL_law_13 2 rfl) rfl rfl (by decide) ?_
  refine z_iload_n 3 (zdec DL_law_13 3 rfl) rfl rfl ?_
  refine z_iconst 1 (zdec DL_law_13 4 rfl) (by decide) ?_
  refine z_iadd (zdec DL_law_13 5 rfl) (by unfold z32; omega) ?_
  refine z_sald (zdec DL_law_13 6 rfl) (Or.inl rfl) (by rw [e1]; exact ⟨by omega, by omega⟩) ?_
  rw [e1]
  refine z_inv mX10_where 56 10 [.inl (M (-2) (i + 1))] (zdec DL_law_13 7 rfl) ml_SixWallsLaw_113 okX10_where rfl shp56 rfl rfl rfl rfl (Nat.le_of_ble_eq_true rfl) (Nat.le_of_ble_eq_true rfl) (b' := (0, 0)) ⟨Nat.le_refl 0, Nat.le_refl 0⟩ (Nat.le_of_ble_eq_true rfl) (zW_scr hw) (fun rv9 S9 M2 h9 => ?_)
  obtain ⟨⟨rfl, rfl, hI2⟩, f2⟩ := h9
  have fr : ∀ x : Int, -5 < x → x < 0 → M2 x = M x := fun x a b => (f2 x a b).trans (f1 x a b)
  change zW _ _ _ _ _ 852 [(0, .inr (.inr (-2))), (1, .inr (.inr 0)), (2, .inr (.inr 56)), (3, .inl i)] [.inl (r), .inl (r)] M2
  exact z_icmp_eq 1333 (zdec DL_law_13 8 rfl) rfl (fun _ => kk M2 hI2 fr) (fun h => absurd rfl h)
set_option maxHeartbeats 4000000 in
theorem zL_c24 {M : zMm} (hI : zI M) {i : Int} (h0 : 0 ≤ i) (h6 : i + 6 ≤ M (-2) (-1)) (hm : M (-2) (-1) < 2147483648) (kk : ∀ M2 : zMm, zI M2 → (∀ x : Int, -5 < x → x < 0 → M2 x = M x) → zW mL_law 100 zQL (0, 0) zS0 1333 [(0, .inr (.inr (-2))), (1, .inr (.inr 0)), (2, .inr (.inr 56)), (3, .inl i)] [] M2) : zW mL_law 100 zQL (0, 0) zS0 857 [(0, .inr (.inr (-2))), (1, .inr (.inr 0)), (2, .inr (.inr 56)), (3, .inl i)] [] M := by
  refine z_aload_n 1 (zdec DL_law_13 11 rfl) rfl rfl (by decide) ?_
  refine z_aload_n 0 (zdec DL_law_13 12 rfl) rfl rfl (by decide) ?_
  refine z_iload_n 3 (zdec DL_law_13 13 rfl) rfl rfl ?_
  refine z_iconst 1 (zdec DL_law_13 14 rfl) (by decide) ?_
  refine z_iadd (zdec DL_law_13 15 rfl) (by unfold z32; omega) ?_
  refine z_sald (zdec DL_law_13 16 rfl) (Or.inl rfl) (by exact ⟨by omega, by omega⟩) ?_
  refine z_aload_n 0 (zdec DL_law_13 17 rfl) rfl rfl (by decide) ?_
  refine z_iload_n 3 (zdec DL_law_13 18 rfl) rfl rfl ?_
  refine z_iconst 2 (zdec DL_law_13 19 rfl) (by decide) ?_
  refine z_iadd (zdec DL_law_13 20 rfl) (by unfold z32; omega) ?_
  refine z_sald (zdec DL_law_13 21 rfl) (Or.inl rfl) (by exact ⟨by omega, by omega⟩) ?_
  refine z_inv mX9_years 0 9 [.inl (M (-2) (i + 1)), .inl (M (-2) (i + 2))] (zdec DL_law_13 22 rfl) ml_SixWallsLaw_114 okX9_years rfl shp0 rfl rfl rfl rfl (Nat.le_of_ble_eq_true rfl) (Nat.le_of_ble_eq_true rfl) (b' := (0, 0)) ⟨Nat.le_refl 0, Nat.le_refl 0⟩ (Nat.le_of_ble_eq_true rfl) (zW_scr (zK_years hI (M (-2) (i + 1)) (M (-2) (i + 2)))) (fun rv9 S9 M1 h9 => ?_)
  obtain ⟨⟨rfl, r, rfl, hw⟩, f1⟩ := h9
  have e1 : M1 (-2) = M (-2) := f1 (-2) (by decide) (by decide)
  change zW _ _ _ _ _ 871 [(0, .inr (.inr (-2))), (1, .inr (.inr 0)), (2, .inr (.inr 56)), (3, .inl i)] [.inl (r)] M1
  refine z_aload_n 2 (zdec DL_law_13 23 rfl) rfl rfl (by decide) ?_
  refine z_aload_n 0 (zdec DL_law_13 24 rfl) rfl rfl (by decide) ?_
  refine z_iload_n 3 (zdec DL_law_13 25 rfl) rfl rfl ?_
  refine z_iconst 1 (zdec DL_law_13 26 rfl) (by decide) ?_
  refine z_iadd (zdec DL_law_13 27 rfl) (by unfold z32; omega) ?_
  refine z_sald (zdec DL_law_13 28 rfl) (Or.inl rfl) (by rw [e1]; exact ⟨by omega, by omega⟩) ?_
  rw [e1]
  refine z_aload_n 0 (zdec DL_law_13 29 rfl) rfl rfl (by decide) ?_
  refine z_iload_n 3 (zdec DL_law_13 30 rfl) rfl rfl ?_
  refine z_iconst 2 (zdec DL_law_13 31 rfl) (by decide) ?_
  refine z_iadd (zdec DL_law_13 32 rfl) (by unfold z32; omega) ?_
  refine z_sald (zdec DL_law_13 33 rfl) (Or.inl rfl) (by rw [e1]; exact ⟨by omega, by omega⟩) ?_
  rw [e1]
  refine z_inv mX10_years 56 10 [.inl (M (-2) (i + 1)), .inl (M (-2) (i + 2))] (zdec DL_law_13 34 rfl) ml_SixWallsLaw_117 okX10_years rfl shp56 rfl rfl rfl rfl (Nat.le_of_ble_eq_true rfl) (Nat.le_of_ble_eq_true rfl) (b' := (0, 0)) ⟨Nat.le_refl 0, Nat.le_refl 0⟩ (Nat.le_of_ble_eq_true rfl) (zW_scr hw) (fun rv9 S9 M2 h9 => ?_)
  obtain ⟨⟨rfl, rfl, hI2⟩, f2⟩ := h9
  have fr : ∀ x : Int, -5 < x → x < 0 → M2 x = M x := fun x a b => (f2 x a b).trans (f1 x a b)
  change zW _ _ _ _ _ 885 [(0, .inr (.inr (-2))), (1, .inr (.inr 0)), (2, .inr (.inr 56)), (3, .inl i)] [.inl (r), .inl (r)] M2
  exact z_icmp_eq 1333 (zdec DL_law_13 35 rfl) rfl (fun _ => kk M2 hI2 fr) (fun h => absurd rfl h)
set_option maxHeartbeats 4000000 in
theorem zL_c25 {M : zMm} (hI : zI M) {i : Int} (h0 : 0 ≤ i) (h6 : i + 6 ≤ M (-2) (-1)) (hm : M (-2) (-1) < 2147483648) (kk : ∀ M2 : zMm, zI M2 → (∀ x : Int, -5 < x → x < 0 → M2 x = M x) → zW mL_law 100 zQL (0, 0) zS0 1333 [(0, .inr (.inr (-2))), (1, .inr (.inr 0)), (2, .inr (.inr 56)), (3, .inl i)] [] M2) : zW mL_law 100 zQL (0, 0) zS0 890 [(0, .inr (.inr (-2))), (1, .inr (.inr 0)), (2, .inr (.inr 56)), (3, .inl i)] [] M := by
  refine z_aload_n 1 (zdec DL_law_13 38 rfl) rfl rfl (by decide) ?_
  refine z_inv mX9_image 0 9 [] (zdec DL_law_13 39 rfl) ml_SixWallsLaw_118 okX9_image rfl shp0 rfl rfl rfl rfl (Nat.le_of_ble_eq_true rfl) (Nat.le_of_ble_eq_true rfl) (b' := (0, 0)) ⟨Nat.le_refl 0, Nat.le_refl 0⟩ (Nat.le_of_ble_eq_true rfl) (zW_scr (zK_image hI)) (fun rv9 S9 M1 h9 => ?_)
  obtain ⟨⟨rfl, r, rfl, hw⟩, f1⟩ := h9
  have e1 : M1 (-2) = M (-2) := f1 (-2) (by decide) (by decide)
  change zW _ _ _ _ _ 894 [(0, .inr (.inr (-2))), (1, .inr (.inr 0)), (2, .inr (.inr 56)), (3, .inl i)] [.inl (r)] M1
  refine z_aload_n 2 (zdec DL_law_14 0 rfl) rfl rfl (by decide) ?_
  refine z_inv mX10_image 56 10 [] (zdec DL_law_14 1 rfl) ml_SixWallsLaw_121 okX10_image rfl shp56 rfl rfl rfl rfl (Nat.le_of_ble_eq_true rfl) (Nat.le_of_ble_eq_true rfl) (b' := (0, 0)) ⟨Nat.le_refl 0, Nat.le_refl 0⟩ (Nat.le_of_ble_eq_true rfl) (zW_scr hw) (fun rv9 S9 M2 h9 => ?_)
  obtain ⟨⟨rfl, rfl, hI2⟩, f2⟩ := h9
  have fr : ∀ x : Int, -5 < x → x < 0 → M2 x = M x := fun x a b => (f2 x a b).trans (f1 x a b)
  change zW _ _ _ _ _ 898 [(0, .inr (.inr (-2))), (1, .inr (.inr 0)), (2, .inr (.inr 56)), (3, .inl i)] [.inl (r), .inl (r)] M2
  exact z_icmp_eq 1333 (zdec DL_law_14 2 rfl) rfl (fun _ => kk M2 hI2 fr) (fun h => absurd rfl h)
set_option maxHeartbeats 4000000 in
theorem zL_c26 {M : zMm} (hI : zI M) {i : Int} (h0 : 0 ≤ i) (h6 : i + 6 ≤ M (-2) (-1)) (hm : M (-2) (-1) < 2147483648) (kk : ∀ M2 : zMm, zI M2 → (∀ x : Int, -5 < x → x < 0 → M2 x = M x) → zW mL_law 100 zQL (0, 0) zS0 1333 [(0, .inr (.inr (-2))), (1, .inr (.inr 0)), (2, .inr (.inr 56)), (3, .inl i)] [] M2) : zW mL_law 100 zQL (0, 0) zS0 903 [(0, .inr (.inr (-2))), (1, .inr (.inr 0)), (2, .inr (.inr 56)), (3, .inl i)] [] M := by
  refine z_aload_n 1 (zdec DL_law_14 5 rfl) rfl rfl (by decide) ?_
  refine z_inv mX9_back 0 9 [] (zdec DL_law_14 6 rfl) ml_SixWallsLaw_122 okX9_back rfl shp0 rfl rfl rfl rfl (Nat.le_of_ble_eq_true rfl) (Nat.le_of_ble_eq_true rfl) (b' := (0, 0)) ⟨Nat.le_refl 0, Nat.le_refl 0⟩ (Nat.le_of_ble_eq_true rfl) (zW_scr (zK_back hI)) (fun rv9 S9 M1 h9 => ?_)
  obtain ⟨⟨rfl, r, rfl, hw⟩, f1⟩ := h9
  have e1 : M1 (-2) = M (-2) := f1 (-2) (by decide) (by decide)
  change zW _ _ _ _ _ 907 [(0, .inr (.inr (-2))), (1, .inr (.inr 0)), (2, .inr (.inr 56)), (3, .inl i)] [.inl (r)] M1
  refine z_aload_n 2 (zdec DL_law_14 7 rfl) rfl rfl (by decide) ?_
  refine z_inv mX10_back 56 10 [] (zdec DL_law_14 8 rfl) ml_SixWallsLaw_125 okX10_back rfl shp56 rfl rfl rfl rfl (Nat.le_of_ble_eq_true rfl) (Nat.le_of_ble_eq_true rfl) (b' := (0, 0)) ⟨Nat.le_refl 0, Nat.le_refl 0⟩ (Nat.le_of_ble_eq_true rfl) (zW_scr hw) (fun rv9 S9 M2 h9 => ?_)
  obtain ⟨⟨rfl, rfl, hI2⟩, f2⟩ := h9
  have fr : ∀ x : Int, -5 < x → x < 0 → M2 x = M x := fun x a b => (f2 x a b).trans (f1 x a b)
  change zW _ _ _ _ _ 911 [(0, .inr (.inr (-2))), (1, .inr (.inr 0)), (2, .inr (.inr 56)), (3, .inl i)] [.inl (r), .inl (r)] M2
  exact z_icmp_eq 1333 (zdec DL_law_14 9 rfl) rfl (fun _ => kk M2 hI2 fr) (fun h => absurd rfl h)
set_option maxHeartbeats 4000000 in
theorem zL_c27 {M : zMm} (hI : zI M) {i : Int} (h0 : 0 ≤ i) (h6 : i + 6 ≤ M (-2) (-1)) (hm : M (-2) (-1) < 2147483648) (kk : ∀ M2 : zMm, zI M2 → (∀ x : Int, -5 < x → x < 0 → M2 x = M x) → zW mL_law 100 zQL (0, 0) zS0 1333 [(0, .inr (.inr (-2))), (1, .inr (.inr 0)), (2, .inr (.inr 56)), (3, .inl i)] [] M2) : zW mL_law 100 zQL (0, 0) zS0 916 [(0, .inr (.inr (-2))), (1, .inr (.inr 0)), (2, .inr (.inr 56)), (3, .inl i)] [] M := by
  refine z_aload_n 1 (zdec DL_law_14 12 rfl) rfl rfl (by decide) ?_
  refine z_inv mX9_undo 0 9 [] (zdec DL_law_14 13 rfl) ml_SixWallsLaw_126 okX9_undo rfl shp0 rfl rfl rfl rfl (Nat.le_of_ble_eq_true rfl) (Nat.le_of_ble_eq_true rfl) (b' := (0, 0)) ⟨Nat.le_refl 0, Nat.le_refl 0⟩ (Nat.le_of_ble_eq_true rfl) (zW_scr (zK_undo hI)) (fun rv9 S9 M1 h9 => ?_)
  obtain ⟨⟨rfl, r, rfl, hw⟩, f1⟩ := h9
  have e1 : M1 (-2) = M (-2) := f1 (-2) (by decide) (by decide)
  change zW _ _ _ _ _ 920 [(0, .inr (.inr (-2))), (1, .inr (.inr 0)), (2, .inr (.inr 56)), (3, .inl i)] [.inl (r)] M1
  refine z_aload_n 2 (zdec DL_law_14 14 rfl) rfl rfl (by decide) ?_
  refine z_inv mX10_undo 56 10 [] (zdec DL_law_14 15 rfl) ml_SixWallsLaw_129 okX10_undo rfl shp56 rfl rfl rfl rfl (Nat.le_of_ble_eq_true rfl) (Nat.le_of_ble_eq_true rfl) (b' := (0, 0)) ⟨Nat.le_refl 0, Nat.le_refl 0⟩ (Nat.le_of_ble_eq_true rfl) (zW_scr hw) (fun rv9 S9 M2 h9 => ?_)
  obtain ⟨⟨rfl, rfl, hI2⟩, f2⟩ := h9
  have fr : ∀ x : Int, -5 < x → x < 0 → M2 x = M x := fun x a b => (f2 x a b).trans (f1 x a b)
  change zW _ _ _ _ _ 924 [(0, .inr (.inr (-2))), (1, .inr (.inr 0)), (2, .inr (.inr 56)), (3, .inl i)] [.inl (r), .inl (r)] M2
  exact z_icmp_eq 1333 (zdec DL_law_14 16 rfl) rfl (fun _ => kk M2 hI2 fr) (fun h => absurd rfl h)
set_option maxHeartbeats 4000000 in
theorem zL_c28 {M : zMm} (hI : zI M) {i : Int} (h0 : 0 ≤ i) (h6 : i + 6 ≤ M (-2) (-1)) (hm : M (-2) (-1) < 2147483648) (kk : ∀ M2 : zMm, zI M2 → (∀ x : Int, -5 < x → x < 0 → M2 x = M x) → zW mL_law 100 zQL (0, 0) zS0 1333 [(0, .inr (.inr (-2))), (1, .inr (.inr 0)), (2, .inr (.inr 56)), (3, .inl i)] [] M2) : zW mL_law 100 zQL (0, 0) zS0 929 [(0, .inr (.inr (-2))), (1, .inr (.inr 0)), (2, .inr (.inr 56)), (3, .inl i)] [] M := by
  refine z_aload_n 1 (zdec DL_law_14 19 rfl) rfl rfl (by decide) ?_
  refine z_inv mX9_redo 0 9 [] (zdec DL_law_14 20 rfl) ml_SixWallsLaw_130 okX9_redo rfl shp0 rfl rfl rfl rfl (Nat.le_of_ble_eq_true rfl) (Nat.le_of_ble_eq_true rfl) (b' := (0, 0)) ⟨Nat.le_refl 0, Nat.le_refl 0⟩ (Nat.le_of_ble_eq_true rfl) (zW_scr (zK_redo hI)) (fun rv9 S9 M1 h9 => ?_)
  obtain ⟨⟨rfl, r, rfl, hw⟩, f1⟩ := h9
  have e1 : M1 (-2) = M (-2) := f1 (-2) (by decide) (by decide)
  change zW _ _ _ _ _ 933 [(0, .inr (.inr (-2))), (1, .inr (.inr 0)), (2, .inr (.inr 56)), (3, .inl i)] [.inl (r)] M1
  refine z_aload_n 2 (zdec DL_law_14 21 rfl) rfl rfl (by decide) ?_
  refine z_inv mX10_redo 56 10 [] (zdec DL_law_14 22 rfl) ml_SixWallsLaw_133 okX10_redo rfl shp56 rfl rfl rfl rfl (Nat.le_of_ble_eq_true rfl) (Nat.le_of_ble_eq_true rfl) (b' := (0, 0)) ⟨Nat.le_refl 0, Nat.le_refl 0⟩ (Nat.le_of_ble_eq_true rfl) (zW_scr hw) (fun rv9 S9 M2 h9 => ?_)
  obtain ⟨⟨rfl, rfl, hI2⟩, f2⟩ := h9
  have fr : ∀ x : Int, -5 < x → x < 0 → M2 x = M x := fun x a b => (f2 x a b).trans (f1 x a b)
  change zW _ _ _ _ _ 937 [(0, .inr (.inr (-2))), (1, .inr (.inr 0)), (2, .inr (.inr 56)), (3, .inl i)] [.inl (r), .inl (r)] M2
  exact z_icmp_eq 1333 (zdec DL_law_14 23 rfl) rfl (fun _ => kk M2 hI2 fr) (fun h => absurd rfl h)
set_option maxHeartbeats 4000000 in
theorem zL_c29 {M : zMm} (hI : zI M) {i : Int} (h0 : 0 ≤ i) (h6 : i + 6 ≤ M (-2) (-1)) (hm : M (-2) (-1) < 2147483648) (kk : ∀ M2 : zMm, zI M2 → (∀ x : Int, -5 < x → x < 0 → M2 x = M x) → zW mL_law 100 zQL (0, 0) zS0 1333 [(0, .inr (.inr (-2))), (1, .inr (.inr 0)), (2, .inr (.inr 56)), (3, .inl i)] [] M2) : zW mL_law 100 zQL (0, 0) zS0 942 [(0, .inr (.inr (-2))), (1, .inr (.inr 0)), (2, .inr (.inr 56)), (3, .inl i)] [] M := by
  refine z_aload_n 1 (zdec DL_law_14 26 rfl) rfl rfl (by decide) ?_
  refine z_aload_n 0 (zdec DL_law_14 27 rfl) rfl rfl (by decide) ?_
  refine z_iload_n 3 (zdec DL_law_14 28 rfl) rfl rfl ?_
  refine z_iconst 1 (zdec DL_law_14 29 rfl) (by decide) ?_
  refine z_iadd (zdec DL_law_14 30 rfl) (by unfold z32; omega) ?_
  refine z_sald (zdec DL_law_14 31 rfl) (Or.inl rfl) (by exact ⟨by omega, by omega⟩) ?_
  refine z_inv mX9_body 0 9 [.inl (M (-2) (i + 1))] (zdec DL_law_14 32 rfl) ml_SixWallsLaw_134 okX9_body rfl shp0 rfl rfl rfl rfl (Nat.le_of_ble_eq_true rfl) (Nat.le_of_ble_eq_true rfl) (b' := (0, 0)) ⟨Nat.le_refl 0, Nat.le_refl 0⟩ (Nat.le_of_ble_eq_true rfl) (zW_scr (zK_body hI (M (-2) (i + 1)))) (fun rv9 S9 M1 h9 => ?_)
  obtain ⟨⟨rfl, r, rfl, hw⟩, f1⟩ := h9
  have e1 : M1 (-2) = M (-2) := f1 (-2) (by decide) (by decide)
  change zW _ _ _ _ _ 951 [(0, .inr (.inr (-2))), (1, .inr (.inr 0)), (2, .inr (.inr 56)), (3, .inl i)] [.inl (r)] M1
  refine z_aload_n 2 (zdec DL_law_14 33 rfl) rfl rfl (by decide) ?_
  refine z_aload_n 0 (zdec DL_law_14 34 rfl) rfl rfl (by decide) ?_
  refine z_iload_n 3 (zdec DL_law_14 35 rfl) rfl rfl ?_
  refine z_iconst 1 (zdec DL_law_14 36 rfl) (by decide) ?_
  refine z_iadd (zdec DL_law_14 37 rfl) (by unfold z32; omega) ?_
  refine z_sald (zdec DL_law_14 38 rfl) (Or.inl rfl) (by rw [e1]; exact ⟨by omega, by omega⟩) ?_
  rw [e1]
  refine z_inv mX10_body 56 10 [.inl (M (-2) (i + 1))] (zdec DL_law_14 39 rfl) ml_SixWallsLaw_137 okX10_body rfl shp56 rfl rfl rfl rfl (Nat.le_of_ble_eq_true rfl) (Nat.le_of_ble_eq_true rfl) (b' := (0, 0)) ⟨Nat.le_refl 0, Nat.le_refl 0⟩ (Nat.le_of_ble_eq_true rfl) (zW_scr hw) (fun rv9 S9 M2 h9 => ?_)
  obtain ⟨⟨rfl, rfl, hI2⟩, f2⟩ := h9
  have fr : ∀ x : Int, -5 < x → x < 0 → M2 x = M x := fun x a b => (f2 x a b).trans (f1 x a b)
  change zW _ _ _ _ _ 960 [(0, .inr (.inr (-2))), (1, .inr (.inr 0)), (2, .inr (.inr 56)), (3, .inl i)] [.inl (r), .inl (r)] M2
  exact z_icmp_eq 1333 (zdec DL_law_15 0 rfl) rfl (fun _ => kk M2 hI2 fr) (fun h => absurd rfl h)
set_option maxHeartbeats 4000000 in
theorem zL_c30 {M : zMm} (hI : zI M) {i : Int} (h0 : 0 ≤ i) (h6 : i + 6 ≤ M (-2) (-1)) (hm : M (-2) (-1) < 2147483648) (kk : ∀ M2 : zMm, zI M2 → (∀ x : Int, -5 < x → x < 0 → M2 x = M x) → zW mL_law 100 zQL (0, 0) zS0 1333 [(0, .inr (.inr (-2))), (1, .inr (.inr 0)), (2, .inr (.inr 56)), (3, .inl i)] [] M2) : zW mL_law 100 zQL (0, 0) zS0 965 [(0, .inr (.inr (-2))), (1, .inr (.inr 0)), (2, .inr (.inr 56)), (3, .inl i)] [] M := by
  refine z_aload_n 1 (zdec DL_law_15 3 rfl) rfl rfl (by decide) ?_
  refine z_aload_n 0 (zdec DL_law_15 4 rfl) rfl rfl (by decide) ?_
  refine z_iload_n 3 (zdec DL_law_15 5 rfl) rfl rfl ?_
  refine z_iconst 1 (zdec DL_law_15 6 rfl) (by decide) ?_
  refine z_iadd (zdec DL_law_15 7 rfl) (by unfold z32; omega) ?_
  refine z_sald (zdec DL_law_15 8 rfl) (Or.inl rfl) (by exact ⟨by omega, by omega⟩) ?_
  refine z_aload_n 0 (zdec DL_law_15 9 rfl) rfl rfl (by decide) ?_
  refine z_iload_n 3 (zdec DL_law_15 10 rfl) rfl rfl ?_
  refine z_iconst 2 (zdec DL_law_15 11 rfl) (by decide) ?_
  refine z_iadd (zdec DL_law_15 12 rfl) (by unfold z32; omega) ?_
  refine z_sald (zdec DL_law_15 13 rfl) (Or.inl rfl) (by exact ⟨by omega, by omega⟩) ?_
  refine z_aload_n 0 (zdec DL_law_15 14 rfl) rfl rfl (by decide) ?_
  refine z_iload_n 3 (zdec DL_law_15 15 rfl) rfl rfl ?_
  refine z_iconst 3 (zdec DL_law_15 16 rfl) (by decide) ?_
  refine z_iadd (zdec DL_law_15 17 rfl) (by unfold z32; omega) ?_
  refine z_sald (zdec DL_law_15 18 rfl) (Or.inl rfl) (by exact ⟨by omega, by omega⟩) ?_
  refine z_inv mX9_act 0 9 [.inl (M (-2) (i + 1)), .inl (M (-2) (i + 2)), .inl (M (-2) (i + 3))] (zdec DL_law_15 19 rfl) ml_SixWallsLaw_138 okX9_act rfl shp0 rfl rfl rfl rfl (Nat.le_of_ble_eq_true rfl) (Nat.le_of_ble_eq_true rfl) (b' := (0, 0)) ⟨Nat.le_refl 0, Nat.le_refl 0⟩ (Nat.le_of_ble_eq_true rfl) (zW_scr (zK_act hI (M (-2) (i + 1)) (M (-2) (i + 2)) (M (-2) (i + 3)))) (fun rv9 S9 M1 h9 => ?_)
  obtain ⟨⟨rfl, r, rfl, hw⟩, f1⟩ := h9
  have e1 : M1 (-2) = M (-2) := f1 (-2) (by decide) (by decide)
  change zW _ _ _ _ _ 984 [(0, .inr (.inr (-2))), (1, .inr (.inr 0)), (2, .inr (.inr 56)), (3, .inl i)] [.inl (r)] M1
  refine z_aload_n 2 (zdec DL_law_15 20 rfl) rfl rfl (by decide) ?_
  refine z_aload_n 0 (zdec DL_law_15 21 rfl) rfl rfl (by decide) ?_
  refine z_iload_n 3 (zdec DL_law_15 22 rfl) rfl rfl ?_
  refine z_iconst 1 (zdec DL_law_15 23 rfl) (by decide) ?_
  refine z_iadd (zdec DL_law_15 24 rfl) (by unfold z32; omega) ?_
  refine z_sald (zdec DL_law_15 25 rfl) (Or.inl rfl) (by rw [e1]; exact ⟨by omega, by omega⟩) ?_
  rw [e1]
  refine z_aload_n 0 (zdec DL_law_15 26 rfl) rfl rfl (by decide) ?_
  refine z_iload_n 3 (zdec DL_law_15 27 rfl) rfl rfl ?_
  refine z_iconst 2 (zdec DL_law_15 28 rfl) (by decide) ?_
  refine z_iadd (zdec DL_law_15 29 rfl) (by unfold z32; omega) ?_
  refine z_sald (zdec DL_law_15 30 rfl) (Or.inl rfl) (by rw [e1]; exact ⟨by omega, by omega⟩) ?_
  rw [e1]
  refine z_aload_n 0 (zdec DL_law_15 31 rfl) rfl rfl (by decide) ?_
  refine z_iload_n 3 (zdec DL_law_15 32 rfl) rfl rfl ?_
  refine z_iconst 3 (zdec DL_law_15 33 rfl) (by decide) ?_
  refine z_iadd (zdec DL_law_15 34 rfl) (by unfold z32; omega) ?_
  refine z_sald (zdec DL_law_15 35 rfl) (Or.inl rfl) (by rw [e1]; exact ⟨by omega, by omega⟩) ?_
  rw [e1]
  refine z_inv mX10_act 56 10 [.inl (M (-2) (i + 1)), .inl (M (-2) (i + 2)), .inl (M (-2) (i + 3))] (zdec DL_law_15 36 rfl) ml_SixWallsLaw_141 okX10_act rfl shp56 rfl rfl rfl rfl (Nat.le_of_ble_eq_true rfl) (Nat.le_of_ble_eq_true rfl) (b' := (0, 0)) ⟨Nat.le_refl 0, Nat.le_refl 0⟩ (Nat.le_of_ble_eq_true rfl) (zW_scr hw) (fun rv9 S9 M2 h9 => ?_)
  obtain ⟨⟨rfl, rfl, hI2⟩, f2⟩ := h9
  have fr : ∀ x : Int, -5 < x → x < 0 → M2 x = M x := fun x a b => (f2 x a b).trans (f1 x a b)
  change zW _ _ _ _ _ 1003 [(0, .inr (.inr (-2))), (1, .inr (.inr 0)), (2, .inr (.inr 56)), (3, .inl i)] [.inl (r), .inl (r)] M2
  exact z_icmp_eq 1333 (zdec DL_law_15 37 rfl) rfl (fun _ => kk M2 hI2 fr) (fun h => absurd rfl h)
set_option maxHeartbeats 4000000 in
theorem zL_c31 {M : zMm} (hI : zI M) {i : Int} (h0 : 0 ≤ i) (h6 : i + 6 ≤ M (-2) (-1)) (hm : M (-2) (-1) < 2147483648) (kk : ∀ M2 : zMm, zI M2 → (∀ x : Int, -5 < x → x < 0 → M2 x = M x) → zW mL_law 100 zQL (0, 0) zS0 1333 [(0, .inr (.inr (-2))), (1, .inr (.inr 0)), (2, .inr (.inr 56)), (3, .inl i)] [] M2) : zW mL_law 100 zQL (0, 0) zS0 1008 [(0, .inr (.inr (-2))), (1, .inr (.inr 0)), (2, .inr (.inr 56)), (3, .inl i)] [] M := by
  refine z_aload_n 1 (zdec DL_law_16 0 rfl) rfl rfl (by decide) ?_
  refine z_aload_n 0 (zdec DL_law_16 1 rfl) rfl rfl (by decide) ?_
  refine z_iload_n 3 (zdec DL_law_16 2 rfl) rfl rfl ?_
  refine z_iconst 1 (zdec DL_law_16 3 rfl) (by decide) ?_
  refine z_iadd (zdec DL_law_16 4 rfl) (by unfold z32; omega) ?_
  refine z_sald (zdec DL_law_16 5 rfl) (Or.inl rfl) (by exact ⟨by omega, by omega⟩) ?_
  refine z_inv mX9_trace 0 9 [.inl (M (-2) (i + 1))] (zdec DL_law_16 6 rfl) ml_SixWallsLaw_142 okX9_trace rfl shp0 rfl rfl rfl rfl (Nat.le_of_ble_eq_true rfl) (Nat.le_of_ble_eq_true rfl) (b' := (0, 0)) ⟨Nat.le_refl 0, Nat.le_refl 0⟩ (Nat.le_of_ble_eq_true rfl) (zW_scr (zK_trace hI (M (-2) (i + 1)))) (fun rv9 S9 M1 h9 => ?_)
  obtain ⟨⟨rfl, r, rfl, hw⟩, f1⟩ := h9
  have e1 : M1 (-2) = M (-2) := f1 (-2) (by decide) (by decide)
  change zW _ _ _ _ _ 1017 [(0, .inr (.inr (-2))), (1, .inr (.inr 0)), (2, .inr (.inr 56)), (3, .inl i)] [.inl (r)] M1
  refine z_aload_n 2 (zdec DL_law_16 7 rfl) rfl rfl (by decide) ?_
  refine z_aload_n 0 (zdec DL_law_16 8 rfl) rfl rfl (by decide) ?_
  refine z_iload_n 3 (zdec DL_law_16 9 rfl) rfl rfl ?_
  refine z_iconst 1 (zdec DL_law_16 10 rfl) (by decide) ?_
  refine z_iadd (zdec DL_law_16 11 rfl) (by unfold z32; omega) ?_
  refine z_sald (zdec DL_law_16 12 rfl) (Or.inl rfl) (by rw [e1]; exact ⟨by omega, by omega⟩) ?_
  rw [e1]
  refine z_inv mX10_trace 56 10 [.inl (M (-2) (i + 1))] (zdec DL_law_16 13 rfl) ml_SixWallsLaw_145 okX10_trace rfl shp56 rfl rfl rfl rfl (Nat.le_of_ble_eq_true rfl) (Nat.le_of_ble_eq_true rfl) (b' := (0, 0)) ⟨Nat.le_refl 0, Nat.le_refl 0⟩ (Nat.le_of_ble_eq_true rfl) (zW_scr hw) (fun rv9 S9 M2 h9 => ?_)
  obtain ⟨⟨rfl, rfl, hI2⟩, f2⟩ := h9
  have fr : ∀ x : Int, -5 < x → x < 0 → M2 x = M x := fun x a b => (f2 x a b).trans (f1 x a b)
  change zW _ _ _ _ _ 1026 [(0, .inr (.inr (-2))), (1, .inr (.inr 0)), (2, .inr (.inr 56)), (3, .inl i)] [.inl (r), .inl (r)] M2
  exact z_icmp_eq 1333 (zdec DL_law_16 14 rfl) rfl (fun _ => kk M2 hI2 fr) (fun h => absurd rfl h)
set_option maxHeartbeats 4000000 in
theorem zL_c32 {M : zMm} (hI : zI M) {i : Int} (h0 : 0 ≤ i) (h6 : i + 6 ≤ M (-2) (-1)) (hm : M (-2) (-1) < 2147483648) (kk : ∀ M2 : zMm, zI M2 → (∀ x : Int, -5 < x → x < 0 → M2 x = M x) → zW mL_law 100 zQL (0, 0) zS0 1333 [(0, .inr (.inr (-2))), (1, .inr (.inr 0)), (2, .inr (.inr 56)), (3, .inl i)] [] M2) : zW mL_law 100 zQL (0, 0) zS0 1031 [(0, .inr (.inr (-2))), (1, .inr (.inr 0)), (2, .inr (.inr 56)), (3, .inl i)] [] M := by
  refine z_aload_n 1 (zdec DL_law_16 17 rfl) rfl rfl (by decide) ?_
  refine z_aload_n 0 (zdec DL_law_16 18 rfl) rfl rfl (by decide) ?_
  refine z_iload_n 3 (zdec DL_law_16 19 rfl) rfl rfl ?_
  refine z_iconst 1 (zdec DL_law_16 20 rfl) (by decide) ?_
  refine z_iadd (zdec DL_law_16 21 rfl) (by unfold z32; omega) ?_
  refine z_sald (zdec DL_law_16 22 rfl) (Or.inl rfl) (by exact ⟨by omega, by omega⟩) ?_
  refine z_aload_n 0 (zdec DL_law_16 23 rfl) rfl rfl (by decide) ?_
  refine z_iload_n 3 (zdec DL_law_16 24 rfl) rfl rfl ?_
  refine z_iconst 2 (zdec DL_law_16 25 rfl) (by decide) ?_
  refine z_iadd (zdec DL_law_16 26 rfl) (by unfold z32; omega) ?_
  refine z_sald (zdec DL_law_16 27 rfl) (Or.inl rfl) (by exact ⟨by omega, by omega⟩) ?_
  refine z_inv mX9_keep 0 9 [.inl (M (-2) (i + 1)), .inl (M (-2) (i + 2))] (zdec DL_law_16 28 rfl) ml_SixWallsLaw_146 okX9_keep rfl shp0 rfl rfl rfl rfl (Nat.le_of_ble_eq_true rfl) (Nat.le_of_ble_eq_true rfl) (b' := (0, 0)) ⟨Nat.le_refl 0, Nat.le_refl 0⟩ (Nat.le_of_ble_eq_true rfl) (zW_scr (zK_keep hI (M (-2) (i + 1)) (M (-2) (i + 2)))) (fun rv9 S9 M1 h9 => ?_)
  obtain ⟨⟨rfl, r, rfl, hw⟩, f1⟩ := h9
  have e1 : M1 (-2) = M (-2) := f1 (-2) (by decide) (by decide)
  change zW _ _ _ _ _ 1045 [(0, .inr (.inr (-2))), (1, .inr (.inr 0)), (2, .inr (.inr 56)), (3, .inl i)] [.inl (r)] M1
  refine z_aload_n 2 (zdec DL_law_16 29 rfl) rfl rfl (by decide) ?_
  refine z_aload_n 0 (zdec DL_law_16 30 rfl) rfl rfl (by decide) ?_
  refine z_iload_n 3 (zdec DL_law_16 31 rfl) rfl rfl ?_
  refine z_iconst 1 (zdec DL_law_16 32 rfl) (by decide) ?_
  refine z_iadd (zdec DL_law_16 33 rfl) (by unfold z32; omega) ?_
  refine z_sald (zdec DL_law_16 34 rfl) (Or.inl rfl) (by rw [e1]; exact ⟨by omega, by omega⟩) ?_
  rw [e1]
  refine z_aload_n 0 (zdec DL_law_16 35 rfl) rfl rfl (by decide) ?_
  refine z_iload_n 3 (zdec DL_law_16 36 rfl) rfl rfl ?_
  refine z_iconst 2 (zdec DL_law_16 37 rfl) (by decide) ?_
  refine z_iadd (zdec DL_law_16 38 rfl) (by unfold z32; omega) ?_
  refine z_sald (zdec DL_law_16 39 rfl) (Or.inl rfl) (by rw [e1]; exact ⟨by omega, by omega⟩) ?_
  rw [e1]
  refine z_inv mX10_keep 56 10 [.inl (M (-2) (i + 1)), .inl (M (-2) (i + 2))] (zdec DL_law_17 0 rfl) ml_SixWallsLaw_149 okX10_keep rfl shp56 rfl rfl rfl rfl (Nat.le_of_ble_eq_true rfl) (Nat.le_of_ble_eq_true rfl) (b' := (0, 0)) ⟨Nat.le_refl 0, Nat.le_refl 0⟩ (Nat.le_of_ble_eq_true rfl) (zW_scr hw) (fun rv9 S9 M2 h9 => ?_)
  obtain ⟨⟨rfl, rfl, hI2⟩, f2⟩ := h9
  have fr : ∀ x : Int, -5 < x → x < 0 → M2 x = M x := fun x a b => (f2 x a b).trans (f1 x a b)
  change zW _ _ _ _ _ 1059 [(0, .inr (.inr (-2))), (1, .inr (.inr 0)), (2, .inr (.inr 56)), (3, .inl i)] [.inl (r), .inl (r)] M2
  exact z_icmp_eq 1333 (zdec DL_law_17 1 rfl) rfl (fun _ => kk M2 hI2 fr) (fun h => absurd rfl h)
set_option maxHeartbeats 4000000 in
theorem zL_c33 {M : zMm} (hI : zI M) {i : Int} (h0 : 0 ≤ i) (h6 : i + 6 ≤ M (-2) (-1)) (hm : M (-2) (-1) < 2147483648) (kk : ∀ M2 : zMm, zI M2 → (∀ x : Int, -5 < x → x < 0 → M2 x = M x) → zW mL_law 100 zQL (0, 0) zS0 1333 [(0, .inr (.inr (-2))), (1, .inr (.inr 0)), (2, .inr (.inr 56)), (3, .inl i)] [] M2) : zW mL_law 100 zQL (0, 0) zS0 1064 [(0, .inr (.inr (-2))), (1, .inr (.inr 0)), (2, .inr (.inr 56)), (3, .inl i)] [] M := by
  refine z_aload_n 1 (zdec DL_law_17 4 rfl) rfl rfl (by decide) ?_
  refine z_aload_n 0 (zdec DL_law_17 5 rfl) rfl rfl (by decide) ?_
  refine z_iload_n 3 (zdec DL_law_17 6 rfl) rfl rfl ?_
  refine z_iconst 1 (zdec DL_law_17 7 rfl) (by decide) ?_
  refine z_iadd (zdec DL_law_17 8 rfl) (by unfold z32; omega) ?_
  refine z_sald (zdec DL_law_17 9 rfl) (Or.inl rfl) (by exact ⟨by omega, by omega⟩) ?_
  refine z_aload_n 0 (zdec DL_law_17 10 rfl) rfl rfl (by decide) ?_
  refine z_iload_n 3 (zdec DL_law_17 11 rfl) rfl rfl ?_
  refine z_iconst 2 (zdec DL_law_17 12 rfl) (by decide) ?_
  refine z_iadd (zdec DL_law_17 13 rfl) (by unfold z32; omega) ?_
  refine z_sald (zdec DL_law_17 14 rfl) (Or.inl rfl) (by exact ⟨by omega, by omega⟩) ?_
  refine z_aload_n 0 (zdec DL_law_17 15 rfl) rfl rfl (by decide) ?_
  refine z_iload_n 3 (zdec DL_law_17 16 rfl) rfl rfl ?_
  refine z_iconst 3 (zdec DL_law_17 17 rfl) (by decide) ?_
  refine z_iadd (zdec DL_law_17 18 rfl) (by unfold z32; omega) ?_
  refine z_sald (zdec DL_law_17 19 rfl) (Or.inl rfl) (by exact ⟨by omega, by omega⟩) ?_
  refine z_inv mX9_row 0 9 [.inl (M (-2) (i + 1)), .inl (M (-2) (i + 2)), .inl (M (-2) (i + 3))] (zdec DL_law_17 20 rfl) ml_SixWallsLaw_150 okX9_row rfl shp0 rfl rfl rfl rfl (Nat.le_of_ble_eq_true rfl) (Nat.le_of_ble_eq_true rfl) (b' := (0, 0)) ⟨Nat.le_refl 0, Nat.le_refl 0⟩ (Nat.le_of_ble_eq_true rfl) (zW_scr (zK_row hI (M (-2) (i + 1)) (M (-2) (i + 2)) (M (-2) (i + 3)))) (fun rv9 S9 M1 h9 => ?_)
  obtain ⟨⟨rfl, r, rfl, hw⟩, f1⟩ := h9
  have e1 : M1 (-2) = M (-2) := f1 (-2) (by decide) (by decide)
  change zW _ _ _ _ _ 1083 [(0, .inr (.inr (-2))), (1, .inr (.inr 0)), (2, .inr (.inr 56)), (3, .inl i)] [.inl (r)] M1
  refine z_aload_n 2 (zdec DL_law_17 21 rfl) rfl rfl (by decide) ?_
  refine z_aload_n 0 (zdec DL_law_17 22 rfl) rfl rfl (by decide) ?_
  refine z_iload_n 3 (zdec DL_law_17 23 rfl) rfl rfl ?_
  refine z_iconst 1 (zdec DL_law_17 24 rfl) (by decide) ?_
  refine z_iadd (zdec DL_law_17 25 rfl) (by unfold z32; omega) ?_
  refine z_sald (zdec DL_law_17 26 rfl) (Or.inl rfl) (by rw [e1]; exact ⟨by omega, by omega⟩) ?_
  rw [e1]
  refine z_aload_n 0 (zdec DL_law_17 27 rfl) rfl rfl (by decide) ?_
  refine z_iload_n 3 (zdec DL_law_17 28 rfl) rfl rfl ?_
  refine z_iconst 2 (zdec DL_law_17 29 rfl) (by decide) ?_
  refine z_iadd (zdec DL_law_17 30 rfl) (by unfold z32; omega) ?_
  refine z_sald (zdec DL_law_17 31 rfl) (Or.inl rfl) (by rw [e1]; exact ⟨by omega, by omega⟩) ?_
  rw [e1]
  refine z_aload_n 0 (zdec DL_law_17 32 rfl) rfl rfl (by decide) ?_
  refine z_iload_n 3 (zdec DL_law_17 33 rfl) rfl rfl ?_
  refine z_iconst 3 (zdec DL_law_17 34 rfl) (by decide) ?_
  refine z_iadd (zdec DL_law_17 35 rfl) (by unfold z32; omega) ?_
  refine z_sald (zdec DL_law_17 36 rfl) (Or.inl rfl) (by rw [e1]; exact ⟨by omega, by omega⟩) ?_
  rw [e1]
  refine z_inv mX10_row 56 10 [.inl (M (-2) (i + 1)), .inl (M (-2) (i + 2)), .inl (M (-2) (i + 3))] (zdec DL_law_17 37 rfl) ml_SixWallsLaw_153 okX10_row rfl shp56 rfl rfl rfl rfl (Nat.le_of_ble_eq_true rfl) (Nat.le_of_ble_eq_true rfl) (b' := (0, 0)) ⟨Nat.le_refl 0, Nat.le_refl 0⟩ (Nat.le_of_ble_eq_true rfl) (zW_scr hw) (fun rv9 S9 M2 h9 => ?_)
  obtain ⟨⟨rfl, rfl, hI2⟩, f2⟩ := h9
  have fr : ∀ x : Int, -5 < x → x < 0 → M2 x = M x := fun x a b => (f2 x a b).trans (f1 x a b)
  change zW _ _ _ _ _ 1102 [(0, .inr (.inr (-2))), (1, .inr (.inr 0)), (2, .inr (.inr 56)), (3, .inl i)] [.inl (r), .inl (r)] M2
  exact z_icmp_eq 1333 (zdec DL_law_17 38 rfl) rfl (fun _ => kk M2 hI2 fr) (fun h => absurd rfl h)
set_option maxHeartbeats 4000000 in
theorem zL_c34 {M : zMm} (hI : zI M) {i : Int} (h0 : 0 ≤ i) (h6 : i + 6 ≤ M (-2) (-1)) (hm : M (-2) (-1) < 2147483648) (kk : ∀ M2 : zMm, zI M2 → (∀ x : Int, -5 < x → x < 0 → M2 x = M x) → zW mL_law 100 zQL (0, 0) zS0 1333 [(0, .inr (.inr (-2))), (1, .inr (.inr 0)), (2, .inr (.inr 56)), (3, .inl i)] [] M2) : zW mL_law 100 zQL (0, 0) zS0 1107 [(0, .inr (.inr (-2))), (1, .inr (.inr 0)), (2, .inr (.inr 56)), (3, .inl i)] [] M := by
  refine z_aload_n 1 (zdec DL_law_18 1 rfl) rfl rfl (by decide) ?_
  refine z_aload_n 0 (zdec DL_law_18 2 rfl) rfl rfl (by decide) ?_
  refine z_iload_n 3 (zdec DL_law_18 3 rfl) rfl rfl ?_
  refine z_iconst 1 (zdec DL_law_18 4 rfl) (by decide) ?_
  refine z_iadd (zdec DL_law_18 5 rfl) (by unfold z32; omega) ?_
  refine z_sald (zdec DL_law_18 6 rfl) (Or.inl rfl) (by exact ⟨by omega, by omega⟩) ?_
  refine z_aload_n 0 (zdec DL_law_18 7 rfl) rfl rfl (by decide) ?_
  refine z_iload_n 3 (zdec DL_law_18 8 rfl) rfl rfl ?_
  refine z_iconst 2 (zdec DL_law_18 9 rfl) (by decide) ?_
  refine z_iadd (zdec DL_law_18 10 rfl) (by unfold z32; omega) ?_
  refine z_sald (zdec DL_law_18 11 rfl) (Or.inl rfl) (by exact ⟨by omega, by omega⟩) ?_
  refine z_aload_n 0 (zdec DL_law_18 12 rfl) rfl rfl (by decide) ?_
  refine z_iload_n 3 (zdec DL_law_18 13 rfl) rfl rfl ?_
  refine z_iconst 3 (zdec DL_law_18 14 rfl) (by decide) ?_
  refine z_iadd (zdec DL_law_18 15 rfl) (by unfold z32; omega) ?_
  refine z_sald (zdec DL_law_18 16 rfl) (Or.inl rfl) (by exact ⟨by omega, by omega⟩) ?_
  refine z_i2l (zdec DL_law_18 17 rfl) ?_
  refine z_bipush 32 (zdec DL_law_18 18 rfl) (by decide) ?_
  refine z_lshl (zdec DL_law_18 19 rfl) ?_
  refine z_aload_n 0 (zdec DL_law_18 20 rfl) rfl rfl (by decide) ?_
  refine z_iload_n 3 (zdec DL_law_18 21 rfl) rfl rfl ?_
  refine z_iconst 4 (zdec DL_law_18 22 rfl) (by decide) ?_
  refine z_iadd (zdec DL_law_18 23 rfl) (by unfold z32; omega) ?_
  refine z_sald (zdec DL_law_18 24 rfl) (Or.inl rfl) (by exact ⟨by omega, by omega⟩) ?_
  refine z_i2l (zdec DL_law_18 25 rfl) ?_
  refine z_ldc2 4294967295 (zdec DL_law_18 26 rfl) kl_SixWallsLaw_154 rfl ⟨by decide, by decide⟩ ?_
  refine z_land (zdec DL_law_18 27 rfl) ?_
  refine z_lor (zdec DL_law_18 28 rfl) ?_
  refine z_inv mX9_put 0 9 [.inl (M (-2) (i + 1)), .inl (M (-2) (i + 2)), .inr (.inl (zlor (zlshl (M (-2) (i + 3)) 32) (zland (M (-2) (i + 4)) 4294967295)))] (zdec DL_law_18 29 rfl) ml_SixWallsLaw_156 okX9_put rfl shp0 rfl rfl rfl rfl (Nat.le_of_ble_eq_true rfl) (Nat.le_of_ble_eq_true rfl) (b' := (0, 0)) ⟨Nat.le_refl 0, Nat.le_refl 0⟩ (Nat.le_of_ble_eq_true rfl) (zW_scr (zK_put hI (M (-2) (i + 1)) (M (-2) (i + 2)) (zlor (zlshl (M (-2) (i + 3)) 32) (zland (M (-2) (i + 4)) 4294967295)))) (fun rv9 S9 M1 h9 => ?_)
  obtain ⟨⟨rfl, r, rfl, hw⟩, f1⟩ := h9
  have e1 : M1 (-2) = M (-2) := f1 (-2) (by decide) (by decide)
  change zW _ _ _ _ _ 1141 [(0, .inr (.inr (-2))), (1, .inr (.inr 0)), (2, .inr (.inr 56)), (3, .inl i)] [.inl (r)] M1
  refine z_aload_n 2 (zdec DL_law_18 30 rfl) rfl rfl (by decide) ?_
  refine z_aload_n 0 (zdec DL_law_18 31 rfl) rfl rfl (by decide) ?_
  refine z_iload_n 3 (zdec DL_law_18 32 rfl) rfl rfl ?_
  refine z_iconst 1 (zdec DL_law_18 33 rfl) (by decide) ?_
  refine z_iadd (zdec DL_law_18 34 rfl) (by unfold z32; omega) ?_
  refine z_sald (zdec DL_law_18 35 rfl) (Or.inl rfl) (by rw [e1]; exact ⟨by omega, by omega⟩) ?_
  rw [e1]
  refine z_aload_n 0 (zdec DL_law_18 36 rfl) rfl rfl (by decide) ?_
  refine z_iload_n 3 (zdec DL_law_18 37 rfl) rfl rfl ?_
  refine z_iconst 2 (zdec DL_law_18 38 rfl) (by decide) ?_
  refine z_iadd (zdec DL_law_18 39 rfl) (by unfold z32; omega) ?_
  refine z_sald (zdec DL_law_19 0 rfl) (Or.inl rfl) (by rw [e1]; exact ⟨by omega, by omega⟩) ?_
  rw [e1]
  refine z_aload_n 0 (zdec DL_law_19 1 rfl) rfl rfl (by decide) ?_
  refine z_iload_n 3 (zdec DL_law_19 2 rfl) rfl rfl ?_
  refine z_iconst 3 (zdec DL_law_19 3 rfl) (by decide) ?_
  refine z_iadd (zdec DL_law_19 4 rfl) (by unfold z32; omega) ?_
  refine z_sald (zdec DL_law_19 5 rfl) (Or.inl rfl) (by rw [e1]; exact ⟨by omega, by omega⟩) ?_
  rw [e1]
  refine z_i2l (zdec DL_law_19 6 rfl) ?_
  refine z_bipush 32 (zdec DL_law_19 7 rfl) (by decide) ?_
  refine z_lshl (zdec DL_law_19 8 rfl) ?_
  refine z_aload_n 0 (zdec DL_law_19 9 rfl) rfl rfl (by decide) ?_
  refine z_iload_n 3 (zdec DL_law_19 10 rfl) rfl rfl ?_
  refine z_iconst 4 (zdec DL_law_19 11 rfl) (by decide) ?_
  refine z_iadd (zdec DL_law_19 12 rfl) (by unfold z32; omega) ?_
  refine z_sald (zdec DL_law_19 13 rfl) (Or.inl rfl) (by rw [e1]; exact ⟨by omega, by omega⟩) ?_
  rw [e1]
  refine z_i2l (zdec DL_law_19 14 rfl) ?_
  refine z_ldc2 4294967295 (zdec DL_law_19 15 rfl) kl_SixWallsLaw_154 rfl ⟨by decide, by decide⟩ ?_
  refine z_land (zdec DL_law_19 16 rfl) ?_
  refine z_lor (zdec DL_law_19 17 rfl) ?_
  refine z_inv mX10_put 56 10 [.inl (M (-2) (i + 1)), .inl (M (-2) (i + 2)), .inr (.inl (zlor (zlshl (M (-2) (i + 3)) 32) (zland (M (-2) (i + 4)) 4294967295)))] (zdec DL_law_19 18 rfl) ml_SixWallsLaw_160 okX10_put rfl shp56 rfl rfl rfl rfl (Nat.le_of_ble_eq_true rfl) (Nat.le_of_ble_eq_true rfl) (b' := (0, 0)) ⟨Nat.le_refl 0, Nat.le_refl 0⟩ (Nat.le_of_ble_eq_true rfl) (zW_scr hw) (fun rv9 S9 M2 h9 => ?_)
  obtain ⟨⟨rfl, rfl, hI2⟩, f2⟩ := h9
  have fr : ∀ x : Int, -5 < x → x < 0 → M2 x = M x := fun x a b => (f2 x a b).trans (f1 x a b)
  change zW _ _ _ _ _ 1175 [(0, .inr (.inr (-2))), (1, .inr (.inr 0)), (2, .inr (.inr 56)), (3, .inl i)] [.inl (r), .inl (r)] M2
  exact z_icmp_eq 1333 (zdec DL_law_19 19 rfl) rfl (fun _ => kk M2 hI2 fr) (fun h => absurd rfl h)
set_option maxHeartbeats 4000000 in
theorem zL_c35 {M : zMm} (hI : zI M) {i : Int} (h0 : 0 ≤ i) (h6 : i + 6 ≤ M (-2) (-1)) (hm : M (-2) (-1) < 2147483648) (kk : ∀ M2 : zMm, zI M2 → (∀ x : Int, -5 < x → x < 0 → M2 x = M x) → zW mL_law 100 zQL (0, 0) zS0 1333 [(0, .inr (.inr (-2))), (1, .inr (.inr 0)), (2, .inr (.inr 56)), (3, .inl i)] [] M2) : zW mL_law 100 zQL (0, 0) zS0 1180 [(0, .inr (.inr (-2))), (1, .inr (.inr 0)), (2, .inr (.inr 56)), (3, .inl i)] [] M := by
  refine z_aload_n 1 (zdec DL_law_19 22 rfl) rfl rfl (by decide) ?_
  refine z_aload_n 0 (zdec DL_law_19 23 rfl) rfl rfl (by decide) ?_
  refine z_iload_n 3 (zdec DL_law_19 24 rfl) rfl rfl ?_
  refine z_iconst 1 (zdec DL_law_19 25 rfl) (by decide) ?_
  refine z_iadd (zdec DL_law_19 26 rfl) (by unfold z32; omega) ?_
  refine z_sald (zdec DL_law_19 27 rfl) (Or.inl rfl) (by exact ⟨by omega, by omega⟩) ?_
  refine z_aload_n 0 (zdec DL_law_19 28 rfl) rfl rfl (by decide) ?_
  refine z_iload_n 3 (zdec DL_law_19 29 rfl) rfl rfl ?_
  refine z_iconst 2 (zdec DL_law_19 30 rfl) (by decide) ?_
  refine z_iadd (zdec DL_law_19 31 rfl) (by unfold z32; omega) ?_
  refine z_sald (zdec DL_law_19 32 rfl) (Or.inl rfl) (by exact ⟨by omega, by omega⟩) ?_
  refine z_inv mX9_element 0 9 [.inl (M (-2) (i + 1)), .inl (M (-2) (i + 2))] (zdec DL_law_19 33 rfl) ml_SixWallsLaw_161 okX9_element rfl shp0 rfl rfl rfl rfl (Nat.le_of_ble_eq_true rfl) (Nat.le_of_ble_eq_true rfl) (b' := (0, 0)) ⟨Nat.le_refl 0, Nat.le_refl 0⟩ (Nat.le_of_ble_eq_true rfl) (zW_scr (zK_element hI (M (-2) (i + 1)) (M (-2) (i + 2)))) (fun rv9 S9 M1 h9 => ?_)
  obtain ⟨⟨rfl, r, rfl, hw⟩, f1⟩ := h9
  have e1 : M1 (-2) = M (-2) := f1 (-2) (by decide) (by decide)
  change zW _ _ _ _ _ 1194 [(0, .inr (.inr (-2))), (1, .inr (.inr 0)), (2, .inr (.inr 56)), (3, .inl i)] [.inr (.inl (r))] M1
  refine z_aload_n 2 (zdec DL_law_19 34 rfl) rfl rfl (by decide) ?_
  refine z_aload_n 0 (zdec DL_law_19 35 rfl) rfl rfl (by decide) ?_
  refine z_iload_n 3 (zdec DL_law_19 36 rfl) rfl rfl ?_
  refine z_iconst 1 (zdec DL_law_19 37 rfl) (by decide) ?_
  refine z_iadd (zdec DL_law_19 38 rfl) (by unfold z32; omega) ?_
  refine z_sald (zdec DL_law_19 39 rfl) (Or.inl rfl) (by rw [e1]; exact ⟨by omega, by omega⟩) ?_
  rw [e1]
  refine z_aload_n 0 (zdec DL_law_20 0 rfl) rfl rfl (by decide) ?_
  refine z_iload_n 3 (zdec DL_law_20 1 rfl) rfl rfl ?_
  refine z_iconst 2 (zdec DL_law_20 2 rfl) (by decide) ?_
  refine z_iadd (zdec DL_law_20 3 rfl) (by unfold z32; omega) ?_
  refine z_sald (zdec DL_law_20 4 rfl) (Or.inl rfl) (by rw [e1]; exact ⟨by omega, by omega⟩) ?_
  rw [e1]
  refine z_inv mX10_element 56 10 [.inl (M (-2) (i + 1)), .inl (M (-2) (i + 2))] (zdec DL_law_20 5 rfl) ml_SixWallsLaw_165 okX10_element rfl shp56 rfl rfl rfl rfl (Nat.le_of_ble_eq_true rfl) (Nat.le_of_ble_eq_true rfl) (b' := (0, 0)) ⟨Nat.le_refl 0, Nat.le_refl 0⟩ (Nat.le_of_ble_eq_true rfl) (zW_scr hw) (fun rv9 S9 M2 h9 => ?_)
  obtain ⟨⟨rfl, rfl, hI2⟩, f2⟩ := h9
  have fr : ∀ x : Int, -5 < x → x < 0 → M2 x = M x := fun x a b => (f2 x a b).trans (f1 x a b)
  change zW _ _ _ _ _ 1208 [(0, .inr (.inr (-2))), (1, .inr (.inr 0)), (2, .inr (.inr 56)), (3, .inl i)] [.inr (.inl (r)), .inr (.inl (r))] M2
  refine z_lcmp (zdec DL_law_20 6 rfl) ?_
  exact z_if_eq 1333 (zdec DL_law_20 7 rfl) rfl (fun _ => kk M2 hI2 fr) (fun h => absurd (zcmp_s r) h)
set_option maxHeartbeats 4000000 in
theorem zL_c36 {M : zMm} (hI : zI M) {i : Int} (h0 : 0 ≤ i) (h6 : i + 6 ≤ M (-2) (-1)) (hm : M (-2) (-1) < 2147483648) (kk : ∀ M2 : zMm, zI M2 → (∀ x : Int, -5 < x → x < 0 → M2 x = M x) → zW mL_law 100 zQL (0, 0) zS0 1333 [(0, .inr (.inr (-2))), (1, .inr (.inr 0)), (2, .inr (.inr 56)), (3, .inl i)] [] M2) : zW mL_law 100 zQL (0, 0) zS0 1214 [(0, .inr (.inr (-2))), (1, .inr (.inr 0)), (2, .inr (.inr 56)), (3, .inl i)] [] M := by
  refine z_aload_n 1 (zdec DL_law_20 10 rfl) rfl rfl (by decide) ?_
  refine z_aload_n 0 (zdec DL_law_20 11 rfl) rfl rfl (by decide) ?_
  refine z_iload_n 3 (zdec DL_law_20 12 rfl) rfl rfl ?_
  refine z_iconst 1 (zdec DL_law_20 13 rfl) (by decide) ?_
  refine z_iadd (zdec DL_law_20 14 rfl) (by unfold z32; omega) ?_
  refine z_sald (zdec DL_law_20 15 rfl) (Or.inl rfl) (by exact ⟨by omega, by omega⟩) ?_
  refine z_aload_n 0 (zdec DL_law_20 16 rfl) rfl rfl (by decide) ?_
  refine z_iload_n 3 (zdec DL_law_20 17 rfl) rfl rfl ?_
  refine z_iconst 2 (zdec DL_law_20 18 rfl) (by decide) ?_
  refine z_iadd (zdec DL_law_20 19 rfl) (by unfold z32; omega) ?_
  refine z_sald (zdec DL_law_20 20 rfl) (Or.inl rfl) (by exact ⟨by omega, by omega⟩) ?_
  refine z_aload_n 0 (zdec DL_law_20 21 rfl) rfl rfl (by decide) ?_
  refine z_iload_n 3 (zdec DL_law_20 22 rfl) rfl rfl ?_
  refine z_iconst 3 (zdec DL_law_20 23 rfl) (by decide) ?_
  refine z_iadd (zdec DL_law_20 24 rfl) (by unfold z32; omega) ?_
  refine z_sald (zdec DL_law_20 25 rfl) (Or.inl rfl) (by exact ⟨by omega, by omega⟩) ?_
  refine z_aload_n 0 (zdec DL_law_20 26 rfl) rfl rfl (by decide) ?_
  refine z_iload_n 3 (zdec DL_law_20 27 rfl) rfl rfl ?_
  refine z_iconst 4 (zdec DL_law_20 28 rfl) (by decide) ?_
  refine z_iadd (zdec DL_law_20 29 rfl) (by unfold z32; omega) ?_
  refine z_sald (zdec DL_law_20 30 rfl) (Or.inl rfl) (by exact ⟨by omega, by omega⟩) ?_
  refine z_aload_n 0 (zdec DL_law_20 31 rfl) rfl rfl (by decide) ?_
  refine z_iload_n 3 (zdec DL_law_20 32 rfl) rfl rfl ?_
  refine z_iconst 5 (zdec DL_law_20 33 rfl) (by decide) ?_
  refine z_iadd (zdec DL_law_20 34 rfl) (by unfold z32; omega) ?_
  refine z_sald (zdec DL_law_20 35 rfl) (Or.inl rfl) (by exact ⟨by omega, by omega⟩) ?_
  refine z_inv mX9_shift 0 9 [.inl (M (-2) (i + 1)), .inl (M (-2) (i + 2)), .inl (M (-2) (i + 3)), .inl (M (-2) (i + 4)), .inl (M (-2) (i + 5))] (zdec DL_law_20 36 rfl) ml_SixWallsLaw_166 okX9_shift rfl shp0 rfl rfl rfl rfl (Nat.le_of_ble_eq_true rfl) (Nat.le_of_ble_eq_true rfl) (b' := (0, 0)) ⟨Nat.le_refl 0, Nat.le_refl 0⟩ (Nat.le_of_ble_eq_true rfl) (zW_scr (zK_shift hI (M (-2) (i + 1)) (M (-2) (i + 2)) (M (-2) (i + 3)) (M (-2) (i + 4)) (M (-2) (i + 5)))) (fun rv9 S9 M1 h9 => ?_)
  obtain ⟨⟨rfl, r, rfl, hw⟩, f1⟩ := h9
  have e1 : M1 (-2) = M (-2) := f1 (-2) (by decide) (by decide)
  change zW _ _ _ _ _ 1243 [(0, .inr (.inr (-2))), (1, .inr (.inr 0)), (2, .inr (.inr 56)), (3, .inl i)] [.inl (r)] M1
  refine z_aload_n 2 (zdec DL_law_20 37 rfl) rfl rfl (by decide) ?_
  refine z_aload_n 0 (zdec DL_law_20 38 rfl) rfl rfl (by decide) ?_
  refine z_iload_n 3 (zdec DL_law_20 39 rfl) rfl rfl ?_
  refine z_iconst 1 (zdec DL_law_21 0 rfl) (by decide) ?_
  refine z_iadd (zdec DL_law_21 1 rfl) (by unfold z32; omega) ?_
  refine z_sald (zdec DL_law_21 2 rfl) (Or.inl rfl) (by rw [e1]; exact ⟨by omega, by omega⟩) ?_
  rw [e1]
  refine z_aload_n 0 (zdec DL_law_21 3 rfl) rfl rfl (by decide) ?_
  refine z_iload_n 3 (zdec DL_law_21 4 rfl) rfl rfl ?_
  refine z_iconst 2 (zdec DL_law_21 5 rfl) (by decide) ?_
  refine z_iadd (zdec DL_law_21 6 rfl) (by unfold z32; omega) ?_
  refine z_sald (zdec DL_law_21 7 rfl) (Or.inl rfl) (by rw [e1]; exact ⟨by omega, by omega⟩) ?_
  rw [e1]
  refine z_aload_n 0 (zdec DL_law_21 8 rfl) rfl rfl (by decide) ?_
  refine z_iload_n 3 (zdec DL_law_21 9 rfl) rfl rfl ?_
  refine z_iconst 3 (zdec DL_law_21 10 rfl) (by decide) ?_
  refine z_iadd (zdec DL_law_21 11 rfl) (by unfold z32; omega) ?_
  refine z_sald (zdec DL_law_21 12 rfl) (Or.inl rfl) (by rw [e1]; exact ⟨by omega, by omega⟩) ?_
  rw [e1]
  refine z_aload_n 0 (zdec DL_law_21 13 rfl) rfl rfl (by decide) ?_
  refine z_iload_n 3 (zdec DL_law_21 14 rfl) rfl rfl ?_
  refine z_iconst 4 (zdec DL_law_21 15 rfl) (by decide) ?_
  refine z_iadd (zdec DL_law_21 16 rfl) (by unfold z32; omega) ?_
  refine z_sald (zdec DL_law_21 17 rfl) (Or.inl rfl) (by rw [e1]; exact ⟨by omega, by omega⟩) ?_
  rw [e1]
  refine z_aload_n 0 (zdec DL_law_21 18 rfl) rfl rfl (by decide) ?_
  refine z_iload_n 3 (zdec DL_law_21 19 rfl) rfl rfl ?_
  refine z_iconst 5 (zdec DL_law_21 20 rfl) (by decide) ?_
  refine z_iadd (zdec DL_law_21 21 rfl) (by unfold z32; omega) ?_
  refine z_sald (zdec DL_law_21 22 rfl) (Or.inl rfl) (by rw [e1]; exact ⟨by omega, by omega⟩) ?_
  rw [e1]
  refine z_inv mX10_shift 56 10 [.inl (M (-2) (i + 1)), .inl (M (-2) (i + 2)), .inl (M (-2) (i + 3)), .inl (M (-2) (i + 4)), .inl (M (-2) (i + 5))] (zdec DL_law_21 23 rfl) ml_SixWallsLaw_170 okX10_shift rfl shp56 rfl rfl rfl rfl (Nat.le_of_ble_eq_true rfl) (Nat.le_of_ble_eq_true rfl) (b' := (0, 0)) ⟨Nat.le_refl 0, Nat.le_refl 0⟩ (Nat.le_of_ble_eq_true rfl) (zW_scr hw) (fun rv9 S9 M2 h9 => ?_)
  obtain ⟨⟨rfl, rfl, hI2⟩, f2⟩ := h9
  have fr : ∀ x : Int, -5 < x → x < 0 → M2 x = M x := fun x a b => (f2 x a b).trans (f1 x a b)
  change zW _ _ _ _ _ 1272 [(0, .inr (.inr (-2))), (1, .inr (.inr 0)), (2, .inr (.inr 56)), (3, .inl i)] [.inl (r), .inl (r)] M2
  exact z_icmp_eq 1333 (zdec DL_law_21 24 rfl) rfl (fun _ => kk M2 hI2 fr) (fun h => absurd rfl h)
set_option maxHeartbeats 4000000 in
theorem zL_c37 {M : zMm} (hI : zI M) {i : Int} (h0 : 0 ≤ i) (h6 : i + 6 ≤ M (-2) (-1)) (hm : M (-2) (-1) < 2147483648) (kk : ∀ M2 : zMm, zI M2 → (∀ x : Int, -5 < x → x < 0 → M2 x = M x) → zW mL_law 100 zQL (0, 0) zS0 1333 [(0, .inr (.inr (-2))), (1, .inr (.inr 0)), (2, .inr (.inr 56)), (3, .inl i)] [] M2) : zW mL_law 100 zQL (0, 0) zS0 1277 [(0, .inr (.inr (-2))), (1, .inr (.inr 0)), (2, .inr (.inr 56)), (3, .inl i)] [] M := by
  refine z_aload_n 1 (zdec DL_law_21 27 rfl) rfl rfl (by decide) ?_
  refine z_aload_n 0 (zdec DL_law_21 28 rfl) rfl rfl (by decide) ?_
  refine z_iload_n 3 (zdec DL_law_21 29 rfl) rfl rfl ?_
  refine z_iconst 1 (zdec DL_law_21 30 rfl) (by decide) ?_
  refine z_iadd (zdec DL_law_21 31 rfl) (by unfold z32; omega) ?_
  refine z_sald (zdec DL_law_21 32 rfl) (Or.inl rfl) (by exact ⟨by omega, by omega⟩) ?_
  refine z_aload_n 0 (zdec DL_law_21 33 rfl) rfl rfl (by decide) ?_
  refine z_iload_n 3 (zdec DL_law_21 34 rfl) rfl rfl ?_
  refine z_iconst 2 (zdec DL_law_21 35 rfl) (by decide) ?_
  refine z_iadd (zdec DL_law_21 36 rfl) (by unfold z32; omega) ?_
  refine z_sald (zdec DL_law_21 37 rfl) (Or.inl rfl) (by exact ⟨by omega, by omega⟩) ?_
  refine z_inv mX9_taken 0 9 [.inl (M (-2) (i + 1)), .inl (M (-2) (i + 2))] (zdec DL_law_21 38 rfl) ml_SixWallsLaw_171 okX9_taken rfl shp0 rfl rfl rfl rfl (Nat.le_of_ble_eq_true rfl) (Nat.le_of_ble_eq_true rfl) (b' := (0, 0)) ⟨Nat.le_refl 0, Nat.le_refl 0⟩ (Nat.le_of_ble_eq_true rfl) (zW_scr (zK_taken hI (M (-2) (i + 1)) (M (-2) (i + 2)))) (fun rv9 S9 M1 h9 => ?_)
  obtain ⟨⟨rfl, r, rfl, hw⟩, f1⟩ := h9
  have e1 : M1 (-2) = M (-2) := f1 (-2) (by decide) (by decide)
  change zW _ _ _ _ _ 1291 [(0, .inr (.inr (-2))), (1, .inr (.inr 0)), (2, .inr (.inr 56)), (3, .inl i)] [.inl (r)] M1
  refine z_aload_n 2 (zdec DL_law_21 39 rfl) rfl rfl (by decide) ?_
  refine z_aload_n 0 (zdec DL_law_22 0 rfl) rfl rfl (by decide) ?_
  refine z_iload_n 3 (zdec DL_law_22 1 rfl) rfl rfl ?_
  refine z_iconst 1 (zdec DL_law_22 2 rfl) (by decide) ?_
  refine z_iadd (zdec DL_law_22 3 rfl) (by unfold z32; omega) ?_
  refine z_sald (zdec DL_law_22 4 rfl) (Or.inl rfl) (by rw [e1]; exact ⟨by omega, by omega⟩) ?_
  rw [e1]
  refine z_aload_n 0 (zdec DL_law_22 5 rfl) rfl rfl (by decide) ?_
  refine z_iload_n 3 (zdec DL_law_22 6 rfl) rfl rfl ?_
  refine z_iconst 2 (zdec DL_law_22 7 rfl) (by decide) ?_
  refine z_iadd (zdec DL_law_22 8 rfl) (by unfold z32; omega) ?_
  refine z_sald (zdec DL_law_22 9 rfl) (Or.inl rfl) (by rw [e1]; exact ⟨by omega, by omega⟩) ?_
  rw [e1]
  refine z_inv mX10_taken 56 10 [.inl (M (-2) (i + 1)), .inl (M (-2) (i + 2))] (zdec DL_law_22 10 rfl) ml_SixWallsLaw_174 okX10_taken rfl shp56 rfl rfl rfl rfl (Nat.le_of_ble_eq_true rfl) (Nat.le_of_ble_eq_true rfl) (b' := (0, 0)) ⟨Nat.le_refl 0, Nat.le_refl 0⟩ (Nat.le_of_ble_eq_true rfl) (zW_scr hw) (fun rv9 S9 M2 h9 => ?_)
  obtain ⟨⟨rfl, rfl, hI2⟩, f2⟩ := h9
  have fr : ∀ x : Int, -5 < x → x < 0 → M2 x = M x := fun x a b => (f2 x a b).trans (f1 x a b)
  change zW _ _ _ _ _ 1305 [(0, .inr (.inr (-2))), (1, .inr (.inr 0)), (2, .inr (.inr 56)), (3, .inl i)] [.inl (r), .inl (r)] M2
  exact z_icmp_eq 1333 (zdec DL_law_22 11 rfl) rfl (fun _ => kk M2 hI2 fr) (fun h => absurd rfl h)
set_option maxHeartbeats 4000000 in
theorem zL_c38 {M : zMm} (hI : zI M) {i : Int} (h0 : 0 ≤ i) (h6 : i + 6 ≤ M (-2) (-1)) (hm : M (-2) (-1) < 2147483648) (kk : ∀ M2 : zMm, zI M2 → (∀ x : Int, -5 < x → x < 0 → M2 x = M x) → zW mL_law 100 zQL (0, 0) zS0 1333 [(0, .inr (.inr (-2))), (1, .inr (.inr 0)), (2, .inr (.inr 56)), (3, .inl i)] [] M2) : zW mL_law 100 zQL (0, 0) zS0 1310 [(0, .inr (.inr (-2))), (1, .inr (.inr 0)), (2, .inr (.inr 56)), (3, .inl i)] [] M := by
  refine z_aload_n 1 (zdec DL_law_22 14 rfl) rfl rfl (by decide) ?_
  refine z_aload_n 0 (zdec DL_law_22 15 rfl) rfl rfl (by decide) ?_
  refine z_iload_n 3 (zdec DL_law_22 16 rfl) rfl rfl ?_
  refine z_iconst 1 (zdec DL_law_22 17 rfl) (by decide) ?_
  refine z_iadd (zdec DL_law_22 18 rfl) (by unfold z32; omega) ?_
  refine z_sald (zdec DL_law_22 19 rfl) (Or.inl rfl) (by exact ⟨by omega, by omega⟩) ?_
  refine z_inv mX9_count 0 9 [.inl (M (-2) (i + 1))] (zdec DL_law_22 20 rfl) ml_SixWallsLaw_175 okX9_count rfl shp0 rfl rfl rfl rfl (Nat.le_of_ble_eq_true rfl) (Nat.le_of_ble_eq_true rfl) (b' := (0, 0)) ⟨Nat.le_refl 0, Nat.le_refl 0⟩ (Nat.le_of_ble_eq_true rfl) (zW_scr (zK_count hI (M (-2) (i + 1)))) (fun rv9 S9 M1 h9 => ?_)
  obtain ⟨⟨rfl, r, rfl, hw⟩, f1⟩ := h9
  have e1 : M1 (-2) = M (-2) := f1 (-2) (by decide) (by decide)
  change zW _ _ _ _ _ 1319 [(0, .inr (.inr (-2))), (1, .inr (.inr 0)), (2, .inr (.inr 56)), (3, .inl i)] [.inl (r)] M1
  refine z_aload_n 2 (zdec DL_law_22 21 rfl) rfl rfl (by decide) ?_
  refine z_aload_n 0 (zdec DL_law_22 22 rfl) rfl rfl (by decide) ?_
  refine z_iload_n 3 (zdec DL_law_22 23 rfl) rfl rfl ?_
  refine z_iconst 1 (zdec DL_law_22 24 rfl) (by decide) ?_
  refine z_iadd (zdec DL_law_22 25 rfl) (by unfold z32; omega) ?_
  refine z_sald (zdec DL_law_22 26 rfl) (Or.inl rfl) (by rw [e1]; exact ⟨by omega, by omega⟩) ?_
  rw [e1]
  refine z_inv mX10_count 56 10 [.inl (M (-2) (i + 1))] (zdec DL_law_22 27 rfl) ml_SixWallsLaw_178 okX10_count rfl shp56 rfl rfl rfl rfl (Nat.le_of_ble_eq_true rfl) (Nat.le_of_ble_eq_true rfl) (b' := (0, 0)) ⟨Nat.le_refl 0, Nat.le_refl 0⟩ (Nat.le_of_ble_eq_true rfl) (zW_scr hw) (fun rv9 S9 M2 h9 => ?_)
  obtain ⟨⟨rfl, rfl, hI2⟩, f2⟩ := h9
  have fr : ∀ x : Int, -5 < x → x < 0 → M2 x = M x := fun x a b => (f2 x a b).trans (f1 x a b)
  change zW _ _ _ _ _ 1328 [(0, .inr (.inr (-2))), (1, .inr (.inr 0)), (2, .inr (.inr 56)), (3, .inl i)] [.inl (r), .inl (r)] M2
  exact z_icmp_eq 1333 (zdec DL_law_22 28 rfl) rfl (fun _ => kk M2 hI2 fr) (fun h => absurd rfl h)
set_option maxHeartbeats 4000000 in
theorem zL_loop : ∀ (n : Nat) (i : Int) (M : zMm), zI M → 0 ≤ i → i ≤ 2147483647 → 0 ≤ M (-2) (-1) → M (-2) (-1) < 2147483648 → (M (-2) (-1) - i).toNat < n → zW mL_law 100 zQL (0, 0) zS0 18 [(0, .inr (.inr (-2))), (1, .inr (.inr 0)), (2, .inr (.inr 56)), (3, .inl i)] [] M := by
  intro n
  induction n with
  | zero => intro i M hI h0 h1 h2 h3 h4; omega
  | succ n ih =>
    intro i M hI h0 h1 h2 h3 h4
    refine z_iload_n 3 (zdec DL_law_0 10 rfl) rfl rfl ?_
    refine z_aload_n 0 (zdec DL_law_0 11 rfl) rfl rfl (by decide) ?_
    refine z_slen (zdec DL_law_0 12 rfl) (Or.inl rfl) ?_
    refine z_bipush 6 (zdec DL_law_0 13 rfl) (by decide) ?_
    refine z_isub (zdec DL_law_0 14 rfl) (by unfold z32; omega) ?_
    refine z_icmp_gt 1339 (zdec DL_law_0 15 rfl) rfl (fun h => ?_) (fun h => ?_)
    ·
      refine z_iconst 1 (zdec DL_law_22 33 rfl) (by decide) ?_
      exact z_zret (zdec DL_law_22 34 rfl) rfl (by omega) rfl
    ·
      have kk : ∀ M2 : zMm, zI M2 → (∀ x : Int, -5 < x → x < 0 → M2 x = M x) → zW mL_law 100 zQL (0, 0) zS0 1333 [(0, .inr (.inr (-2))), (1, .inr (.inr 0)), (2, .inr (.inr 56)), (3, .inl i)] [] M2 := fun M2 hI2 fr => by
        have e : M2 (-2) = M (-2) := fr (-2) (by decide) (by decide)
        refine z_iinc (L' := [(0, .inr (.inr (-2))), (1, .inr (.inr 0)), (2, .inr (.inr 56)), (3, .inl (i + 6))]) 3 (zdec DL_law_22 31 rfl) rfl (by unfold z32; omega) rfl (by decide) ?_
        refine z_goto 18 (zdec DL_law_22 32 rfl) rfl ?_
        exact ih (i + 6) M2 hI2 (by omega) (by omega) (by rw [e]; exact h2) (by rw [e]; exact h3) (by rw [e]; omega)
      refine z_aload_n 0 (zdec DL_law_0 16 rfl) rfl rfl (by decide) ?_
      refine z_iload_n 3 (zdec DL_law_0 17 rfl) rfl rfl ?_
      refine z_sald (zdec DL_law_0 18 rfl) (Or.inl rfl) ⟨by omega, by omega⟩ ?_
      refine z_bipush 63 (zdec DL_law_0 19 rfl) (by decide) ?_
      refine z_iand (zdec DL_law_0 20 rfl) ?_
      refine z_tsw (zdec DL_law_0 21 rfl) (by decide) (fun j off hj he => ?_) (fun _ => ⟨1333, rfl, kk M hI fun _ _ _ => rfl⟩)
      match j, hj, he with
      | 0, hj, _ => cases hj; exact ⟨204, rfl, zL_c0 hI h0 (by omega) h3 kk⟩
      | 1, hj, _ => cases hj; exact ⟨227, rfl, zL_c1 hI h0 (by omega) h3 kk⟩
      | 2, hj, _ => cases hj; exact ⟨270, rfl, zL_c2 hI h0 (by omega) h3 kk⟩
      | 3, hj, _ => cases hj; exact ⟨303, rfl, zL_c3 hI h0 (by omega) h3 kk⟩
      | 4, hj, _ => cases hj; exact ⟨346, rfl, zL_c4 hI h0 (by omega) h3 kk⟩
      | 5, hj, _ => cases hj; exact ⟨369, rfl, zL_c5 hI h0 (by omega) h3 kk⟩
      | 6, hj, _ => cases hj; exact ⟨382, rfl, zL_c6 hI h0 (by omega) h3 kk⟩
      | 7, hj, _ => cases hj; exact ⟨415, rfl, zL_c7 hI h0 (by omega) h3 kk⟩
      | 8, hj, _ => cases hj; exact ⟨448, rfl, zL_c8 hI h0 (by omega) h3 kk⟩
      | 9, hj, _ => cases hj; exact ⟨461, rfl, zL_c9 hI h0 (by omega) h3 kk⟩
      | 10, hj, _ => cases hj; exact ⟨494, rfl, zL_c10 hI h0 (by omega) h3 kk⟩
      | 11, hj, _ => cases hj; exact ⟨527, rfl, zL_c11 hI h0 (by omega) h3 kk⟩
      | 12, hj, _ => cases hj; exact ⟨550, rfl, zL_c12 hI h0 (by omega) h3 kk⟩
      | 13, hj, _ => cases hj; exact ⟨573, rfl, zL_c13 hI h0 (by omega) h3 kk⟩
      | 14, hj, _ => cases hj; exact ⟨596, rfl, zL_c14 hI h0 (by omega) h3 kk⟩
      | 15, hj, _ => cases hj; exact ⟨619, rfl, zL_c15 hI h0 (by omega) h3 kk⟩
      | 16, hj, _ => cases hj; exact ⟨642, rfl, zL_c16 hI h0 (by omega) h3 kk⟩
      | 17, hj, _ => cases hj; exact ⟨666, rfl, zL_c17 hI h0 (by omega) h3 kk⟩
      | 18, hj, _ => cases hj; exact ⟨699, rfl, zL_c18 hI h0 (by omega) h3 kk⟩
      | 19, hj, _ => cases hj; exact ⟨732, rfl, zL_c19 hI h0 (by omega) h3 kk⟩
      | 20, hj, _ => cases hj; exact ⟨755, rfl, zL_c20 hI h0 (by omega) h3 kk⟩
      | 21, hj, _ => cases hj; exact ⟨778, rfl, zL_c21 hI h0 (by omega) h3 kk⟩
      | 22, hj, _ => cases hj; exact ⟨801, rfl, zL_c22 hI h0 (by omega) h3 kk⟩
      | 23, hj, _ => cases hj; exact ⟨834, rfl, zL_c23 hI h0 (by omega) h3 kk⟩
      | 24, hj, _ => cases hj; exact ⟨857, rfl, zL_c24 hI h0 (by omega) h3 kk⟩
      | 25, hj, _ => cases hj; exact ⟨890, rfl, zL_c25 hI h0 (by omega) h3 kk⟩
      | 26, hj, _ => cases hj; exact ⟨903, rfl, zL_c26 hI h0 (by omega) h3 kk⟩
      | 27, hj, _ => cases hj; exact ⟨916, rfl, zL_c27 hI h0 (by omega) h3 kk⟩
      | 28, hj, _ => cases hj; exact ⟨929, rfl, zL_c28 hI h0 (by omega) h3 kk⟩
      | 29, hj, _ => cases hj; exact ⟨942, rfl, zL_c29 hI h0 (by omega) h3 kk⟩
      | 30, hj, _ => cases hj; exact ⟨965, rfl, zL_c30 hI h0 (by omega) h3 kk⟩
      | 31, hj, _ => cases hj; exact ⟨1008, rfl, zL_c31 hI h0 (by omega) h3 kk⟩
      | 32, hj, _ => cases hj; exact ⟨1031, rfl, zL_c32 hI h0 (by omega) h3 kk⟩
      | 33, hj, _ => cases hj; exact ⟨1064, rfl, zL_c33 hI h0 (by omega) h3 kk⟩
      | 34, hj, _ => cases hj; exact ⟨1107, rfl, zL_c34 hI h0 (by omega) h3 kk⟩
      | 35, hj, _ => cases hj; exact ⟨1180, rfl, zL_c35 hI h0 (by omega) h3 kk⟩
      | 36, hj, _ => cases hj; exact ⟨1214, rfl, zL_c36 hI h0 (by omega) h3 kk⟩
      | 37, hj, _ => cases hj; exact ⟨1277, rfl, zL_c37 hI h0 (by omega) h3 kk⟩
      | 38, hj, _ => cases hj; exact ⟨1310, rfl, zL_c38 hI h0 (by omega) h3 kk⟩
      | k + 39, hj, _ => simp at hj
