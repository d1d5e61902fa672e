/-! contracts: Cells, small ones; keep, row, taken, body, trace, count, fires -/
def zabvL : List Int := [-1, 0, 0, 2, 1, 3, 0, 4]
def zbodL : List Int := [1, 10, 11, 2, 20, 0, 0, 0, 0, 30, 0, 0, 0, 41, 40, 0, 0, 0, 50, 0, 0, 0, 0, 60, 70, 0, 0, 0, 0, 80, 0, 81]
def zabv (k : Int) : Int := zabvL.getD k.toNat 0
def zbod (k : Int) : Int := zbodL.getD k.toNat 0
/-- the two rows of the class -/
def zSx (M : zMm) : Prop := M (-3) (-1) = 8 ∧ M (-4) (-1) = 32 ∧ (∀ k : Int, 0 ≤ k → k < 8 → M (-3) k = zabv k) ∧ ∀ k : Int, 0 ≤ k → k < 32 → M (-4) k = zbod k
theorem zabv_b (k : Int) : -1 ≤ zabv k ∧ zabv k ≤ 4 := zgetD (P := fun x => -1 ≤ x ∧ x ≤ 4) (by decide) (by decide) _
def zCe (M : zMm) : Prop := (0 ≤ M 42 1 ∧ M 42 1 ≤ 50) ∧ (0 ≤ M 42 3 ∧ M 42 3 ≤ 1000000) ∧ ∀ i : Int, 0 ≤ i → i < 50 → 0 ≤ M 43 i ∧ M 43 i < 8
def zkof (M : zMm) (b : Int) : Int := if 0 ≤ b ∧ b < M 42 1 then M 43 b else -1
/-- whether a kind lies under another, in n steps upwards -/
def zund (kind : Int) : Nat → Int → Int
  | 0, _ => 0
  | n + 1, k => if 0 ≤ k then (if k = kind then 1 else zund kind n (zabv k)) else 0
theorem zund_s {kind : Int} {n : Nat} {k : Int} : zund kind (n + 1) k = if 0 ≤ k then (if k = kind then 1 else zund kind n (zabv k)) else 0 := rfl
set_option maxHeartbeats 4000000 in
theorem cX0_add {M : zMm} (hP : zP M) (hC : zCe M) (k : Int) : zW mX0_add 1 (fun rv S' M' => S' = zS0 ∧ rv = some (.inl (if M 42 1 < 50 then M 42 1 else -3)) ∧ M' = if M 42 1 < 50 then zup (zup M 43 (M 42 1) k) 42 1 (M 42 1 + 1) else M) (0, 0) zS0 0 (zargs 0 [.inr (.inr 42), .inl k]) [] M := by
  change zW _ _ _ _ _ 0 [(0, .inr (.inr 42)), (1, .inl k)] [] M
  have hc1 := hC.1
  refine z_aload_n 0 (zdec DX0_add 0 rfl) rfl rfl (by decide) ?_
  refine z_geti (ki := 1) 42 0 (zdec DX0_add 1 rfl) rfl shp42 rfl (by decide) rfl rfl fl_SixWalls_Cells_15 ?_
  refine z_bipush 50 (zdec DX0_add 2 rfl) (by decide) ?_
  refine z_icmp_lt 12 (zdec DX0_add 3 rfl) rfl (fun h6 => ?_) (fun h6 => ?_)
  ·
    refine z_aload_n 0 (zdec DX0_add 6 rfl) rfl rfl (by decide) ?_
    refine z_getr (rw1 := -52) (ki := 0) (r' := 43) 42 0 (zdec DX0_add 7 rfl) rfl rfl shp42 rfl (by decide) rfl rfl fl_SixWalls_Cells_11 (zPa hP 45 rfl) ?_
    refine z_aload_n 0 (zdec DX0_add 8 rfl) rfl rfl (by decide) ?_
    refine z_geti (ki := 1) 42 0 (zdec DX0_add 9 rfl) rfl shp42 rfl (by decide) rfl rfl fl_SixWalls_Cells_15 ?_
    refine z_iload_n 1 (zdec DX0_add 10 rfl) rfl rfl ?_
    refine z_iast 43 (zdec DX0_add 11 rfl) rfl shp43 ⟨by omega, by omega⟩ ?_
    refine z_aload_n 0 (zdec DX0_add 12 rfl) rfl rfl (by decide) ?_
    refine z_dup (zdec DX0_add 13 rfl) rfl ?_
    refine z_geti (ki := 1) 42 0 (zdec DX0_add 14 rfl) rfl shp42 rfl (by decide) rfl rfl fl_SixWalls_Cells_15 ?_
    rw [show (zup M 43 (M 42 1) k) 42 1 = M 42 1 from by simp [zup, zcpy]]
    refine z_iconst 1 (zdec DX0_add 15 rfl) (by decide) ?_
    refine z_iadd (zdec DX0_add 16 rfl) (by unfold z32; omega) ?_
    refine z_puti (ki := 1) 42 0 (zdec DX0_add 17 rfl) rfl shp42 rfl (by decide) rfl rfl fl_SixWalls_Cells_15 (Or.inl rfl) ?_
    refine z_aload_n 0 (zdec DX0_add 18 rfl) rfl rfl (by decide) ?_
    refine z_geti (ki := 1) 42 0 (zdec DX0_add 19 rfl) rfl shp42 rfl (by decide) rfl rfl fl_SixWalls_Cells_15 ?_
    rw [show (zup (zup M 43 (M 42 1) k) 42 1 ((M 42 1) + 1)) 42 1 = (M 42 1) + 1 from by simp [zup, zcpy]]
    refine z_iconst 1 (zdec DX0_add 20 rfl) (by decide) ?_
    refine z_isub (zdec DX0_add 21 rfl) (by unfold z32; omega) ?_
    exact z_iret (zdec DX0_add 22 rfl) rfl (⟨rfl, zri (by rw [if_pos (by omega)]; omega), by rw [if_pos (by omega)]⟩)
  ·
    refine z_bipush (-3) (zdec DX0_add 4 rfl) (by decide) ?_
    exact z_iret (zdec DX0_add 5 rfl) rfl (⟨rfl, zri (by rw [if_neg (by omega)]), by rw [if_neg (by omega)]⟩)
set_option maxHeartbeats 4000000 in
theorem cX0_many {M : zMm} (hP : zP M)  : zW mX0_many 1 (fun rv S' M' => S' = zS0 ∧ M = M' ∧ rv = some (.inl (M 42 1))) (0, 0) zS0 0 (zargs 0 [.inr (.inr 42)]) [] M := by
  change zW _ _ _ _ _ 0 [(0, .inr (.inr 42))] [] M
  refine z_aload_n 0 (zdec DX0_many 0 rfl) rfl rfl (by decide) ?_
  refine z_geti (ki := 1) 42 0 (zdec DX0_many 1 rfl) rfl shp42 rfl (by decide) rfl rfl fl_SixWalls_Cells_15 ?_
  exact z_iret (zdec DX0_many 2 rfl) rfl (⟨rfl, rfl, rfl⟩)
set_option maxHeartbeats 4000000 in
theorem cX0_ran {M : zMm} (hP : zP M)  : zW mX0_ran 1 (fun rv S' M' => S' = zS0 ∧ M = M' ∧ rv = some (.inl (M 42 3))) (0, 0) zS0 0 (zargs 0 [.inr (.inr 42)]) [] M := by
  change zW _ _ _ _ _ 0 [(0, .inr (.inr 42))] [] M
  refine z_aload_n 0 (zdec DX0_ran 0 rfl) rfl rfl (by decide) ?_
  refine z_geti (ki := 3) 42 0 (zdec DX0_ran 1 rfl) rfl shp42 rfl (by decide) rfl rfl fl_SixWalls_Cells_22 ?_
  exact z_iret (zdec DX0_ran 2 rfl) rfl (⟨rfl, rfl, rfl⟩)
set_option maxHeartbeats 4000000 in
theorem cX0_ranAt {M : zMm} (hP : zP M) (hC : zCe M) (i : Int) : zW mX0_ranAt 1 (fun rv S' M' => S' = zS0 ∧ M = M' ∧ rv = some (.inl (if 0 ≤ i ∧ i < (if 24 < M 42 3 then 24 else M 42 3) then M 44 i else -1))) (0, 0) zS0 0 (zargs 0 [.inr (.inr 42), .inl i]) [] M := by
  change zW _ _ _ _ _ 0 [(0, .inr (.inr 42)), (1, .inl i)] [] M
  have hc1 := hC.2.1
  obtain ⟨m, em⟩ : ∃ m, m = (if 24 < M 42 3 then 24 else M 42 3) := ⟨_, rfl⟩
  have hm : m ≤ 24 := by rw [em]; split <;> omega
  refine z_iload_n 1 (zdec DX0_ranAt 0 rfl) rfl rfl ?_
  refine z_if_lt 26 (zdec DX0_ranAt 1 rfl) rfl (fun h1 => ?_) (fun h1 => ?_)
  ·
    refine z_iconst (-1) (zdec DX0_ranAt 13 rfl) (by decide) ?_
    exact z_iret (zdec DX0_ranAt 14 rfl) rfl (⟨rfl, rfl, zri (by (try rw [← em]); first | rw [if_pos (by omega)] | rw [if_neg (by omega)])⟩)
  ·
    refine z_iload_n 1 (zdec DX0_ranAt 2 rfl) rfl rfl ?_
    refine z_aload_n 0 (zdec DX0_ranAt 3 rfl) rfl rfl (by decide) ?_
    refine z_geti (ki := 3) 42 0 (zdec DX0_ranAt 4 rfl) rfl shp42 rfl (by decide) rfl rfl fl_SixWalls_Cells_22 ?_
    refine z_bipush 24 (zdec DX0_ranAt 5 rfl) (by decide) ?_
    refine z_mmin (zdec DX0_ranAt 6 rfl) ml_SixWalls_Cells_39 (by decide) (Nat.le_of_ble_eq_true rfl) ?_
    rw [show (if 24 < M 42 3 then 24 else M 42 3) = m from em.symm]
    refine z_icmp_ge 26 (zdec DX0_ranAt 7 rfl) rfl (fun h14 => ?_) (fun h14 => ?_)
    ·
      refine z_iconst (-1) (zdec DX0_ranAt 13 rfl) (by decide) ?_
      exact z_iret (zdec DX0_ranAt 14 rfl) rfl (⟨rfl, rfl, zri (by (try rw [← em]); first | rw [if_pos (by omega)] | rw [if_neg (by omega)])⟩)
    ·
      refine z_aload_n 0 (zdec DX0_ranAt 8 rfl) rfl rfl (by decide) ?_
      refine z_getr (rw1 := -52) (ki := 2) (r' := 44) 42 0 (zdec DX0_ranAt 9 rfl) rfl rfl shp42 rfl (by decide) rfl rfl fl_SixWalls_Cells_19 (zPa hP 46 rfl) ?_
      refine z_iload_n 1 (zdec DX0_ranAt 10 rfl) rfl rfl ?_
      refine z_iald 44 (zdec DX0_ranAt 11 rfl) rfl shp44 ⟨by omega, by omega⟩ ?_
      refine z_goto 27 (zdec DX0_ranAt 12 rfl) rfl ?_
      exact z_iret (zdec DX0_ranAt 14 rfl) rfl (⟨rfl, rfl, zri (by (try rw [← em]); first | rw [if_pos (by omega)] | rw [if_neg (by omega)])⟩)
set_option maxHeartbeats 4000000 in
theorem cX0_isKind {M : zMm} (hP : zP M) (hX : zSx M) (k : Int) : zW mX0_isKind 1 (fun rv S' M' => S' = zS0 ∧ M = M' ∧ rv = some (.inl (zb (0 ≤ k ∧ k < 8)))) (0, 0) zS0 0 (zargs 0 [.inr (.inr 42), .inl k]) [] M := by
  change zW _ _ _ _ _ 0 [(0, .inr (.inr 42)), (1, .inl k)] [] M
  have hx8 := hX.1
  refine z_iload_n 1 (zdec DX0_isKind 0 rfl) rfl rfl ?_
  refine z_if_lt 16 (zdec DX0_isKind 1 rfl) rfl (fun h1 => ?_) (fun h1 => ?_)
  ·
    refine z_iconst 0 (zdec DX0_isKind 8 rfl) (by decide) ?_
    exact z_zret (zdec DX0_isKind 9 rfl) rfl (by omega) (⟨rfl, rfl, zri (by unfold zb; first | rw [if_pos (by omega)] | rw [if_neg (by omega)])⟩)
  ·
    refine z_iload_n 1 (zdec DX0_isKind 2 rfl) rfl rfl ?_
    refine z_gets (ri := -3) (zdec DX0_isKind 3 rfl) fl_SixWalls_Cells_28 (Or.inl ⟨rfl, rfl⟩) ?_
    refine z_slen (zdec DX0_isKind 4 rfl) (by decide) ?_
    refine z_icmp_ge 16 (zdec DX0_isKind 5 rfl) rfl (fun h9 => ?_) (fun h9 => ?_)
    ·
      refine z_iconst 0 (zdec DX0_isKind 8 rfl) (by decide) ?_
      exact z_zret (zdec DX0_isKind 9 rfl) rfl (by omega) (⟨rfl, rfl, zri (by unfold zb; first | rw [if_pos (by omega)] | rw [if_neg (by omega)])⟩)
    ·
      refine z_iconst 1 (zdec DX0_isKind 6 rfl) (by decide) ?_
      refine z_goto 17 (zdec DX0_isKind 7 rfl) rfl ?_
      exact z_zret (zdec DX0_isKind 9 rfl) rfl (by omega) (⟨rfl, rfl, zri (by unfold zb; first | rw [if_pos (by omega)] | rw [if_neg (by omega)])⟩)
set_option maxHeartbeats 4000000 in
theorem cX0_isBody {M : zMm} (hP : zP M) (k : Int) : zW mX0_isBody 1 (fun rv S' M' => S' = zS0 ∧ M = M' ∧ rv = some (.inl (zb (0 ≤ k ∧ k < M 42 1)))) (0, 0) zS0 0 (zargs 0 [.inr (.inr 42), .inl k]) [] M := by
  change zW _ _ _ _ _ 0 [(0, .inr (.inr 42)), (1, .inl k)] [] M
  refine z_iload_n 1 (zdec DX0_isBody 0 rfl) rfl rfl ?_
  refine z_if_lt 16 (zdec DX0_isBody 1 rfl) rfl (fun h1 => ?_) (fun h1 => ?_)
  ·
    refine z_iconst 0 (zdec DX0_isBody 8 rfl) (by decide) ?_
    exact z_zret (zdec DX0_isBody 9 rfl) rfl (by omega) (⟨rfl, rfl, zri (by unfold zb; first | rw [if_pos (by omega)] | rw [if_neg (by omega)])⟩)
  ·
    refine z_iload_n 1 (zdec DX0_isBody 2 rfl) rfl rfl ?_
    refine z_aload_n 0 (zdec DX0_isBody 3 rfl) rfl rfl (by decide) ?_
    refine z_geti (ki := 1) 42 0 (zdec DX0_isBody 4 rfl) rfl shp42 rfl (by decide) rfl rfl fl_SixWalls_Cells_15 ?_
    refine z_icmp_ge 16 (zdec DX0_isBody 5 rfl) rfl (fun h9 => ?_) (fun h9 => ?_)
    ·
      refine z_iconst 0 (zdec DX0_isBody 8 rfl) (by decide) ?_
      exact z_zret (zdec DX0_isBody 9 rfl) rfl (by omega) (⟨rfl, rfl, zri (by unfold zb; first | rw [if_pos (by omega)] | rw [if_neg (by omega)])⟩)
    ·
      refine z_iconst 1 (zdec DX0_isBody 6 rfl) (by decide) ?_
      refine z_goto 17 (zdec DX0_isBody 7 rfl) rfl ?_
      exact z_zret (zdec DX0_isBody 9 rfl) rfl (by omega) (⟨rfl, rfl, zri (by unfold zb; first | rw [if_pos (by omega)] | rw [if_neg (by omega)])⟩)
set_option maxHeartbeats 4000000 in
theorem cX0_kindOf {M : zMm} (hP : zP M) (hC : zCe M) (b : Int) : zW mX0_kindOf 2 (fun rv S' M' => S' = zS0 ∧ M = M' ∧ rv = some (.inl (zkof M b))) (0, 0) zS0 0 (zargs 0 [.inr (.inr 42), .inl b]) [] M := by
  change zW _ _ _ _ _ 0 [(0, .inr (.inr 42)), (1, .inl b)] [] M
  have hc1 := hC.1
  refine z_aload_n 0 (zdec DX0_kindOf 0 rfl) rfl rfl (by decide) ?_
  refine z_iload_n 1 (zdec DX0_kindOf 1 rfl) rfl rfl ?_
  refine z_inv mX0_isBody 42 0 [.inl b] (zdec DX0_kindOf 2 rfl) ml_SixWalls_Cells_31 okX0_isBody rfl shp42 rfl rfl rfl rfl (Nat.le_of_ble_eq_true rfl) (Nat.le_of_ble_eq_true rfl) (b' := (0, 0)) ⟨Nat.le_refl 0, Nat.le_refl 0⟩ (Nat.le_of_ble_eq_true rfl) (cX0_isBody hP b) (fun rv9 S9 M2 h9 => ?_)
  obtain ⟨rfl, rfl, rfl⟩ := h9
  change zW _ _ _ _ _ 5 [(0, .inr (.inr 42)), (1, .inl b)] [.inl (zb (0 ≤ b ∧ b < M 42 1))] M
  refine z_if_eq 17 (zdec DX0_kindOf 3 rfl) rfl (fun h5 => ?_) (fun h5 => ?_)
  ·
    have hq5 := zb_eq0.mp h5
    refine z_iconst (-1) (zdec DX0_kindOf 9 rfl) (by decide) ?_
    exact z_iret (zdec DX0_kindOf 10 rfl) rfl (⟨rfl, rfl, zri (by unfold zkof; first | rw [if_pos hq5] | rw [if_neg hq5])⟩)
  ·
    have hq5 := zb_ne0.mp h5
    refine z_aload_n 0 (zdec DX0_kindOf 4 rfl) rfl rfl (by decide) ?_
    refine z_getr (rw1 := -52) (ki := 0) (r' := 43) 42 0 (zdec DX0_kindOf 5 rfl) rfl rfl shp42 rfl (by decide) rfl rfl fl_SixWalls_Cells_11 (zPa hP 45 rfl) ?_
    refine z_iload_n 1 (zdec DX0_kindOf 6 rfl) rfl rfl ?_
    refine z_iald 43 (zdec DX0_kindOf 7 rfl) rfl shp43 ⟨by omega, by omega⟩ ?_
    refine z_goto 18 (zdec DX0_kindOf 8 rfl) rfl ?_
    exact z_iret (zdec DX0_kindOf 10 rfl) rfl (⟨rfl, rfl, zri (by unfold zkof; first | rw [if_pos hq5] | rw [if_neg hq5])⟩)
theorem zkof_b {M : zMm} (hC : zCe M) (b : Int) : -1 ≤ zkof M b ∧ zkof M b < 8 := by
  unfold zkof
  split
  · next h =>
    have := hC.2.2 b h.1 (by have := hC.1; omega)
    omega
  · omega
set_option maxHeartbeats 4000000 in
theorem lp_X0_isUnder_9 {M : zMm} (hP : zP M) (hX : zSx M) (b k : Int) (hx41 : (zund k 8 (zkof M b) = 0) → zW mX0_isUnder 3 (fun rv S' M' => S' = zS0 ∧ M = M' ∧ rv = some (.inl (zund k 8 (zkof M b)))) (0, 0) zS0 41 [] [] M) : ∀ (n : Nat) (j : Int) (i : Int), (8 - i).toNat < n → (0 ≤ i ∧ i ≤ 8 ∧ (-1 ≤ j ∧ j < 8) ∧ zund k 8 (zkof M b) = zund k (8 - i).toNat j) → zW mX0_isUnder 3 (fun rv S' M' => S' = zS0 ∧ M = M' ∧ rv = some (.inl (zund k 8 (zkof M b)))) (0, 0) zS0 9 [(2, .inl k), (3, .inl j), (4, .inl i)] [] M := by
  intro n
  induction n with
  | zero => intro j i hn; exact absurd hn (Nat.not_lt_zero _)
  | succ n ih =>
    intro j i hn hI
    have hx8 := hX.1
    have hab := zabv_b j
    have hxa := hX.2.2.1 j
    have hz : i < 8 → zund k 8 (zkof M b) = if 0 ≤ j then (if j = k then 1 else zund k (8 - (i + 1)).toNat (zabv j)) else 0 := fun h => by rw [hI.2.2.2, show (8 - i).toNat = (8 - (i + 1)).toNat + 1 by omega, zund_s]
    refine z_iload 2 (zdec DX0_isUnder 6 rfl) rfl ?_
    refine z_gets (ri := -3) (zdec DX0_isUnder 7 rfl) fl_SixWalls_Cells_28 (Or.inl ⟨rfl, rfl⟩) ?_
    refine z_slen (zdec DX0_isUnder 8 rfl) (by decide) ?_
    refine z_icmp_ge 41 (zdec DX0_isUnder 9 rfl) rfl (fun h15 => ?_) (fun h15 => ?_)
    ·
      refine z_weak (L' := []) (by simp) ?_
      exact hx41  (by by_cases hi : i = 8; (rw [hI.2.2.2, hi]; rfl); (rw [hz (by omega), if_neg (by omega)]))
    ·
      refine z_iload_n 1 (zdec DX0_isUnder 10 rfl) rfl rfl ?_
      refine z_if_lt 41 (zdec DX0_isUnder 11 rfl) rfl (fun h19 => ?_) (fun h19 => ?_)
      ·
        refine z_weak (L' := []) (by simp) ?_
        exact hx41  (by by_cases hi : i = 8; (rw [hI.2.2.2, hi]; rfl); (rw [hz (by omega), if_neg (by omega)]))
      ·
        refine z_iload_n 1 (zdec DX0_isUnder 12 rfl) rfl rfl ?_
        refine z_iload_n 0 (zdec DX0_isUnder 13 rfl) rfl rfl ?_
        refine z_icmp_ne 29 (zdec DX0_isUnder 14 rfl) rfl (fun h24 => ?_) (fun h24 => ?_)
        ·
          refine z_gets (ri := -3) (zdec DX0_isUnder 17 rfl) fl_SixWalls_Cells_28 (Or.inl ⟨rfl, rfl⟩) ?_
          refine z_iload_n 1 (zdec DX0_isUnder 18 rfl) rfl rfl ?_
          refine z_sald (zdec DX0_isUnder 19 rfl) (by decide) (by omega) ?_
          refine z_istore_n (L' := [(2, .inl k), (3, .inl (M (-3) j)), (4, .inl i)]) (zdec DX0_isUnder 20 rfl) rfl rfl (by decide) ?_
          refine z_iinc (L' := [(2, .inl k), (3, .inl (M (-3) j)), (4, .inl (i + 1))]) 2 (zdec DX0_isUnder 21 rfl) rfl (by unfold z32; omega) rfl (by decide) ?_
          refine z_goto 9 (zdec DX0_isUnder 22 rfl) rfl ?_
          exact ih (M (-3) j) (i + 1) (by omega) ⟨by omega, by omega, (by rw [hxa (by omega) (by omega)]; omega), (by rw [hz (by omega), if_pos (by omega), if_neg (by omega), hxa (by omega) (by omega)])⟩
        ·
          refine z_iconst 1 (zdec DX0_isUnder 15 rfl) (by decide) ?_
          exact z_zret (zdec DX0_isUnder 16 rfl) rfl (by omega) (⟨rfl, rfl, zri (by rw [hz (by omega), if_pos (by omega), if_pos (by omega)])⟩)
set_option maxHeartbeats 4000000 in
theorem cX0_isUnder {M : zMm} (hP : zP M) (hC : zCe M) (hX : zSx M) (b k : Int) : zW mX0_isUnder 3 (fun rv S' M' => S' = zS0 ∧ M = M' ∧ rv = some (.inl (zund k 8 (zkof M b)))) (0, 0) zS0 0 (zargs 0 [.inr (.inr 42), .inl b, .inl k]) [] M := by
  change zW _ _ _ _ _ 0 [(0, .inr (.inr 42)), (1, .inl b), (2, .inl k)] [] M
  have hkb := zkof_b hC b
  refine z_aload_n 0 (zdec DX0_isUnder 0 rfl) rfl rfl (by decide) ?_
  refine z_iload_n 1 (zdec DX0_isUnder 1 rfl) rfl rfl ?_
  refine z_inv mX0_kindOf 42 0 [.inl b] (zdec DX0_isUnder 2 rfl) ml_SixWalls_Cells_35 okX0_kindOf rfl shp42 rfl rfl rfl rfl (Nat.le_of_ble_eq_true rfl) (Nat.le_of_ble_eq_true rfl) (b' := (0, 0)) ⟨Nat.le_refl 0, Nat.le_refl 0⟩ (Nat.le_of_ble_eq_true rfl) (cX0_kindOf hP hC b) (fun rv9 S9 M2 h9 => ?_)
  obtain ⟨rfl, rfl, rfl⟩ := h9
  change zW _ _ _ _ _ 5 [(0, .inr (.inr 42)), (1, .inl b), (2, .inl k)] [.inl (zkof M b)] M
  refine z_istore_n (L' := [(0, .inr (.inr 42)), (1, .inl b), (2, .inl k), (3, .inl (zkof M b))]) (zdec DX0_isUnder 3 rfl) rfl rfl (by decide) ?_
  refine z_iconst 0 (zdec DX0_isUnder 4 rfl) (by decide) ?_
  refine z_istore (L' := [(0, .inr (.inr 42)), (1, .inl b), (2, .inl k), (3, .inl (zkof M b)), (4, .inl 0)]) (zdec DX0_isUnder 5 rfl) rfl (by decide) ?_
  refine z_weak (L' := [(2, .inl k), (3, .inl (zkof M b)), (4, .inl 0)]) (by simp) ?_
  refine lp_X0_isUnder_9 hP hX b k (hx41 := fun hx => ?_) _ (zkof M b) 0 (Nat.lt_succ_self _) ⟨by omega, by omega, hkb, rfl⟩
  refine z_iconst 0 (zdec DX0_isUnder 23 rfl) (by decide) ?_
  exact z_zret (zdec DX0_isUnder 24 rfl) rfl (by omega) (⟨rfl, rfl, zri hx.symm⟩)
