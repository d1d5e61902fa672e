/-! contracts of Shelves; keep, row, put, element, shift of SixWalls -/
theorem shpRow {s : Int} (h : 0 ≤ s ∧ s < 6) : zS0[(50 + s).toNat]? = some (2, 60) := by
  rcases (show s = 0 ∨ s = 1 ∨ s = 2 ∨ s = 3 ∨ s = 4 ∨ s = 5 by omega) with rfl | rfl | rfl | rfl | rfl | rfl <;> rfl
theorem zP_rows {M : zMm} (hP : zP M) {s : Int} (h : 0 ≤ s ∧ s < 6) : M (-59) s = 50 + s := by
  rcases (show s = 0 ∨ s = 1 ∨ s = 2 ∨ s = 3 ∨ s = 4 ∨ s = 5 by omega) with rfl | rfl | rfl | rfl | rfl | rfl
  · exact zPa hP 51 rfl
  · exact zPa hP 52 rfl
  · exact zPa hP 53 rfl
  · exact zPa hP 54 rfl
  · exact zPa hP 55 rfl
  · exact zPa hP 56 rfl
def zfill (M : zMm) (c n v : Int) : zMm := fun c' k => if c' = c ∧ 0 ≤ k ∧ k < n then v else M c' k
theorem zfill_0 {M : zMm} {c v : Int} : zfill M c 0 v = M := by
  funext c' k
  unfold zfill
  rw [if_neg (by omega)]
theorem zfill_s {M : zMm} {c i v : Int} (h : 0 ≤ i) : zup (zfill M c i v) c i v = zfill M c (i + 1) v := by
  funext c' k
  unfold zup zfill
  by_cases h1 : c' = c ∧ k = i
  · rw [if_pos h1, if_pos (by omega)]
  · rw [if_neg h1]
    by_cases h2 : c' = c ∧ 0 ≤ k ∧ k < i
    · rw [if_pos h2, if_pos (by omega)]
    · rw [if_neg h2, if_neg (by omega)]
theorem zfill_row {M : zMm} {c n v c' : Int} (h : c' ≠ c) : zfill M c n v c' = M c' := by
  funext k
  unfold zfill
  rw [if_neg (by omega)]
theorem zP_fill {M : zMm} {c n v : Int} (h : zP M) (hc : 0 ≤ c) : zP (zfill M c n v) := zP_of h fun r hr => zfill_row (by omega)
def znarrow (sort v : Int) : Int := if sort = 0 then zi2b (zw v) else if sort = 1 then zi2s (zw v) else if sort = 2 then zw v else if sort = 3 then v else if v = 0 then 0 else 1
/-- why there is no row on a shelf; 0: there is one -/
def zrow1 (M : zMm) (s : Int) : Int := if ¬ (0 ≤ s ∧ s < 6) then -1 else if M 46 s = -1 then -11 else if M 46 s = 5 then -12 else 0
def zrefuse (M : zMm) (s i : Int) : Int := if zrow1 M s ≠ 0 then zrow1 M s else if 0 ≤ i ∧ i < M 48 s then 0 else -13
def zref2 (M : zMm) (s t : Int) : Int := if zrow1 M s = -1 ∨ zrow1 M t = -1 then -1 else if zrow1 M s = -11 ∨ zrow1 M t = -11 then -11 else if zrow1 M s ≠ 0 ∨ zrow1 M t ≠ 0 ∨ M 46 s ≠ M 46 t then -12 else 0
abbrev zstretch (M : zMm) (s i n : Int) : Prop := 0 ≤ i ∧ 0 ≤ n ∧ n ≤ M 48 s ∧ i ≤ M 48 s - n
theorem zrow1_in {M : zMm} {s : Int} (h : zrow1 M s = 0) : 0 ≤ s ∧ s < 6 := by
  unfold zrow1 at h
  split at h
  · omega
  · omega
/-- the shelves in their bounds -/
def zSv (M : zMm) : Prop := ∀ s : Int, 0 ≤ s → s < 6 → (-1 ≤ M 46 s ∧ M 46 s ≤ 5) ∧ (0 ≤ M 48 s ∧ M 48 s ≤ 60)
set_option maxHeartbeats 4000000 in
theorem cX6_isShelf {M : zMm} (s : Int) : zW mX6_isShelf 1 (fun rv S' M' => S' = zS0 ∧ M = M' ∧ rv = some (.inl (zb (0 ≤ s ∧ s < 6)))) (0, 0) zS0 0 (zargs 0 [.inr (.inr 45), .inl s]) [] M := by
  change zW _ _ _ _ _ 0 [(0, .inr (.inr 45)), (1, .inl s)] [] M
  refine z_iload_n 1 (zdec DX6_isShelf 0 rfl) rfl rfl ?_
  refine z_if_lt 14 (zdec DX6_isShelf 1 rfl) rfl (fun h1 => ?_) (fun h1 => ?_)
  ·
    refine z_iconst 0 (zdec DX6_isShelf 7 rfl) (by decide) ?_
    exact z_zret (zdec DX6_isShelf 8 rfl) rfl (by omega) (⟨rfl, rfl, zri (by unfold zb; split <;> omega)⟩)
  ·
    refine z_iload_n 1 (zdec DX6_isShelf 2 rfl) rfl rfl ?_
    refine z_bipush 6 (zdec DX6_isShelf 3 rfl) (by decide) ?_
    refine z_icmp_ge 14 (zdec DX6_isShelf 4 rfl) rfl (fun h7 => ?_) (fun h7 => ?_)
    ·
      refine z_iconst 0 (zdec DX6_isShelf 7 rfl) (by decide) ?_
      exact z_zret (zdec DX6_isShelf 8 rfl) rfl (by omega) (⟨rfl, rfl, zri (by unfold zb; split <;> omega)⟩)
    ·
      refine z_iconst 1 (zdec DX6_isShelf 5 rfl) (by decide) ?_
      refine z_goto 15 (zdec DX6_isShelf 6 rfl) rfl ?_
      exact z_zret (zdec DX6_isShelf 8 rfl) rfl (by omega) (⟨rfl, rfl, zri (by unfold zb; split <;> omega)⟩)
set_option maxHeartbeats 4000000 in
theorem cX6_isSort {M : zMm} (s : Int) : zW mX6_isSort 1 (fun rv S' M' => S' = zS0 ∧ M = M' ∧ rv = some (.inl (zb (0 ≤ s ∧ s ≤ 4)))) (0, 0) zS0 0 (zargs 0 [.inr (.inr 45), .inl s]) [] M := by
  change zW _ _ _ _ _ 0 [(0, .inr (.inr 45)), (1, .inl s)] [] M
  refine z_iload_n 1 (zdec DX6_isSort 0 rfl) rfl rfl ?_
  refine z_if_lt 13 (zdec DX6_isSort 1 rfl) rfl (fun h1 => ?_) (fun h1 => ?_)
  ·
    refine z_iconst 0 (zdec DX6_isSort 7 rfl) (by decide) ?_
    exact z_zret (zdec DX6_isSort 8 rfl) rfl (by omega) (⟨rfl, rfl, zri (by unfold zb; split <;> omega)⟩)
  ·
    refine z_iload_n 1 (zdec DX6_isSort 2 rfl) rfl rfl ?_
    refine z_iconst 4 (zdec DX6_isSort 3 rfl) (by decide) ?_
    refine z_icmp_gt 13 (zdec DX6_isSort 4 rfl) rfl (fun h6 => ?_) (fun h6 => ?_)
    ·
      refine z_iconst 0 (zdec DX6_isSort 7 rfl) (by decide) ?_
      exact z_zret (zdec DX6_isSort 8 rfl) rfl (by omega) (⟨rfl, rfl, zri (by unfold zb; split <;> omega)⟩)
    ·
      refine z_iconst 1 (zdec DX6_isSort 5 rfl) (by decide) ?_
      refine z_goto 14 (zdec DX6_isSort 6 rfl) rfl ?_
      exact z_zret (zdec DX6_isSort 8 rfl) rfl (by omega) (⟨rfl, rfl, zri (by unfold zb; split <;> omega)⟩)
set_option maxHeartbeats 4000000 in
theorem cX6_isBare {M : zMm} (hP : zP M) (s : Int) (hs : 0 ≤ s ∧ s < 6) : zW mX6_isBare 1 (fun rv S' M' => S' = zS0 ∧ M = M' ∧ rv = some (.inl (zb (M 46 s = -1)))) (0, 0) zS0 0 (zargs 0 [.inr (.inr 45), .inl s]) [] M := by
  change zW _ _ _ _ _ 0 [(0, .inr (.inr 45)), (1, .inl s)] [] M
  refine z_aload_n 0 (zdec DX6_isBare 0 rfl) rfl rfl (by decide) ?_
  refine z_getr (rw1 := -55) (ki := 0) (r' := 46) 45 6 (zdec DX6_isBare 1 rfl) rfl rfl shp45 rfl (by decide) rfl rfl fl_SixWalls_Shelves_11 (zPa hP 47 rfl) ?_
  refine z_iload_n 1 (zdec DX6_isBare 2 rfl) rfl rfl ?_
  refine z_iald 46 (zdec DX6_isBare 3 rfl) rfl shp46 ⟨by omega, by omega⟩ ?_
  refine z_iconst (-1) (zdec DX6_isBare 4 rfl) (by decide) ?_
  refine z_icmp_ne 14 (zdec DX6_isBare 5 rfl) rfl (fun h7 => ?_) (fun h7 => ?_)
  ·
    refine z_iconst 0 (zdec DX6_isBare 8 rfl) (by decide) ?_
    exact z_zret (zdec DX6_isBare 9 rfl) rfl (by omega) (⟨rfl, rfl, zri (by unfold zb; split <;> omega)⟩)
  ·
    refine z_iconst 1 (zdec DX6_isBare 6 rfl) (by decide) ?_
    refine z_goto 15 (zdec DX6_isBare 7 rfl) rfl ?_
    exact z_zret (zdec DX6_isBare 9 rfl) rfl (by omega) (⟨rfl, rfl, zri (by unfold zb; split <;> omega)⟩)
set_option maxHeartbeats 4000000 in
theorem cX6_mayBeBytes {M : zMm} (hP : zP M) (s : Int) (hs : 0 ≤ s ∧ s < 6) : zW mX6_mayBeBytes 1 (fun rv S' M' => S' = zS0 ∧ M = M' ∧ rv = some (.inl (zb (M 46 s = -1 ∨ M 46 s = 0)))) (0, 0) zS0 0 (zargs 0 [.inr (.inr 45), .inl s]) [] M := by
  change zW _ _ _ _ _ 0 [(0, .inr (.inr 45)), (1, .inl s)] [] M
  refine z_aload_n 0 (zdec DX6_mayBeBytes 0 rfl) rfl rfl (by decide) ?_
  refine z_getr (rw1 := -55) (ki := 0) (r' := 46) 45 6 (zdec DX6_mayBeBytes 1 rfl) rfl rfl shp45 rfl (by decide) rfl rfl fl_SixWalls_Shelves_11 (zPa hP 47 rfl) ?_
  refine z_iload_n 1 (zdec DX6_mayBeBytes 2 rfl) rfl rfl ?_
  refine z_iald 46 (zdec DX6_mayBeBytes 3 rfl) rfl shp46 ⟨by omega, by omega⟩ ?_
  refine z_iconst (-1) (zdec DX6_mayBeBytes 4 rfl) (by decide) ?_
  refine z_icmp_eq 19 (zdec DX6_mayBeBytes 5 rfl) rfl (fun h7 => ?_) (fun h7 => ?_)
  ·
    refine z_iconst 1 (zdec DX6_mayBeBytes 11 rfl) (by decide) ?_
    refine z_goto 24 (zdec DX6_mayBeBytes 12 rfl) rfl ?_
    exact z_zret (zdec DX6_mayBeBytes 14 rfl) rfl (by omega) (⟨rfl, rfl, zri (by unfold zb; split <;> omega)⟩)
  ·
    refine z_aload_n 0 (zdec DX6_mayBeBytes 6 rfl) rfl rfl (by decide) ?_
    refine z_getr (rw1 := -55) (ki := 0) (r' := 46) 45 6 (zdec DX6_mayBeBytes 7 rfl) rfl rfl shp45 rfl (by decide) rfl rfl fl_SixWalls_Shelves_11 (zPa hP 47 rfl) ?_
    refine z_iload_n 1 (zdec DX6_mayBeBytes 8 rfl) rfl rfl ?_
    refine z_iald 46 (zdec DX6_mayBeBytes 9 rfl) rfl shp46 ⟨by omega, by omega⟩ ?_
    refine z_if_ne 23 (zdec DX6_mayBeBytes 10 rfl) rfl (fun h16 => ?_) (fun h16 => ?_)
    ·
      refine z_iconst 0 (zdec DX6_mayBeBytes 13 rfl) (by decide) ?_
      exact z_zret (zdec DX6_mayBeBytes 14 rfl) rfl (by omega) (⟨rfl, rfl, zri (by unfold zb; split <;> omega)⟩)
    ·
      refine z_iconst 1 (zdec DX6_mayBeBytes 11 rfl) (by decide) ?_
      refine z_goto 24 (zdec DX6_mayBeBytes 12 rfl) rfl ?_
      exact z_zret (zdec DX6_mayBeBytes 14 rfl) rfl (by omega) (⟨rfl, rfl, zri (by unfold zb; split <;> omega)⟩)
set_option maxHeartbeats 4000000 in
theorem cX6_cellOn {M : zMm} (hP : zP M) (s : Int) (hs : 0 ≤ s ∧ s < 6) : zW mX6_cellOn 1 (fun rv S' M' => S' = zS0 ∧ M = M' ∧ rv = some (.inl (if M 46 s = 5 then M 47 s else -1))) (0, 0) zS0 0 (zargs 0 [.inr (.inr 45), .inl s]) [] M := by
  change zW _ _ _ _ _ 0 [(0, .inr (.inr 45)), (1, .inl s)] [] M
  refine z_aload_n 0 (zdec DX6_cellOn 0 rfl) rfl rfl (by decide) ?_
  refine z_getr (rw1 := -55) (ki := 0) (r' := 46) 45 6 (zdec DX6_cellOn 1 rfl) rfl rfl shp45 rfl (by decide) rfl rfl fl_SixWalls_Shelves_11 (zPa hP 47 rfl) ?_
  refine z_iload_n 1 (zdec DX6_cellOn 2 rfl) rfl rfl ?_
  refine z_iald 46 (zdec DX6_cellOn 3 rfl) rfl shp46 ⟨by omega, by omega⟩ ?_
  refine z_iconst 5 (zdec DX6_cellOn 4 rfl) (by decide) ?_
  refine z_icmp_ne 19 (zdec DX6_cellOn 5 rfl) rfl (fun h7 => ?_) (fun h7 => ?_)
  ·
    refine z_iconst (-1) (zdec DX6_cellOn 11 rfl) (by decide) ?_
    exact z_iret (zdec DX6_cellOn 12 rfl) rfl (⟨rfl, rfl, zri (by split <;> omega)⟩)
  ·
    refine z_aload_n 0 (zdec DX6_cellOn 6 rfl) rfl rfl (by decide) ?_
    refine z_getr (rw1 := -55) (ki := 1) (r' := 47) 45 6 (zdec DX6_cellOn 7 rfl) rfl rfl shp45 rfl (by decide) rfl rfl fl_SixWalls_Shelves_15 (zPa hP 48 rfl) ?_
    refine z_iload_n 1 (zdec DX6_cellOn 8 rfl) rfl rfl ?_
    refine z_iald 47 (zdec DX6_cellOn 9 rfl) rfl shp47 ⟨by omega, by omega⟩ ?_
    refine z_goto 20 (zdec DX6_cellOn 10 rfl) rfl ?_
    exact z_iret (zdec DX6_cellOn 12 rfl) rfl (⟨rfl, rfl, zri (by split <;> omega)⟩)
set_option maxHeartbeats 4000000 in
theorem cX6_hold {M : zMm} (hP : zP M) (s v : Int) (hs : 0 ≤ s ∧ s < 6) : zW mX6_hold 1 (fun rv S' M' => S' = zS0 ∧ rv = none ∧ M' = zup (zup (zup M 46 s (if v < 0 then -1 else 5)) 47 s v) 48 s 0) (0, 0) zS0 0 (zargs 0 [.inr (.inr 45), .inl s, .inl v]) [] M := by
  change zW _ _ _ _ _ 0 [(0, .inr (.inr 45)), (1, .inl s), (2, .inl v)] [] M
  refine z_aload_n 0 (zdec DX6_hold 0 rfl) rfl rfl (by decide) ?_
  refine z_getr (rw1 := -55) (ki := 0) (r' := 46) 45 6 (zdec DX6_hold 1 rfl) rfl rfl shp45 rfl (by decide) rfl rfl fl_SixWalls_Shelves_11 (zPa hP 47 rfl) ?_
  refine z_iload_n 1 (zdec DX6_hold 2 rfl) rfl rfl ?_
  refine z_iload_n 2 (zdec DX6_hold 3 rfl) rfl rfl ?_
  refine z_if_ge 13 (zdec DX6_hold 4 rfl) rfl (fun h6 => ?_) (fun h6 => ?_)
  ·
    refine z_iconst 5 (zdec DX6_hold 7 rfl) (by decide) ?_
    refine z_iast 46 (zdec DX6_hold 8 rfl) rfl shp46 ⟨by omega, by omega⟩ ?_
    refine z_aload_n 0 (zdec DX6_hold 9 rfl) rfl rfl (by decide) ?_
    refine z_getr (rw1 := -55) (ki := 1) (r' := 47) 45 6 (zdec DX6_hold 10 rfl) rfl rfl shp45 rfl (by decide) rfl rfl fl_SixWalls_Shelves_15 (zPa (zP_up hP (by decide)) 48 rfl) ?_
    refine z_iload_n 1 (zdec DX6_hold 11 rfl) rfl rfl ?_
    refine z_iload_n 2 (zdec DX6_hold 12 rfl) rfl rfl ?_
    refine z_iast 47 (zdec DX6_hold 13 rfl) rfl shp47 ⟨by omega, by omega⟩ ?_
    refine z_aload_n 0 (zdec DX6_hold 14 rfl) rfl rfl (by decide) ?_
    refine z_getr (rw1 := -55) (ki := 2) (r' := 48) 45 6 (zdec DX6_hold 15 rfl) rfl rfl shp45 rfl (by decide) rfl rfl fl_SixWalls_Shelves_18 (zPa (zP_up (zP_up hP (by decide)) (by decide)) 49 rfl) ?_
    refine z_iload_n 1 (zdec DX6_hold 16 rfl) rfl rfl ?_
    refine z_iconst 0 (zdec DX6_hold 17 rfl) (by decide) ?_
    refine z_iast 48 (zdec DX6_hold 18 rfl) rfl shp48 ⟨by omega, by omega⟩ ?_
    exact z_vret (zdec DX6_hold 19 rfl) rfl (⟨rfl, rfl, by rw [if_neg (by omega)]⟩)
  ·
    refine z_iconst (-1) (zdec DX6_hold 5 rfl) (by decide) ?_
    refine z_goto 14 (zdec DX6_hold 6 rfl) rfl ?_
    refine z_iast 46 (zdec DX6_hold 8 rfl) rfl shp46 ⟨by omega, by omega⟩ ?_
    refine z_aload_n 0 (zdec DX6_hold 9 rfl) rfl rfl (by decide) ?_
    refine z_getr (rw1 := -55) (ki := 1) (r' := 47) 45 6 (zdec DX6_hold 10 rfl) rfl rfl shp45 rfl (by decide) rfl rfl fl_SixWalls_Shelves_15 (zPa (zP_up hP (by decide)) 48 rfl) ?_
    refine z_iload_n 1 (zdec DX6_hold 11 rfl) rfl rfl ?_
    refine z_iload_n 2 (zdec DX6_hold 12 rfl) rfl rfl ?_
    refine z_iast 47 (zdec DX6_hold 13 rfl) rfl shp47 ⟨by omega, by omega⟩ ?_
    refine z_aload_n 0 (zdec DX6_hold 14 rfl) rfl rfl (by decide) ?_
    refine z_getr (rw1 := -55) (ki := 2) (r' := 48) 45 6 (zdec DX6_hold 15 rfl) rfl rfl shp45 rfl (by decide) rfl rfl fl_SixWalls_Shelves_18 (zPa (zP_up (zP_up hP (by decide)) (by decide)) 49 rfl) ?_
    refine z_iload_n 1 (zdec DX6_hold 16 rfl) rfl rfl ?_
    refine z_iconst 0 (zdec DX6_hold 17 rfl) (by decide) ?_
    refine z_iast 48 (zdec DX6_hold 18 rfl) rfl shp48 ⟨by omega, by omega⟩ ?_
    exact z_vret (zdec DX6_hold 19 rfl) rfl (⟨rfl, rfl, by rw [if_pos (by omega)]⟩)
set_option maxHeartbeats 4000000 in
theorem lp_X6_lay_17 {Q : zPost} {M : zMm} (hP : zP M) (s : Int) (hs : 0 ≤ s ∧ s < 6) (hx40 : ∀ (M2 : zMm), (M2 = zfill M (50 + s) 60 0) → zW mX6_lay 1 Q (0, 0) zS0 40 [] [] M2) : ∀ (n : Nat) (i : Int) (M2 : zMm), (60 - i).toNat < n → (0 ≤ i ∧ i ≤ 60 ∧ M2 = zfill M (50 + s) i 0) → zW mX6_lay 1 Q (0, 0) zS0 17 [(0, .inr (.inr 45)), (1, .inl s), (4, .inl i)] [] M2 := by
  intro n
  induction n with
  | zero => intro i M2 hn; exact absurd hn (Nat.not_lt_zero _)
  | succ n ih =>
    intro i M2 hn hI
    refine z_iload 2 (zdec DX6_lay 12 rfl) rfl ?_
    refine z_bipush 60 (zdec DX6_lay 13 rfl) (by decide) ?_
    refine z_icmp_ge 40 (zdec DX6_lay 14 rfl) rfl (fun h21 => ?_) (fun h21 => ?_)
    ·
      refine z_weak (L' := []) (by simp) ?_
      exact hx40 M2 (by rw [hI.2.2, show i = 60 by omega])
    ·
      refine z_aload_n 0 (zdec DX6_lay 15 rfl) rfl rfl (by decide) ?_
      refine z_getr (rw1 := -55) (ki := 3) (r' := 49) 45 6 (zdec DX6_lay 16 rfl) rfl rfl shp45 rfl (by decide) rfl rfl fl_SixWalls_Shelves_23 (zPa (hI.2.2 ▸ zP_fill hP (by omega)) 50 rfl) ?_
      refine z_iload_n 1 (zdec DX6_lay 17 rfl) rfl rfl ?_
      refine z_aald (rw1 := -59) (r' := (50 + s)) 49 (zdec DX6_lay 18 rfl) rfl rfl shp49 ⟨by omega, by omega⟩ (zP_rows (hI.2.2 ▸ zP_fill hP (by omega)) hs) (by omega) ?_
      refine z_iload 2 (zdec DX6_lay 19 rfl) rfl ?_
      refine z_lconst 0 (zdec DX6_lay 20 rfl) rfl ?_
      refine z_last (50 + s).toNat (zdec DX6_lay 21 rfl) (by omega) (shpRow hs) ⟨by omega, by omega⟩ ?_
      refine z_iinc (L' := [(0, .inr (.inr 45)), (1, .inl s), (4, .inl (i + 1))]) 2 (zdec DX6_lay 22 rfl) rfl (by unfold z32; omega) rfl (by decide) ?_
      refine z_goto 17 (zdec DX6_lay 23 rfl) rfl ?_
      exact ih (i + 1) (zup M2 (50 + s) i 0) (by omega) ⟨by omega, by omega, by rw [hI.2.2]; exact zfill_s hI.1⟩
set_option maxHeartbeats 4000000 in
theorem cX6_lay {M : zMm} (hP : zP M) (s sort n : Int) (hs : 0 ≤ s ∧ s < 6) : zW mX6_lay 1 (fun rv S' M' => S' = zS0 ∧ rv = none ∧ M' = zfill (zup (zup M 46 s sort) 48 s n) (50 + s) 60 0) (0, 0) zS0 0 (zargs 0 [.inr (.inr 45), .inl s, .inl sort, .inl n]) [] M := by
  change zW _ _ _ _ _ 0 [(0, .inr (.inr 45)), (1, .inl s), (2, .inl sort), (3, .inl n)] [] M
  refine z_aload_n 0 (zdec DX6_lay 0 rfl) rfl rfl (by decide) ?_
  refine z_getr (rw1 := -55) (ki := 0) (r' := 46) 45 6 (zdec DX6_lay 1 rfl) rfl rfl shp45 rfl (by decide) rfl rfl fl_SixWalls_Shelves_11 (zPa hP 47 rfl) ?_
  refine z_iload_n 1 (zdec DX6_lay 2 rfl) rfl rfl ?_
  refine z_iload_n 2 (zdec DX6_lay 3 rfl) rfl rfl ?_
  refine z_iast 46 (zdec DX6_lay 4 rfl) rfl shp46 ⟨by omega, by omega⟩ ?_
  refine z_aload_n 0 (zdec DX6_lay 5 rfl) rfl rfl (by decide) ?_
  refine z_getr (rw1 := -55) (ki := 2) (r' := 48) 45 6 (zdec DX6_lay 6 rfl) rfl rfl shp45 rfl (by decide) rfl rfl fl_SixWalls_Shelves_18 (zPa (zP_up hP (by decide)) 49 rfl) ?_
  refine z_iload_n 1 (zdec DX6_lay 7 rfl) rfl rfl ?_
  refine z_iload_n 3 (zdec DX6_lay 8 rfl) rfl rfl ?_
  refine z_iast 48 (zdec DX6_lay 9 rfl) rfl shp48 ⟨by omega, by omega⟩ ?_
  refine z_iconst 0 (zdec DX6_lay 10 rfl) (by decide) ?_
  refine z_istore (L' := [(0, .inr (.inr 45)), (1, .inl s), (2, .inl sort), (3, .inl n), (4, .inl 0)]) (zdec DX6_lay 11 rfl) rfl (by decide) ?_
  refine z_weak (L' := [(0, .inr (.inr 45)), (1, .inl s), (4, .inl 0)]) (by simp) ?_
  refine lp_X6_lay_17 (zP_up (zP_up hP (by decide)) (by decide)) s hs (hx40 := fun M2 hx => ?_) _ 0 (zup (zup M 46 s sort) 48 s n) (Nat.lt_succ_self _) ⟨by omega, by omega, zfill_0.symm⟩
  exact z_vret (zdec DX6_lay 24 rfl) rfl (⟨rfl, rfl, hx⟩)
set_option maxHeartbeats 4000000 in
theorem cX6_hasPlace {M : zMm} (hP : zP M) (s i : Int) (hs : 0 ≤ s ∧ s < 6) : zW mX6_hasPlace 1 (fun rv S' M' => S' = zS0 ∧ M = M' ∧ rv = some (.inl (zb (0 ≤ i ∧ i < M 48 s)))) (0, 0) zS0 0 (zargs 0 [.inr (.inr 45), .inl s, .inl i]) [] M := by
  change zW _ _ _ _ _ 0 [(0, .inr (.inr 45)), (1, .inl s), (2, .inl i)] [] M
  refine z_iload_n 2 (zdec DX6_hasPlace 0 rfl) rfl rfl ?_
  refine z_if_lt 18 (zdec DX6_hasPlace 1 rfl) rfl (fun h1 => ?_) (fun h1 => ?_)
  ·
    refine z_iconst 0 (zdec DX6_hasPlace 10 rfl) (by decide) ?_
    exact z_zret (zdec DX6_hasPlace 11 rfl) rfl (by omega) (⟨rfl, rfl, zri (by unfold zb; split <;> omega)⟩)
  ·
    refine z_iload_n 2 (zdec DX6_hasPlace 2 rfl) rfl rfl ?_
    refine z_aload_n 0 (zdec DX6_hasPlace 3 rfl) rfl rfl (by decide) ?_
    refine z_getr (rw1 := -55) (ki := 2) (r' := 48) 45 6 (zdec DX6_hasPlace 4 rfl) rfl rfl shp45 rfl (by decide) rfl rfl fl_SixWalls_Shelves_18 (zPa hP 49 rfl) ?_
    refine z_iload_n 1 (zdec DX6_hasPlace 5 rfl) rfl rfl ?_
    refine z_iald 48 (zdec DX6_hasPlace 6 rfl) rfl shp48 ⟨by omega, by omega⟩ ?_
    refine z_icmp_ge 18 (zdec DX6_hasPlace 7 rfl) rfl (fun h11 => ?_) (fun h11 => ?_)
    ·
      refine z_iconst 0 (zdec DX6_hasPlace 10 rfl) (by decide) ?_
      exact z_zret (zdec DX6_hasPlace 11 rfl) rfl (by omega) (⟨rfl, rfl, zri (by unfold zb; split <;> omega)⟩)
    ·
      refine z_iconst 1 (zdec DX6_hasPlace 8 rfl) (by decide) ?_
      refine z_goto 19 (zdec DX6_hasPlace 9 rfl) rfl ?_
      exact z_zret (zdec DX6_hasPlace 11 rfl) rfl (by omega) (⟨rfl, rfl, zri (by unfold zb; split <;> omega)⟩)
set_option maxHeartbeats 4000000 in
theorem cX6_hasStretch {M : zMm} (hP : zP M) (hv : zSv M) (s i n : Int) (hs : 0 ≤ s ∧ s < 6) : zW mX6_hasStretch 1 (fun rv S' M' => S' = zS0 ∧ M = M' ∧ rv = some (.inl (zb (0 ≤ i ∧ 0 ≤ n ∧ n ≤ M 48 s ∧ i ≤ M 48 s - n)))) (0, 0) zS0 0 (zargs 0 [.inr (.inr 45), .inl s, .inl i, .inl n]) [] M := by
  change zW _ _ _ _ _ 0 [(0, .inr (.inr 45)), (1, .inl s), (2, .inl i), (3, .inl n)] [] M
  have hv1 := (hv s hs.1 hs.2).2
  refine z_iload_n 2 (zdec DX6_hasStretch 0 rfl) rfl rfl ?_
  refine z_if_lt 34 (zdec DX6_hasStretch 1 rfl) rfl (fun h1 => ?_) (fun h1 => ?_)
  ·
    refine z_iconst 0 (zdec DX6_hasStretch 20 rfl) (by decide) ?_
    exact z_zret (zdec DX6_hasStretch 21 rfl) rfl (by omega) (⟨rfl, rfl, zri (by unfold zb; split <;> omega)⟩)
  ·
    refine z_iload_n 3 (zdec DX6_hasStretch 2 rfl) rfl rfl ?_
    refine z_if_lt 34 (zdec DX6_hasStretch 3 rfl) rfl (fun h5 => ?_) (fun h5 => ?_)
    ·
      refine z_iconst 0 (zdec DX6_hasStretch 20 rfl) (by decide) ?_
      exact z_zret (zdec DX6_hasStretch 21 rfl) rfl (by omega) (⟨rfl, rfl, zri (by unfold zb; split <;> omega)⟩)
    ·
      refine z_iload_n 3 (zdec DX6_hasStretch 4 rfl) rfl rfl ?_
      refine z_aload_n 0 (zdec DX6_hasStretch 5 rfl) rfl rfl (by decide) ?_
      refine z_getr (rw1 := -55) (ki := 2) (r' := 48) 45 6 (zdec DX6_hasStretch 6 rfl) rfl rfl shp45 rfl (by decide) rfl rfl fl_SixWalls_Shelves_18 (zPa hP 49 rfl) ?_
      refine z_iload_n 1 (zdec DX6_hasStretch 7 rfl) rfl rfl ?_
      refine z_iald 48 (zdec DX6_hasStretch 8 rfl) rfl shp48 ⟨by omega, by omega⟩ ?_
      refine z_icmp_gt 34 (zdec DX6_hasStretch 9 rfl) rfl (fun h15 => ?_) (fun h15 => ?_)
      ·
        refine z_iconst 0 (zdec DX6_hasStretch 20 rfl) (by decide) ?_
        exact z_zret (zdec DX6_hasStretch 21 rfl) rfl (by omega) (⟨rfl, rfl, zri (by unfold zb; split <;> omega)⟩)
      ·
        refine z_iload_n 2 (zdec DX6_hasStretch 10 rfl) rfl rfl ?_
        refine z_aload_n 0 (zdec DX6_hasStretch 11 rfl) rfl rfl (by decide) ?_
        refine z_getr (rw1 := -55) (ki := 2) (r' := 48) 45 6 (zdec DX6_hasStretch 12 rfl) rfl rfl shp45 rfl (by decide) rfl rfl fl_SixWalls_Shelves_18 (zPa hP 49 rfl) ?_
        refine z_iload_n 1 (zdec DX6_hasStretch 13 rfl) rfl rfl ?_
        refine z_iald 48 (zdec DX6_hasStretch 14 rfl) rfl shp48 ⟨by omega, by omega⟩ ?_
        refine z_iload_n 3 (zdec DX6_hasStretch 15 rfl) rfl rfl ?_
        refine z_isub (zdec DX6_hasStretch 16 rfl) (by unfold z32; omega) ?_
        refine z_icmp_gt 34 (zdec DX6_hasStretch 17 rfl) rfl (fun h27 => ?_) (fun h27 => ?_)
        ·
          refine z_iconst 0 (zdec DX6_hasStretch 20 rfl) (by decide) ?_
          exact z_zret (zdec DX6_hasStretch 21 rfl) rfl (by omega) (⟨rfl, rfl, zri (by unfold zb; split <;> omega)⟩)
        ·
          refine z_iconst 1 (zdec DX6_hasStretch 18 rfl) (by decide) ?_
          refine z_goto 35 (zdec DX6_hasStretch 19 rfl) rfl ?_
          exact z_zret (zdec DX6_hasStretch 21 rfl) rfl (by omega) (⟨rfl, rfl, zri (by unfold zb; split <;> omega)⟩)
set_option maxHeartbeats 4000000 in
theorem cX6_refusalOfRow {M : zMm} (hP : zP M) (s : Int) : zW mX6_refusalOfRow 2 (fun rv S' M' => S' = zS0 ∧ M = M' ∧ rv = some (.inl (zrow1 M s))) (0, 0) zS0 0 (zargs 0 [.inr (.inr 45), .inl s]) [] M := by
  change zW _ _ _ _ _ 0 [(0, .inr (.inr 45)), (1, .inl s)] [] M
  refine z_aload_n 0 (zdec DX6_refusalOfRow 0 rfl) rfl rfl (by decide) ?_
  refine z_iload_n 1 (zdec DX6_refusalOfRow 1 rfl) rfl rfl ?_
  refine z_inv mX6_isShelf 45 6 [.inl s] (zdec DX6_refusalOfRow 2 rfl) ml_SixWalls_Shelves_26 okX6_isShelf rfl shp45 rfl rfl rfl rfl (Nat.le_of_ble_eq_true rfl) (Nat.le_of_ble_eq_true rfl) (b' := (0, 0)) ⟨Nat.le_refl 0, Nat.le_refl 0⟩ (Nat.le_of_ble_eq_true rfl) (cX6_isShelf s) (fun rv9 S9 M2 h9 => ?_)
  obtain ⟨rfl, rfl, rfl⟩ := h9
  change zW _ _ _ _ _ 5 [(0, .inr (.inr 45)), (1, .inl s)] [.inl (zb (0 ≤ s ∧ s < 6))] M
  refine z_if_ne 10 (zdec DX6_refusalOfRow 3 rfl) rfl (fun h5 => ?_) (fun h5 => ?_)
  ·
    rw [zb_ne0] at h5
    refine z_aload_n 0 (zdec DX6_refusalOfRow 6 rfl) rfl rfl (by decide) ?_
    refine z_getr (rw1 := -55) (ki := 0) (r' := 46) 45 6 (zdec DX6_refusalOfRow 7 rfl) rfl rfl shp45 rfl (by decide) rfl rfl fl_SixWalls_Shelves_11 (zPa hP 47 rfl) ?_
    refine z_iload_n 1 (zdec DX6_refusalOfRow 8 rfl) rfl rfl ?_
    refine z_iald 46 (zdec DX6_refusalOfRow 9 rfl) rfl shp46 ⟨by omega, by omega⟩ ?_
    refine z_iconst (-1) (zdec DX6_refusalOfRow 10 rfl) (by decide) ?_
    refine z_icmp_ne 23 (zdec DX6_refusalOfRow 11 rfl) rfl (fun h17 => ?_) (fun h17 => ?_)
    ·
      refine z_aload_n 0 (zdec DX6_refusalOfRow 14 rfl) rfl rfl (by decide) ?_
      refine z_getr (rw1 := -55) (ki := 0) (r' := 46) 45 6 (zdec DX6_refusalOfRow 15 rfl) rfl rfl shp45 rfl (by decide) rfl rfl fl_SixWalls_Shelves_11 (zPa hP 47 rfl) ?_
      refine z_iload_n 1 (zdec DX6_refusalOfRow 16 rfl) rfl rfl ?_
      refine z_iald 46 (zdec DX6_refusalOfRow 17 rfl) rfl shp46 ⟨by omega, by omega⟩ ?_
      refine z_iconst 5 (zdec DX6_refusalOfRow 18 rfl) (by decide) ?_
      refine z_icmp_ne 38 (zdec DX6_refusalOfRow 19 rfl) rfl (fun h30 => ?_) (fun h30 => ?_)
      ·
        refine z_iconst 0 (zdec DX6_refusalOfRow 22 rfl) (by decide) ?_
        exact z_iret (zdec DX6_refusalOfRow 23 rfl) rfl (⟨rfl, rfl, zri (by unfold zrow1; (repeat (first | rw [if_pos (by omega)] | rw [if_neg (by omega)])))⟩)
      ·
        refine z_bipush (-12) (zdec DX6_refusalOfRow 20 rfl) (by decide) ?_
        refine z_goto 39 (zdec DX6_refusalOfRow 21 rfl) rfl ?_
        exact z_iret (zdec DX6_refusalOfRow 23 rfl) rfl (⟨rfl, rfl, zri (by unfold zrow1; (repeat (first | rw [if_pos (by omega)] | rw [if_neg (by omega)])))⟩)
    ·
      refine z_bipush (-11) (zdec DX6_refusalOfRow 12 rfl) (by decide) ?_
      exact z_iret (zdec DX6_refusalOfRow 13 rfl) rfl (⟨rfl, rfl, zri (by unfold zrow1; (repeat (first | rw [if_pos (by omega)] | rw [if_neg (by omega)])))⟩)
  ·
    rw [Classical.not_not, zb_eq0] at h5
    refine z_iconst (-1) (zdec DX6_refusalOfRow 4 rfl) (by decide) ?_
    exact z_iret (zdec DX6_refusalOfRow 5 rfl) rfl (⟨rfl, rfl, zri (by unfold zrow1; (repeat (first | rw [if_pos (by omega)] | rw [if_neg (by omega)])))⟩)
set_option maxHeartbeats 4000000 in
theorem cX6_refusal {M : zMm} (hP : zP M) (s i : Int) : zW mX6_refusal 3 (fun rv S' M' => S' = zS0 ∧ M = M' ∧ rv = some (.inl (zrefuse M s i))) (0, 0) zS0 0 (zargs 0 [.inr (.inr 45), .inl s, .inl i]) [] M := by
  change zW _ _ _ _ _ 0 [(0, .inr (.inr 45)), (1, .inl s), (2, .inl i)] [] M
  refine z_aload_n 0 (zdec DX6_refusal 0 rfl) rfl rfl (by decide) ?_
  refine z_iload_n 1 (zdec DX6_refusal 1 rfl) rfl rfl ?_
  refine z_inv mX6_refusalOfRow 45 6 [.inl s] (zdec DX6_refusal 2 rfl) ml_SixWalls_Shelves_30 okX6_refusalOfRow rfl shp45 rfl rfl rfl rfl (Nat.le_of_ble_eq_true rfl) (Nat.le_of_ble_eq_true rfl) (b' := (0, 0)) ⟨Nat.le_refl 0, Nat.le_refl 0⟩ (Nat.le_of_ble_eq_true rfl) (cX6_refusalOfRow hP s) (fun rv9 S9 M2 h9 => ?_)
  obtain ⟨rfl, rfl, rfl⟩ := h9
  change zW _ _ _ _ _ 5 [(0, .inr (.inr 45)), (1, .inl s), (2, .inl i)] [.inl (zrow1 M s)] M
  refine z_istore_n (L' := [(0, .inr (.inr 45)), (1, .inl s), (2, .inl i), (3, .inl (zrow1 M s))]) (zdec DX6_refusal 3 rfl) rfl rfl (by decide) ?_
  refine z_iload_n 3 (zdec DX6_refusal 4 rfl) rfl rfl ?_
  refine z_if_eq 12 (zdec DX6_refusal 5 rfl) rfl (fun h7 => ?_) (fun h7 => ?_)
  ·
    refine z_aload_n 0 (zdec DX6_refusal 8 rfl) rfl rfl (by decide) ?_
    refine z_iload_n 1 (zdec DX6_refusal 9 rfl) rfl rfl ?_
    refine z_iload_n 2 (zdec DX6_refusal 10 rfl) rfl rfl ?_
    refine z_inv mX6_hasPlace 45 6 [.inl s, .inl i] (zdec DX6_refusal 11 rfl) ml_SixWalls_Shelves_34 okX6_hasPlace rfl shp45 rfl rfl rfl rfl (Nat.le_of_ble_eq_true rfl) (Nat.le_of_ble_eq_true rfl) (b' := (0, 0)) ⟨Nat.le_refl 0, Nat.le_refl 0⟩ (Nat.le_of_ble_eq_true rfl) (cX6_hasPlace hP s i (zrow1_in h7)) (fun rv9 S9 M15 h9 => ?_)
    obtain ⟨rfl, rfl, rfl⟩ := h9
    change zW _ _ _ _ _ 18 [(0, .inr (.inr 45)), (1, .inl s), (2, .inl i), (3, .inl (zrow1 M s))] [.inl (zb (0 ≤ i ∧ i < M 48 s))] M
    refine z_if_eq 25 (zdec DX6_refusal 12 rfl) rfl (fun h18 => ?_) (fun h18 => ?_)
    ·
      refine z_bipush (-13) (zdec DX6_refusal 15 rfl) (by decide) ?_
      exact z_iret (zdec DX6_refusal 16 rfl) rfl (⟨rfl, rfl, zri (by (try rw [zb_eq0] at h18); unfold zrefuse; (repeat (first | rw [if_pos (by omega)] | rw [if_neg (by omega)])))⟩)
    ·
      refine z_iconst 0 (zdec DX6_refusal 13 rfl) (by decide) ?_
      refine z_goto 27 (zdec DX6_refusal 14 rfl) rfl ?_
      exact z_iret (zdec DX6_refusal 16 rfl) rfl (⟨rfl, rfl, zri (by (try rw [zb_eq0] at h18); unfold zrefuse; (repeat (first | rw [if_pos (by omega)] | rw [if_neg (by omega)])))⟩)
  ·
    refine z_iload_n 3 (zdec DX6_refusal 6 rfl) rfl rfl ?_
    exact z_iret (zdec DX6_refusal 7 rfl) rfl (⟨rfl, rfl, zri (by (try rw [zb_eq0] at h18); unfold zrefuse; (repeat (first | rw [if_pos (by omega)] | rw [if_neg (by omega)])))⟩)
set_option maxHeartbeats 4000000 in
theorem cX6_refusalOfTwo {M : zMm} (hP : zP M) (s t : Int) : zW mX6_refusalOfTwo 3 (fun rv S' M' => S' = zS0 ∧ M = M' ∧ rv = some (.inl (zref2 M s t))) (0, 0) zS0 0 (zargs 0 [.inr (.inr 45), .inl s, .inl t]) [] M := by
  change zW _ _ _ _ _ 0 [(0, .inr (.inr 45)), (1, .inl s), (2, .inl t)] [] M
  refine z_aload_n 0 (zdec DX6_refusalOfTwo 0 rfl) rfl rfl (by decide) ?_
  refine z_iload_n 1 (zdec DX6_refusalOfTwo 1 rfl) rfl rfl ?_
  refine z_inv mX6_refusalOfRow 45 6 [.inl s] (zdec DX6_refusalOfTwo 2 rfl) ml_SixWalls_Shelves_30 okX6_refusalOfRow rfl shp45 rfl rfl rfl rfl (Nat.le_of_ble_eq_true rfl) (Nat.le_of_ble_eq_true rfl) (b' := (0, 0)) ⟨Nat.le_refl 0, Nat.le_refl 0⟩ (Nat.le_of_ble_eq_true rfl) (cX6_refusalOfRow hP s) (fun rv9 S9 M2 h9 => ?_)
  obtain ⟨rfl, rfl, rfl⟩ := h9
  change zW _ _ _ _ _ 5 [(0, .inr (.inr 45)), (1, .inl s), (2, .inl t)] [.inl (zrow1 M s)] M
  refine z_istore_n (L' := [(0, .inr (.inr 45)), (1, .inl s), (2, .inl t), (3, .inl (zrow1 M s))]) (zdec DX6_refusalOfTwo 3 rfl) rfl rfl (by decide) ?_
  refine z_aload_n 0 (zdec DX6_refusalOfTwo 4 rfl) rfl rfl (by decide) ?_
  refine z_iload_n 2 (zdec DX6_refusalOfTwo 5 rfl) rfl rfl ?_
  refine z_inv mX6_refusalOfRow 45 6 [.inl t] (zdec DX6_refusalOfTwo 6 rfl) ml_SixWalls_Shelves_30 okX6_refusalOfRow rfl shp45 rfl rfl rfl rfl (Nat.le_of_ble_eq_true rfl) (Nat.le_of_ble_eq_true rfl) (b' := (0, 0)) ⟨Nat.le_refl 0, Nat.le_refl 0⟩ (Nat.le_of_ble_eq_true rfl) (cX6_refusalOfRow hP t) (fun rv9 S9 M8 h9 => ?_)
  obtain ⟨rfl, rfl, rfl⟩ := h9
  change zW _ _ _ _ _ 11 [(0, .inr (.inr 45)), (1, .inl s), (2, .inl t), (3, .inl (zrow1 M s))] [.inl (zrow1 M t)] M
  refine z_istore (L' := [(0, .inr (.inr 45)), (1, .inl s), (2, .inl t), (3, .inl (zrow1 M s)), (4, .inl (zrow1 M t))]) (zdec DX6_refusalOfTwo 7 rfl) rfl (by decide) ?_
  refine z_iload_n 3 (zdec DX6_refusalOfTwo 8 rfl) rfl rfl ?_
  refine z_iconst (-1) (zdec DX6_refusalOfTwo 9 rfl) (by decide) ?_
  refine z_icmp_eq 24 (zdec DX6_refusalOfTwo 10 rfl) rfl (fun h15 => ?_) (fun h15 => ?_)
  ·
    refine z_iconst (-1) (zdec DX6_refusalOfTwo 14 rfl) (by decide) ?_
    exact z_iret (zdec DX6_refusalOfTwo 15 rfl) rfl (⟨rfl, rfl, zri (by unfold zref2; (repeat (first | rw [if_pos (by omega)] | rw [if_neg (by omega)])))⟩)
  ·
    refine z_iload 4 (zdec DX6_refusalOfTwo 11 rfl) rfl ?_
    refine z_iconst (-1) (zdec DX6_refusalOfTwo 12 rfl) (by decide) ?_
    refine z_icmp_ne 26 (zdec DX6_refusalOfTwo 13 rfl) rfl (fun h21 => ?_) (fun h21 => ?_)
    ·
      refine z_iload_n 3 (zdec DX6_refusalOfTwo 16 rfl) rfl rfl ?_
      refine z_bipush (-11) (zdec DX6_refusalOfTwo 17 rfl) (by decide) ?_
      refine z_icmp_eq 39 (zdec DX6_refusalOfTwo 18 rfl) rfl (fun h29 => ?_) (fun h29 => ?_)
      ·
        refine z_bipush (-11) (zdec DX6_refusalOfTwo 22 rfl) (by decide) ?_
        exact z_iret (zdec DX6_refusalOfTwo 23 rfl) rfl (⟨rfl, rfl, zri (by unfold zref2; (repeat (first | rw [if_pos (by omega)] | rw [if_neg (by omega)])))⟩)
      ·
        refine z_iload 4 (zdec DX6_refusalOfTwo 19 rfl) rfl ?_
        refine z_bipush (-11) (zdec DX6_refusalOfTwo 20 rfl) (by decide) ?_
        refine z_icmp_ne 42 (zdec DX6_refusalOfTwo 21 rfl) rfl (fun h36 => ?_) (fun h36 => ?_)
        ·
          refine z_iload_n 3 (zdec DX6_refusalOfTwo 24 rfl) rfl rfl ?_
          refine z_if_ne 66 (zdec DX6_refusalOfTwo 25 rfl) rfl (fun h43 => ?_) (fun h43 => ?_)
          ·
            refine z_bipush (-12) (zdec DX6_refusalOfTwo 37 rfl) (by decide) ?_
            exact z_iret (zdec DX6_refusalOfTwo 38 rfl) rfl (⟨rfl, rfl, zri (by unfold zref2; (repeat (first | rw [if_pos (by omega)] | rw [if_neg (by omega)])))⟩)
          ·
            refine z_iload 4 (zdec DX6_refusalOfTwo 26 rfl) rfl ?_
            refine z_if_ne 66 (zdec DX6_refusalOfTwo 27 rfl) rfl (fun h48 => ?_) (fun h48 => ?_)
            ·
              refine z_bipush (-12) (zdec DX6_refusalOfTwo 37 rfl) (by decide) ?_
              exact z_iret (zdec DX6_refusalOfTwo 38 rfl) rfl (⟨rfl, rfl, zri (by unfold zref2; (repeat (first | rw [if_pos (by omega)] | rw [if_neg (by omega)])))⟩)
            ·
              have hs := zrow1_in (M := M) (s := s) (by omega)
              have ht := zrow1_in (M := M) (s := t) (by omega)
              refine z_aload_n 0 (zdec DX6_refusalOfTwo 28 rfl) rfl rfl (by decide) ?_
              refine z_getr (rw1 := -55) (ki := 0) (r' := 46) 45 6 (zdec DX6_refusalOfTwo 29 rfl) rfl rfl shp45 rfl (by decide) rfl rfl fl_SixWalls_Shelves_11 (zPa hP 47 rfl) ?_
              refine z_iload_n 1 (zdec DX6_refusalOfTwo 30 rfl) rfl rfl ?_
              refine z_iald 46 (zdec DX6_refusalOfTwo 31 rfl) rfl shp46 ⟨by omega, by omega⟩ ?_
              refine z_aload_n 0 (zdec DX6_refusalOfTwo 32 rfl) rfl rfl (by decide) ?_
              refine z_getr (rw1 := -55) (ki := 0) (r' := 46) 45 6 (zdec DX6_refusalOfTwo 33 rfl) rfl rfl shp45 rfl (by decide) rfl rfl fl_SixWalls_Shelves_11 (zPa hP 47 rfl) ?_
              refine z_iload_n 2 (zdec DX6_refusalOfTwo 34 rfl) rfl rfl ?_
              refine z_iald 46 (zdec DX6_refusalOfTwo 35 rfl) rfl shp46 ⟨by omega, by omega⟩ ?_
              refine z_icmp_eq 69 (zdec DX6_refusalOfTwo 36 rfl) rfl (fun h63 => ?_) (fun h63 => ?_)
              ·
                refine z_iconst 0 (zdec DX6_refusalOfTwo 39 rfl) (by decide) ?_
                exact z_iret (zdec DX6_refusalOfTwo 40 rfl) rfl (⟨rfl, rfl, zri (by unfold zref2; (repeat (first | rw [if_pos (by omega)] | rw [if_neg (by omega)])))⟩)
              ·
                refine z_bipush (-12) (zdec DX6_refusalOfTwo 37 rfl) (by decide) ?_
                exact z_iret (zdec DX6_refusalOfTwo 38 rfl) rfl (⟨rfl, rfl, zri (by unfold zref2; (repeat (first | rw [if_pos (by omega)] | rw [if_neg (by omega)])))⟩)
        ·
          refine z_bipush (-11) (zdec DX6_refusalOfTwo 22 rfl) (by decide) ?_
          exact z_iret (zdec DX6_refusalOfTwo 23 rfl) rfl (⟨rfl, rfl, zri (by unfold zref2; (repeat (first | rw [if_pos (by omega)] | rw [if_neg (by omega)])))⟩)
    ·
      refine z_iconst (-1) (zdec DX6_refusalOfTwo 14 rfl) (by decide) ?_
      exact z_iret (zdec DX6_refusalOfTwo 15 rfl) rfl (⟨rfl, rfl, zri (by unfold zref2; (repeat (first | rw [if_pos (by omega)] | rw [if_neg (by omega)])))⟩)
set_option maxHeartbeats 4000000 in
theorem cX6_at {M : zMm} (hP : zP M) (s i : Int) (hs : 0 ≤ s ∧ s < 6) (hi : 0 ≤ i ∧ i < 60) : zW mX6_at 1 (fun rv S' M' => S' = zS0 ∧ M = M' ∧ rv = some (.inr (.inl (M (50 + s) i)))) (0, 0) zS0 0 (zargs 0 [.inr (.inr 45), .inl s, .inl i]) [] M := by
  change zW _ _ _ _ _ 0 [(0, .inr (.inr 45)), (1, .inl s), (2, .inl i)] [] M
  refine z_aload_n 0 (zdec DX6_at 0 rfl) rfl rfl (by decide) ?_
  refine z_getr (rw1 := -55) (ki := 3) (r' := 49) 45 6 (zdec DX6_at 1 rfl) rfl rfl shp45 rfl (by decide) rfl rfl fl_SixWalls_Shelves_23 (zPa hP 50 rfl) ?_
  refine z_iload_n 1 (zdec DX6_at 2 rfl) rfl rfl ?_
  refine z_aald (rw1 := -59) (r' := (50 + s)) 49 (zdec DX6_at 3 rfl) rfl rfl shp49 ⟨by omega, by omega⟩ (zP_rows hP hs) (by omega) ?_
  refine z_iload_n 2 (zdec DX6_at 4 rfl) rfl rfl ?_
  refine z_lald (50 + s).toNat (zdec DX6_at 5 rfl) (by omega) (shpRow hs) ⟨by omega, by omega⟩ ?_
  exact z_lret (zdec DX6_at 6 rfl) rfl (⟨rfl, rfl, rfl⟩)
set_option maxHeartbeats 4000000 in
theorem cX6_narrowed {M : zMm} (sort v : Int) : zW mX6_narrowed 1 (fun rv S' M' => S' = zS0 ∧ M = M' ∧ rv = some (.inr (.inl (znarrow sort v)))) (0, 0) zS0 0 (zargs 0 [.inl sort, .inr (.inl v)]) [] M := by
  change zW _ _ _ _ _ 0 [(0, .inl sort), (1, .inr (.inl v))] [] M
  refine z_iload_n 0 (zdec DX6_narrowed 0 rfl) rfl rfl ?_
  refine z_tsw (zdec DX6_narrowed 1 rfl) (by decide) (fun j off hj he => ?_) (fun hd => ?_)
  · match j, hj, he with
    | 0, hj, he =>
      cases hj
      refine ⟨32, rfl, ?_⟩
      have h1 : sort = 0 := by simpa using he
      refine z_lload_n 1 (zdec DX6_narrowed 2 rfl) rfl rfl ?_
      refine z_l2i (zdec DX6_narrowed 3 rfl) ?_
      refine z_i2b (zdec DX6_narrowed 4 rfl) ?_
      refine z_i2l (zdec DX6_narrowed 5 rfl) ?_
      exact z_lret (zdec DX6_narrowed 6 rfl) rfl (⟨rfl, rfl, by rw [h1]; rfl⟩)
    | 1, hj, he =>
      cases hj
      refine ⟨37, rfl, ?_⟩
      have h1 : sort = 1 := by simpa using he
      refine z_lload_n 1 (zdec DX6_narrowed 7 rfl) rfl rfl ?_
      refine z_l2i (zdec DX6_narrowed 8 rfl) ?_
      refine z_i2s (zdec DX6_narrowed 9 rfl) ?_
      refine z_i2l (zdec DX6_narrowed 10 rfl) ?_
      exact z_lret (zdec DX6_narrowed 11 rfl) rfl (⟨rfl, rfl, by rw [h1]; rfl⟩)
    | 2, hj, he =>
      cases hj
      refine ⟨42, rfl, ?_⟩
      have h1 : sort = 2 := by simpa using he
      refine z_lload_n 1 (zdec DX6_narrowed 12 rfl) rfl rfl ?_
      refine z_l2i (zdec DX6_narrowed 13 rfl) ?_
      refine z_i2l (zdec DX6_narrowed 14 rfl) ?_
      exact z_lret (zdec DX6_narrowed 15 rfl) rfl (⟨rfl, rfl, by rw [h1]; rfl⟩)
    | 3, hj, he =>
      cases hj
      refine ⟨46, rfl, ?_⟩
      have h1 : sort = 3 := by simpa using he
      refine z_lload_n 1 (zdec DX6_narrowed 16 rfl) rfl rfl ?_
      exact z_lret (zdec DX6_narrowed 17 rfl) rfl (⟨rfl, rfl, by rw [h1]; rfl⟩)
    | j + 4, hj, he => exact absurd (List.getElem?_eq_some_iff.mp hj).1 (by simp)
  · refine ⟨48, rfl, ?_⟩
    refine z_lload_n 1 (zdec DX6_narrowed 18 rfl) rfl rfl ?_
    refine z_lconst 0 (zdec DX6_narrowed 19 rfl) rfl ?_
    refine z_lcmp (zdec DX6_narrowed 20 rfl) ?_
    refine z_if_eq 58 (zdec DX6_narrowed 21 rfl) rfl (fun h51 => ?_) (fun h51 => ?_)
    ·
      refine z_lconst 0 (zdec DX6_narrowed 24 rfl) rfl ?_
      exact z_lret (zdec DX6_narrowed 25 rfl) rfl (⟨rfl, rfl, by have hv : v = 0 := (by unfold zcmp at h51; (repeat split at h51) <;> omega); unfold znarrow; (repeat (first | rw [if_pos (by omega)] | rw [if_neg (by omega)]))⟩)
    ·
      refine z_lconst 1 (zdec DX6_narrowed 22 rfl) rfl ?_
      refine z_goto 59 (zdec DX6_narrowed 23 rfl) rfl ?_
      exact z_lret (zdec DX6_narrowed 25 rfl) rfl (⟨rfl, rfl, by have hv : v ≠ 0 := (fun e => h51 (by rw [e]; rfl)); unfold znarrow; (repeat (first | rw [if_pos (by omega)] | rw [if_neg (by omega)]))⟩)
set_option maxHeartbeats 4000000 in
theorem cX6_set {M : zMm} (hP : zP M) (s i v : Int) (hs : 0 ≤ s ∧ s < 6) (hi : 0 ≤ i ∧ i < 60) : zW mX6_set 2 (fun rv S' M' => S' = zS0 ∧ rv = none ∧ M' = zup M (50 + s) i (znarrow (M 46 s) v)) (0, 0) zS0 0 (zargs 0 [.inr (.inr 45), .inl s, .inl i, .inr (.inl v)]) [] M := by
  change zW _ _ _ _ _ 0 [(0, .inr (.inr 45)), (1, .inl s), (2, .inl i), (3, .inr (.inl v))] [] M
  refine z_aload_n 0 (zdec DX6_set 0 rfl) rfl rfl (by decide) ?_
  refine z_getr (rw1 := -55) (ki := 3) (r' := 49) 45 6 (zdec DX6_set 1 rfl) rfl rfl shp45 rfl (by decide) rfl rfl fl_SixWalls_Shelves_23 (zPa hP 50 rfl) ?_
  refine z_iload_n 1 (zdec DX6_set 2 rfl) rfl rfl ?_
  refine z_aald (rw1 := -59) (r' := (50 + s)) 49 (zdec DX6_set 3 rfl) rfl rfl shp49 ⟨by omega, by omega⟩ (zP_rows hP hs) (by omega) ?_
  refine z_iload_n 2 (zdec DX6_set 4 rfl) rfl rfl ?_
  refine z_aload_n 0 (zdec DX6_set 5 rfl) rfl rfl (by decide) ?_
  refine z_getr (rw1 := -55) (ki := 0) (r' := 46) 45 6 (zdec DX6_set 6 rfl) rfl rfl shp45 rfl (by decide) rfl rfl fl_SixWalls_Shelves_11 (zPa hP 47 rfl) ?_
  refine z_iload_n 1 (zdec DX6_set 7 rfl) rfl rfl ?_
  refine z_iald 46 (zdec DX6_set 8 rfl) rfl shp46 ⟨by omega, by omega⟩ ?_
  refine z_lload_n 3 (zdec DX6_set 9 rfl) rfl rfl ?_
  refine z_invs mX6_narrowed [.inl (M 46 s), .inr (.inl v)] (zdec DX6_set 10 rfl) (Or.inl ml_SixWalls_Shelves_38) okX6_narrowed rfl rfl (Nat.le_of_ble_eq_true rfl) (Nat.le_of_ble_eq_true rfl) (b' := (0, 0)) ⟨Nat.le_refl 0, Nat.le_refl 0⟩ (Nat.le_of_ble_eq_true rfl) (cX6_narrowed (M 46 s) v) (fun rv9 S9 M14 h9 => ?_)
  obtain ⟨rfl, rfl, rfl⟩ := h9
  change zW _ _ _ _ _ 17 [(0, .inr (.inr 45)), (1, .inl s), (2, .inl i), (3, .inr (.inl v))] [.inr (.inl (znarrow (M 46 s) v)), .inl i, .inr (.inr (50 + s))] M
  refine z_last (50 + s).toNat (zdec DX6_set 11 rfl) (by omega) (shpRow hs) ⟨by omega, by omega⟩ ?_
  exact z_vret (zdec DX6_set 12 rfl) rfl (⟨rfl, rfl, rfl⟩)
set_option maxHeartbeats 4000000 in
theorem cX6_move {M : zMm} (hP : zP M) (s i t j n : Int) (hs : 0 ≤ s ∧ s < 6) (ht : 0 ≤ t ∧ t < 6) (hn : 0 ≤ i ∧ 0 ≤ n ∧ i + n ≤ 60 ∧ 0 ≤ j ∧ j + n ≤ 60) : zW mX6_move 2 (fun rv S' M' => S' = zS0 ∧ rv = none ∧ M' = zcpy M (50 + s) i (50 + t) j n) (0, 0) zS0 0 (zargs 0 [.inr (.inr 45), .inl s, .inl i, .inl t, .inl j, .inl n]) [] M := by
  change zW _ _ _ _ _ 0 [(0, .inr (.inr 45)), (1, .inl s), (2, .inl i), (3, .inl t), (4, .inl j), (5, .inl n)] [] M
  refine z_aload_n 0 (zdec DX6_move 0 rfl) rfl rfl (by decide) ?_
  refine z_getr (rw1 := -55) (ki := 3) (r' := 49) 45 6 (zdec DX6_move 1 rfl) rfl rfl shp45 rfl (by decide) rfl rfl fl_SixWalls_Shelves_23 (zPa hP 50 rfl) ?_
  refine z_iload_n 1 (zdec DX6_move 2 rfl) rfl rfl ?_
  refine z_aald (rw1 := -59) (r' := (50 + s)) 49 (zdec DX6_move 3 rfl) rfl rfl shp49 ⟨by omega, by omega⟩ (zP_rows hP hs) (by omega) ?_
  refine z_iload_n 2 (zdec DX6_move 4 rfl) rfl rfl ?_
  refine z_aload_n 0 (zdec DX6_move 5 rfl) rfl rfl (by decide) ?_
  refine z_getr (rw1 := -55) (ki := 3) (r' := 49) 45 6 (zdec DX6_move 6 rfl) rfl rfl shp45 rfl (by decide) rfl rfl fl_SixWalls_Shelves_23 (zPa hP 50 rfl) ?_
  refine z_iload_n 3 (zdec DX6_move 7 rfl) rfl rfl ?_
  refine z_aald (rw1 := -59) (r' := (50 + t)) 49 (zdec DX6_move 8 rfl) rfl rfl shp49 ⟨by omega, by omega⟩ (zP_rows hP ht) (by omega) ?_
  refine z_iload 4 (zdec DX6_move 9 rfl) rfl ?_
  refine z_iload 5 (zdec DX6_move 10 rfl) rfl ?_
  refine z_copyl (50 + s).toNat (50 + t).toNat (zdec DX6_move 11 rfl) ml_SixWalls_Shelves_42 zcp1 zcp2 zcp3 (by omega) (by omega) (shpRow hs) (shpRow ht) ⟨by omega, by omega, by omega⟩ ⟨by omega, by omega⟩ (by decide) rfl ?_
  exact z_vret (zdec DX6_move 12 rfl) rfl (⟨rfl, rfl, rfl⟩)
theorem zrefuse_in {M : zMm} {s i : Int} (h : zrefuse M s i = 0) : (0 ≤ s ∧ s < 6) ∧ 0 ≤ i ∧ i < M 48 s := by
  unfold zrefuse at h
  split at h
  · omega
  · rename_i h1
    refine ⟨zrow1_in (M := M) (by omega), ?_⟩
    split at h
    · assumption
    · omega
theorem zref2_in {M : zMm} {s t : Int} (h : zref2 M s t = 0) : (0 ≤ s ∧ s < 6) ∧ (0 ≤ t ∧ t < 6) := by
  unfold zref2 at h
  split at h
  · omega
  · split at h
    · omega
    · split at h
      · omega
      · exact ⟨zrow1_in (M := M) (by omega), zrow1_in (M := M) (by omega)⟩
set_option maxHeartbeats 4000000 in
theorem cX9_put {M : zMm} (hP : zP M) (hv : zSv M) (s i v : Int) : zW mX9_put 4 (fun rv S' M' => S' = zS0 ∧ ((zrefuse M s i ≠ 0 ∧ rv = some (.inl (zrefuse M s i)) ∧ M = M') ∨ (zrefuse M s i = 0 ∧ rv = some (.inl 1) ∧ M' = zup M (50 + s) i (znarrow (M 46 s) v)))) (0, 0) zS0 0 (zargs 0 [.inr (.inr 0), .inl s, .inl i, .inr (.inl v)]) [] M := by
  change zW _ _ _ _ _ 0 [(0, .inr (.inr 0)), (1, .inl s), (2, .inl i), (3, .inr (.inl v))] [] M
  refine z_aload_n 0 (zdec DX9_put 0 rfl) rfl rfl (by decide) ?_
  refine z_getr (rw1 := -10) (ki := 8) (r' := 45) 0 9 (zdec DX9_put 1 rfl) rfl rfl shp0 rfl (by decide) rfl rfl fl_SixWalls_72 (zPa hP 8 rfl) ?_
  refine z_iload_n 1 (zdec DX9_put 2 rfl) rfl rfl ?_
  refine z_iload_n 2 (zdec DX9_put 3 rfl) rfl rfl ?_
  refine z_inv mX6_refusal 45 6 [.inl s, .inl i] (zdec DX9_put 4 rfl) ml_SixWalls_321 okX6_refusal rfl shp45 rfl rfl rfl rfl (Nat.le_of_ble_eq_true rfl) (Nat.le_of_ble_eq_true rfl) (b' := (0, 0)) ⟨Nat.le_refl 0, Nat.le_refl 0⟩ (Nat.le_of_ble_eq_true rfl) (cX6_refusal hP s i) (fun rv9 S9 M6 h9 => ?_)
  obtain ⟨rfl, rfl, rfl⟩ := h9
  change zW _ _ _ _ _ 9 [(0, .inr (.inr 0)), (1, .inl s), (2, .inl i), (3, .inr (.inl v))] [.inl (zrefuse M s i)] M
  refine z_istore (L' := [(0, .inr (.inr 0)), (1, .inl s), (2, .inl i), (3, .inr (.inl v)), (5, .inl (zrefuse M s i))]) (zdec DX9_put 5 rfl) rfl (by decide) ?_
  refine z_iload 4 (zdec DX9_put 6 rfl) rfl ?_
  refine z_if_eq 19 (zdec DX9_put 7 rfl) rfl (fun h13 => ?_) (fun h13 => ?_)
  ·
    refine z_aload_n 0 (zdec DX9_put 10 rfl) rfl rfl (by decide) ?_
    refine z_getr (rw1 := -10) (ki := 8) (r' := 45) 0 9 (zdec DX9_put 11 rfl) rfl rfl shp0 rfl (by decide) rfl rfl fl_SixWalls_72 (zPa hP 8 rfl) ?_
    refine z_iload_n 1 (zdec DX9_put 12 rfl) rfl rfl ?_
    refine z_iload_n 2 (zdec DX9_put 13 rfl) rfl rfl ?_
    refine z_lload_n 3 (zdec DX9_put 14 rfl) rfl rfl ?_
    refine z_inv mX6_set 45 6 [.inl s, .inl i, .inr (.inl v)] (zdec DX9_put 15 rfl) ml_SixWalls_324 okX6_set rfl shp45 rfl rfl rfl rfl (Nat.le_of_ble_eq_true rfl) (Nat.le_of_ble_eq_true rfl) (b' := (0, 0)) ⟨Nat.le_refl 0, Nat.le_refl 0⟩ (Nat.le_of_ble_eq_true rfl) (cX6_set hP s i v (zrefuse_in h13).1 ⟨(zrefuse_in h13).2.1, by have := (zrefuse_in h13).2.2; have := (hv s (zrefuse_in h13).1.1 (zrefuse_in h13).1.2).2; omega⟩) (fun rv9 S9 M26 h9 => ?_)
    obtain ⟨rfl, rfl, e26⟩ := h9
    change zW _ _ _ _ _ 29 [(0, .inr (.inr 0)), (1, .inl s), (2, .inl i), (3, .inr (.inl v)), (5, .inl (zrefuse M s i))] [] M26
    refine z_iconst 1 (zdec DX9_put 16 rfl) (by decide) ?_
    exact z_iret (zdec DX9_put 17 rfl) rfl (⟨rfl, Or.inr ⟨h13, rfl, e26⟩⟩)
  ·
    refine z_iload 4 (zdec DX9_put 8 rfl) rfl ?_
    exact z_iret (zdec DX9_put 9 rfl) rfl (⟨rfl, Or.inl ⟨h13, rfl, rfl⟩⟩)
set_option maxHeartbeats 4000000 in
theorem cX9_element {M : zMm} (hP : zP M) (hv : zSv M) (s i : Int) : zW mX9_element 4 (fun rv S' M' => S' = zS0 ∧ M = M' ∧ rv = some (.inr (.inl (if zrefuse M s i ≠ 0 then -9223372036854775808 else M (50 + s) i)))) (0, 0) zS0 0 (zargs 0 [.inr (.inr 0), .inl s, .inl i]) [] M := by
  change zW _ _ _ _ _ 0 [(0, .inr (.inr 0)), (1, .inl s), (2, .inl i)] [] M
  refine z_aload_n 0 (zdec DX9_element 0 rfl) rfl rfl (by decide) ?_
  refine z_getr (rw1 := -10) (ki := 8) (r' := 45) 0 9 (zdec DX9_element 1 rfl) rfl rfl shp0 rfl (by decide) rfl rfl fl_SixWalls_72 (zPa hP 8 rfl) ?_
  refine z_iload_n 1 (zdec DX9_element 2 rfl) rfl rfl ?_
  refine z_iload_n 2 (zdec DX9_element 3 rfl) rfl rfl ?_
  refine z_inv mX6_refusal 45 6 [.inl s, .inl i] (zdec DX9_element 4 rfl) ml_SixWalls_321 okX6_refusal rfl shp45 rfl rfl rfl rfl (Nat.le_of_ble_eq_true rfl) (Nat.le_of_ble_eq_true rfl) (b' := (0, 0)) ⟨Nat.le_refl 0, Nat.le_refl 0⟩ (Nat.le_of_ble_eq_true rfl) (cX6_refusal hP s i) (fun rv9 S9 M6 h9 => ?_)
  obtain ⟨rfl, rfl, rfl⟩ := h9
  change zW _ _ _ _ _ 9 [(0, .inr (.inr 0)), (1, .inl s), (2, .inl i)] [.inl (zrefuse M s i)] M
  refine z_if_eq 18 (zdec DX9_element 5 rfl) rfl (fun h9 => ?_) (fun h9 => ?_)
  ·
    refine z_aload_n 0 (zdec DX9_element 8 rfl) rfl rfl (by decide) ?_
    refine z_getr (rw1 := -10) (ki := 8) (r' := 45) 0 9 (zdec DX9_element 9 rfl) rfl rfl shp0 rfl (by decide) rfl rfl fl_SixWalls_72 (zPa hP 8 rfl) ?_
    refine z_iload_n 1 (zdec DX9_element 10 rfl) rfl rfl ?_
    refine z_iload_n 2 (zdec DX9_element 11 rfl) rfl rfl ?_
    refine z_inv mX6_at 45 6 [.inl s, .inl i] (zdec DX9_element 12 rfl) ml_SixWalls_178 okX6_at rfl shp45 rfl rfl rfl rfl (Nat.le_of_ble_eq_true rfl) (Nat.le_of_ble_eq_true rfl) (b' := (0, 0)) ⟨Nat.le_refl 0, Nat.le_refl 0⟩ (Nat.le_of_ble_eq_true rfl) (cX6_at hP s i (zrefuse_in h9).1 ⟨(zrefuse_in h9).2.1, by have := (zrefuse_in h9).2.2; have := (hv s (zrefuse_in h9).1.1 (zrefuse_in h9).1.2).2; omega⟩) (fun rv9 S9 M24 h9 => ?_)
    obtain ⟨rfl, rfl, rfl⟩ := h9
    change zW _ _ _ _ _ 27 [(0, .inr (.inr 0)), (1, .inl s), (2, .inl i)] [.inr (.inl (M (50 + s) i))] M
    exact z_lret (zdec DX9_element 13 rfl) rfl (⟨rfl, rfl, by rw [if_neg (by omega)]⟩)
  ·
    refine z_ldc2 (-9223372036854775808) (zdec DX9_element 6 rfl) kl_SixWalls_245 rfl ⟨by decide, by decide⟩ ?_
    refine z_goto 27 (zdec DX9_element 7 rfl) rfl ?_
    exact z_lret (zdec DX9_element 13 rfl) rfl (⟨rfl, rfl, by rw [if_pos (by omega)]⟩)
set_option maxHeartbeats 4000000 in
theorem cX9_shift {M : zMm} (hP : zP M) (hv : zSv M) (s i t j n : Int) : zW mX9_shift 4 (fun rv S' M' => S' = zS0 ∧ ((zref2 M s t ≠ 0 ∧ rv = some (.inl (zref2 M s t)) ∧ M = M') ∨ (zref2 M s t = 0 ∧ ¬ (zstretch M s i n ∧ zstretch M t j n) ∧ rv = some (.inl (-13)) ∧ M = M') ∨ (zref2 M s t = 0 ∧ (zstretch M s i n ∧ zstretch M t j n) ∧ rv = some (.inl n) ∧ M' = zcpy M (50 + s) i (50 + t) j n))) (0, 0) zS0 0 (zargs 0 [.inr (.inr 0), .inl s, .inl i, .inl t, .inl j, .inl n]) [] M := by
  change zW _ _ _ _ _ 0 [(0, .inr (.inr 0)), (1, .inl s), (2, .inl i), (3, .inl t), (4, .inl j), (5, .inl n)] [] M
  refine z_aload_n 0 (zdec DX9_shift 0 rfl) rfl rfl (by decide) ?_
  refine z_getr (rw1 := -10) (ki := 8) (r' := 45) 0 9 (zdec DX9_shift 1 rfl) rfl rfl shp0 rfl (by decide) rfl rfl fl_SixWalls_72 (zPa hP 8 rfl) ?_
  refine z_iload_n 1 (zdec DX9_shift 2 rfl) rfl rfl ?_
  refine z_iload_n 3 (zdec DX9_shift 3 rfl) rfl rfl ?_
  refine z_inv mX6_refusalOfTwo 45 6 [.inl s, .inl t] (zdec DX9_shift 4 rfl) ml_SixWalls_328 okX6_refusalOfTwo rfl shp45 rfl rfl rfl rfl (Nat.le_of_ble_eq_true rfl) (Nat.le_of_ble_eq_true rfl) (b' := (0, 0)) ⟨Nat.le_refl 0, Nat.le_refl 0⟩ (Nat.le_of_ble_eq_true rfl) (cX6_refusalOfTwo hP s t) (fun rv9 S9 M6 h9 => ?_)
  obtain ⟨rfl, rfl, rfl⟩ := h9
  change zW _ _ _ _ _ 9 [(0, .inr (.inr 0)), (1, .inl s), (2, .inl i), (3, .inl t), (4, .inl j), (5, .inl n)] [.inl (zref2 M s t)] M
  refine z_istore (L' := [(0, .inr (.inr 0)), (1, .inl s), (2, .inl i), (3, .inl t), (4, .inl j), (5, .inl n), (6, .inl (zref2 M s t))]) (zdec DX9_shift 5 rfl) rfl (by decide) ?_
  refine z_iload 6 (zdec DX9_shift 6 rfl) rfl ?_
  refine z_if_eq 19 (zdec DX9_shift 7 rfl) rfl (fun h13 => ?_) (fun h13 => ?_)
  ·
    have hst := zref2_in h13
    refine z_aload_n 0 (zdec DX9_shift 10 rfl) rfl rfl (by decide) ?_
    refine z_getr (rw1 := -10) (ki := 8) (r' := 45) 0 9 (zdec DX9_shift 11 rfl) rfl rfl shp0 rfl (by decide) rfl rfl fl_SixWalls_72 (zPa hP 8 rfl) ?_
    refine z_iload_n 1 (zdec DX9_shift 12 rfl) rfl rfl ?_
    refine z_iload_n 2 (zdec DX9_shift 13 rfl) rfl rfl ?_
    refine z_iload 5 (zdec DX9_shift 14 rfl) rfl ?_
    refine z_inv mX6_hasStretch 45 6 [.inl s, .inl i, .inl n] (zdec DX9_shift 15 rfl) ml_SixWalls_331 okX6_hasStretch rfl shp45 rfl rfl rfl rfl (Nat.le_of_ble_eq_true rfl) (Nat.le_of_ble_eq_true rfl) (b' := (0, 0)) ⟨Nat.le_refl 0, Nat.le_refl 0⟩ (Nat.le_of_ble_eq_true rfl) (cX6_hasStretch hP hv s i n hst.1) (fun rv9 S9 M27 h9 => ?_)
    obtain ⟨rfl, rfl, rfl⟩ := h9
    change zW _ _ _ _ _ 30 [(0, .inr (.inr 0)), (1, .inl s), (2, .inl i), (3, .inl t), (4, .inl j), (5, .inl n), (6, .inl (zref2 M s t))] [.inl (zb (zstretch M s i n))] M
    refine z_if_eq 48 (zdec DX9_shift 16 rfl) rfl (fun h30 => ?_) (fun h30 => ?_)
    ·
      refine z_bipush (-13) (zdec DX9_shift 24 rfl) (by decide) ?_
      exact z_iret (zdec DX9_shift 25 rfl) rfl (⟨rfl, Or.inr (Or.inl ⟨h13, fun hq => (zb_eq0.mp h30) hq.1, rfl, rfl⟩)⟩)
    ·
      rw [zb_eq0, Classical.not_not] at h30
      refine z_aload_n 0 (zdec DX9_shift 17 rfl) rfl rfl (by decide) ?_
      refine z_getr (rw1 := -10) (ki := 8) (r' := 45) 0 9 (zdec DX9_shift 18 rfl) rfl rfl shp0 rfl (by decide) rfl rfl fl_SixWalls_72 (zPa hP 8 rfl) ?_
      refine z_iload_n 3 (zdec DX9_shift 19 rfl) rfl rfl ?_
      refine z_iload 4 (zdec DX9_shift 20 rfl) rfl ?_
      refine z_iload 5 (zdec DX9_shift 21 rfl) rfl ?_
      refine z_inv mX6_hasStretch 45 6 [.inl t, .inl j, .inl n] (zdec DX9_shift 22 rfl) ml_SixWalls_331 okX6_hasStretch rfl shp45 rfl rfl rfl rfl (Nat.le_of_ble_eq_true rfl) (Nat.le_of_ble_eq_true rfl) (b' := (0, 0)) ⟨Nat.le_refl 0, Nat.le_refl 0⟩ (Nat.le_of_ble_eq_true rfl) (cX6_hasStretch hP hv t j n hst.2) (fun rv9 S9 M42 h9 => ?_)
      obtain ⟨rfl, rfl, rfl⟩ := h9
      change zW _ _ _ _ _ 45 [(0, .inr (.inr 0)), (1, .inl s), (2, .inl i), (3, .inl t), (4, .inl j), (5, .inl n), (6, .inl (zref2 M s t))] [.inl (zb (zstretch M t j n))] M
      refine z_if_ne 51 (zdec DX9_shift 23 rfl) rfl (fun h45 => ?_) (fun h45 => ?_)
      ·
        rw [zb_ne0] at h45
        refine z_aload_n 0 (zdec DX9_shift 26 rfl) rfl rfl (by decide) ?_
        refine z_getr (rw1 := -10) (ki := 8) (r' := 45) 0 9 (zdec DX9_shift 27 rfl) rfl rfl shp0 rfl (by decide) rfl rfl fl_SixWalls_72 (zPa hP 8 rfl) ?_
        refine z_iload_n 1 (zdec DX9_shift 28 rfl) rfl rfl ?_
        refine z_iload_n 2 (zdec DX9_shift 29 rfl) rfl rfl ?_
        refine z_iload_n 3 (zdec DX9_shift 30 rfl) rfl rfl ?_
        refine z_iload 4 (zdec DX9_shift 31 rfl) rfl ?_
        refine z_iload 5 (zdec DX9_shift 32 rfl) rfl ?_
        refine z_inv mX6_move 45 6 [.inl s, .inl i, .inl t, .inl j, .inl n] (zdec DX9_shift 33 rfl) ml_SixWalls_334 okX6_move rfl shp45 rfl rfl rfl rfl (Nat.le_of_ble_eq_true rfl) (Nat.le_of_ble_eq_true rfl) (b' := (0, 0)) ⟨Nat.le_refl 0, Nat.le_refl 0⟩ (Nat.le_of_ble_eq_true rfl) (cX6_move hP s i t j n hst.1 hst.2 (by have := (hv s hst.1.1 hst.1.2).2; have := (hv t hst.2.1 hst.2.2).2; unfold zstretch at h30 h45; omega)) (fun rv9 S9 M62 h9 => ?_)
        obtain ⟨rfl, rfl, e62⟩ := h9
        change zW _ _ _ _ _ 65 [(0, .inr (.inr 0)), (1, .inl s), (2, .inl i), (3, .inl t), (4, .inl j), (5, .inl n), (6, .inl (zref2 M s t))] [] M62
        refine z_iload 5 (zdec DX9_shift 34 rfl) rfl ?_
        exact z_iret (zdec DX9_shift 35 rfl) rfl (⟨rfl, Or.inr (Or.inr ⟨h13, ⟨h30, h45⟩, rfl, e62⟩)⟩)
      ·
        refine z_bipush (-13) (zdec DX9_shift 24 rfl) (by decide) ?_
        exact z_iret (zdec DX9_shift 25 rfl) rfl (⟨rfl, Or.inr (Or.inl ⟨h13, fun hq => h45 (zb_ne0.mpr hq.2), rfl, rfl⟩)⟩)
  ·
    refine z_iload 6 (zdec DX9_shift 8 rfl) rfl ?_
    exact z_iret (zdec DX9_shift 9 rfl) rfl (⟨rfl, Or.inl ⟨h13, rfl, rfl⟩⟩)
