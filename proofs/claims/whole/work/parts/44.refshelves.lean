/-! the reference: shelves, cells, counts -/
def zCr (M : zMm) : Prop := (0 ≤ M 56 34 ∧ M 56 34 ≤ 50) ∧ (0 ≤ M 56 37 ∧ M 56 37 ≤ 1000000) ∧ ∀ i : Int, 0 ≤ i → i < 50 → 0 ≤ M 78 i ∧ M 78 i < 8
def zSr (M : zMm) : Prop := ∀ s : Int, 0 ≤ s → s < 6 → (-1 ≤ M 80 s ∧ M 80 s ≤ 54) ∧ (0 ≤ M 81 s ∧ M 81 s ≤ 60) ∧ (M 80 s < 50 → M 81 s = 0)
def zfil (M : zMm) (a n : Int) : zMm := fun c k => if c = 82 ∧ a ≤ k ∧ k < a + n then 0 else M c k
theorem zfil_0 {M : zMm} {a : Int} : zfil M a 0 = M := by
  funext c k
  unfold zfil
  rw [if_neg (by omega)]
theorem zfil_s {M : zMm} {a i : Int} (h : a ≤ i) : zup (zfil M a (i - a)) 82 i 0 = zfil M a (i + 1 - a) := by
  funext c k
  unfold zup zfil
  by_cases h1 : c = 82 ∧ k = i
  · rw [if_pos h1, if_pos (by omega)]
  · rw [if_neg h1]
    by_cases h2 : c = 82 ∧ a ≤ k ∧ k < a + (i - a)
    · rw [if_pos h2, if_pos (by omega)]
    · rw [if_neg h2, if_neg (by omega)]
theorem zfil_row {M : zMm} {a n c : Int} (h : c ≠ 82) : zfil M a n c = M c := by
  funext k
  unfold zfil
  rw [if_neg (fun q => h q.1)]
theorem zP_fil {M : zMm} {a n : Int} (h : zP M) : zP (zfil M a n) := zP_of h fun r hr => zfil_row (by omega)
def zrefR (M : zMm) (s i : Int) : Int := if ¬ (0 ≤ s ∧ s < 6) then -1 else if M 80 s < 0 then -11 else if M 80 s < 50 then -12 else if 0 ≤ i ∧ i < M 81 s then 0 else -13
theorem zrefR_in {M : zMm} {s i : Int} (h : zrefR M s i = 0) : (0 ≤ s ∧ s < 6) ∧ 50 ≤ M 80 s ∧ 0 ≤ i ∧ i < M 81 s := by
  unfold zrefR at h
  repeat' split at h
  all_goals omega
def zabR (k : Int) : Int := if k = 3 then 2 else if k = 4 then 1 else if k = 5 then 3 else if k = 7 then 4 else 0
def zch (k : Int) : Nat → Int → Int
  | 0, x => x
  | n + 1, x => if x ≠ k ∧ 0 < x then zch k n (zabR x) else x
def zcntR (M : zMm) (k : Int) : Int := if k = 0 then zsum (M 64) 16 else if k = 1 then zsum (fun w => M 57 (65 + w)) 33 else if k = 2 then M 56 25 else if k = 3 then M 56 12 else if k = 4 then M 56 5 else if k = 5 then M 56 34 else if k = 6 then M 56 37 else -1
def ztrR (M : zMm) (b : Int) : zMm := zup (if M 56 37 < 24 then zup M 79 (M 56 37) b else M) 56 37 (M 56 37 + 1)
/-- a stretch comes to another shelf -/
def zshR (M : zMm) (a b n : Int) (M' : zMm) : Prop := (∀ k : Int, M' 82 k = if b ≤ k ∧ k < b + n then M 82 (a + (k - b)) else M 82 k) ∧ ∀ c : Int, c ≠ 82 → c ≠ 83 → M' c = M c
def zr2R (M : zMm) (s t : Int) : Int := if ¬ ((0 ≤ s ∧ s < 6) ∧ 0 ≤ t ∧ t < 6) then -1 else if M 80 s < 0 ∨ M 80 t < 0 then -11 else if M 80 s < 50 ∨ M 80 s ≠ M 80 t then -12 else 0
def zfO (M : zMm) (s j : Int) : Prop := (0 ≤ j ∧ j < M 81 s) ∧ 0 ≤ M 82 (60 * s + j) ∧ M 82 (60 * s + j) ≤ 9
def zfM (M : zMm) (s i h n : Int) : zMm := zfo (fun M2 k => zup M2 57 (h + k) (M 82 (60 * s + i + k))) M n
theorem zfM_o {M : zMm} {s i h : Int} : ∀ n : Nat, zonly 57 M (zfM M s i h n) := by
  intro n
  induction n with
  | zero => exact zonly.rf
  | succ n ih => exact zonly.up ih
set_option maxHeartbeats 4000000 in
theorem cX10_isShelf {M : zMm} (s : Int) : zW mX10_isShelf 2 (fun rv S' M' => S' = zS0 ∧ M = M' ∧ rv = some (.inl (zb (0 ≤ s ∧ s < 6)))) (0, 0) zS0 0 (zargs 0 [.inl s]) [] M := by
  change zW _ _ _ _ _ 0 [(0, .inl s)] [] M
  refine z_iload_n 0 (zdec DX10_isShelf 0 rfl) rfl rfl ?_
  refine z_i2l (zdec DX10_isShelf 1 rfl) ?_
  refine z_lconst 0 (zdec DX10_isShelf 2 rfl) rfl ?_
  refine z_ldc2 5 (zdec DX10_isShelf 3 rfl) kl_SixWallsModel_137 rfl ⟨by decide, by decide⟩ ?_
  refine z_invs mX10_within [.inr (.inl s), .inr (.inl 0), .inr (.inl 5)] (zdec DX10_isShelf 4 rfl) (Or.inl ml_SixWallsModel_112) okX10_within rfl rfl (Nat.le_of_ble_eq_true rfl) (Nat.le_of_ble_eq_true rfl) (b' := (0, 0)) ⟨Nat.le_refl 0, Nat.le_refl 0⟩ (Nat.le_of_ble_eq_true rfl) (cX10_within s 0 5) (fun rv9 S9 M6 h9 => ?_)
  obtain ⟨rfl, rfl, rfl⟩ := h9
  change zW _ _ _ _ _ 9 [(0, .inl s)] [.inl (zb (0 ≤ s ∧ s ≤ 5))] M
  exact z_zret (zdec DX10_isShelf 5 rfl) rfl (by unfold zb; split <;> omega) (⟨rfl, rfl, zri (by unfold zb; split <;> split <;> omega)⟩)
set_option maxHeartbeats 4000000 in
theorem cX10_isBody {M : zMm} (hP : zP M) (hC : zCr M) (b : Int) : zW mX10_isBody 2 (fun rv S' M' => S' = zS0 ∧ M = M' ∧ rv = some (.inl (zb (0 ≤ b ∧ b < M 56 34)))) (0, 0) zS0 0 (zargs 0 [.inr (.inr 56), .inl b]) [] M := by
  change zW _ _ _ _ _ 0 [(0, .inr (.inr 56)), (1, .inl b)] [] M
  obtain ⟨⟨hc1, hc2⟩, hc3⟩ := hC
  refine z_iload_n 1 (zdec DX10_isBody 0 rfl) rfl rfl ?_
  refine z_i2l (zdec DX10_isBody 1 rfl) ?_
  refine z_lconst 0 (zdec DX10_isBody 2 rfl) rfl ?_
  refine z_aload_n 0 (zdec DX10_isBody 3 rfl) rfl rfl (by decide) ?_
  refine z_geti (ki := 34) 56 10 (zdec DX10_isBody 4 rfl) rfl shp56 rfl (by decide) rfl rfl fl_SixWallsModel_322 ?_
  refine z_iconst 1 (zdec DX10_isBody 5 rfl) (by decide) ?_
  refine z_isub (zdec DX10_isBody 6 rfl) (by unfold z32; omega) ?_
  refine z_i2l (zdec DX10_isBody 7 rfl) ?_
  refine z_invs mX10_within [.inr (.inl b), .inr (.inl 0), .inr (.inl ((M 56 34) - 1))] (zdec DX10_isBody 8 rfl) (Or.inl ml_SixWallsModel_112) okX10_within rfl rfl (Nat.le_of_ble_eq_true rfl) (Nat.le_of_ble_eq_true rfl) (b' := (0, 0)) ⟨Nat.le_refl 0, Nat.le_refl 0⟩ (Nat.le_of_ble_eq_true rfl) (cX10_within b 0 ((M 56 34) - 1)) (fun rv9 S9 M10 h9 => ?_)
  obtain ⟨rfl, rfl, rfl⟩ := h9
  change zW _ _ _ _ _ 13 [(0, .inr (.inr 56)), (1, .inl b)] [.inl (zb (0 ≤ b ∧ b ≤ ((M 56 34) - 1)))] M
  exact z_zret (zdec DX10_isBody 9 rfl) rfl (by unfold zb; split <;> omega) (⟨rfl, rfl, zri (by unfold zb; split <;> split <;> omega)⟩)
set_option maxHeartbeats 4000000 in
theorem cX10_kindOf {M : zMm} (hP : zP M) (b : Int) (hb : 0 ≤ b ∧ b < 50) : zW mX10_kindOf 1 (fun rv S' M' => S' = zS0 ∧ M = M' ∧ rv = some (.inl (M 78 b))) (0, 0) zS0 0 (zargs 0 [.inr (.inr 56), .inl b]) [] M := by
  change zW _ _ _ _ _ 0 [(0, .inr (.inr 56)), (1, .inl b)] [] M
  refine z_aload_n 0 (zdec DX10_kindOf 0 rfl) rfl rfl (by decide) ?_
  refine z_getr (rw1 := -66) (ki := 35) (r' := 78) 56 10 (zdec DX10_kindOf 1 rfl) rfl rfl shp56 rfl (by decide) rfl rfl fl_SixWallsModel_74 (zPa hP 78 rfl) ?_
  refine z_iload_n 1 (zdec DX10_kindOf 2 rfl) rfl rfl ?_
  refine z_iald 78 (zdec DX10_kindOf 3 rfl) rfl shp78 ⟨by omega, by omega⟩ ?_
  exact z_iret (zdec DX10_kindOf 4 rfl) rfl (⟨rfl, rfl, rfl⟩)
set_option maxHeartbeats 4000000 in
theorem cX10_above {M : zMm} (k : Int) : zW mX10_above 1 (fun rv S' M' => S' = zS0 ∧ M = M' ∧ rv = some (.inl (zabR k))) (0, 0) zS0 0 (zargs 0 [.inl k]) [] M := by
  change zW _ _ _ _ _ 0 [(0, .inl k)] [] M
  refine z_iload_n 0 (zdec DX10_above 0 rfl) rfl rfl ?_
  refine z_iconst 3 (zdec DX10_above 1 rfl) (by decide) ?_
  refine z_icmp_ne 9 (zdec DX10_above 2 rfl) rfl (fun h2 => ?_) (fun h2 => ?_)
  ·
    refine z_iload_n 0 (zdec DX10_above 5 rfl) rfl rfl ?_
    refine z_iconst 4 (zdec DX10_above 6 rfl) (by decide) ?_
    refine z_icmp_ne 18 (zdec DX10_above 7 rfl) rfl (fun h11 => ?_) (fun h11 => ?_)
    ·
      refine z_iload_n 0 (zdec DX10_above 10 rfl) rfl rfl ?_
      refine z_iconst 5 (zdec DX10_above 11 rfl) (by decide) ?_
      refine z_icmp_ne 27 (zdec DX10_above 12 rfl) rfl (fun h20 => ?_) (fun h20 => ?_)
      ·
        refine z_iload_n 0 (zdec DX10_above 15 rfl) rfl rfl ?_
        refine z_bipush 7 (zdec DX10_above 16 rfl) (by decide) ?_
        refine z_icmp_ne 37 (zdec DX10_above 17 rfl) rfl (fun h30 => ?_) (fun h30 => ?_)
        ·
          refine z_iconst 0 (zdec DX10_above 20 rfl) (by decide) ?_
          exact z_iret (zdec DX10_above 21 rfl) rfl (⟨rfl, rfl, zri (by unfold zabR; first | (rw [if_pos (by omega)]; done) | (rw [if_neg (by omega), if_pos (by omega)]; done) | (rw [if_neg (by omega), if_neg (by omega), if_pos (by omega)]; done) | (rw [if_neg (by omega), if_neg (by omega), if_neg (by omega), if_pos (by omega)]; done) | (rw [if_neg (by omega), if_neg (by omega), if_neg (by omega), if_neg (by omega)]; done))⟩)
        ·
          refine z_iconst 4 (zdec DX10_above 18 rfl) (by decide) ?_
          refine z_goto 38 (zdec DX10_above 19 rfl) rfl ?_
          exact z_iret (zdec DX10_above 21 rfl) rfl (⟨rfl, rfl, zri (by unfold zabR; first | (rw [if_pos (by omega)]; done) | (rw [if_neg (by omega), if_pos (by omega)]; done) | (rw [if_neg (by omega), if_neg (by omega), if_pos (by omega)]; done) | (rw [if_neg (by omega), if_neg (by omega), if_neg (by omega), if_pos (by omega)]; done) | (rw [if_neg (by omega), if_neg (by omega), if_neg (by omega), if_neg (by omega)]; done))⟩)
      ·
        refine z_iconst 3 (zdec DX10_above 13 rfl) (by decide) ?_
        refine z_goto 38 (zdec DX10_above 14 rfl) rfl ?_
        exact z_iret (zdec DX10_above 21 rfl) rfl (⟨rfl, rfl, zri (by unfold zabR; first | (rw [if_pos (by omega)]; done) | (rw [if_neg (by omega), if_pos (by omega)]; done) | (rw [if_neg (by omega), if_neg (by omega), if_pos (by omega)]; done) | (rw [if_neg (by omega), if_neg (by omega), if_neg (by omega), if_pos (by omega)]; done) | (rw [if_neg (by omega), if_neg (by omega), if_neg (by omega), if_neg (by omega)]; done))⟩)
    ·
      refine z_iconst 1 (zdec DX10_above 8 rfl) (by decide) ?_
      refine z_goto 38 (zdec DX10_above 9 rfl) rfl ?_
      exact z_iret (zdec DX10_above 21 rfl) rfl (⟨rfl, rfl, zri (by unfold zabR; first | (rw [if_pos (by omega)]; done) | (rw [if_neg (by omega), if_pos (by omega)]; done) | (rw [if_neg (by omega), if_neg (by omega), if_pos (by omega)]; done) | (rw [if_neg (by omega), if_neg (by omega), if_neg (by omega), if_pos (by omega)]; done) | (rw [if_neg (by omega), if_neg (by omega), if_neg (by omega), if_neg (by omega)]; done))⟩)
  ·
    refine z_iconst 2 (zdec DX10_above 3 rfl) (by decide) ?_
    refine z_goto 38 (zdec DX10_above 4 rfl) rfl ?_
    exact z_iret (zdec DX10_above 21 rfl) rfl (⟨rfl, rfl, zri (by unfold zabR; first | (rw [if_pos (by omega)]; done) | (rw [if_neg (by omega), if_pos (by omega)]; done) | (rw [if_neg (by omega), if_neg (by omega), if_pos (by omega)]; done) | (rw [if_neg (by omega), if_neg (by omega), if_neg (by omega), if_pos (by omega)]; done) | (rw [if_neg (by omega), if_neg (by omega), if_neg (by omega), if_neg (by omega)]; done))⟩)
set_option maxHeartbeats 4000000 in
theorem cX10_body {M : zMm} (hP : zP M) (hC : zCr M) (k : Int) : zW mX10_body 2 (fun rv S' M' => S' = zS0 ∧ rv = some (.inl (if 0 ≤ k ∧ k < 8 then (if M 56 34 < 50 then M 56 34 else -3) else -1)) ∧ M' = if (0 ≤ k ∧ k < 8) ∧ M 56 34 < 50 then zup (zup M 78 (M 56 34) k) 56 34 (M 56 34 + 1) else M) (0, 0) zS0 0 (zargs 0 [.inr (.inr 56), .inl k]) [] M := by
  change zW _ _ _ _ _ 0 [(0, .inr (.inr 56)), (1, .inl k)] [] M
  obtain ⟨⟨hc1, hc2⟩, hc3⟩ := hC
  refine z_iload_n 1 (zdec DX10_body 0 rfl) rfl rfl ?_
  refine z_i2l (zdec DX10_body 1 rfl) ?_
  refine z_lconst 0 (zdec DX10_body 2 rfl) rfl ?_
  refine z_ldc2 7 (zdec DX10_body 3 rfl) kl_SixWallsModel_325 rfl ⟨by decide, by decide⟩ ?_
  refine z_invs mX10_within [.inr (.inl k), .inr (.inl 0), .inr (.inl 7)] (zdec DX10_body 4 rfl) (Or.inl ml_SixWallsModel_112) okX10_within rfl rfl (Nat.le_of_ble_eq_true rfl) (Nat.le_of_ble_eq_true rfl) (b' := (0, 0)) ⟨Nat.le_refl 0, Nat.le_refl 0⟩ (Nat.le_of_ble_eq_true rfl) (cX10_within k 0 7) (fun rv9 S9 M6 h9 => ?_)
  obtain ⟨rfl, rfl, rfl⟩ := h9
  change zW _ _ _ _ _ 9 [(0, .inr (.inr 56)), (1, .inl k)] [.inl (zb (0 ≤ k ∧ k ≤ 7))] M
  refine z_if_ne 14 (zdec DX10_body 5 rfl) rfl (fun h9 => ?_) (fun h9 => ?_)
  ·
    have q9 := zb_ne0.mp h9
    refine z_aload_n 0 (zdec DX10_body 8 rfl) rfl rfl (by decide) ?_
    refine z_geti (ki := 34) 56 10 (zdec DX10_body 9 rfl) rfl shp56 rfl (by decide) rfl rfl fl_SixWallsModel_322 ?_
    refine z_bipush 50 (zdec DX10_body 10 rfl) (by decide) ?_
    refine z_icmp_ne 26 (zdec DX10_body 11 rfl) rfl (fun h20 => ?_) (fun h20 => ?_)
    ·
      refine z_aload_n 0 (zdec DX10_body 14 rfl) rfl rfl (by decide) ?_
      refine z_getr (rw1 := -66) (ki := 35) (r' := 78) 56 10 (zdec DX10_body 15 rfl) rfl rfl shp56 rfl (by decide) rfl rfl fl_SixWallsModel_74 (zPa hP 78 rfl) ?_
      refine z_aload_n 0 (zdec DX10_body 16 rfl) rfl rfl (by decide) ?_
      refine z_geti (ki := 34) 56 10 (zdec DX10_body 17 rfl) rfl shp56 rfl (by decide) rfl rfl fl_SixWallsModel_322 ?_
      refine z_iload_n 1 (zdec DX10_body 18 rfl) rfl rfl ?_
      refine z_iast 78 (zdec DX10_body 19 rfl) rfl shp78 ⟨by omega, by omega⟩ ?_
      refine z_aload_n 0 (zdec DX10_body 20 rfl) rfl rfl (by decide) ?_
      refine z_dup (zdec DX10_body 21 rfl) rfl ?_
      refine z_geti (ki := 34) 56 10 (zdec DX10_body 22 rfl) rfl shp56 rfl (by decide) rfl rfl fl_SixWallsModel_322 ?_
      rw [show (zup M 78 (M 56 34) k) 56 34 = M 56 34 from by simp [zup, zcpy]]
      refine z_iconst 1 (zdec DX10_body 23 rfl) (by decide) ?_
      refine z_iadd (zdec DX10_body 24 rfl) (by unfold z32; omega) ?_
      refine z_puti (ki := 34) 56 10 (zdec DX10_body 25 rfl) rfl shp56 rfl (by decide) rfl rfl fl_SixWallsModel_322 (Or.inl rfl) ?_
      refine z_aload_n 0 (zdec DX10_body 26 rfl) rfl rfl (by decide) ?_
      refine z_geti (ki := 34) 56 10 (zdec DX10_body 27 rfl) rfl shp56 rfl (by decide) rfl rfl fl_SixWallsModel_322 ?_
      rw [show (zup (zup M 78 (M 56 34) k) 56 34 ((M 56 34) + 1)) 56 34 = (M 56 34) + 1 from by simp [zup, zcpy]]
      refine z_iconst 1 (zdec DX10_body 28 rfl) (by decide) ?_
      refine z_isub (zdec DX10_body 29 rfl) (by unfold z32; omega) ?_
      exact z_iret (zdec DX10_body 30 rfl) rfl (by first | exact ⟨rfl, zri (by rw [if_neg (by omega)]), (by rw [if_neg (by omega)])⟩ | exact ⟨rfl, zri (by rw [if_pos (by omega), if_neg (by omega)]), (by rw [if_neg (by omega)])⟩ | exact ⟨rfl, zri (by rw [if_pos (by omega), if_pos (by omega)]; omega), (by rw [if_pos (by omega)])⟩)
    ·
      refine z_bipush (-3) (zdec DX10_body 12 rfl) (by decide) ?_
      exact z_iret (zdec DX10_body 13 rfl) rfl (by first | exact ⟨rfl, zri (by rw [if_neg (by omega)]), (by rw [if_neg (by omega)])⟩ | exact ⟨rfl, zri (by rw [if_pos (by omega), if_neg (by omega)]), (by rw [if_neg (by omega)])⟩ | exact ⟨rfl, zri (by rw [if_pos (by omega), if_pos (by omega)]; omega), (by rw [if_pos (by omega)])⟩)
  ·
    have q9 : ¬ (0 ≤ k ∧ k ≤ 7) := fun e => h9 (zb_ne0.mpr e)
    refine z_iconst (-1) (zdec DX10_body 6 rfl) (by decide) ?_
    exact z_iret (zdec DX10_body 7 rfl) rfl (by first | exact ⟨rfl, zri (by rw [if_neg (by omega)]), (by rw [if_neg (by omega)])⟩ | exact ⟨rfl, zri (by rw [if_pos (by omega), if_neg (by omega)]), (by rw [if_neg (by omega)])⟩ | exact ⟨rfl, zri (by rw [if_pos (by omega), if_pos (by omega)]; omega), (by rw [if_pos (by omega)])⟩)
set_option maxHeartbeats 4000000 in
theorem cX10_trace {M : zMm} (hP : zP M) (hC : zCr M) (i : Int) : zW mX10_trace 1 (fun rv S' M' => S' = zS0 ∧ M = M' ∧ rv = some (.inl (if 0 ≤ i ∧ i < (if 24 < M 56 37 then 24 else M 56 37) then M 79 i else -1))) (0, 0) zS0 0 (zargs 0 [.inr (.inr 56), .inl i]) [] M := by
  change zW _ _ _ _ _ 0 [(0, .inr (.inr 56)), (1, .inl i)] [] M
  obtain ⟨m, hm, hm2⟩ : ∃ m : Int, (if 24 < M 56 37 then 24 else M 56 37) = m ∧ ((24 < M 56 37 ∧ m = 24) ∨ (¬ 24 < M 56 37 ∧ m = M 56 37)) := by
    split
    · exact ⟨_, rfl, Or.inl ⟨by assumption, rfl⟩⟩
    · exact ⟨_, rfl, Or.inr ⟨by assumption, rfl⟩⟩
  rw [hm]
  refine z_iload_n 1 (zdec DX10_trace 0 rfl) rfl rfl ?_
  refine z_if_lt 27 (zdec DX10_trace 1 rfl) rfl (fun h1 => ?_) (fun h1 => ?_)
  ·
    refine z_iconst (-1) (zdec DX10_trace 14 rfl) (by decide) ?_
    exact z_iret (zdec DX10_trace 15 rfl) rfl (⟨rfl, rfl, zri (by first | (rw [if_pos (by omega)]; done) | (rw [if_neg (by omega)]; done))⟩)
  ·
    refine z_iload_n 1 (zdec DX10_trace 2 rfl) rfl rfl ?_
    refine z_aload_n 0 (zdec DX10_trace 3 rfl) rfl rfl (by decide) ?_
    refine z_geti (ki := 37) 56 10 (zdec DX10_trace 4 rfl) rfl shp56 rfl (by decide) rfl rfl fl_SixWallsModel_327 ?_
    refine z_icmp_ge 27 (zdec DX10_trace 5 rfl) rfl (fun h9 => ?_) (fun h9 => ?_)
    ·
      refine z_iconst (-1) (zdec DX10_trace 14 rfl) (by decide) ?_
      exact z_iret (zdec DX10_trace 15 rfl) rfl (⟨rfl, rfl, zri (by first | (rw [if_pos (by omega)]; done) | (rw [if_neg (by omega)]; done))⟩)
    ·
      refine z_iload_n 1 (zdec DX10_trace 6 rfl) rfl rfl ?_
      refine z_bipush 24 (zdec DX10_trace 7 rfl) (by decide) ?_
      refine z_icmp_ge 27 (zdec DX10_trace 8 rfl) rfl (fun h15 => ?_) (fun h15 => ?_)
      ·
        refine z_iconst (-1) (zdec DX10_trace 14 rfl) (by decide) ?_
        exact z_iret (zdec DX10_trace 15 rfl) rfl (⟨rfl, rfl, zri (by first | (rw [if_pos (by omega)]; done) | (rw [if_neg (by omega)]; done))⟩)
      ·
        refine z_aload_n 0 (zdec DX10_trace 9 rfl) rfl rfl (by decide) ?_
        refine z_getr (rw1 := -66) (ki := 36) (r' := 79) 56 10 (zdec DX10_trace 10 rfl) rfl rfl shp56 rfl (by decide) rfl rfl fl_SixWallsModel_77 (zPa hP 79 rfl) ?_
        refine z_iload_n 1 (zdec DX10_trace 11 rfl) rfl rfl ?_
        refine z_iald 79 (zdec DX10_trace 12 rfl) rfl shp79 ⟨by omega, by omega⟩ ?_
        refine z_goto 28 (zdec DX10_trace 13 rfl) rfl ?_
        exact z_iret (zdec DX10_trace 15 rfl) rfl (⟨rfl, rfl, zri (by first | (rw [if_pos (by omega)]; done) | (rw [if_neg (by omega)]; done))⟩)
set_option maxHeartbeats 4000000 in
theorem cX10_keep {M : zMm} (hP : zP M) (hC : zCr M) (s b : Int) : zW mX10_keep 3 (fun rv S' M' => S' = zS0 ∧ ((¬ ((0 ≤ s ∧ s < 6) ∧ (b = -1 ∨ (0 ≤ b ∧ b < M 56 34))) ∧ rv = some (.inl (-1)) ∧ M' = M) ∨ (((0 ≤ s ∧ s < 6) ∧ (b = -1 ∨ (0 ≤ b ∧ b < M 56 34))) ∧ rv = some (.inl 1) ∧ M' = zup (zup M 80 s b) 81 s 0))) (0, 0) zS0 0 (zargs 0 [.inr (.inr 56), .inl s, .inl b]) [] M := by
  change zW _ _ _ _ _ 0 [(0, .inr (.inr 56)), (1, .inl s), (2, .inl b)] [] M
  refine z_iload_n 1 (zdec DX10_keep 0 rfl) rfl rfl ?_
  refine z_invs mX10_isShelf [.inl s] (zdec DX10_keep 1 rfl) (Or.inl ml_SixWallsModel_175) okX10_isShelf rfl rfl (Nat.le_of_ble_eq_true rfl) (Nat.le_of_ble_eq_true rfl) (b' := (0, 0)) ⟨Nat.le_refl 0, Nat.le_refl 0⟩ (Nat.le_of_ble_eq_true rfl) (cX10_isShelf s) (fun rv9 S9 M1 h9 => ?_)
  obtain ⟨rfl, rfl, rfl⟩ := h9
  change zW _ _ _ _ _ 4 [(0, .inr (.inr 56)), (1, .inl s), (2, .inl b)] [.inl (zb (0 ≤ s ∧ s < 6))] M
  refine z_if_eq 20 (zdec DX10_keep 2 rfl) rfl (fun h4 => ?_) (fun h4 => ?_)
  ·
    have q4 := zb_eq0.mp h4
    refine z_iconst (-1) (zdec DX10_keep 10 rfl) (by decide) ?_
    exact z_iret (zdec DX10_keep 11 rfl) rfl (⟨rfl, Or.inl ⟨by omega, rfl, rfl⟩⟩)
  ·
    have q4 := zb_ne0.mp h4
    refine z_iload_n 2 (zdec DX10_keep 3 rfl) rfl rfl ?_
    refine z_iconst (-1) (zdec DX10_keep 4 rfl) (by decide) ?_
    refine z_icmp_eq 22 (zdec DX10_keep 5 rfl) rfl (fun h9 => ?_) (fun h9 => ?_)
    ·
      refine z_aload_n 0 (zdec DX10_keep 12 rfl) rfl rfl (by decide) ?_
      refine z_getr (rw1 := -66) (ki := 40) (r' := 80) 56 10 (zdec DX10_keep 13 rfl) rfl rfl shp56 rfl (by decide) rfl rfl fl_SixWallsModel_80 (zPa hP 80 rfl) ?_
      refine z_iload_n 1 (zdec DX10_keep 14 rfl) rfl rfl ?_
      refine z_iload_n 2 (zdec DX10_keep 15 rfl) rfl rfl ?_
      refine z_iast 80 (zdec DX10_keep 16 rfl) rfl shp80 ⟨by omega, by omega⟩ ?_
      refine z_aload_n 0 (zdec DX10_keep 17 rfl) rfl rfl (by decide) ?_
      refine z_getr (rw1 := -66) (ki := 41) (r' := 81) 56 10 (zdec DX10_keep 18 rfl) rfl rfl shp56 rfl (by decide) rfl rfl fl_SixWallsModel_83 (zPa (zP_up hP (by decide)) 81 rfl) ?_
      refine z_iload_n 1 (zdec DX10_keep 19 rfl) rfl rfl ?_
      refine z_iconst 0 (zdec DX10_keep 20 rfl) (by decide) ?_
      refine z_iast 81 (zdec DX10_keep 21 rfl) rfl shp81 ⟨by omega, by omega⟩ ?_
      refine z_iconst 1 (zdec DX10_keep 22 rfl) (by decide) ?_
      exact z_iret (zdec DX10_keep 23 rfl) rfl (⟨rfl, Or.inr ⟨by omega, rfl, rfl⟩⟩)
    ·
      refine z_aload_n 0 (zdec DX10_keep 6 rfl) rfl rfl (by decide) ?_
      refine z_iload_n 2 (zdec DX10_keep 7 rfl) rfl rfl ?_
      refine z_inv mX10_isBody 56 10 [.inl b] (zdec DX10_keep 8 rfl) ml_SixWallsModel_351 okX10_isBody rfl shp56 rfl rfl rfl rfl (Nat.le_of_ble_eq_true rfl) (Nat.le_of_ble_eq_true rfl) (b' := (0, 0)) ⟨Nat.le_refl 0, Nat.le_refl 0⟩ (Nat.le_of_ble_eq_true rfl) (cX10_isBody hP hC b) (fun rv9 S9 M14 h9 => ?_)
      obtain ⟨rfl, rfl, rfl⟩ := h9
      change zW _ _ _ _ _ 17 [(0, .inr (.inr 56)), (1, .inl s), (2, .inl b)] [.inl (zb (0 ≤ b ∧ b < M 56 34))] M
      refine z_if_ne 22 (zdec DX10_keep 9 rfl) rfl (fun h17 => ?_) (fun h17 => ?_)
      ·
        have q17 := zb_ne0.mp h17
        refine z_aload_n 0 (zdec DX10_keep 12 rfl) rfl rfl (by decide) ?_
        refine z_getr (rw1 := -66) (ki := 40) (r' := 80) 56 10 (zdec DX10_keep 13 rfl) rfl rfl shp56 rfl (by decide) rfl rfl fl_SixWallsModel_80 (zPa hP 80 rfl) ?_
        refine z_iload_n 1 (zdec DX10_keep 14 rfl) rfl rfl ?_
        refine z_iload_n 2 (zdec DX10_keep 15 rfl) rfl rfl ?_
        refine z_iast 80 (zdec DX10_keep 16 rfl) rfl shp80 ⟨by omega, by omega⟩ ?_
        refine z_aload_n 0 (zdec DX10_keep 17 rfl) rfl rfl (by decide) ?_
        refine z_getr (rw1 := -66) (ki := 41) (r' := 81) 56 10 (zdec DX10_keep 18 rfl) rfl rfl shp56 rfl (by decide) rfl rfl fl_SixWallsModel_83 (zPa (zP_up hP (by decide)) 81 rfl) ?_
        refine z_iload_n 1 (zdec DX10_keep 19 rfl) rfl rfl ?_
        refine z_iconst 0 (zdec DX10_keep 20 rfl) (by decide) ?_
        refine z_iast 81 (zdec DX10_keep 21 rfl) rfl shp81 ⟨by omega, by omega⟩ ?_
        refine z_iconst 1 (zdec DX10_keep 22 rfl) (by decide) ?_
        exact z_iret (zdec DX10_keep 23 rfl) rfl (⟨rfl, Or.inr ⟨by omega, rfl, rfl⟩⟩)
      ·
        have q17 : ¬ (0 ≤ b ∧ b < M 56 34) := fun e => h17 (zb_ne0.mpr e)
        refine z_iconst (-1) (zdec DX10_keep 10 rfl) (by decide) ?_
        exact z_iret (zdec DX10_keep 11 rfl) rfl (⟨rfl, Or.inl ⟨by omega, rfl, rfl⟩⟩)
set_option maxHeartbeats 4000000 in
theorem lp_X10_row_57 {Q : zPost} (M0 : zMm) (hP : zP M0) (s : Int) (hs : 0 ≤ s ∧ s < 6) (hx83 : ∀ (M2 : zMm), (M2 = zfil M0 (60 * s) 60) → zW mX10_row 3 Q (0, 0) zS0 83 [] [] M2) : ∀ (n : Nat) (i : Int) (M2 : zMm), (60 * s + 60 - i).toNat < n → (60 * s ≤ i ∧ i ≤ 60 * s + 60 ∧ M2 = zfil M0 (60 * s) (i - 60 * s)) → zW mX10_row 3 Q (0, 0) zS0 57 [(0, .inr (.inr 56)), (1, .inl s), (4, .inl i)] [] M2 := by
  intro n
  induction n with
  | zero => intro i M2 hn; exact absurd hn (Nat.not_lt_zero _)
  | succ n ih =>
    intro i M2 hn hI
    refine z_iload 2 (zdec DX10_row 34 rfl) rfl ?_
    refine z_bipush 60 (zdec DX10_row 35 rfl) (by decide) ?_
    refine z_iload_n 1 (zdec DX10_row 36 rfl) rfl rfl ?_
    refine z_imul (zdec DX10_row 37 rfl) (by unfold z32; omega) ?_
    refine z_bipush 60 (zdec DX10_row 38 rfl) (by decide) ?_
    refine z_iadd (zdec DX10_row 39 rfl) (by unfold z32; omega) ?_
    refine z_icmp_ge 83 (zdec DX10_row 40 rfl) rfl (fun h66 => ?_) (fun h66 => ?_)
    ·
      refine z_weak (L' := []) (by simp) ?_
      exact hx83 M2 (by rw [hI.2.2, show i - 60 * s = 60 by omega])
    ·
      refine z_aload_n 0 (zdec DX10_row 41 rfl) rfl rfl (by decide) ?_
      refine z_getr (rw1 := -66) (ki := 42) (r' := 82) 56 10 (zdec DX10_row 42 rfl) rfl rfl shp56 rfl (by decide) rfl rfl fl_SixWallsModel_86 (zPa (by rw [hI.2.2]; exact zP_fil hP) 82 rfl) ?_
      refine z_iload 2 (zdec DX10_row 43 rfl) rfl ?_
      refine z_lconst 0 (zdec DX10_row 44 rfl) rfl ?_
      refine z_last 82 (zdec DX10_row 45 rfl) rfl shp82 ⟨by omega, by omega⟩ ?_
      refine z_iinc (L' := [(0, .inr (.inr 56)), (1, .inl s), (4, .inl (i + 1))]) 2 (zdec DX10_row 46 rfl) rfl (by unfold z32; omega) rfl (by decide) ?_
      refine z_goto 57 (zdec DX10_row 47 rfl) rfl ?_
      exact ih (i + 1) (zup M2 82 i 0) (by omega) ⟨by omega, by omega, by rw [hI.2.2, zfil_s hI.1]⟩
set_option maxHeartbeats 4000000 in
theorem cX10_row {M : zMm} (hP : zP M) (s t n0 : Int) : zW mX10_row 3 (fun rv S' M' => S' = zS0 ∧ ((¬ ((0 ≤ s ∧ s < 6) ∧ (0 ≤ t ∧ t ≤ 4) ∧ n0 ≤ 60) ∧ rv = some (.inl (-1)) ∧ M' = M) ∨ (((0 ≤ s ∧ s < 6) ∧ (0 ≤ t ∧ t ≤ 4) ∧ n0 ≤ 60) ∧ n0 < 0 ∧ rv = some (.inl (-14)) ∧ M' = M) ∨ (((0 ≤ s ∧ s < 6) ∧ (0 ≤ t ∧ t ≤ 4) ∧ n0 ≤ 60) ∧ 0 ≤ n0 ∧ rv = some (.inl 1) ∧ M' = zfil (zup (zup M 80 s (50 + t)) 81 s n0) (60 * s) 60))) (0, 0) zS0 0 (zargs 0 [.inr (.inr 56), .inl s, .inl t, .inl n0]) [] M := by
  change zW _ _ _ _ _ 0 [(0, .inr (.inr 56)), (1, .inl s), (2, .inl t), (3, .inl n0)] [] M
  refine z_iload_n 1 (zdec DX10_row 0 rfl) rfl rfl ?_
  refine z_invs mX10_isShelf [.inl s] (zdec DX10_row 1 rfl) (Or.inl ml_SixWallsModel_175) okX10_isShelf rfl rfl (Nat.le_of_ble_eq_true rfl) (Nat.le_of_ble_eq_true rfl) (b' := (0, 0)) ⟨Nat.le_refl 0, Nat.le_refl 0⟩ (Nat.le_of_ble_eq_true rfl) (cX10_isShelf s) (fun rv9 S9 M1 h9 => ?_)
  obtain ⟨rfl, rfl, rfl⟩ := h9
  change zW _ _ _ _ _ 4 [(0, .inr (.inr 56)), (1, .inl s), (2, .inl t), (3, .inl n0)] [.inl (zb (0 ≤ s ∧ s < 6))] M
  refine z_if_eq 25 (zdec DX10_row 2 rfl) rfl (fun h4 => ?_) (fun h4 => ?_)
  ·
    have q4 := zb_eq0.mp h4
    refine z_iconst (-1) (zdec DX10_row 12 rfl) (by decide) ?_
    exact z_iret (zdec DX10_row 13 rfl) rfl (⟨rfl, Or.inl ⟨by omega, rfl, rfl⟩⟩)
  ·
    have q4 := zb_ne0.mp h4
    refine z_iload_n 2 (zdec DX10_row 3 rfl) rfl rfl ?_
    refine z_i2l (zdec DX10_row 4 rfl) ?_
    refine z_lconst 0 (zdec DX10_row 5 rfl) rfl ?_
    refine z_ldc2 4 (zdec DX10_row 6 rfl) kl_SixWallsModel_354 rfl ⟨by decide, by decide⟩ ?_
    refine z_invs mX10_within [.inr (.inl t), .inr (.inl 0), .inr (.inl 4)] (zdec DX10_row 7 rfl) (Or.inl ml_SixWallsModel_112) okX10_within rfl rfl (Nat.le_of_ble_eq_true rfl) (Nat.le_of_ble_eq_true rfl) (b' := (0, 0)) ⟨Nat.le_refl 0, Nat.le_refl 0⟩ (Nat.le_of_ble_eq_true rfl) (cX10_within t 0 4) (fun rv9 S9 M13 h9 => ?_)
    obtain ⟨rfl, rfl, rfl⟩ := h9
    change zW _ _ _ _ _ 16 [(0, .inr (.inr 56)), (1, .inl s), (2, .inl t), (3, .inl n0)] [.inl (zb (0 ≤ t ∧ t ≤ 4))] M
    refine z_if_eq 25 (zdec DX10_row 8 rfl) rfl (fun h16 => ?_) (fun h16 => ?_)
    ·
      have q16 := zb_eq0.mp h16
      refine z_iconst (-1) (zdec DX10_row 12 rfl) (by decide) ?_
      exact z_iret (zdec DX10_row 13 rfl) rfl (⟨rfl, Or.inl ⟨by omega, rfl, rfl⟩⟩)
    ·
      have q16 := zb_ne0.mp h16
      refine z_iload_n 3 (zdec DX10_row 9 rfl) rfl rfl ?_
      refine z_bipush 60 (zdec DX10_row 10 rfl) (by decide) ?_
      refine z_icmp_le 27 (zdec DX10_row 11 rfl) rfl (fun h22 => ?_) (fun h22 => ?_)
      ·
        refine z_iload_n 3 (zdec DX10_row 14 rfl) rfl rfl ?_
        refine z_if_ge 34 (zdec DX10_row 15 rfl) rfl (fun h28 => ?_) (fun h28 => ?_)
        ·
          refine z_aload_n 0 (zdec DX10_row 18 rfl) rfl rfl (by decide) ?_
          refine z_getr (rw1 := -66) (ki := 40) (r' := 80) 56 10 (zdec DX10_row 19 rfl) rfl rfl shp56 rfl (by decide) rfl rfl fl_SixWallsModel_80 (zPa hP 80 rfl) ?_
          refine z_iload_n 1 (zdec DX10_row 20 rfl) rfl rfl ?_
          refine z_bipush 50 (zdec DX10_row 21 rfl) (by decide) ?_
          refine z_iload_n 2 (zdec DX10_row 22 rfl) rfl rfl ?_
          refine z_iadd (zdec DX10_row 23 rfl) (by unfold z32; omega) ?_
          refine z_iast 80 (zdec DX10_row 24 rfl) rfl shp80 ⟨by omega, by omega⟩ ?_
          refine z_aload_n 0 (zdec DX10_row 25 rfl) rfl rfl (by decide) ?_
          refine z_getr (rw1 := -66) (ki := 41) (r' := 81) 56 10 (zdec DX10_row 26 rfl) rfl rfl shp56 rfl (by decide) rfl rfl fl_SixWallsModel_83 (zPa (zP_up hP (by decide)) 81 rfl) ?_
          refine z_iload_n 1 (zdec DX10_row 27 rfl) rfl rfl ?_
          refine z_iload_n 3 (zdec DX10_row 28 rfl) rfl rfl ?_
          refine z_iast 81 (zdec DX10_row 29 rfl) rfl shp81 ⟨by omega, by omega⟩ ?_
          refine z_bipush 60 (zdec DX10_row 30 rfl) (by decide) ?_
          refine z_iload_n 1 (zdec DX10_row 31 rfl) rfl rfl ?_
          refine z_imul (zdec DX10_row 32 rfl) (by unfold z32; omega) ?_
          refine z_istore (L' := [(0, .inr (.inr 56)), (1, .inl s), (2, .inl t), (3, .inl n0), (4, .inl (60 * s))]) (zdec DX10_row 33 rfl) rfl (by decide) ?_
          refine z_weak (L' := [(0, .inr (.inr 56)), (1, .inl s), (4, .inl (60 * s))]) (by simp) ?_
          refine lp_X10_row_57 ((zup (zup M 80 s (50 + t)) 81 s n0)) (zP_up (zP_up hP (by decide)) (by decide)) s q4 (hx83 := fun M2 hx => ?_) _ (60 * s) (zup (zup M 80 s (50 + t)) 81 s n0) (Nat.lt_succ_self _) ⟨by omega, by omega, by rw [Int.sub_self, zfil_0]⟩
          refine z_iconst 1 (zdec DX10_row 48 rfl) (by decide) ?_
          exact z_iret (zdec DX10_row 49 rfl) rfl (⟨rfl, Or.inr (Or.inr ⟨⟨q4, q16, by omega⟩, by omega, rfl, hx⟩)⟩)
        ·
          refine z_bipush (-14) (zdec DX10_row 16 rfl) (by decide) ?_
          exact z_iret (zdec DX10_row 17 rfl) rfl (⟨rfl, Or.inr (Or.inl ⟨⟨q4, q16, by omega⟩, by omega, rfl, rfl⟩)⟩)
      ·
        refine z_iconst (-1) (zdec DX10_row 12 rfl) (by decide) ?_
        exact z_iret (zdec DX10_row 13 rfl) rfl (⟨rfl, Or.inl ⟨by omega, rfl, rfl⟩⟩)
set_option maxHeartbeats 4000000 in
theorem cX10_refusal {M : zMm} (hP : zP M) (s i : Int) : zW mX10_refusal 3 (fun rv S' M' => S' = zS0 ∧ M = M' ∧ rv = some (.inl (zrefR M s i))) (0, 0) zS0 0 (zargs 0 [.inr (.inr 56), .inl s, .inl i]) [] M := by
  change zW _ _ _ _ _ 0 [(0, .inr (.inr 56)), (1, .inl s), (2, .inl i)] [] M
  refine z_iload_n 1 (zdec DX10_refusal 0 rfl) rfl rfl ?_
  refine z_invs mX10_isShelf [.inl s] (zdec DX10_refusal 1 rfl) (Or.inl ml_SixWallsModel_175) okX10_isShelf rfl rfl (Nat.le_of_ble_eq_true rfl) (Nat.le_of_ble_eq_true rfl) (b' := (0, 0)) ⟨Nat.le_refl 0, Nat.le_refl 0⟩ (Nat.le_of_ble_eq_true rfl) (cX10_isShelf s) (fun rv9 S9 M1 h9 => ?_)
  obtain ⟨rfl, rfl, rfl⟩ := h9
  change zW _ _ _ _ _ 4 [(0, .inr (.inr 56)), (1, .inl s), (2, .inl i)] [.inl (zb (0 ≤ s ∧ s < 6))] M
  refine z_if_ne 9 (zdec DX10_refusal 2 rfl) rfl (fun h4 => ?_) (fun h4 => ?_)
  ·
    have q4 := zb_ne0.mp h4
    refine z_aload_n 0 (zdec DX10_refusal 5 rfl) rfl rfl (by decide) ?_
    refine z_getr (rw1 := -66) (ki := 40) (r' := 80) 56 10 (zdec DX10_refusal 6 rfl) rfl rfl shp56 rfl (by decide) rfl rfl fl_SixWallsModel_80 (zPa hP 80 rfl) ?_
    refine z_iload_n 1 (zdec DX10_refusal 7 rfl) rfl rfl ?_
    refine z_iald 80 (zdec DX10_refusal 8 rfl) rfl shp80 ⟨by omega, by omega⟩ ?_
    refine z_if_ge 21 (zdec DX10_refusal 9 rfl) rfl (fun h15 => ?_) (fun h15 => ?_)
    ·
      refine z_aload_n 0 (zdec DX10_refusal 12 rfl) rfl rfl (by decide) ?_
      refine z_getr (rw1 := -66) (ki := 40) (r' := 80) 56 10 (zdec DX10_refusal 13 rfl) rfl rfl shp56 rfl (by decide) rfl rfl fl_SixWallsModel_80 (zPa hP 80 rfl) ?_
      refine z_iload_n 1 (zdec DX10_refusal 14 rfl) rfl rfl ?_
      refine z_iald 80 (zdec DX10_refusal 15 rfl) rfl shp80 ⟨by omega, by omega⟩ ?_
      refine z_bipush 50 (zdec DX10_refusal 16 rfl) (by decide) ?_
      refine z_icmp_ge 35 (zdec DX10_refusal 17 rfl) rfl (fun h29 => ?_) (fun h29 => ?_)
      ·
        refine z_iload_n 2 (zdec DX10_refusal 20 rfl) rfl rfl ?_
        refine z_if_lt 53 (zdec DX10_refusal 21 rfl) rfl (fun h36 => ?_) (fun h36 => ?_)
        ·
          refine z_bipush (-13) (zdec DX10_refusal 30 rfl) (by decide) ?_
          exact z_iret (zdec DX10_refusal 31 rfl) rfl (⟨rfl, rfl, zri (by unfold zrefR; first | (rw [if_pos q4]; done) | (rw [if_neg (by omega), if_pos (by omega)]; done) | (rw [if_neg (by omega), if_neg (by omega), if_pos (by omega)]; done) | (rw [if_neg (by omega), if_neg (by omega), if_neg (by omega), if_pos (by omega)]; done) | (rw [if_neg (by omega), if_neg (by omega), if_neg (by omega), if_neg (by omega)]; done))⟩)
        ·
          refine z_iload_n 2 (zdec DX10_refusal 22 rfl) rfl rfl ?_
          refine z_aload_n 0 (zdec DX10_refusal 23 rfl) rfl rfl (by decide) ?_
          refine z_getr (rw1 := -66) (ki := 41) (r' := 81) 56 10 (zdec DX10_refusal 24 rfl) rfl rfl shp56 rfl (by decide) rfl rfl fl_SixWallsModel_83 (zPa hP 81 rfl) ?_
          refine z_iload_n 1 (zdec DX10_refusal 25 rfl) rfl rfl ?_
          refine z_iald 81 (zdec DX10_refusal 26 rfl) rfl shp81 ⟨by omega, by omega⟩ ?_
          refine z_icmp_ge 53 (zdec DX10_refusal 27 rfl) rfl (fun h46 => ?_) (fun h46 => ?_)
          ·
            refine z_bipush (-13) (zdec DX10_refusal 30 rfl) (by decide) ?_
            exact z_iret (zdec DX10_refusal 31 rfl) rfl (⟨rfl, rfl, zri (by unfold zrefR; first | (rw [if_pos q4]; done) | (rw [if_neg (by omega), if_pos (by omega)]; done) | (rw [if_neg (by omega), if_neg (by omega), if_pos (by omega)]; done) | (rw [if_neg (by omega), if_neg (by omega), if_neg (by omega), if_pos (by omega)]; done) | (rw [if_neg (by omega), if_neg (by omega), if_neg (by omega), if_neg (by omega)]; done))⟩)
          ·
            refine z_iconst 0 (zdec DX10_refusal 28 rfl) (by decide) ?_
            refine z_goto 55 (zdec DX10_refusal 29 rfl) rfl ?_
            exact z_iret (zdec DX10_refusal 31 rfl) rfl (⟨rfl, rfl, zri (by unfold zrefR; first | (rw [if_pos q4]; done) | (rw [if_neg (by omega), if_pos (by omega)]; done) | (rw [if_neg (by omega), if_neg (by omega), if_pos (by omega)]; done) | (rw [if_neg (by omega), if_neg (by omega), if_neg (by omega), if_pos (by omega)]; done) | (rw [if_neg (by omega), if_neg (by omega), if_neg (by omega), if_neg (by omega)]; done))⟩)
      ·
        refine z_bipush (-12) (zdec DX10_refusal 18 rfl) (by decide) ?_
        exact z_iret (zdec DX10_refusal 19 rfl) rfl (⟨rfl, rfl, zri (by unfold zrefR; first | (rw [if_pos q4]; done) | (rw [if_neg (by omega), if_pos (by omega)]; done) | (rw [if_neg (by omega), if_neg (by omega), if_pos (by omega)]; done) | (rw [if_neg (by omega), if_neg (by omega), if_neg (by omega), if_pos (by omega)]; done) | (rw [if_neg (by omega), if_neg (by omega), if_neg (by omega), if_neg (by omega)]; done))⟩)
    ·
      refine z_bipush (-11) (zdec DX10_refusal 10 rfl) (by decide) ?_
      exact z_iret (zdec DX10_refusal 11 rfl) rfl (⟨rfl, rfl, zri (by unfold zrefR; first | (rw [if_pos q4]; done) | (rw [if_neg (by omega), if_pos (by omega)]; done) | (rw [if_neg (by omega), if_neg (by omega), if_pos (by omega)]; done) | (rw [if_neg (by omega), if_neg (by omega), if_neg (by omega), if_pos (by omega)]; done) | (rw [if_neg (by omega), if_neg (by omega), if_neg (by omega), if_neg (by omega)]; done))⟩)
  ·
    have q4 : ¬ (0 ≤ s ∧ s < 6) := fun e => h4 (zb_ne0.mpr e)
    refine z_iconst (-1) (zdec DX10_refusal 3 rfl) (by decide) ?_
    exact z_iret (zdec DX10_refusal 4 rfl) rfl (⟨rfl, rfl, zri (by unfold zrefR; first | (rw [if_pos q4]; done) | (rw [if_neg (by omega), if_pos (by omega)]; done) | (rw [if_neg (by omega), if_neg (by omega), if_pos (by omega)]; done) | (rw [if_neg (by omega), if_neg (by omega), if_neg (by omega), if_pos (by omega)]; done) | (rw [if_neg (by omega), if_neg (by omega), if_neg (by omega), if_neg (by omega)]; done))⟩)
set_option maxHeartbeats 4000000 in
theorem cX10_asSort {M : zMm} (s v : Int) (hs : 0 ≤ s ∧ s ≤ 4) : zW mX10_asSort 1 (fun rv S' M' => S' = zS0 ∧ M = M' ∧ rv = some (.inr (.inl (znarrow s v)))) (0, 0) zS0 0 (zargs 0 [.inl s, .inr (.inl v)]) [] M := by
  change zW _ _ _ _ _ 0 [(0, .inl s), (1, .inr (.inl v))] [] M
  refine z_iload_n 0 (zdec DX10_asSort 0 rfl) rfl rfl ?_
  refine z_if_ne 11 (zdec DX10_asSort 1 rfl) rfl (fun h1 => ?_) (fun h1 => ?_)
  ·
    refine z_iload_n 0 (zdec DX10_asSort 7 rfl) rfl rfl ?_
    refine z_iconst 1 (zdec DX10_asSort 8 rfl) (by decide) ?_
    refine z_icmp_ne 23 (zdec DX10_asSort 9 rfl) rfl (fun h13 => ?_) (fun h13 => ?_)
    ·
      refine z_iload_n 0 (zdec DX10_asSort 15 rfl) rfl rfl ?_
      refine z_iconst 2 (zdec DX10_asSort 16 rfl) (by decide) ?_
      refine z_icmp_ne 34 (zdec DX10_asSort 17 rfl) rfl (fun h25 => ?_) (fun h25 => ?_)
      ·
        refine z_iload_n 0 (zdec DX10_asSort 22 rfl) rfl rfl ?_
        refine z_iconst 4 (zdec DX10_asSort 23 rfl) (by decide) ?_
        refine z_icmp_ne 53 (zdec DX10_asSort 24 rfl) rfl (fun h36 => ?_) (fun h36 => ?_)
        ·
          refine z_lload_n 1 (zdec DX10_asSort 33 rfl) rfl rfl ?_
          exact z_lret (zdec DX10_asSort 34 rfl) rfl (⟨rfl, rfl, (by congr 2; unfold znarrow; first | (rw [if_pos (by omega)]; done) | (rw [if_neg (by omega), if_pos (by omega)]; done) | (rw [if_neg (by omega), if_neg (by omega), if_pos (by omega)]; done) | (rw [if_neg (by omega), if_neg (by omega), if_neg (by omega), if_pos (by omega)]; done) | (rw [if_neg (by omega), if_neg (by omega), if_neg (by omega), if_neg (by omega)]; first | (rw [if_pos q42]; done) | (rw [if_neg q42]; done)))⟩)
        ·
          refine z_lload_n 1 (zdec DX10_asSort 25 rfl) rfl rfl ?_
          refine z_lconst 0 (zdec DX10_asSort 26 rfl) rfl ?_
          refine z_lcmp (zdec DX10_asSort 27 rfl) ?_
          refine z_if_eq 49 (zdec DX10_asSort 28 rfl) rfl (fun h42 => ?_) (fun h42 => ?_)
          ·
            have q42 : v = 0 := by unfold zcmp at h42; (repeat split at h42) <;> omega
            refine z_lconst 0 (zdec DX10_asSort 31 rfl) rfl ?_
            refine z_goto 54 (zdec DX10_asSort 32 rfl) rfl ?_
            exact z_lret (zdec DX10_asSort 34 rfl) rfl (⟨rfl, rfl, (by congr 2; unfold znarrow; first | (rw [if_pos (by omega)]; done) | (rw [if_neg (by omega), if_pos (by omega)]; done) | (rw [if_neg (by omega), if_neg (by omega), if_pos (by omega)]; done) | (rw [if_neg (by omega), if_neg (by omega), if_neg (by omega), if_pos (by omega)]; done) | (rw [if_neg (by omega), if_neg (by omega), if_neg (by omega), if_neg (by omega)]; first | (rw [if_pos q42]; done) | (rw [if_neg q42]; done)))⟩)
          ·
            have q42 : v ≠ 0 := fun q => h42 (by unfold zcmp; rw [if_neg (by omega), if_pos q])
            refine z_lconst 1 (zdec DX10_asSort 29 rfl) rfl ?_
            refine z_goto 54 (zdec DX10_asSort 30 rfl) rfl ?_
            exact z_lret (zdec DX10_asSort 34 rfl) rfl (⟨rfl, rfl, (by congr 2; unfold znarrow; first | (rw [if_pos (by omega)]; done) | (rw [if_neg (by omega), if_pos (by omega)]; done) | (rw [if_neg (by omega), if_neg (by omega), if_pos (by omega)]; done) | (rw [if_neg (by omega), if_neg (by omega), if_neg (by omega), if_pos (by omega)]; done) | (rw [if_neg (by omega), if_neg (by omega), if_neg (by omega), if_neg (by omega)]; first | (rw [if_pos q42]; done) | (rw [if_neg q42]; done)))⟩)
      ·
        refine z_lload_n 1 (zdec DX10_asSort 18 rfl) rfl rfl ?_
        refine z_l2i (zdec DX10_asSort 19 rfl) ?_
        refine z_i2l (zdec DX10_asSort 20 rfl) ?_
        refine z_goto 54 (zdec DX10_asSort 21 rfl) rfl ?_
        exact z_lret (zdec DX10_asSort 34 rfl) rfl (⟨rfl, rfl, (by congr 2; unfold znarrow; first | (rw [if_pos (by omega)]; done) | (rw [if_neg (by omega), if_pos (by omega)]; done) | (rw [if_neg (by omega), if_neg (by omega), if_pos (by omega)]; done) | (rw [if_neg (by omega), if_neg (by omega), if_neg (by omega), if_pos (by omega)]; done) | (rw [if_neg (by omega), if_neg (by omega), if_neg (by omega), if_neg (by omega)]; first | (rw [if_pos q42]; done) | (rw [if_neg q42]; done)))⟩)
    ·
      refine z_lload_n 1 (zdec DX10_asSort 10 rfl) rfl rfl ?_
      refine z_l2i (zdec DX10_asSort 11 rfl) ?_
      refine z_i2s (zdec DX10_asSort 12 rfl) ?_
      refine z_i2l (zdec DX10_asSort 13 rfl) ?_
      refine z_goto 54 (zdec DX10_asSort 14 rfl) rfl ?_
      exact z_lret (zdec DX10_asSort 34 rfl) rfl (⟨rfl, rfl, (by congr 2; unfold znarrow; first | (rw [if_pos (by omega)]; done) | (rw [if_neg (by omega), if_pos (by omega)]; done) | (rw [if_neg (by omega), if_neg (by omega), if_pos (by omega)]; done) | (rw [if_neg (by omega), if_neg (by omega), if_neg (by omega), if_pos (by omega)]; done) | (rw [if_neg (by omega), if_neg (by omega), if_neg (by omega), if_neg (by omega)]; first | (rw [if_pos q42]; done) | (rw [if_neg q42]; done)))⟩)
  ·
    refine z_lload_n 1 (zdec DX10_asSort 2 rfl) rfl rfl ?_
    refine z_l2i (zdec DX10_asSort 3 rfl) ?_
    refine z_i2b (zdec DX10_asSort 4 rfl) ?_
    refine z_i2l (zdec DX10_asSort 5 rfl) ?_
    refine z_goto 54 (zdec DX10_asSort 6 rfl) rfl ?_
    exact z_lret (zdec DX10_asSort 34 rfl) rfl (⟨rfl, rfl, (by congr 2; unfold znarrow; first | (rw [if_pos (by omega)]; done) | (rw [if_neg (by omega), if_pos (by omega)]; done) | (rw [if_neg (by omega), if_neg (by omega), if_pos (by omega)]; done) | (rw [if_neg (by omega), if_neg (by omega), if_neg (by omega), if_pos (by omega)]; done) | (rw [if_neg (by omega), if_neg (by omega), if_neg (by omega), if_neg (by omega)]; first | (rw [if_pos q42]; done) | (rw [if_neg q42]; done)))⟩)
set_option maxHeartbeats 4000000 in
theorem cX10_put {M : zMm} (hP : zP M) (hS : zSr M) (s i v : Int) : zW mX10_put 4 (fun rv S' M' => S' = zS0 ∧ ((zrefR M s i ≠ 0 ∧ rv = some (.inl (zrefR M s i)) ∧ M' = M) ∨ (zrefR M s i = 0 ∧ rv = some (.inl 1) ∧ M' = zup M 82 (60 * s + i) (znarrow (M 80 s - 50) v)))) (0, 0) zS0 0 (zargs 0 [.inr (.inr 56), .inl s, .inl i, .inr (.inl v)]) [] M := by
  change zW _ _ _ _ _ 0 [(0, .inr (.inr 56)), (1, .inl s), (2, .inl i), (3, .inr (.inl v))] [] M
  refine z_aload_n 0 (zdec DX10_put 0 rfl) rfl rfl (by decide) ?_
  refine z_iload_n 1 (zdec DX10_put 1 rfl) rfl rfl ?_
  refine z_iload_n 2 (zdec DX10_put 2 rfl) rfl rfl ?_
  refine z_inv mX10_refusal 56 10 [.inl s, .inl i] (zdec DX10_put 3 rfl) ml_SixWallsModel_356 okX10_refusal rfl shp56 rfl rfl rfl rfl (Nat.le_of_ble_eq_true rfl) (Nat.le_of_ble_eq_true rfl) (b' := (0, 0)) ⟨Nat.le_refl 0, Nat.le_refl 0⟩ (Nat.le_of_ble_eq_true rfl) (cX10_refusal hP s i) (fun rv9 S9 M3 h9 => ?_)
  obtain ⟨rfl, rfl, rfl⟩ := h9
  obtain ⟨u, eu⟩ : ∃ u, u = zrefR M s i := ⟨_, rfl⟩
  rw [← eu]
  change zW _ _ _ _ _ 6 [(0, .inr (.inr 56)), (1, .inl s), (2, .inl i), (3, .inr (.inl v))] [.inl u] M
  refine z_istore (L' := [(0, .inr (.inr 56)), (1, .inl s), (2, .inl i), (3, .inr (.inl v)), (5, .inl u)]) (zdec DX10_put 4 rfl) rfl (by decide) ?_
  refine z_iload 4 (zdec DX10_put 5 rfl) rfl ?_
  refine z_if_ne 37 (zdec DX10_put 6 rfl) rfl (fun h10 => ?_) (fun h10 => ?_)
  ·
    refine z_iload 4 (zdec DX10_put 23 rfl) rfl ?_
    refine z_if_ne 46 (zdec DX10_put 24 rfl) rfl (fun h39 => ?_) (fun h39 => ?_)
    ·
      refine z_iload 4 (zdec DX10_put 27 rfl) rfl ?_
      exact z_iret (zdec DX10_put 28 rfl) rfl (⟨rfl, Or.inl ⟨h10, rfl, rfl⟩⟩)
    ·
      refine z_iconst 1 (zdec DX10_put 25 rfl) (by decide) ?_
      refine z_goto 48 (zdec DX10_put 26 rfl) rfl ?_
      exact z_iret (zdec DX10_put 28 rfl) rfl (by exact absurd (by assumption) (by omega))
  ·
    have hin := zrefR_in (M := M) (s := s) (i := i) (by omega)
    have hsb := hS s hin.1.1 hin.1.2
    refine z_aload_n 0 (zdec DX10_put 7 rfl) rfl rfl (by decide) ?_
    refine z_getr (rw1 := -66) (ki := 42) (r' := 82) 56 10 (zdec DX10_put 8 rfl) rfl rfl shp56 rfl (by decide) rfl rfl fl_SixWallsModel_86 (zPa hP 82 rfl) ?_
    refine z_bipush 60 (zdec DX10_put 9 rfl) (by decide) ?_
    refine z_iload_n 1 (zdec DX10_put 10 rfl) rfl rfl ?_
    refine z_imul (zdec DX10_put 11 rfl) (by unfold z32; omega) ?_
    refine z_iload_n 2 (zdec DX10_put 12 rfl) rfl rfl ?_
    refine z_iadd (zdec DX10_put 13 rfl) (by unfold z32; omega) ?_
    refine z_aload_n 0 (zdec DX10_put 14 rfl) rfl rfl (by decide) ?_
    refine z_getr (rw1 := -66) (ki := 40) (r' := 80) 56 10 (zdec DX10_put 15 rfl) rfl rfl shp56 rfl (by decide) rfl rfl fl_SixWallsModel_80 (zPa hP 80 rfl) ?_
    refine z_iload_n 1 (zdec DX10_put 16 rfl) rfl rfl ?_
    refine z_iald 80 (zdec DX10_put 17 rfl) rfl shp80 ⟨by omega, by omega⟩ ?_
    refine z_bipush 50 (zdec DX10_put 18 rfl) (by decide) ?_
    refine z_isub (zdec DX10_put 19 rfl) (by unfold z32; omega) ?_
    refine z_lload_n 3 (zdec DX10_put 20 rfl) rfl rfl ?_
    refine z_invs mX10_asSort [.inl ((M 80 s) - 50), .inr (.inl v)] (zdec DX10_put 21 rfl) (Or.inl ml_SixWallsModel_359) okX10_asSort rfl rfl (Nat.le_of_ble_eq_true rfl) (Nat.le_of_ble_eq_true rfl) (b' := (0, 0)) ⟨Nat.le_refl 0, Nat.le_refl 0⟩ (Nat.le_of_ble_eq_true rfl) (cX10_asSort ((M 80 s) - 50) v ⟨by omega, by omega⟩) (fun rv9 S9 M33 h9 => ?_)
    obtain ⟨rfl, rfl, rfl⟩ := h9
    change zW _ _ _ _ _ 36 [(0, .inr (.inr 56)), (1, .inl s), (2, .inl i), (3, .inr (.inl v)), (5, .inl u)] [.inr (.inl (znarrow ((M 80 s) - 50) v)), .inl ((60 * s) + i), .inr (.inr 82)] M
    refine z_last 82 (zdec DX10_put 22 rfl) rfl shp82 ⟨by omega, by omega⟩ ?_
    refine z_iload 4 (zdec DX10_put 23 rfl) rfl ?_
    refine z_if_ne 46 (zdec DX10_put 24 rfl) rfl (fun h39 => ?_) (fun h39 => ?_)
    ·
      refine z_iload 4 (zdec DX10_put 27 rfl) rfl ?_
      exact z_iret (zdec DX10_put 28 rfl) rfl (by exact absurd (by assumption) (by omega))
    ·
      refine z_iconst 1 (zdec DX10_put 25 rfl) (by decide) ?_
      refine z_goto 48 (zdec DX10_put 26 rfl) rfl ?_
      exact z_iret (zdec DX10_put 28 rfl) rfl (⟨rfl, Or.inr ⟨by omega, rfl, rfl⟩⟩)
set_option maxHeartbeats 4000000 in
theorem cX10_element {M : zMm} (hP : zP M) (hS : zSr M) (s i : Int) : zW mX10_element 4 (fun rv S' M' => S' = zS0 ∧ M = M' ∧ rv = some (.inr (.inl (if zrefR M s i ≠ 0 then -9223372036854775808 else M 82 (60 * s + i))))) (0, 0) zS0 0 (zargs 0 [.inr (.inr 56), .inl s, .inl i]) [] M := by
  change zW _ _ _ _ _ 0 [(0, .inr (.inr 56)), (1, .inl s), (2, .inl i)] [] M
  refine z_aload_n 0 (zdec DX10_element 0 rfl) rfl rfl (by decide) ?_
  refine z_iload_n 1 (zdec DX10_element 1 rfl) rfl rfl ?_
  refine z_iload_n 2 (zdec DX10_element 2 rfl) rfl rfl ?_
  refine z_inv mX10_refusal 56 10 [.inl s, .inl i] (zdec DX10_element 3 rfl) ml_SixWallsModel_356 okX10_refusal rfl shp56 rfl rfl rfl rfl (Nat.le_of_ble_eq_true rfl) (Nat.le_of_ble_eq_true rfl) (b' := (0, 0)) ⟨Nat.le_refl 0, Nat.le_refl 0⟩ (Nat.le_of_ble_eq_true rfl) (cX10_refusal hP s i) (fun rv9 S9 M3 h9 => ?_)
  obtain ⟨rfl, rfl, rfl⟩ := h9
  change zW _ _ _ _ _ 6 [(0, .inr (.inr 56)), (1, .inl s), (2, .inl i)] [.inl (zrefR M s i)] M
  refine z_if_eq 15 (zdec DX10_element 4 rfl) rfl (fun h6 => ?_) (fun h6 => ?_)
  ·
    have hin := zrefR_in (M := M) (s := s) (i := i) (by omega)
    have hsb := hS s hin.1.1 hin.1.2
    refine z_aload_n 0 (zdec DX10_element 7 rfl) rfl rfl (by decide) ?_
    refine z_getr (rw1 := -66) (ki := 42) (r' := 82) 56 10 (zdec DX10_element 8 rfl) rfl rfl shp56 rfl (by decide) rfl rfl fl_SixWallsModel_86 (zPa hP 82 rfl) ?_
    refine z_bipush 60 (zdec DX10_element 9 rfl) (by decide) ?_
    refine z_iload_n 1 (zdec DX10_element 10 rfl) rfl rfl ?_
    refine z_imul (zdec DX10_element 11 rfl) (by unfold z32; omega) ?_
    refine z_iload_n 2 (zdec DX10_element 12 rfl) rfl rfl ?_
    refine z_iadd (zdec DX10_element 13 rfl) (by unfold z32; omega) ?_
    refine z_lald 82 (zdec DX10_element 14 rfl) rfl shp82 ⟨by omega, by omega⟩ ?_
    exact z_lret (zdec DX10_element 15 rfl) rfl (⟨rfl, rfl, (by congr 2; first | (rw [if_pos (by omega)]; done) | (rw [if_neg (by omega)]; done))⟩)
  ·
    refine z_ldc2 (-9223372036854775808) (zdec DX10_element 5 rfl) kl_SixWallsModel_290 rfl ⟨by decide, by decide⟩ ?_
    refine z_goto 26 (zdec DX10_element 6 rfl) rfl ?_
    exact z_lret (zdec DX10_element 15 rfl) rfl (⟨rfl, rfl, (by congr 2; first | (rw [if_pos (by omega)]; done) | (rw [if_neg (by omega)]; done))⟩)
set_option maxHeartbeats 4000000 in
theorem lp_X10_shift_150 {Q : zPost} {M M2 : zMm} (hP2 : zP M2) (s i t j n0 : Int) (hs : 0 ≤ s ∧ s < 6) (ht : 0 ≤ t ∧ t < 6) (hi : 0 ≤ i ∧ i + n0 ≤ 60) (hj : 0 ≤ j ∧ j + n0 ≤ 60) (hn0 : 0 ≤ n0) (hx : zonly 83 M M2 ∧ ∀ q : Int, 0 ≤ q → q < n0 → M2 83 q = M 82 (60 * s + i + q)) (hx185 : ∀ (M3 : zMm), (zshR M (60 * s + i) (60 * t + j) n0 M3) → zW mX10_shift 3 Q (0, 0) zS0 185 [(5, .inl n0)] [] M3) : ∀ (n : Nat) (k : Int) (M3 : zMm), (n0 - k).toNat < n → (0 ≤ k ∧ k ≤ n0 ∧ zonly 82 M2 M3 ∧ ∀ q : Int, M3 82 q = if 60 * t + j ≤ q ∧ q < 60 * t + j + k then M 82 (60 * s + i + (q - (60 * t + j))) else M 82 q) → zW mX10_shift 3 Q (0, 0) zS0 150 [(0, .inr (.inr 56)), (1, .inl s), (2, .inl i), (3, .inl t), (4, .inl j), (5, .inl n0), (6, .inl k)] [] M3 := by
  intro n
  induction n with
  | zero => intro k M3 hn; exact absurd hn (Nat.not_lt_zero _)
  | succ n ih =>
    intro k M3 hn hI
    have r83 := congrFun (hI.2.2.1 83 (by decide)) k
    have ek := hx.2 k hI.1
    refine z_iload 6 (zdec DX10_shift 84 rfl) rfl ?_
    refine z_iload 5 (zdec DX10_shift 85 rfl) rfl ?_
    refine z_icmp_ge 185 (zdec DX10_shift 86 rfl) rfl (fun h154 => ?_) (fun h154 => ?_)
    ·
      refine z_weak (L' := [(5, .inl n0)]) (by simp) ?_
      exact hx185 M3 (by have e : k = n0 := (by omega); subst e; exact ⟨hI.2.2.2, fun c a b => (hI.2.2.1 c a).trans (hx.1 c b)⟩)
    ·
      refine z_aload_n 0 (zdec DX10_shift 87 rfl) rfl rfl (by decide) ?_
      refine z_getr (rw1 := -66) (ki := 42) (r' := 82) 56 10 (zdec DX10_shift 88 rfl) rfl rfl shp56 rfl (by decide) rfl rfl fl_SixWallsModel_86 (zPa (hI.2.2.1.P (by decide) hP2) 82 rfl) ?_
      refine z_bipush 60 (zdec DX10_shift 89 rfl) (by decide) ?_
      refine z_iload_n 3 (zdec DX10_shift 90 rfl) rfl rfl ?_
      refine z_imul (zdec DX10_shift 91 rfl) (by unfold z32; omega) ?_
      refine z_iload 4 (zdec DX10_shift 92 rfl) rfl ?_
      refine z_iadd (zdec DX10_shift 93 rfl) (by unfold z32; omega) ?_
      refine z_iload 6 (zdec DX10_shift 94 rfl) rfl ?_
      refine z_iadd (zdec DX10_shift 95 rfl) (by unfold z32; omega) ?_
      refine z_aload_n 0 (zdec DX10_shift 96 rfl) rfl rfl (by decide) ?_
      refine z_getr (rw1 := -66) (ki := 43) (r' := 83) 56 10 (zdec DX10_shift 97 rfl) rfl rfl shp56 rfl (by decide) rfl rfl fl_SixWallsModel_90 (zPa (hI.2.2.1.P (by decide) hP2) 83 rfl) ?_
      refine z_iload 6 (zdec DX10_shift 98 rfl) rfl ?_
      refine z_lald 83 (zdec DX10_shift 99 rfl) rfl shp83 ⟨by omega, by omega⟩ ?_
      refine z_last 82 (zdec DX10_shift 100 rfl) rfl shp82 ⟨by omega, by omega⟩ ?_
      refine z_iinc (L' := [(0, .inr (.inr 56)), (1, .inl s), (2, .inl i), (3, .inl t), (4, .inl j), (5, .inl n0), (6, .inl (k + 1))]) 6 (zdec DX10_shift 101 rfl) rfl (by unfold z32; omega) rfl (by decide) ?_
      refine z_goto 150 (zdec DX10_shift 102 rfl) rfl ?_
      exact ih (k + 1) (zup M3 82 (((60 * t) + j) + k) (M3 83 k)) (by omega) ⟨by omega, by omega, hI.2.2.1.up, fun q => (by by_cases e : q = 60 * t + j + k; (subst e; rw [zup_self, r83, ek (by omega), if_pos (by omega)]; congr 1; omega); (rw [zup_ne e, hI.2.2.2 q]; by_cases e2 : 60 * t + j ≤ q ∧ q < 60 * t + j + k; (rw [if_pos e2, if_pos (by omega)]); (rw [if_neg e2, if_neg (by omega)])))⟩
set_option maxHeartbeats 4000000 in
theorem lp_X10_shift_113 {Q : zPost} {M : zMm} (hP : zP M) (hS : zSr M) (s i t j n0 : Int) (hs : 0 ≤ s ∧ s < 6) (ht : 0 ≤ t ∧ t < 6) (hi : 0 ≤ i ∧ i + n0 ≤ 60) (hj : 0 ≤ j ∧ j + n0 ≤ 60) (hn0 : 0 ≤ n0) (hx147 : ∀ (M2 : zMm), (zonly 83 M M2 ∧ ∀ q : Int, 0 ≤ q → q < n0 → M2 83 q = M 82 (60 * s + i + q)) → zW mX10_shift 3 Q (0, 0) zS0 147 [(0, .inr (.inr 56)), (1, .inl s), (2, .inl i), (3, .inl t), (4, .inl j), (5, .inl n0)] [] M2) : ∀ (n : Nat) (k : Int) (M2 : zMm), (n0 - k).toNat < n → (0 ≤ k ∧ k ≤ n0 ∧ zonly 83 M M2 ∧ ∀ q : Int, 0 ≤ q → q < k → M2 83 q = M 82 (60 * s + i + q)) → zW mX10_shift 3 Q (0, 0) zS0 113 [(0, .inr (.inr 56)), (1, .inl s), (2, .inl i), (3, .inl t), (4, .inl j), (5, .inl n0), (6, .inl k)] [] M2 := by
  intro n
  induction n with
  | zero => intro k M2 hn; exact absurd hn (Nat.not_lt_zero _)
  | succ n ih =>
    intro k M2 hn hI
    have r82 : M2 82 = M 82 := hI.2.2.1 82 (by decide)
    refine z_iload 6 (zdec DX10_shift 63 rfl) rfl ?_
    refine z_iload 5 (zdec DX10_shift 64 rfl) rfl ?_
    refine z_icmp_ge 147 (zdec DX10_shift 65 rfl) rfl (fun h117 => ?_) (fun h117 => ?_)
    ·
      refine z_weak (L' := [(0, .inr (.inr 56)), (1, .inl s), (2, .inl i), (3, .inl t), (4, .inl j), (5, .inl n0)]) (by simp) ?_
      exact hx147 M2 ⟨hI.2.2.1, fun q a b => hI.2.2.2 q a (by omega)⟩
    ·
      refine z_aload_n 0 (zdec DX10_shift 66 rfl) rfl rfl (by decide) ?_
      refine z_getr (rw1 := -66) (ki := 43) (r' := 83) 56 10 (zdec DX10_shift 67 rfl) rfl rfl shp56 rfl (by decide) rfl rfl fl_SixWallsModel_90 (zPa (hI.2.2.1.P (by decide) hP) 83 rfl) ?_
      refine z_iload 6 (zdec DX10_shift 68 rfl) rfl ?_
      refine z_aload_n 0 (zdec DX10_shift 69 rfl) rfl rfl (by decide) ?_
      refine z_getr (rw1 := -66) (ki := 42) (r' := 82) 56 10 (zdec DX10_shift 70 rfl) rfl rfl shp56 rfl (by decide) rfl rfl fl_SixWallsModel_86 (zPa (hI.2.2.1.P (by decide) hP) 82 rfl) ?_
      refine z_bipush 60 (zdec DX10_shift 71 rfl) (by decide) ?_
      refine z_iload_n 1 (zdec DX10_shift 72 rfl) rfl rfl ?_
      refine z_imul (zdec DX10_shift 73 rfl) (by unfold z32; omega) ?_
      refine z_iload_n 2 (zdec DX10_shift 74 rfl) rfl rfl ?_
      refine z_iadd (zdec DX10_shift 75 rfl) (by unfold z32; omega) ?_
      refine z_iload 6 (zdec DX10_shift 76 rfl) rfl ?_
      refine z_iadd (zdec DX10_shift 77 rfl) (by unfold z32; omega) ?_
      refine z_lald 82 (zdec DX10_shift 78 rfl) rfl shp82 ⟨by omega, by omega⟩ ?_
      refine z_last 83 (zdec DX10_shift 79 rfl) rfl shp83 ⟨by omega, by omega⟩ ?_
      refine z_iinc (L' := [(0, .inr (.inr 56)), (1, .inl s), (2, .inl i), (3, .inl t), (4, .inl j), (5, .inl n0), (6, .inl (k + 1))]) 6 (zdec DX10_shift 80 rfl) rfl (by unfold z32; omega) rfl (by decide) ?_
      refine z_goto 113 (zdec DX10_shift 81 rfl) rfl ?_
      exact ih (k + 1) (zup M2 83 k (M2 82 (((60 * s) + i) + k))) (by omega) ⟨by omega, by omega, hI.2.2.1.up, fun q a b => (by by_cases e : q = k; (subst e; rw [zup_self, r82]); (rw [zup_ne e]; exact hI.2.2.2 q a (by omega)))⟩
set_option maxHeartbeats 4000000 in
theorem cX10_shift {M : zMm} (hP : zP M) (hS : zSr M) (s i t j n0 : Int) : zW mX10_shift 3 (fun rv S' M' => S' = zS0 ∧ ((zr2R M s t ≠ 0 ∧ rv = some (.inl (zr2R M s t)) ∧ M' = M) ∨ (zr2R M s t = 0 ∧ ¬ ((0 ≤ i ∧ 0 ≤ n0 ∧ n0 ≤ M 81 s ∧ i ≤ M 81 s - n0) ∧ (0 ≤ j ∧ 0 ≤ n0 ∧ n0 ≤ M 81 t ∧ j ≤ M 81 t - n0)) ∧ rv = some (.inl (-13)) ∧ M' = M) ∨ (zr2R M s t = 0 ∧ ((0 ≤ i ∧ 0 ≤ n0 ∧ n0 ≤ M 81 s ∧ i ≤ M 81 s - n0) ∧ (0 ≤ j ∧ 0 ≤ n0 ∧ n0 ≤ M 81 t ∧ j ≤ M 81 t - n0)) ∧ rv = some (.inl n0) ∧ zshR M (60 * s + i) (60 * t + j) n0 M'))) (0, 0) zS0 0 (zargs 0 [.inr (.inr 56), .inl s, .inl i, .inl t, .inl j, .inl n0]) [] M := by
  change zW _ _ _ _ _ 0 [(0, .inr (.inr 56)), (1, .inl s), (2, .inl i), (3, .inl t), (4, .inl j), (5, .inl n0)] [] M
  refine z_iload_n 1 (zdec DX10_shift 0 rfl) rfl rfl ?_
  refine z_invs mX10_isShelf [.inl s] (zdec DX10_shift 1 rfl) (Or.inl ml_SixWallsModel_175) okX10_isShelf rfl rfl (Nat.le_of_ble_eq_true rfl) (Nat.le_of_ble_eq_true rfl) (b' := (0, 0)) ⟨Nat.le_refl 0, Nat.le_refl 0⟩ (Nat.le_of_ble_eq_true rfl) (cX10_isShelf s) (fun rv9 S9 M1 h9 => ?_)
  obtain ⟨rfl, rfl, rfl⟩ := h9
  change zW _ _ _ _ _ 4 [(0, .inr (.inr 56)), (1, .inl s), (2, .inl i), (3, .inl t), (4, .inl j), (5, .inl n0)] [.inl (zb (0 ≤ s ∧ s < 6))] M
  refine z_if_eq 14 (zdec DX10_shift 2 rfl) rfl (fun h4 => ?_) (fun h4 => ?_)
  ·
    have q4 := zb_eq0.mp h4
    refine z_iconst (-1) (zdec DX10_shift 6 rfl) (by decide) ?_
    exact z_iret (zdec DX10_shift 7 rfl) rfl (⟨rfl, Or.inl (by have e : zr2R M s t = -1 := (by unfold zr2R; rw [if_pos (by omega)]); rw [e]; exact ⟨by decide, rfl, rfl⟩)⟩)
  ·
    have q4 := zb_ne0.mp h4
    refine z_iload_n 3 (zdec DX10_shift 3 rfl) rfl rfl ?_
    refine z_invs mX10_isShelf [.inl t] (zdec DX10_shift 4 rfl) (Or.inl ml_SixWallsModel_175) okX10_isShelf rfl rfl (Nat.le_of_ble_eq_true rfl) (Nat.le_of_ble_eq_true rfl) (b' := (0, 0)) ⟨Nat.le_refl 0, Nat.le_refl 0⟩ (Nat.le_of_ble_eq_true rfl) (cX10_isShelf t) (fun rv9 S9 M8 h9 => ?_)
    obtain ⟨rfl, rfl, rfl⟩ := h9
    change zW _ _ _ _ _ 11 [(0, .inr (.inr 56)), (1, .inl s), (2, .inl i), (3, .inl t), (4, .inl j), (5, .inl n0)] [.inl (zb (0 ≤ t ∧ t < 6))] M
    refine z_if_ne 16 (zdec DX10_shift 5 rfl) rfl (fun h11 => ?_) (fun h11 => ?_)
    ·
      have q11 := zb_ne0.mp h11
      have bs := hS s q4.1 q4.2
      have bt := hS t q11.1 q11.2
      refine z_aload_n 0 (zdec DX10_shift 8 rfl) rfl rfl (by decide) ?_
      refine z_getr (rw1 := -66) (ki := 40) (r' := 80) 56 10 (zdec DX10_shift 9 rfl) rfl rfl shp56 rfl (by decide) rfl rfl fl_SixWallsModel_80 (zPa hP 80 rfl) ?_
      refine z_iload_n 1 (zdec DX10_shift 10 rfl) rfl rfl ?_
      refine z_iald 80 (zdec DX10_shift 11 rfl) rfl shp80 ⟨by omega, by omega⟩ ?_
      refine z_if_lt 34 (zdec DX10_shift 12 rfl) rfl (fun h22 => ?_) (fun h22 => ?_)
      ·
        refine z_bipush (-11) (zdec DX10_shift 18 rfl) (by decide) ?_
        exact z_iret (zdec DX10_shift 19 rfl) rfl (⟨rfl, Or.inl (by have e : zr2R M s t = -11 := (by unfold zr2R; rw [if_neg (by omega), if_pos (by omega)]); rw [e]; exact ⟨by decide, rfl, rfl⟩)⟩)
      ·
        refine z_aload_n 0 (zdec DX10_shift 13 rfl) rfl rfl (by decide) ?_
        refine z_getr (rw1 := -66) (ki := 40) (r' := 80) 56 10 (zdec DX10_shift 14 rfl) rfl rfl shp56 rfl (by decide) rfl rfl fl_SixWallsModel_80 (zPa hP 80 rfl) ?_
        refine z_iload_n 3 (zdec DX10_shift 15 rfl) rfl rfl ?_
        refine z_iald 80 (zdec DX10_shift 16 rfl) rfl shp80 ⟨by omega, by omega⟩ ?_
        refine z_if_ge 37 (zdec DX10_shift 17 rfl) rfl (fun h31 => ?_) (fun h31 => ?_)
        ·
          refine z_aload_n 0 (zdec DX10_shift 20 rfl) rfl rfl (by decide) ?_
          refine z_getr (rw1 := -66) (ki := 40) (r' := 80) 56 10 (zdec DX10_shift 21 rfl) rfl rfl shp56 rfl (by decide) rfl rfl fl_SixWallsModel_80 (zPa hP 80 rfl) ?_
          refine z_iload_n 1 (zdec DX10_shift 22 rfl) rfl rfl ?_
          refine z_iald 80 (zdec DX10_shift 23 rfl) rfl shp80 ⟨by omega, by omega⟩ ?_
          refine z_bipush 50 (zdec DX10_shift 24 rfl) (by decide) ?_
          refine z_icmp_lt 63 (zdec DX10_shift 25 rfl) rfl (fun h45 => ?_) (fun h45 => ?_)
          ·
            refine z_bipush (-12) (zdec DX10_shift 35 rfl) (by decide) ?_
            exact z_iret (zdec DX10_shift 36 rfl) rfl (⟨rfl, Or.inl (by have e : zr2R M s t = -12 := (by unfold zr2R; rw [if_neg (by omega), if_neg (by omega), if_pos (by omega)]); rw [e]; exact ⟨by decide, rfl, rfl⟩)⟩)
          ·
            refine z_aload_n 0 (zdec DX10_shift 26 rfl) rfl rfl (by decide) ?_
            refine z_getr (rw1 := -66) (ki := 40) (r' := 80) 56 10 (zdec DX10_shift 27 rfl) rfl rfl shp56 rfl (by decide) rfl rfl fl_SixWallsModel_80 (zPa hP 80 rfl) ?_
            refine z_iload_n 1 (zdec DX10_shift 28 rfl) rfl rfl ?_
            refine z_iald 80 (zdec DX10_shift 29 rfl) rfl shp80 ⟨by omega, by omega⟩ ?_
            refine z_aload_n 0 (zdec DX10_shift 30 rfl) rfl rfl (by decide) ?_
            refine z_getr (rw1 := -66) (ki := 40) (r' := 80) 56 10 (zdec DX10_shift 31 rfl) rfl rfl shp56 rfl (by decide) rfl rfl fl_SixWallsModel_80 (zPa hP 80 rfl) ?_
            refine z_iload_n 3 (zdec DX10_shift 32 rfl) rfl rfl ?_
            refine z_iald 80 (zdec DX10_shift 33 rfl) rfl shp80 ⟨by omega, by omega⟩ ?_
            refine z_icmp_eq 66 (zdec DX10_shift 34 rfl) rfl (fun h60 => ?_) (fun h60 => ?_)
            ·
              refine z_can fun _ hcL _ => ?_
              have z32n : z32 n0 := hcL (5, .inl n0) (by simp)
              refine z_iload 5 (zdec DX10_shift 37 rfl) rfl ?_
              refine z_if_lt 107 (zdec DX10_shift 38 rfl) rfl (fun h68 => ?_) (fun h68 => ?_)
              ·
                refine z_bipush (-13) (zdec DX10_shift 59 rfl) (by decide) ?_
                exact z_iret (zdec DX10_shift 60 rfl) rfl (⟨rfl, Or.inr (Or.inl ⟨(by unfold zr2R; rw [if_neg (by omega), if_neg (by omega), if_neg (by omega)]), by omega, rfl, rfl⟩)⟩)
              ·
                refine z_iload_n 2 (zdec DX10_shift 39 rfl) rfl rfl ?_
                refine z_if_lt 107 (zdec DX10_shift 40 rfl) rfl (fun h72 => ?_) (fun h72 => ?_)
                ·
                  refine z_bipush (-13) (zdec DX10_shift 59 rfl) (by decide) ?_
                  exact z_iret (zdec DX10_shift 60 rfl) rfl (⟨rfl, Or.inr (Or.inl ⟨(by unfold zr2R; rw [if_neg (by omega), if_neg (by omega), if_neg (by omega)]), by omega, rfl, rfl⟩)⟩)
                ·
                  refine z_iload 4 (zdec DX10_shift 41 rfl) rfl ?_
                  refine z_if_lt 107 (zdec DX10_shift 42 rfl) rfl (fun h77 => ?_) (fun h77 => ?_)
                  ·
                    refine z_bipush (-13) (zdec DX10_shift 59 rfl) (by decide) ?_
                    exact z_iret (zdec DX10_shift 60 rfl) rfl (⟨rfl, Or.inr (Or.inl ⟨(by unfold zr2R; rw [if_neg (by omega), if_neg (by omega), if_neg (by omega)]), by omega, rfl, rfl⟩)⟩)
                  ·
                    refine z_iload_n 2 (zdec DX10_shift 43 rfl) rfl rfl ?_
                    refine z_aload_n 0 (zdec DX10_shift 44 rfl) rfl rfl (by decide) ?_
                    refine z_getr (rw1 := -66) (ki := 41) (r' := 81) 56 10 (zdec DX10_shift 45 rfl) rfl rfl shp56 rfl (by decide) rfl rfl fl_SixWallsModel_83 (zPa hP 81 rfl) ?_
                    refine z_iload_n 1 (zdec DX10_shift 46 rfl) rfl rfl ?_
                    refine z_iald 81 (zdec DX10_shift 47 rfl) rfl shp81 ⟨by omega, by omega⟩ ?_
                    refine z_iload 5 (zdec DX10_shift 48 rfl) rfl ?_
                    refine z_isub (zdec DX10_shift 49 rfl) (by have := z32n; unfold z32 at *; omega) ?_
                    refine z_icmp_gt 107 (zdec DX10_shift 50 rfl) rfl (fun h90 => ?_) (fun h90 => ?_)
                    ·
                      refine z_bipush (-13) (zdec DX10_shift 59 rfl) (by decide) ?_
                      exact z_iret (zdec DX10_shift 60 rfl) rfl (⟨rfl, Or.inr (Or.inl ⟨(by unfold zr2R; rw [if_neg (by omega), if_neg (by omega), if_neg (by omega)]), by omega, rfl, rfl⟩)⟩)
                    ·
                      refine z_iload 4 (zdec DX10_shift 51 rfl) rfl ?_
                      refine z_aload_n 0 (zdec DX10_shift 52 rfl) rfl rfl (by decide) ?_
                      refine z_getr (rw1 := -66) (ki := 41) (r' := 81) 56 10 (zdec DX10_shift 53 rfl) rfl rfl shp56 rfl (by decide) rfl rfl fl_SixWallsModel_83 (zPa hP 81 rfl) ?_
                      refine z_iload_n 3 (zdec DX10_shift 54 rfl) rfl rfl ?_
                      refine z_iald 81 (zdec DX10_shift 55 rfl) rfl shp81 ⟨by omega, by omega⟩ ?_
                      refine z_iload 5 (zdec DX10_shift 56 rfl) rfl ?_
                      refine z_isub (zdec DX10_shift 57 rfl) (by have := z32n; unfold z32 at *; omega) ?_
                      refine z_icmp_le 110 (zdec DX10_shift 58 rfl) rfl (fun h104 => ?_) (fun h104 => ?_)
                      ·
                        refine z_iconst 0 (zdec DX10_shift 61 rfl) (by decide) ?_
                        refine z_istore (L' := [(0, .inr (.inr 56)), (1, .inl s), (2, .inl i), (3, .inl t), (4, .inl j), (5, .inl n0), (6, .inl 0)]) (zdec DX10_shift 62 rfl) rfl (by decide) ?_
                        refine lp_X10_shift_113 hP hS s i t j n0 q4 q11 ⟨by omega, by omega⟩ ⟨by omega, by omega⟩ (by omega) (hx147 := fun M2 hx => ?_) _ 0 M (Nat.lt_succ_self _) ⟨by omega, by omega, zonly.rf, fun q a b => by omega⟩
                        refine z_iconst 0 (zdec DX10_shift 82 rfl) (by decide) ?_
                        refine z_istore (L' := [(0, .inr (.inr 56)), (1, .inl s), (2, .inl i), (3, .inl t), (4, .inl j), (5, .inl n0), (6, .inl 0)]) (zdec DX10_shift 83 rfl) rfl (by decide) ?_
                        refine lp_X10_shift_150 (hx.1.P (by decide) hP) s i t j n0 q4 q11 ⟨by omega, by omega⟩ ⟨by omega, by omega⟩ (by omega) hx (hx185 := fun M3 hy => ?_) _ 0 M2 (Nat.lt_succ_self _) ⟨by omega, by omega, zonly.rf, fun q => by rw [if_neg (by omega)]; exact congrFun (hx.1 82 (by decide)) q⟩
                        refine z_iload 0 (zdec DX10_shift 103 rfl) rfl ?_
                        exact z_iret (zdec DX10_shift 104 rfl) rfl (⟨rfl, Or.inr (Or.inr ⟨(by unfold zr2R; rw [if_neg (by omega), if_neg (by omega), if_neg (by omega)]), by omega, rfl, hy⟩)⟩)
                      ·
                        refine z_bipush (-13) (zdec DX10_shift 59 rfl) (by decide) ?_
                        exact z_iret (zdec DX10_shift 60 rfl) rfl (⟨rfl, Or.inr (Or.inl ⟨(by unfold zr2R; rw [if_neg (by omega), if_neg (by omega), if_neg (by omega)]), by omega, rfl, rfl⟩)⟩)
            ·
              refine z_bipush (-12) (zdec DX10_shift 35 rfl) (by decide) ?_
              exact z_iret (zdec DX10_shift 36 rfl) rfl (⟨rfl, Or.inl (by have e : zr2R M s t = -12 := (by unfold zr2R; rw [if_neg (by omega), if_neg (by omega), if_pos (by omega)]); rw [e]; exact ⟨by decide, rfl, rfl⟩)⟩)
        ·
          refine z_bipush (-11) (zdec DX10_shift 18 rfl) (by decide) ?_
          exact z_iret (zdec DX10_shift 19 rfl) rfl (⟨rfl, Or.inl (by have e : zr2R M s t = -11 := (by unfold zr2R; rw [if_neg (by omega), if_pos (by omega)]); rw [e]; exact ⟨by decide, rfl, rfl⟩)⟩)
    ·
      have q11 : ¬ (0 ≤ t ∧ t < 6) := fun e => h11 (zb_ne0.mpr e)
      refine z_iconst (-1) (zdec DX10_shift 6 rfl) (by decide) ?_
      exact z_iret (zdec DX10_shift 7 rfl) rfl (⟨rfl, Or.inl (by have e : zr2R M s t = -1 := (by unfold zr2R; rw [if_pos (by omega)]); rw [e]; exact ⟨by decide, rfl, rfl⟩)⟩)
set_option maxHeartbeats 4000000 in
theorem lp_X10_taken_58 {Q : zPost} {M : zMm} (hP : zP M) (hC : zCr M) (hS : zSr M) (s k : Int) (hx75 : ∀ (x : Int), (zch k 8 (M 78 (M 80 s)) = x) → zW mX10_taken 3 Q (0, 0) zS0 75 [(0, .inr (.inr 56)), (1, .inl s), (2, .inl k), (3, .inl x)] [] M) : ∀ (n : Nat) (x : Int), (x).toNat < n → ((x ≤ 7 ∧ ∃ f : Nat, x ≤ f ∧ zch k 8 (M 78 (M 80 s)) = zch k f x)) → zW mX10_taken 3 Q (0, 0) zS0 58 [(0, .inr (.inr 56)), (1, .inl s), (2, .inl k), (3, .inl x)] [] M := by
  intro n
  induction n with
  | zero => intro x hn; exact absurd hn (Nat.not_lt_zero _)
  | succ n ih =>
    intro x hn hI
    obtain ⟨hx7, f, hf, he⟩ := hI
    refine z_iload_n 3 (zdec DX10_taken 33 rfl) rfl rfl ?_
    refine z_iload_n 2 (zdec DX10_taken 34 rfl) rfl rfl ?_
    refine z_icmp_eq 75 (zdec DX10_taken 35 rfl) rfl (fun h60 => ?_) (fun h60 => ?_)
    ·
      exact hx75 x (by rw [he]; cases f with | zero => rfl | succ g => exact if_neg (by omega))
    ·
      refine z_iload_n 3 (zdec DX10_taken 36 rfl) rfl rfl ?_
      refine z_if_le 75 (zdec DX10_taken 37 rfl) rfl (fun h64 => ?_) (fun h64 => ?_)
      ·
        exact hx75 x (by rw [he]; cases f with | zero => rfl | succ g => exact if_neg (by omega))
      ·
        refine z_iload_n 3 (zdec DX10_taken 38 rfl) rfl rfl ?_
        have hzab : zabR x < x := by unfold zabR; (repeat split) <;> omega
        refine z_invs mX10_above [.inl x] (zdec DX10_taken 39 rfl) (Or.inl ml_SixWallsModel_366) okX10_above rfl rfl (Nat.le_of_ble_eq_true rfl) (Nat.le_of_ble_eq_true rfl) (b' := (0, 0)) ⟨Nat.le_refl 0, Nat.le_refl 0⟩ (Nat.le_of_ble_eq_true rfl) (cX10_above x) (fun rv9 S9 M68 h9 => ?_)
        obtain ⟨rfl, rfl, rfl⟩ := h9
        change zW _ _ _ _ _ 71 [(0, .inr (.inr 56)), (1, .inl s), (2, .inl k), (3, .inl x)] [.inl (zabR x)] M
        refine z_istore_n (L' := [(0, .inr (.inr 56)), (1, .inl s), (2, .inl k), (3, .inl (zabR x))]) (zdec DX10_taken 40 rfl) rfl rfl (by decide) ?_
        refine z_goto 58 (zdec DX10_taken 41 rfl) rfl ?_
        exact ih (zabR x) (by omega) (by obtain ⟨g, rfl⟩ : ∃ g, f = g + 1 := ⟨f - 1, by omega⟩; have e : zch k (g + 1) x = zch k g (zabR x) := (if_pos ⟨by omega, by omega⟩); have b : zabR x < x := hzab; exact ⟨by omega, g, by omega, he.trans e⟩)
set_option maxHeartbeats 4000000 in
theorem cX10_taken {M : zMm} (hP : zP M) (hC : zCr M) (hS : zSr M) (s k : Int) : zW mX10_taken 3 (fun rv S' M' => S' = zS0 ∧ M = M' ∧ rv = some (.inl (if (0 ≤ s ∧ s < 6) ∧ 0 ≤ k ∧ k < 8 then (if M 80 s < 0 then -11 else if 50 ≤ M 80 s then -12 else if zch k 8 (M 78 (M 80 s)) = k then M 78 (M 80 s) else -12) else -1))) (0, 0) zS0 0 (zargs 0 [.inr (.inr 56), .inl s, .inl k]) [] M := by
  change zW _ _ _ _ _ 0 [(0, .inr (.inr 56)), (1, .inl s), (2, .inl k)] [] M
  refine z_iload_n 1 (zdec DX10_taken 0 rfl) rfl rfl ?_
  refine z_invs mX10_isShelf [.inl s] (zdec DX10_taken 1 rfl) (Or.inl ml_SixWallsModel_175) okX10_isShelf rfl rfl (Nat.le_of_ble_eq_true rfl) (Nat.le_of_ble_eq_true rfl) (b' := (0, 0)) ⟨Nat.le_refl 0, Nat.le_refl 0⟩ (Nat.le_of_ble_eq_true rfl) (cX10_isShelf s) (fun rv9 S9 M1 h9 => ?_)
  obtain ⟨rfl, rfl, rfl⟩ := h9
  change zW _ _ _ _ _ 4 [(0, .inr (.inr 56)), (1, .inl s), (2, .inl k)] [.inl (zb (0 ≤ s ∧ s < 6))] M
  refine z_if_eq 19 (zdec DX10_taken 2 rfl) rfl (fun h4 => ?_) (fun h4 => ?_)
  ·
    have q4 := zb_eq0.mp h4
    refine z_iconst (-1) (zdec DX10_taken 9 rfl) (by decide) ?_
    exact z_iret (zdec DX10_taken 10 rfl) rfl (⟨rfl, rfl, zri (by rw [if_neg (by omega)])⟩)
  ·
    have q4 := zb_ne0.mp h4
    have bs := hS s q4.1 q4.2
    refine z_iload_n 2 (zdec DX10_taken 3 rfl) rfl rfl ?_
    refine z_i2l (zdec DX10_taken 4 rfl) ?_
    refine z_lconst 0 (zdec DX10_taken 5 rfl) rfl ?_
    refine z_ldc2 7 (zdec DX10_taken 6 rfl) kl_SixWallsModel_325 rfl ⟨by decide, by decide⟩ ?_
    refine z_invs mX10_within [.inr (.inl k), .inr (.inl 0), .inr (.inl 7)] (zdec DX10_taken 7 rfl) (Or.inl ml_SixWallsModel_112) okX10_within rfl rfl (Nat.le_of_ble_eq_true rfl) (Nat.le_of_ble_eq_true rfl) (b' := (0, 0)) ⟨Nat.le_refl 0, Nat.le_refl 0⟩ (Nat.le_of_ble_eq_true rfl) (cX10_within k 0 7) (fun rv9 S9 M13 h9 => ?_)
    obtain ⟨rfl, rfl, rfl⟩ := h9
    change zW _ _ _ _ _ 16 [(0, .inr (.inr 56)), (1, .inl s), (2, .inl k)] [.inl (zb (0 ≤ k ∧ k ≤ 7))] M
    refine z_if_ne 21 (zdec DX10_taken 8 rfl) rfl (fun h16 => ?_) (fun h16 => ?_)
    ·
      have q16 := zb_ne0.mp h16
      refine z_aload_n 0 (zdec DX10_taken 11 rfl) rfl rfl (by decide) ?_
      refine z_getr (rw1 := -66) (ki := 40) (r' := 80) 56 10 (zdec DX10_taken 12 rfl) rfl rfl shp56 rfl (by decide) rfl rfl fl_SixWallsModel_80 (zPa hP 80 rfl) ?_
      refine z_iload_n 1 (zdec DX10_taken 13 rfl) rfl rfl ?_
      refine z_iald 80 (zdec DX10_taken 14 rfl) rfl shp80 ⟨by omega, by omega⟩ ?_
      refine z_if_ge 33 (zdec DX10_taken 15 rfl) rfl (fun h27 => ?_) (fun h27 => ?_)
      ·
        refine z_aload_n 0 (zdec DX10_taken 18 rfl) rfl rfl (by decide) ?_
        refine z_getr (rw1 := -66) (ki := 40) (r' := 80) 56 10 (zdec DX10_taken 19 rfl) rfl rfl shp56 rfl (by decide) rfl rfl fl_SixWallsModel_80 (zPa hP 80 rfl) ?_
        refine z_iload_n 1 (zdec DX10_taken 20 rfl) rfl rfl ?_
        refine z_iald 80 (zdec DX10_taken 21 rfl) rfl shp80 ⟨by omega, by omega⟩ ?_
        refine z_bipush 50 (zdec DX10_taken 22 rfl) (by decide) ?_
        refine z_icmp_lt 47 (zdec DX10_taken 23 rfl) rfl (fun h41 => ?_) (fun h41 => ?_)
        ·
          refine z_aload_n 0 (zdec DX10_taken 26 rfl) rfl rfl (by decide) ?_
          refine z_aload_n 0 (zdec DX10_taken 27 rfl) rfl rfl (by decide) ?_
          refine z_getr (rw1 := -66) (ki := 40) (r' := 80) 56 10 (zdec DX10_taken 28 rfl) rfl rfl shp56 rfl (by decide) rfl rfl fl_SixWallsModel_80 (zPa hP 80 rfl) ?_
          refine z_iload_n 1 (zdec DX10_taken 29 rfl) rfl rfl ?_
          refine z_iald 80 (zdec DX10_taken 30 rfl) rfl shp80 ⟨by omega, by omega⟩ ?_
          refine z_inv mX10_kindOf 56 10 [.inl (M 80 s)] (zdec DX10_taken 31 rfl) ml_SixWallsModel_363 okX10_kindOf rfl shp56 rfl rfl rfl rfl (Nat.le_of_ble_eq_true rfl) (Nat.le_of_ble_eq_true rfl) (b' := (0, 0)) ⟨Nat.le_refl 0, Nat.le_refl 0⟩ (Nat.le_of_ble_eq_true rfl) (cX10_kindOf hP (M 80 s) ⟨by omega, by omega⟩) (fun rv9 S9 M54 h9 => ?_)
          obtain ⟨rfl, rfl, rfl⟩ := h9
          have hk7 := hC.2.2 (M 80 s) (by omega) (by omega)
          change zW _ _ _ _ _ 57 [(0, .inr (.inr 56)), (1, .inl s), (2, .inl k)] [.inl (M 78 (M 80 s))] M
          refine z_istore_n (L' := [(0, .inr (.inr 56)), (1, .inl s), (2, .inl k), (3, .inl (M 78 (M 80 s)))]) (zdec DX10_taken 32 rfl) rfl rfl (by decide) ?_
          refine lp_X10_taken_58 hP hC hS s k (hx75 := fun x hx => ?_) _ (M 78 (M 80 s)) (Nat.lt_succ_self _) ⟨by omega, 8, by omega, rfl⟩
          refine z_iload_n 3 (zdec DX10_taken 42 rfl) rfl rfl ?_
          refine z_iload_n 2 (zdec DX10_taken 43 rfl) rfl rfl ?_
          refine z_icmp_ne 93 (zdec DX10_taken 44 rfl) rfl (fun h77 => ?_) (fun h77 => ?_)
          ·
            refine z_bipush (-12) (zdec DX10_taken 52 rfl) (by decide) ?_
            exact z_iret (zdec DX10_taken 53 rfl) rfl (⟨rfl, rfl, zri (by rw [if_pos ⟨q4, by omega⟩, if_neg (by omega), if_neg (by omega), hx]; first | (rw [if_pos (by omega)]; done) | (rw [if_neg (by omega)]; done))⟩)
          ·
            refine z_aload_n 0 (zdec DX10_taken 45 rfl) rfl rfl (by decide) ?_
            refine z_aload_n 0 (zdec DX10_taken 46 rfl) rfl rfl (by decide) ?_
            refine z_getr (rw1 := -66) (ki := 40) (r' := 80) 56 10 (zdec DX10_taken 47 rfl) rfl rfl shp56 rfl (by decide) rfl rfl fl_SixWallsModel_80 (zPa hP 80 rfl) ?_
            refine z_iload_n 1 (zdec DX10_taken 48 rfl) rfl rfl ?_
            refine z_iald 80 (zdec DX10_taken 49 rfl) rfl shp80 ⟨by omega, by omega⟩ ?_
            refine z_inv mX10_kindOf 56 10 [.inl (M 80 s)] (zdec DX10_taken 50 rfl) ml_SixWallsModel_363 okX10_kindOf rfl shp56 rfl rfl rfl rfl (Nat.le_of_ble_eq_true rfl) (Nat.le_of_ble_eq_true rfl) (b' := (0, 0)) ⟨Nat.le_refl 0, Nat.le_refl 0⟩ (Nat.le_of_ble_eq_true rfl) (cX10_kindOf hP (M 80 s) ⟨by omega, by omega⟩) (fun rv9 S9 M87 h9 => ?_)
            obtain ⟨rfl, rfl, rfl⟩ := h9
            change zW _ _ _ _ _ 90 [(0, .inr (.inr 56)), (1, .inl s), (2, .inl k), (3, .inl x)] [.inl (M 78 (M 80 s))] M
            refine z_goto 95 (zdec DX10_taken 51 rfl) rfl ?_
            exact z_iret (zdec DX10_taken 53 rfl) rfl (⟨rfl, rfl, zri (by rw [if_pos ⟨q4, by omega⟩, if_neg (by omega), if_neg (by omega), hx]; first | (rw [if_pos (by omega)]; done) | (rw [if_neg (by omega)]; done))⟩)
        ·
          refine z_bipush (-12) (zdec DX10_taken 24 rfl) (by decide) ?_
          exact z_iret (zdec DX10_taken 25 rfl) rfl (⟨rfl, rfl, zri (by rw [if_pos ⟨q4, by omega⟩, if_neg (by omega), if_pos (by omega)])⟩)
      ·
        refine z_bipush (-11) (zdec DX10_taken 16 rfl) (by decide) ?_
        exact z_iret (zdec DX10_taken 17 rfl) rfl (⟨rfl, rfl, zri (by rw [if_pos ⟨q4, by omega⟩, if_pos (by omega)])⟩)
    ·
      have q16 : ¬ (0 ≤ k ∧ k ≤ 7) := fun e => h16 (zb_ne0.mpr e)
      refine z_iconst (-1) (zdec DX10_taken 9 rfl) (by decide) ?_
      exact z_iret (zdec DX10_taken 10 rfl) rfl (⟨rfl, rfl, zri (by rw [if_neg (by omega)])⟩)
set_option maxHeartbeats 4000000 in
theorem cX10_count {M : zMm} (hP : zP M) (hg : zGr M) (hR : zRr M) (k : Int) : zW mX10_count 3 (fun rv S' M' => S' = zS0 ∧ M = M' ∧ rv = some (.inl (zcntR M k))) (0, 0) zS0 0 (zargs 0 [.inr (.inr 56), .inl k]) [] M := by
  change zW _ _ _ _ _ 0 [(0, .inr (.inr 56)), (1, .inl k)] [] M
  refine z_iload_n 1 (zdec DX10_count 0 rfl) rfl rfl ?_
  refine z_tsw (zdec DX10_count 1 rfl) (by decide) (fun j off hj he => ?_) (fun hd => ?_)
  · match j, hj, he with
    | 0, hj, he =>
      cases hj
      refine ⟨44, rfl, ?_⟩
      have h1 : k = 0 := by simpa using he
      refine z_aload_n 0 (zdec DX10_count 2 rfl) rfl rfl (by decide) ?_
      refine z_inv mX10_livedIn 56 10 [] (zdec DX10_count 3 rfl) ml_SixWallsModel_270 okX10_livedIn rfl shp56 rfl rfl rfl rfl (Nat.le_of_ble_eq_true rfl) (Nat.le_of_ble_eq_true rfl) (b' := (0, 0)) ⟨Nat.le_refl 0, Nat.le_refl 0⟩ (Nat.le_of_ble_eq_true rfl) (cX10_livedIn hP hg hR) (fun rv9 S9 M45 h9 => ?_)
      obtain ⟨rfl, rfl, r1, rfl, k1⟩ := h9
      have b1 := k1.1
      have e1 := zst_sum k1 (fun i a b => (hR.1 i a b).1)
      change zW _ _ _ _ _ 48 [(0, .inr (.inr 56)), (1, .inl k)] [.inl r1] M
      refine z_i2l (zdec DX10_count 4 rfl) ?_
      refine z_invs mX10_bitsOf [.inr (.inl r1)] (zdec DX10_count 5 rfl) (Or.inl ml_SixWallsModel_277) okX10_bitsOf rfl rfl (Nat.le_of_ble_eq_true rfl) (Nat.le_of_ble_eq_true rfl) (b' := (0, 0)) ⟨Nat.le_refl 0, Nat.le_refl 0⟩ (Nat.le_of_ble_eq_true rfl) (cX10_bitsOf r1 ⟨by omega, by omega⟩) (fun rv9 S9 M49 h9 => ?_)
      obtain ⟨rfl, rfl, rfl⟩ := h9
      change zW _ _ _ _ _ 52 [(0, .inr (.inr 56)), (1, .inl k)] [.inl (zpn 62 (r1).toNat)] M
      exact z_iret (zdec DX10_count 6 rfl) rfl (⟨rfl, rfl, zri (by unfold zcntR; rw [if_pos h1]; exact e1)⟩)
    | 1, hj, he =>
      cases hj
      refine ⟨53, rfl, ?_⟩
      have h1 : k = 1 := by simpa using he
      refine z_aload_n 0 (zdec DX10_count 7 rfl) rfl rfl (by decide) ?_
      refine z_inv mX10_doorMany 56 10 [] (zdec DX10_count 8 rfl) ml_SixWallsModel_369 okX10_doorMany rfl shp56 rfl rfl rfl rfl (Nat.le_of_ble_eq_true rfl) (Nat.le_of_ble_eq_true rfl) (b' := (0, 0)) ⟨Nat.le_refl 0, Nat.le_refl 0⟩ (Nat.le_of_ble_eq_true rfl) (cX10_doorMany hP hg hR) (fun rv9 S9 M54 h9 => ?_)
      obtain ⟨rfl, rfl, rfl⟩ := h9
      change zW _ _ _ _ _ 57 [(0, .inr (.inr 56)), (1, .inl k)] [.inl (zsum (fun w => M 57 (65 + w)) 33)] M
      exact z_iret (zdec DX10_count 9 rfl) rfl (⟨rfl, rfl, zri (by unfold zcntR; first | (rw [if_neg (by omega), if_pos (by omega)]; done) | (rw [if_neg (by omega), if_neg (by omega), if_pos (by omega)]; done) | (rw [if_neg (by omega), if_neg (by omega), if_neg (by omega), if_pos (by omega)]; done) | (rw [if_neg (by omega), if_neg (by omega), if_neg (by omega), if_neg (by omega), if_pos (by omega)]; done) | (rw [if_neg (by omega), if_neg (by omega), if_neg (by omega), if_neg (by omega), if_neg (by omega), if_pos (by omega)]; done) | (rw [if_neg (by omega), if_neg (by omega), if_neg (by omega), if_neg (by omega), if_neg (by omega), if_neg (by omega), if_pos (by omega)]; done))⟩)
    | 2, hj, he =>
      cases hj
      refine ⟨58, rfl, ?_⟩
      have h1 : k = 2 := by simpa using he
      refine z_aload_n 0 (zdec DX10_count 10 rfl) rfl rfl (by decide) ?_
      refine z_geti (ki := 25) 56 10 (zdec DX10_count 11 rfl) rfl shp56 rfl (by decide) rfl rfl fl_SixWallsModel_253 ?_
      exact z_iret (zdec DX10_count 12 rfl) rfl (⟨rfl, rfl, zri (by unfold zcntR; first | (rw [if_neg (by omega), if_pos (by omega)]; done) | (rw [if_neg (by omega), if_neg (by omega), if_pos (by omega)]; done) | (rw [if_neg (by omega), if_neg (by omega), if_neg (by omega), if_pos (by omega)]; done) | (rw [if_neg (by omega), if_neg (by omega), if_neg (by omega), if_neg (by omega), if_pos (by omega)]; done) | (rw [if_neg (by omega), if_neg (by omega), if_neg (by omega), if_neg (by omega), if_neg (by omega), if_pos (by omega)]; done) | (rw [if_neg (by omega), if_neg (by omega), if_neg (by omega), if_neg (by omega), if_neg (by omega), if_neg (by omega), if_pos (by omega)]; done))⟩)
    | 3, hj, he =>
      cases hj
      refine ⟨63, rfl, ?_⟩
      have h1 : k = 3 := by simpa using he
      refine z_aload_n 0 (zdec DX10_count 13 rfl) rfl rfl (by decide) ?_
      refine z_geti (ki := 12) 56 10 (zdec DX10_count 14 rfl) rfl shp56 rfl (by decide) rfl rfl fl_SixWallsModel_182 ?_
      exact z_iret (zdec DX10_count 15 rfl) rfl (⟨rfl, rfl, zri (by unfold zcntR; first | (rw [if_neg (by omega), if_pos (by omega)]; done) | (rw [if_neg (by omega), if_neg (by omega), if_pos (by omega)]; done) | (rw [if_neg (by omega), if_neg (by omega), if_neg (by omega), if_pos (by omega)]; done) | (rw [if_neg (by omega), if_neg (by omega), if_neg (by omega), if_neg (by omega), if_pos (by omega)]; done) | (rw [if_neg (by omega), if_neg (by omega), if_neg (by omega), if_neg (by omega), if_neg (by omega), if_pos (by omega)]; done) | (rw [if_neg (by omega), if_neg (by omega), if_neg (by omega), if_neg (by omega), if_neg (by omega), if_neg (by omega), if_pos (by omega)]; done))⟩)
    | 4, hj, he =>
      cases hj
      refine ⟨68, rfl, ?_⟩
      have h1 : k = 4 := by simpa using he
      refine z_aload_n 0 (zdec DX10_count 16 rfl) rfl rfl (by decide) ?_
      refine z_geti (ki := 5) 56 10 (zdec DX10_count 17 rfl) rfl shp56 rfl (by decide) rfl rfl fl_SixWallsModel_104 ?_
      exact z_iret (zdec DX10_count 18 rfl) rfl (⟨rfl, rfl, zri (by unfold zcntR; first | (rw [if_neg (by omega), if_pos (by omega)]; done) | (rw [if_neg (by omega), if_neg (by omega), if_pos (by omega)]; done) | (rw [if_neg (by omega), if_neg (by omega), if_neg (by omega), if_pos (by omega)]; done) | (rw [if_neg (by omega), if_neg (by omega), if_neg (by omega), if_neg (by omega), if_pos (by omega)]; done) | (rw [if_neg (by omega), if_neg (by omega), if_neg (by omega), if_neg (by omega), if_neg (by omega), if_pos (by omega)]; done) | (rw [if_neg (by omega), if_neg (by omega), if_neg (by omega), if_neg (by omega), if_neg (by omega), if_neg (by omega), if_pos (by omega)]; done))⟩)
    | 5, hj, he =>
      cases hj
      refine ⟨73, rfl, ?_⟩
      have h1 : k = 5 := by simpa using he
      refine z_aload_n 0 (zdec DX10_count 19 rfl) rfl rfl (by decide) ?_
      refine z_geti (ki := 34) 56 10 (zdec DX10_count 20 rfl) rfl shp56 rfl (by decide) rfl rfl fl_SixWallsModel_322 ?_
      exact z_iret (zdec DX10_count 21 rfl) rfl (⟨rfl, rfl, zri (by unfold zcntR; first | (rw [if_neg (by omega), if_pos (by omega)]; done) | (rw [if_neg (by omega), if_neg (by omega), if_pos (by omega)]; done) | (rw [if_neg (by omega), if_neg (by omega), if_neg (by omega), if_pos (by omega)]; done) | (rw [if_neg (by omega), if_neg (by omega), if_neg (by omega), if_neg (by omega), if_pos (by omega)]; done) | (rw [if_neg (by omega), if_neg (by omega), if_neg (by omega), if_neg (by omega), if_neg (by omega), if_pos (by omega)]; done) | (rw [if_neg (by omega), if_neg (by omega), if_neg (by omega), if_neg (by omega), if_neg (by omega), if_neg (by omega), if_pos (by omega)]; done))⟩)
    | 6, hj, he =>
      cases hj
      refine ⟨78, rfl, ?_⟩
      have h1 : k = 6 := by simpa using he
      refine z_aload_n 0 (zdec DX10_count 22 rfl) rfl rfl (by decide) ?_
      refine z_geti (ki := 37) 56 10 (zdec DX10_count 23 rfl) rfl shp56 rfl (by decide) rfl rfl fl_SixWallsModel_327 ?_
      exact z_iret (zdec DX10_count 24 rfl) rfl (⟨rfl, rfl, zri (by unfold zcntR; first | (rw [if_neg (by omega), if_pos (by omega)]; done) | (rw [if_neg (by omega), if_neg (by omega), if_pos (by omega)]; done) | (rw [if_neg (by omega), if_neg (by omega), if_neg (by omega), if_pos (by omega)]; done) | (rw [if_neg (by omega), if_neg (by omega), if_neg (by omega), if_neg (by omega), if_pos (by omega)]; done) | (rw [if_neg (by omega), if_neg (by omega), if_neg (by omega), if_neg (by omega), if_neg (by omega), if_pos (by omega)]; done) | (rw [if_neg (by omega), if_neg (by omega), if_neg (by omega), if_neg (by omega), if_neg (by omega), if_neg (by omega), if_pos (by omega)]; done))⟩)
    | j + 7, hj, he => exact absurd (List.getElem?_eq_some_iff.mp hj).1 (by simp)
  · refine ⟨83, rfl, ?_⟩
    refine z_iconst (-1) (zdec DX10_count 25 rfl) (by decide) ?_
    exact z_iret (zdec DX10_count 26 rfl) rfl (⟨rfl, rfl, zri (by unfold zcntR; rw [if_neg (by omega), if_neg (by omega), if_neg (by omega), if_neg (by omega), if_neg (by omega), if_neg (by omega), if_neg (by omega)])⟩)
set_option maxHeartbeats 4000000 in
theorem lp_X10_fires_86 {Q : zPost} {M : zMm} (hP : zP M) (hS : zSr M) (s i h : Int) (hin : ((0 ≤ s ∧ s < 6) ∧ 0 ≤ h ∧ h / 100 < 16 ∧ 1 ≤ h % 100 ∧ h % 100 ≤ 16)) (hx197 : ∀ (c : Int) (M2 : zMm), ((0 ≤ c ∧ c ≤ (if 16 - h / 100 < h % 100 then 16 - h / 100 else h % 100) ∧ (∀ k : Int, 0 ≤ k → k < c → zfO M s (i + k)) ∧ (c = (if 16 - h / 100 < h % 100 then 16 - h / 100 else h % 100) ∨ ¬ zfO M s (i + c))) ∧ M2 = zfM M s i (h / 100) c) → zW mX10_fires 4 Q (0, 0) zS0 197 [(4, .inl c)] [] M2) : ∀ (n : Nat) (c : Int) (g : Int) (M2 : zMm), (h % 100 - c + g).toNat < n → ((0 ≤ c ∧ c ≤ 16 - h / 100 ∧ c ≤ h % 100) ∧ (0 ≤ g ∧ g ≤ 1) ∧ (g = 1 → 0 ≤ i ∧ M 80 s = 50) ∧ (g = 0 → c = 16 - h / 100 ∨ ¬ zfO M s (i + c)) ∧ (∀ k : Int, 0 ≤ k → k < c → zfO M s (i + k)) ∧ M2 = zfM M s i (h / 100) c) → zW mX10_fires 4 Q (0, 0) zS0 86 [(0, .inr (.inr 56)), (1, .inl s), (2, .inl i), (3, .inl h), (4, .inl c), (5, .inl g)] [] M2 := by
  intro n
  induction n with
  | zero => intro c g M2 hn; exact absurd hn (Nat.not_lt_zero _)
  | succ n ih =>
    intro c g M2 hn hI
    have bs := hS s hin.1.1 hin.1.2
    have hoc : zonly 57 M (zfM M s i (h / 100) c) := by have := zfM_o (M := M) (s := s) (i := i) (h := h / 100) c.toNat; rwa [show ((c.toNat : Nat) : Int) = c by omega] at this
    have r81 : M2 81 = M 81 := by rw [hI.2.2.2.2.2]; exact hoc 81 (by decide)
    have r82 : M2 82 = M 82 := by rw [hI.2.2.2.2.2]; exact hoc 82 (by decide)
    refine z_iload 5 (zdec DX10_fires 47 rfl) rfl ?_
    refine z_if_eq 197 (zdec DX10_fires 48 rfl) rfl (fun h88 => ?_) (fun h88 => ?_)
    ·
      refine z_weak (L' := [(4, .inl c)]) (by simp) ?_
      exact hx197 c M2 ⟨⟨hI.1.1, (by split <;> omega), hI.2.2.2.2.1, (by first | exact (hI.2.2.2.1 (by omega)).elim (fun e => Or.inl (by split <;> omega)) Or.inr | exact Or.inl (by split <;> omega))⟩, hI.2.2.2.2.2⟩
    ·
      refine z_iload 4 (zdec DX10_fires 49 rfl) rfl ?_
      refine z_iload_n 3 (zdec DX10_fires 50 rfl) rfl rfl ?_
      refine z_bipush 100 (zdec DX10_fires 51 rfl) (by decide) ?_
      refine z_iremp (zdec DX10_fires 52 rfl) (by omega) (by omega) ?_
      refine z_icmp_ge 197 (zdec DX10_fires 53 rfl) rfl (fun h97 => ?_) (fun h97 => ?_)
      ·
        refine z_weak (L' := [(4, .inl c)]) (by simp) ?_
        exact hx197 c M2 ⟨⟨hI.1.1, (by split <;> omega), hI.2.2.2.2.1, (by first | exact (hI.2.2.2.1 (by omega)).elim (fun e => Or.inl (by split <;> omega)) Or.inr | exact Or.inl (by split <;> omega))⟩, hI.2.2.2.2.2⟩
      ·
        refine z_iload_n 2 (zdec DX10_fires 54 rfl) rfl rfl ?_
        refine z_aload_n 0 (zdec DX10_fires 55 rfl) rfl rfl (by decide) ?_
        refine z_getr (rw1 := -66) (ki := 41) (r' := 81) 56 10 (zdec DX10_fires 56 rfl) rfl rfl shp56 rfl (by decide) rfl rfl fl_SixWallsModel_83 (zPa (by rw [hI.2.2.2.2.2]; exact hoc.P (by decide) hP) 81 rfl) ?_
        refine z_iload_n 1 (zdec DX10_fires 57 rfl) rfl rfl ?_
        refine z_iald 81 (zdec DX10_fires 58 rfl) rfl shp81 ⟨by omega, by omega⟩ ?_
        rw [r81]
        refine z_iconst 1 (zdec DX10_fires 59 rfl) (by decide) ?_
        refine z_isub (zdec DX10_fires 60 rfl) (by unfold z32; omega) ?_
        refine z_iload 4 (zdec DX10_fires 61 rfl) rfl ?_
        refine z_isub (zdec DX10_fires 62 rfl) (by unfold z32; omega) ?_
        refine z_icmp_gt 156 (zdec DX10_fires 63 rfl) rfl (fun h112 => ?_) (fun h112 => ?_)
        ·
          refine z_iconst 0 (zdec DX10_fires 87 rfl) (by decide) ?_
          refine z_istore (L' := [(0, .inr (.inr 56)), (1, .inl s), (2, .inl i), (3, .inl h), (4, .inl c), (5, .inl 0)]) (zdec DX10_fires 88 rfl) rfl (by decide) ?_
          refine z_iload 5 (zdec DX10_fires 89 rfl) rfl ?_
          refine z_if_eq 86 (zdec DX10_fires 90 rfl) rfl (fun _ => ?_) (fun h => absurd h (by decide))
          exact ih c 0 M2 (by omega) (by first | exact ⟨by omega, by omega, by omega, (fun _ => by first | exact Or.inl (by omega) | exact Or.inr (fun q => by unfold zfO at q; omega) | exact Or.inr (fun q => by unfold zfO at q; rw [← r82, show 60 * s + (i + c) = 60 * s + i + c by omega] at q; omega)), hI.2.2.2.2.1, hI.2.2.2.2.2⟩ | exact ⟨by omega, by omega, (fun _ => hI.2.2.1 (by omega)), (fun e => by omega), (fun k a b => by by_cases e : k = c; (subst e; exact ⟨⟨by omega, by omega⟩, by rw [← r82, show 60 * s + (i + k) = 60 * s + i + k by omega]; exact q149⟩); exact hI.2.2.2.2.1 k a (by omega)), (by unfold zfM; rw [zfo_s _ _ hI.1.1]; have e := hI.2.2.2.2.2; unfold zfM at e; rw [← e, ← r82, zw_id (by unfold z32; omega)])⟩)
        ·
          refine z_iload_n 3 (zdec DX10_fires 64 rfl) rfl rfl ?_
          refine z_bipush 100 (zdec DX10_fires 65 rfl) (by decide) ?_
          refine z_idivp (zdec DX10_fires 66 rfl) (by omega) (by omega) ?_
          refine z_iload 4 (zdec DX10_fires 67 rfl) rfl ?_
          refine z_iadd (zdec DX10_fires 68 rfl) (by unfold z32; omega) ?_
          refine z_invs mX10_isHouse [.inl ((h / 100) + c)] (zdec DX10_fires 69 rfl) (Or.inl ml_SixWallsModel_118) okX10_isHouse rfl rfl (Nat.le_of_ble_eq_true rfl) (Nat.le_of_ble_eq_true rfl) (b' := (0, 0)) ⟨Nat.le_refl 0, Nat.le_refl 0⟩ (Nat.le_of_ble_eq_true rfl) (cX10_isHouse ((h / 100) + c)) (fun rv9 S9 M122 h9 => ?_)
          obtain ⟨rfl, rfl, rfl⟩ := h9
          change zW _ _ _ _ _ 125 [(0, .inr (.inr 56)), (1, .inl s), (2, .inl i), (3, .inl h), (4, .inl c), (5, .inl g)] [.inl (zb (0 ≤ ((h / 100) + c) ∧ ((h / 100) + c) < 16))] M2
          refine z_if_eq 156 (zdec DX10_fires 70 rfl) rfl (fun h125 => ?_) (fun h125 => ?_)
          ·
            have q125 := zb_eq0.mp h125
            refine z_iconst 0 (zdec DX10_fires 87 rfl) (by decide) ?_
            refine z_istore (L' := [(0, .inr (.inr 56)), (1, .inl s), (2, .inl i), (3, .inl h), (4, .inl c), (5, .inl 0)]) (zdec DX10_fires 88 rfl) rfl (by decide) ?_
            refine z_iload 5 (zdec DX10_fires 89 rfl) rfl ?_
            refine z_if_eq 86 (zdec DX10_fires 90 rfl) rfl (fun _ => ?_) (fun h => absurd h (by decide))
            exact ih c 0 M2 (by omega) (by first | exact ⟨by omega, by omega, by omega, (fun _ => by first | exact Or.inl (by omega) | exact Or.inr (fun q => by unfold zfO at q; omega) | exact Or.inr (fun q => by unfold zfO at q; rw [← r82, show 60 * s + (i + c) = 60 * s + i + c by omega] at q; omega)), hI.2.2.2.2.1, hI.2.2.2.2.2⟩ | exact ⟨by omega, by omega, (fun _ => hI.2.2.1 (by omega)), (fun e => by omega), (fun k a b => by by_cases e : k = c; (subst e; exact ⟨⟨by omega, by omega⟩, by rw [← r82, show 60 * s + (i + k) = 60 * s + i + k by omega]; exact q149⟩); exact hI.2.2.2.2.1 k a (by omega)), (by unfold zfM; rw [zfo_s _ _ hI.1.1]; have e := hI.2.2.2.2.2; unfold zfM at e; rw [← e, ← r82, zw_id (by unfold z32; omega)])⟩)
          ·
            have q125 := zb_ne0.mp h125
            refine z_aload_n 0 (zdec DX10_fires 71 rfl) rfl rfl (by decide) ?_
            refine z_getr (rw1 := -66) (ki := 42) (r' := 82) 56 10 (zdec DX10_fires 72 rfl) rfl rfl shp56 rfl (by decide) rfl rfl fl_SixWallsModel_86 (zPa (by rw [hI.2.2.2.2.2]; exact hoc.P (by decide) hP) 82 rfl) ?_
            refine z_bipush 60 (zdec DX10_fires 73 rfl) (by decide) ?_
            refine z_iload_n 1 (zdec DX10_fires 74 rfl) rfl rfl ?_
            refine z_imul (zdec DX10_fires 75 rfl) (by unfold z32; omega) ?_
            refine z_iload_n 2 (zdec DX10_fires 76 rfl) rfl rfl ?_
            refine z_iadd (zdec DX10_fires 77 rfl) (by unfold z32; omega) ?_
            refine z_iload 4 (zdec DX10_fires 78 rfl) rfl ?_
            refine z_iadd (zdec DX10_fires 79 rfl) (by unfold z32; omega) ?_
            refine z_lald 82 (zdec DX10_fires 80 rfl) rfl shp82 ⟨by omega, by omega⟩ ?_
            refine z_lconst 0 (zdec DX10_fires 81 rfl) rfl ?_
            refine z_ldc2 9 (zdec DX10_fires 82 rfl) kl_SixWallsModel_129 rfl ⟨by decide, by decide⟩ ?_
            refine z_invs mX10_within [.inr (.inl (M2 82 (((60 * s) + i) + c))), .inr (.inl 0), .inr (.inl 9)] (zdec DX10_fires 83 rfl) (Or.inl ml_SixWallsModel_112) okX10_within rfl rfl (Nat.le_of_ble_eq_true rfl) (Nat.le_of_ble_eq_true rfl) (b' := (0, 0)) ⟨Nat.le_refl 0, Nat.le_refl 0⟩ (Nat.le_of_ble_eq_true rfl) (cX10_within (M2 82 (((60 * s) + i) + c)) 0 9) (fun rv9 S9 M146 h9 => ?_)
            obtain ⟨rfl, rfl, rfl⟩ := h9
            change zW _ _ _ _ _ 149 [(0, .inr (.inr 56)), (1, .inl s), (2, .inl i), (3, .inl h), (4, .inl c), (5, .inl g)] [.inl (zb (0 ≤ (M2 82 (((60 * s) + i) + c)) ∧ (M2 82 (((60 * s) + i) + c)) ≤ 9))] M2
            refine z_if_eq 156 (zdec DX10_fires 84 rfl) rfl (fun h149 => ?_) (fun h149 => ?_)
            ·
              have q149 := zb_eq0.mp h149
              refine z_iconst 0 (zdec DX10_fires 87 rfl) (by decide) ?_
              refine z_istore (L' := [(0, .inr (.inr 56)), (1, .inl s), (2, .inl i), (3, .inl h), (4, .inl c), (5, .inl 0)]) (zdec DX10_fires 88 rfl) rfl (by decide) ?_
              refine z_iload 5 (zdec DX10_fires 89 rfl) rfl ?_
              refine z_if_eq 86 (zdec DX10_fires 90 rfl) rfl (fun _ => ?_) (fun h => absurd h (by decide))
              exact ih c 0 M2 (by omega) (by first | exact ⟨by omega, by omega, by omega, (fun _ => by first | exact Or.inl (by omega) | exact Or.inr (fun q => by unfold zfO at q; omega) | exact Or.inr (fun q => by unfold zfO at q; rw [← r82, show 60 * s + (i + c) = 60 * s + i + c by omega] at q; omega)), hI.2.2.2.2.1, hI.2.2.2.2.2⟩ | exact ⟨by omega, by omega, (fun _ => hI.2.2.1 (by omega)), (fun e => by omega), (fun k a b => by by_cases e : k = c; (subst e; exact ⟨⟨by omega, by omega⟩, by rw [← r82, show 60 * s + (i + k) = 60 * s + i + k by omega]; exact q149⟩); exact hI.2.2.2.2.1 k a (by omega)), (by unfold zfM; rw [zfo_s _ _ hI.1.1]; have e := hI.2.2.2.2.2; unfold zfM at e; rw [← e, ← r82, zw_id (by unfold z32; omega)])⟩)
            ·
              have q149 := zb_ne0.mp h149
              refine z_iconst 1 (zdec DX10_fires 85 rfl) (by decide) ?_
              refine z_goto 157 (zdec DX10_fires 86 rfl) rfl ?_
              refine z_istore (L' := [(0, .inr (.inr 56)), (1, .inl s), (2, .inl i), (3, .inl h), (4, .inl c), (5, .inl 1)]) (zdec DX10_fires 88 rfl) rfl (by decide) ?_
              refine z_iload 5 (zdec DX10_fires 89 rfl) rfl ?_
              refine z_if_eq 86 (zdec DX10_fires 90 rfl) rfl (fun h => absurd h (by decide)) (fun _ => ?_)
              refine z_aload_n 0 (zdec DX10_fires 91 rfl) rfl rfl (by decide) ?_
              refine z_getr (rw1 := -66) (ki := 0) (r' := 57) 56 10 (zdec DX10_fires 92 rfl) rfl rfl shp56 rfl (by decide) rfl rfl fl_SixWallsModel_9 (zPa (by rw [hI.2.2.2.2.2]; exact hoc.P (by decide) hP) 57 rfl) ?_
              refine z_iload_n 3 (zdec DX10_fires 93 rfl) rfl rfl ?_
              refine z_bipush 100 (zdec DX10_fires 94 rfl) (by decide) ?_
              refine z_idivp (zdec DX10_fires 95 rfl) (by omega) (by omega) ?_
              refine z_iload 4 (zdec DX10_fires 96 rfl) rfl ?_
              refine z_iadd (zdec DX10_fires 97 rfl) (by unfold z32; omega) ?_
              refine z_aload_n 0 (zdec DX10_fires 98 rfl) rfl rfl (by decide) ?_
              refine z_getr (rw1 := -66) (ki := 42) (r' := 82) 56 10 (zdec DX10_fires 99 rfl) rfl rfl shp56 rfl (by decide) rfl rfl fl_SixWallsModel_86 (zPa (by rw [hI.2.2.2.2.2]; exact hoc.P (by decide) hP) 82 rfl) ?_
              refine z_bipush 60 (zdec DX10_fires 100 rfl) (by decide) ?_
              refine z_iload_n 1 (zdec DX10_fires 101 rfl) rfl rfl ?_
              refine z_imul (zdec DX10_fires 102 rfl) (by unfold z32; omega) ?_
              refine z_iload_n 2 (zdec DX10_fires 103 rfl) rfl rfl ?_
              refine z_iadd (zdec DX10_fires 104 rfl) (by unfold z32; omega) ?_
              refine z_iload 4 (zdec DX10_fires 105 rfl) rfl ?_
              refine z_iadd (zdec DX10_fires 106 rfl) (by unfold z32; omega) ?_
              refine z_lald 82 (zdec DX10_fires 107 rfl) rfl shp82 ⟨by omega, by omega⟩ ?_
              refine z_l2i (zdec DX10_fires 108 rfl) ?_
              refine z_iast 57 (zdec DX10_fires 109 rfl) rfl shp57 ⟨by omega, by omega⟩ ?_
              refine z_iinc (L' := [(0, .inr (.inr 56)), (1, .inl s), (2, .inl i), (3, .inl h), (4, .inl (c + 1)), (5, .inl 1)]) 4 (zdec DX10_fires 110 rfl) rfl (by unfold z32; omega) rfl (by decide) ?_
              refine z_goto 86 (zdec DX10_fires 111 rfl) rfl ?_
              exact ih (c + 1) 1 (zup M2 57 ((h / 100) + c) (zw (M2 82 (((60 * s) + i) + c)))) (by omega) (by first | exact ⟨by omega, by omega, by omega, (fun _ => by first | exact Or.inl (by omega) | exact Or.inr (fun q => by unfold zfO at q; omega) | exact Or.inr (fun q => by unfold zfO at q; rw [← r82, show 60 * s + (i + c) = 60 * s + i + c by omega] at q; omega)), hI.2.2.2.2.1, hI.2.2.2.2.2⟩ | exact ⟨by omega, by omega, (fun _ => hI.2.2.1 (by omega)), (fun e => by omega), (fun k a b => by by_cases e : k = c; (subst e; exact ⟨⟨by omega, by omega⟩, by rw [← r82, show 60 * s + (i + k) = 60 * s + i + k by omega]; exact q149⟩); exact hI.2.2.2.2.1 k a (by omega)), (by unfold zfM; rw [zfo_s _ _ hI.1.1]; have e := hI.2.2.2.2.2; unfold zfM at e; rw [← e, ← r82, zw_id (by unfold z32; omega)])⟩)
set_option maxHeartbeats 4000000 in
theorem cX10_fires {M : zMm} (hP : zP M) (hS : zSr M) (s i h : Int) : zW mX10_fires 4 (fun rv S' M' => S' = zS0 ∧ ((¬ ((0 ≤ s ∧ s < 6) ∧ 0 ≤ h ∧ h / 100 < 16 ∧ 1 ≤ h % 100 ∧ h % 100 ≤ 16) ∧ rv = some (.inl (-1)) ∧ M' = M) ∨ (((0 ≤ s ∧ s < 6) ∧ 0 ≤ h ∧ h / 100 < 16 ∧ 1 ≤ h % 100 ∧ h % 100 ≤ 16) ∧ ¬ (M 80 s < 0 ∨ M 80 s = 50) ∧ rv = some (.inl (-12)) ∧ M' = M) ∨ (((0 ≤ s ∧ s < 6) ∧ 0 ≤ h ∧ h / 100 < 16 ∧ 1 ≤ h % 100 ∧ h % 100 ≤ 16) ∧ (M 80 s < 0 ∨ M 80 s = 50) ∧ ∃ c : Int, (0 ≤ c ∧ c ≤ (if 16 - h / 100 < h % 100 then 16 - h / 100 else h % 100) ∧ (∀ k : Int, 0 ≤ k → k < c → zfO M s (i + k)) ∧ (c = (if 16 - h / 100 < h % 100 then 16 - h / 100 else h % 100) ∨ ¬ zfO M s (i + c))) ∧ rv = some (.inl c) ∧ M' = zfM M s i (h / 100) c))) (0, 0) zS0 0 (zargs 0 [.inr (.inr 56), .inl s, .inl i, .inl h]) [] M := by
  change zW _ _ _ _ _ 0 [(0, .inr (.inr 56)), (1, .inl s), (2, .inl i), (3, .inl h)] [] M
  refine z_iload_n 1 (zdec DX10_fires 0 rfl) rfl rfl ?_
  refine z_invs mX10_isShelf [.inl s] (zdec DX10_fires 1 rfl) (Or.inl ml_SixWallsModel_175) okX10_isShelf rfl rfl (Nat.le_of_ble_eq_true rfl) (Nat.le_of_ble_eq_true rfl) (b' := (0, 0)) ⟨Nat.le_refl 0, Nat.le_refl 0⟩ (Nat.le_of_ble_eq_true rfl) (cX10_isShelf s) (fun rv9 S9 M1 h9 => ?_)
  obtain ⟨rfl, rfl, rfl⟩ := h9
  change zW _ _ _ _ _ 4 [(0, .inr (.inr 56)), (1, .inl s), (2, .inl i), (3, .inl h)] [.inl (zb (0 ≤ s ∧ s < 6))] M
  refine z_if_eq 36 (zdec DX10_fires 2 rfl) rfl (fun h4 => ?_) (fun h4 => ?_)
  ·
    have q4 := zb_eq0.mp h4
    refine z_iconst (-1) (zdec DX10_fires 18 rfl) (by decide) ?_
    exact z_iret (zdec DX10_fires 19 rfl) rfl (⟨rfl, Or.inl ⟨by omega, rfl, rfl⟩⟩)
  ·
    have q4 := zb_ne0.mp h4
    have bs := hS s q4.1 q4.2
    refine z_iload_n 3 (zdec DX10_fires 3 rfl) rfl rfl ?_
    refine z_if_lt 36 (zdec DX10_fires 4 rfl) rfl (fun h8 => ?_) (fun h8 => ?_)
    ·
      refine z_iconst (-1) (zdec DX10_fires 18 rfl) (by decide) ?_
      exact z_iret (zdec DX10_fires 19 rfl) rfl (⟨rfl, Or.inl ⟨by omega, rfl, rfl⟩⟩)
    ·
      refine z_iload_n 3 (zdec DX10_fires 5 rfl) rfl rfl ?_
      refine z_bipush 100 (zdec DX10_fires 6 rfl) (by decide) ?_
      refine z_idivp (zdec DX10_fires 7 rfl) (by omega) (by omega) ?_
      refine z_invs mX10_isHouse [.inl (h / 100)] (zdec DX10_fires 8 rfl) (Or.inl ml_SixWallsModel_118) okX10_isHouse rfl rfl (Nat.le_of_ble_eq_true rfl) (Nat.le_of_ble_eq_true rfl) (b' := (0, 0)) ⟨Nat.le_refl 0, Nat.le_refl 0⟩ (Nat.le_of_ble_eq_true rfl) (cX10_isHouse (h / 100)) (fun rv9 S9 M15 h9 => ?_)
      obtain ⟨rfl, rfl, rfl⟩ := h9
      change zW _ _ _ _ _ 18 [(0, .inr (.inr 56)), (1, .inl s), (2, .inl i), (3, .inl h)] [.inl (zb (0 ≤ (h / 100) ∧ (h / 100) < 16))] M
      refine z_if_eq 36 (zdec DX10_fires 9 rfl) rfl (fun h18 => ?_) (fun h18 => ?_)
      ·
        have q18 := zb_eq0.mp h18
        refine z_iconst (-1) (zdec DX10_fires 18 rfl) (by decide) ?_
        exact z_iret (zdec DX10_fires 19 rfl) rfl (⟨rfl, Or.inl ⟨by omega, rfl, rfl⟩⟩)
      ·
        have q18 := zb_ne0.mp h18
        refine z_iload_n 3 (zdec DX10_fires 10 rfl) rfl rfl ?_
        refine z_bipush 100 (zdec DX10_fires 11 rfl) (by decide) ?_
        refine z_iremp (zdec DX10_fires 12 rfl) (by omega) (by omega) ?_
        refine z_i2l (zdec DX10_fires 13 rfl) ?_
        refine z_lconst 1 (zdec DX10_fires 14 rfl) rfl ?_
        refine z_ldc2 16 (zdec DX10_fires 15 rfl) kl_SixWallsModel_178 rfl ⟨by decide, by decide⟩ ?_
        refine z_invs mX10_within [.inr (.inl (h % 100)), .inr (.inl 1), .inr (.inl 16)] (zdec DX10_fires 16 rfl) (Or.inl ml_SixWallsModel_112) okX10_within rfl rfl (Nat.le_of_ble_eq_true rfl) (Nat.le_of_ble_eq_true rfl) (b' := (0, 0)) ⟨Nat.le_refl 0, Nat.le_refl 0⟩ (Nat.le_of_ble_eq_true rfl) (cX10_within (h % 100) 1 16) (fun rv9 S9 M30 h9 => ?_)
        obtain ⟨rfl, rfl, rfl⟩ := h9
        change zW _ _ _ _ _ 33 [(0, .inr (.inr 56)), (1, .inl s), (2, .inl i), (3, .inl h)] [.inl (zb (1 ≤ (h % 100) ∧ (h % 100) ≤ 16))] M
        refine z_if_ne 38 (zdec DX10_fires 17 rfl) rfl (fun h33 => ?_) (fun h33 => ?_)
        ·
          have q33 := zb_ne0.mp h33
          refine z_aload_n 0 (zdec DX10_fires 20 rfl) rfl rfl (by decide) ?_
          refine z_getr (rw1 := -66) (ki := 40) (r' := 80) 56 10 (zdec DX10_fires 21 rfl) rfl rfl shp56 rfl (by decide) rfl rfl fl_SixWallsModel_80 (zPa hP 80 rfl) ?_
          refine z_iload_n 1 (zdec DX10_fires 22 rfl) rfl rfl ?_
          refine z_iald 80 (zdec DX10_fires 23 rfl) rfl shp80 ⟨by omega, by omega⟩ ?_
          refine z_if_lt 61 (zdec DX10_fires 24 rfl) rfl (fun h44 => ?_) (fun h44 => ?_)
          ·
            refine z_iconst 0 (zdec DX10_fires 33 rfl) (by decide) ?_
            refine z_istore (L' := [(0, .inr (.inr 56)), (1, .inl s), (2, .inl i), (3, .inl h), (4, .inl 0)]) (zdec DX10_fires 34 rfl) rfl (by decide) ?_
            refine z_aload_n 0 (zdec DX10_fires 35 rfl) rfl rfl (by decide) ?_
            refine z_getr (rw1 := -66) (ki := 40) (r' := 80) 56 10 (zdec DX10_fires 36 rfl) rfl rfl shp56 rfl (by decide) rfl rfl fl_SixWallsModel_80 (zPa hP 80 rfl) ?_
            refine z_iload_n 1 (zdec DX10_fires 37 rfl) rfl rfl ?_
            refine z_iald 80 (zdec DX10_fires 38 rfl) rfl shp80 ⟨by omega, by omega⟩ ?_
            refine z_bipush 50 (zdec DX10_fires 39 rfl) (by decide) ?_
            refine z_icmp_ne 83 (zdec DX10_fires 40 rfl) rfl (fun h72 => ?_) (fun h72 => ?_)
            ·
              refine z_iconst 0 (zdec DX10_fires 45 rfl) (by decide) ?_
              refine z_istore (L' := [(0, .inr (.inr 56)), (1, .inl s), (2, .inl i), (3, .inl h), (4, .inl 0), (5, .inl 0)]) (zdec DX10_fires 46 rfl) rfl (by decide) ?_
              refine lp_X10_fires_86 hP hS s i h ⟨q4, by omega, by omega, q33⟩ (hx197 := fun c M2 hx => ?_) _ 0 0 M (Nat.lt_succ_self _) ⟨by omega, by omega, by omega, (by first | exact (fun e => absurd e (by decide)) | exact fun _ => Or.inr (fun q => by unfold zfO at q; omega)), (fun k a b => by omega), rfl⟩
              refine z_iload 0 (zdec DX10_fires 112 rfl) rfl ?_
              exact z_iret (zdec DX10_fires 113 rfl) rfl (⟨rfl, Or.inr (Or.inr ⟨⟨q4, by omega, by omega, q33⟩, by omega, c, hx.1, rfl, hx.2⟩)⟩)
            ·
              refine z_iload_n 2 (zdec DX10_fires 41 rfl) rfl rfl ?_
              refine z_if_lt 83 (zdec DX10_fires 42 rfl) rfl (fun h76 => ?_) (fun h76 => ?_)
              ·
                refine z_iconst 0 (zdec DX10_fires 45 rfl) (by decide) ?_
                refine z_istore (L' := [(0, .inr (.inr 56)), (1, .inl s), (2, .inl i), (3, .inl h), (4, .inl 0), (5, .inl 0)]) (zdec DX10_fires 46 rfl) rfl (by decide) ?_
                refine lp_X10_fires_86 hP hS s i h ⟨q4, by omega, by omega, q33⟩ (hx197 := fun c M2 hx => ?_) _ 0 0 M (Nat.lt_succ_self _) ⟨by omega, by omega, by omega, (by first | exact (fun e => absurd e (by decide)) | exact fun _ => Or.inr (fun q => by unfold zfO at q; omega)), (fun k a b => by omega), rfl⟩
                refine z_iload 0 (zdec DX10_fires 112 rfl) rfl ?_
                exact z_iret (zdec DX10_fires 113 rfl) rfl (⟨rfl, Or.inr (Or.inr ⟨⟨q4, by omega, by omega, q33⟩, by omega, c, hx.1, rfl, hx.2⟩)⟩)
              ·
                refine z_iconst 1 (zdec DX10_fires 43 rfl) (by decide) ?_
                refine z_goto 84 (zdec DX10_fires 44 rfl) rfl ?_
                refine z_istore (L' := [(0, .inr (.inr 56)), (1, .inl s), (2, .inl i), (3, .inl h), (4, .inl 0), (5, .inl 1)]) (zdec DX10_fires 46 rfl) rfl (by decide) ?_
                refine lp_X10_fires_86 hP hS s i h ⟨q4, by omega, by omega, q33⟩ (hx197 := fun c M2 hx => ?_) _ 0 1 M (Nat.lt_succ_self _) ⟨by omega, by omega, by omega, (by first | exact (fun e => absurd e (by decide)) | exact fun _ => Or.inr (fun q => by unfold zfO at q; omega)), (fun k a b => by omega), rfl⟩
                refine z_iload 0 (zdec DX10_fires 112 rfl) rfl ?_
                exact z_iret (zdec DX10_fires 113 rfl) rfl (⟨rfl, Or.inr (Or.inr ⟨⟨q4, by omega, by omega, q33⟩, by omega, c, hx.1, rfl, hx.2⟩)⟩)
          ·
            refine z_aload_n 0 (zdec DX10_fires 25 rfl) rfl rfl (by decide) ?_
            refine z_getr (rw1 := -66) (ki := 40) (r' := 80) 56 10 (zdec DX10_fires 26 rfl) rfl rfl shp56 rfl (by decide) rfl rfl fl_SixWallsModel_80 (zPa hP 80 rfl) ?_
            refine z_iload_n 1 (zdec DX10_fires 27 rfl) rfl rfl ?_
            refine z_iald 80 (zdec DX10_fires 28 rfl) rfl shp80 ⟨by omega, by omega⟩ ?_
            refine z_bipush 50 (zdec DX10_fires 29 rfl) (by decide) ?_
            refine z_icmp_eq 61 (zdec DX10_fires 30 rfl) rfl (fun h55 => ?_) (fun h55 => ?_)
            ·
              refine z_iconst 0 (zdec DX10_fires 33 rfl) (by decide) ?_
              refine z_istore (L' := [(0, .inr (.inr 56)), (1, .inl s), (2, .inl i), (3, .inl h), (4, .inl 0)]) (zdec DX10_fires 34 rfl) rfl (by decide) ?_
              refine z_aload_n 0 (zdec DX10_fires 35 rfl) rfl rfl (by decide) ?_
              refine z_getr (rw1 := -66) (ki := 40) (r' := 80) 56 10 (zdec DX10_fires 36 rfl) rfl rfl shp56 rfl (by decide) rfl rfl fl_SixWallsModel_80 (zPa hP 80 rfl) ?_
              refine z_iload_n 1 (zdec DX10_fires 37 rfl) rfl rfl ?_
              refine z_iald 80 (zdec DX10_fires 38 rfl) rfl shp80 ⟨by omega, by omega⟩ ?_
              refine z_bipush 50 (zdec DX10_fires 39 rfl) (by decide) ?_
              refine z_icmp_ne 83 (zdec DX10_fires 40 rfl) rfl (fun h72 => ?_) (fun h72 => ?_)
              ·
                refine z_iconst 0 (zdec DX10_fires 45 rfl) (by decide) ?_
                refine z_istore (L' := [(0, .inr (.inr 56)), (1, .inl s), (2, .inl i), (3, .inl h), (4, .inl 0), (5, .inl 0)]) (zdec DX10_fires 46 rfl) rfl (by decide) ?_
                refine lp_X10_fires_86 hP hS s i h ⟨q4, by omega, by omega, q33⟩ (hx197 := fun c M2 hx => ?_) _ 0 0 M (Nat.lt_succ_self _) ⟨by omega, by omega, by omega, (by first | exact (fun e => absurd e (by decide)) | exact fun _ => Or.inr (fun q => by unfold zfO at q; omega)), (fun k a b => by omega), rfl⟩
                refine z_iload 0 (zdec DX10_fires 112 rfl) rfl ?_
                exact z_iret (zdec DX10_fires 113 rfl) rfl (⟨rfl, Or.inr (Or.inr ⟨⟨q4, by omega, by omega, q33⟩, by omega, c, hx.1, rfl, hx.2⟩)⟩)
              ·
                refine z_iload_n 2 (zdec DX10_fires 41 rfl) rfl rfl ?_
                refine z_if_lt 83 (zdec DX10_fires 42 rfl) rfl (fun h76 => ?_) (fun h76 => ?_)
                ·
                  refine z_iconst 0 (zdec DX10_fires 45 rfl) (by decide) ?_
                  refine z_istore (L' := [(0, .inr (.inr 56)), (1, .inl s), (2, .inl i), (3, .inl h), (4, .inl 0), (5, .inl 0)]) (zdec DX10_fires 46 rfl) rfl (by decide) ?_
                  refine lp_X10_fires_86 hP hS s i h ⟨q4, by omega, by omega, q33⟩ (hx197 := fun c M2 hx => ?_) _ 0 0 M (Nat.lt_succ_self _) ⟨by omega, by omega, by omega, (by first | exact (fun e => absurd e (by decide)) | exact fun _ => Or.inr (fun q => by unfold zfO at q; omega)), (fun k a b => by omega), rfl⟩
                  refine z_iload 0 (zdec DX10_fires 112 rfl) rfl ?_
                  exact z_iret (zdec DX10_fires 113 rfl) rfl (⟨rfl, Or.inr (Or.inr ⟨⟨q4, by omega, by omega, q33⟩, by omega, c, hx.1, rfl, hx.2⟩)⟩)
                ·
                  refine z_iconst 1 (zdec DX10_fires 43 rfl) (by decide) ?_
                  refine z_goto 84 (zdec DX10_fires 44 rfl) rfl ?_
                  refine z_istore (L' := [(0, .inr (.inr 56)), (1, .inl s), (2, .inl i), (3, .inl h), (4, .inl 0), (5, .inl 1)]) (zdec DX10_fires 46 rfl) rfl (by decide) ?_
                  refine lp_X10_fires_86 hP hS s i h ⟨q4, by omega, by omega, q33⟩ (hx197 := fun c M2 hx => ?_) _ 0 1 M (Nat.lt_succ_self _) ⟨by omega, by omega, by omega, (by first | exact (fun e => absurd e (by decide)) | exact fun _ => Or.inr (fun q => by unfold zfO at q; omega)), (fun k a b => by omega), rfl⟩
                  refine z_iload 0 (zdec DX10_fires 112 rfl) rfl ?_
                  exact z_iret (zdec DX10_fires 113 rfl) rfl (⟨rfl, Or.inr (Or.inr ⟨⟨q4, by omega, by omega, q33⟩, by omega, c, hx.1, rfl, hx.2⟩)⟩)
            ·
              refine z_bipush (-12) (zdec DX10_fires 31 rfl) (by decide) ?_
              exact z_iret (zdec DX10_fires 32 rfl) rfl (⟨rfl, Or.inr (Or.inl ⟨⟨q4, by omega, by omega, q33⟩, by omega, rfl, rfl⟩)⟩)
        ·
          have q33 : ¬ (1 ≤ h % 100 ∧ h % 100 ≤ 16) := fun e => h33 (zb_ne0.mpr e)
          refine z_iconst (-1) (zdec DX10_fires 18 rfl) (by decide) ?_
          exact z_iret (zdec DX10_fires 19 rfl) rfl (⟨rfl, Or.inl ⟨by omega, rfl, rfl⟩⟩)
