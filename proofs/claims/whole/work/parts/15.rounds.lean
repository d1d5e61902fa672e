/-! contracts of Masonry: rounds; rounds, colours, paint of SixWalls -/
theorem zlow_ne : ∀ w : Nat, w < 33 → zlow w ≠ zhigh w := by decide +kernel
theorem zlow_neI {w : Int} (h : 0 ≤ w ∧ w < 33) : zlow w ≠ zhigh w := by
  obtain ⟨n, rfl⟩ := Int.eq_ofNat_of_zero_le h.1
  exact zlow_ne n (by omega)
def zagree (s : zMm) (w t : Int) : Int := if s 7 (zlow w) = 1 ∧ s 7 (zhigh w) = 1 then (s 10 (zlow w) + s 10 (zhigh w)) / 2 else if s 7 (zlow w) = 1 then s 10 (zlow w) else if s 7 (zhigh w) = 1 then s 10 (zhigh w) else t
/-- a wall's step in a round: 1, 0, -1 -/
def zstp (s : zMm) (T : Int → Int) (w : Int) : Int := if T w < zagree s w (T w) then (if zload T (zlow w) < s 1 13 ∧ zload T (zhigh w) < s 1 13 then 1 else 0) else if zagree s w (T w) < T w then -1 else 0
def zrd (s : zMm) (p : (Int → Int) × Int) (w : Int) : (Int → Int) × Int := (zpu p.1 w (p.1 w + zstp s p.1 w), if zstp s p.1 w = 0 then p.2 else 1)
def zround (s : zMm) (T : Int → Int) (w : Int) : (Int → Int) × Int := zfo (zrd s) (T, 0) w
def zTh9 (T : Int → Int) : Prop := ∀ w : Int, 0 ≤ w → w < 33 → 0 ≤ T w ∧ T w ≤ 9
theorem zagree_b {s : zMm} (h : zRg s) {w t : Int} (hw : 0 ≤ w ∧ w < 33) (ht : 0 ≤ t ∧ t ≤ 9) : 0 ≤ zagree s w t ∧ zagree s w t ≤ 9 := by
  have h1 := (h.1 (zlow w) (zlow_b w).1 (zlow_b w).2).2.2.2
  have h2 := (h.1 (zhigh w) (zhigh_b w).1 (zhigh_b w).2).2.2.2
  unfold zagree
  split
  · omega
  · split
    · omega
    · split <;> omega
theorem zstp_b {s : zMm} (h : zRg s) {T : Int → Int} (hT : zTh9 T) {w : Int} (hw : 0 ≤ w ∧ w < 33) : 0 ≤ T w + zstp s T w ∧ T w + zstp s T w ≤ 9 ∧ -1 ≤ zstp s T w ∧ zstp s T w ≤ 1 := by
  have h1 := hT w hw.1 hw.2
  have h2 := zagree_b h hw h1
  unfold zstp
  split
  · split <;> omega
  · split <;> omega
theorem zrd_9 {s : zMm} (h : zRg s) {p : (Int → Int) × Int} (hT : zTh9 p.1) {w : Int} (hw : 0 ≤ w ∧ w < 33) : zTh9 (zrd s p w).1 := by
  intro k h0 h1
  show 0 ≤ zpu p.1 w _ k ∧ zpu p.1 w _ k ≤ 9
  have hb := zstp_b h hT hw
  by_cases hk : k = w
  · subst hk
    rw [zpu_s]
    omega
  · rw [zpu_n hk]
    exact hT k h0 h1
/-- how often a wall stands among the walls of a house -/
def zcntw (h w : Int) : Int := zfo (fun a s => if zwat (h * 6 + s) = w then a + 1 else a) 0 (zsid h)
theorem zcntw_v : ∀ h : Nat, h < 16 → ∀ w : Nat, w < 33 → zcntw h w = if (h : Int) = zlow w ∨ (h : Int) = zhigh w then 1 else 0 := by decide +kernel
theorem zload_up {T : Int → Int} {w v h : Int} (hw : 0 ≤ w ∧ w < 33) (hh : 0 ≤ h ∧ h < 16) : zload (zpu T w v) h = zload T h + (if h = zlow w ∨ h = zhigh w then v - T w else 0) := by
  have key : ∀ n : Nat, zfold (fun (a : Int) (s : Int) => a + zpu T w v (zwat (h * 6 + s))) 0 n = zfold (fun (a : Int) (s : Int) => a + T (zwat (h * 6 + s))) 0 n + (v - T w) * zfold (fun (a : Int) (s : Int) => if zwat (h * 6 + s) = w then a + 1 else a) 0 n := by
    intro n
    induction n with
    | zero => simp [zfold]
    | succ n ih =>
      simp only [zfold]
      rw [ih]
      by_cases hk : zwat (h * 6 + (n : Int)) = w
      · rw [if_pos hk, hk, zpu_s, Int.mul_add]
        omega
      · rw [if_neg hk, zpu_n hk]
        omega
  have k2 := key (zsid h).toNat
  have k3 : zcntw h w = if h = zlow w ∨ h = zhigh w then 1 else 0 := by
    obtain ⟨a, rfl⟩ := Int.eq_ofNat_of_zero_le hh.1
    obtain ⟨c, rfl⟩ := Int.eq_ofNat_of_zero_le hw.1
    exact zcntw_v a (by omega) c (by omega)
  unfold zcntw zfo at k3
  unfold zload zfo
  rw [k2, k3]
  split
  · rw [Int.mul_one]
  · rw [Int.mul_zero]
theorem zload_c {r T : Int → Int} (h : ∀ w : Int, 0 ≤ w → w < 33 → r w = T w) (g : Int) : zload r g = zload T g := zfo_c fun a s _ _ => by rw [h _ (zwat_b _).1 (zwat_b _).2]
theorem zload_b {T : Int → Int} (hT : zTh9 T) (h : Int) : 0 ≤ zload T h ∧ zload T h ≤ 54 := by
  have key : ∀ n : Nat, 0 ≤ zfold (fun (a : Int) (s : Int) => a + T (zwat (h * 6 + s))) 0 n ∧ zfold (fun (a : Int) (s : Int) => a + T (zwat (h * 6 + s))) 0 n ≤ 9 * n := by
    intro n
    induction n with
    | zero => exact ⟨Int.le_refl _, Int.le_refl _⟩
    | succ n ih =>
      simp only [zfold]
      have := hT _ (zwat_b (h * 6 + (n : Int))).1 (zwat_b (h * 6 + (n : Int))).2
      omega
  have h1 := key (zsid h).toNat
  have h2 := zsid_b h
  unfold zload zfo
  omega
/-- the rounds: after n of them the thickness, and whether each of them changed something -/
def zrounds (s : zMm) : Nat → (Int → Int) × Int
  | 0 => (s 11, 1)
  | n + 1 => if (zrounds s n).2 = 0 then zrounds s n else zround s (zrounds s n).1 33
def zThin (s M : zMm) (T : Int → Int) : Prop := (∀ w : Int, 0 ≤ w → w < 33 → M 28 w = T w) ∧ (∀ h : Int, 0 ≤ h → h < 16 → M 29 h = zload T h) ∧ ∀ c : Int, c ≠ 28 → c ≠ 29 → M c = s c
set_option maxHeartbeats 4000000 in
theorem cX5_agreed {M : zMm} (hP : zP M) (hG : zG M) (hR : zRg M) (w t : Int) (hw : 0 ≤ w ∧ w < 33) : zW mX5_agreed 1 (fun rv S' M' => S' = zS0 ∧ M = M' ∧ rv = some (.inl (zagree M w t))) (0, 0) zS0 0 (zargs 0 [.inr (.inr 27), .inl w, .inl t]) [] M := by
  change zW _ _ _ _ _ 0 [(0, .inr (.inr 27)), (1, .inl w), (2, .inl t)] [] M
  have hl := zlow_b w
  have hh := zhigh_b w
  have hwa := (hR.1 (zlow w) hl.1 hl.2).2.2.2
  have hwb := (hR.1 (zhigh w) hh.1 hh.2).2.2.2
  refine z_aload_n 0 (zdec DX5_agreed 0 rfl) rfl rfl (by decide) ?_
  refine z_getr (rw1 := -37) (ki := 0) (r' := 1) 27 5 (zdec DX5_agreed 1 rfl) rfl rfl shp27 rfl (by decide) rfl rfl fl_SixWalls_Masonry_21 (zPa hP 30 rfl) ?_
  refine z_getr (rw1 := -11) (ki := 0) (r' := 2) 1 1 (zdec DX5_agreed 2 rfl) rfl rfl shp1 rfl (by decide) rfl rfl fl_SixWalls_Masonry_25 (zPa hP 9 rfl) ?_
  refine z_iload_n 1 (zdec DX5_agreed 3 rfl) rfl rfl ?_
  refine z_iald 2 (zdec DX5_agreed 4 rfl) rfl shp2 ⟨by omega, by omega⟩ ?_
  rw [hG.low hw.1 hw.2]
  refine z_istore_n (L' := [(0, .inr (.inr 27)), (1, .inl w), (2, .inl t), (3, .inl (zlow w))]) (zdec DX5_agreed 5 rfl) rfl rfl (by decide) ?_
  refine z_aload_n 0 (zdec DX5_agreed 6 rfl) rfl rfl (by decide) ?_
  refine z_getr (rw1 := -37) (ki := 0) (r' := 1) 27 5 (zdec DX5_agreed 7 rfl) rfl rfl shp27 rfl (by decide) rfl rfl fl_SixWalls_Masonry_21 (zPa hP 30 rfl) ?_
  refine z_getr (rw1 := -11) (ki := 1) (r' := 3) 1 1 (zdec DX5_agreed 8 rfl) rfl rfl shp1 rfl (by decide) rfl rfl fl_SixWalls_Masonry_30 (zPa hP 10 rfl) ?_
  refine z_iload_n 1 (zdec DX5_agreed 9 rfl) rfl rfl ?_
  refine z_iald 3 (zdec DX5_agreed 10 rfl) rfl shp3 ⟨by omega, by omega⟩ ?_
  rw [hG.high hw.1 hw.2]
  refine z_istore (L' := [(0, .inr (.inr 27)), (1, .inl w), (2, .inl t), (3, .inl (zlow w)), (4, .inl (zhigh w))]) (zdec DX5_agreed 11 rfl) rfl (by decide) ?_
  refine z_aload_n 0 (zdec DX5_agreed 12 rfl) rfl rfl (by decide) ?_
  refine z_getr (rw1 := -37) (ki := 0) (r' := 1) 27 5 (zdec DX5_agreed 13 rfl) rfl rfl shp27 rfl (by decide) rfl rfl fl_SixWalls_Masonry_21 (zPa hP 30 rfl) ?_
  refine z_getr (rw1 := -11) (ki := 5) (r' := 7) 1 1 (zdec DX5_agreed 14 rfl) rfl rfl shp1 rfl (by decide) rfl rfl fl_SixWalls_Masonry_33 (zPa hP 14 rfl) ?_
  refine z_iload_n 3 (zdec DX5_agreed 15 rfl) rfl rfl ?_
  refine z_iald 7 (zdec DX5_agreed 16 rfl) rfl shp7 ⟨by omega, by omega⟩ ?_
  refine z_iconst 1 (zdec DX5_agreed 17 rfl) (by decide) ?_
  refine z_icmp_ne 71 (zdec DX5_agreed 18 rfl) rfl (fun h31 => ?_) (fun h31 => ?_)
  ·
    refine z_aload_n 0 (zdec DX5_agreed 40 rfl) rfl rfl (by decide) ?_
    refine z_getr (rw1 := -37) (ki := 0) (r' := 1) 27 5 (zdec DX5_agreed 41 rfl) rfl rfl shp27 rfl (by decide) rfl rfl fl_SixWalls_Masonry_21 (zPa hP 30 rfl) ?_
    refine z_getr (rw1 := -11) (ki := 5) (r' := 7) 1 1 (zdec DX5_agreed 42 rfl) rfl rfl shp1 rfl (by decide) rfl rfl fl_SixWalls_Masonry_33 (zPa hP 14 rfl) ?_
    refine z_iload_n 3 (zdec DX5_agreed 43 rfl) rfl rfl ?_
    refine z_iald 7 (zdec DX5_agreed 44 rfl) rfl shp7 ⟨by omega, by omega⟩ ?_
    refine z_iconst 1 (zdec DX5_agreed 45 rfl) (by decide) ?_
    refine z_icmp_ne 94 (zdec DX5_agreed 46 rfl) rfl (fun h81 => ?_) (fun h81 => ?_)
    ·
      refine z_aload_n 0 (zdec DX5_agreed 53 rfl) rfl rfl (by decide) ?_
      refine z_getr (rw1 := -37) (ki := 0) (r' := 1) 27 5 (zdec DX5_agreed 54 rfl) rfl rfl shp27 rfl (by decide) rfl rfl fl_SixWalls_Masonry_21 (zPa hP 30 rfl) ?_
      refine z_getr (rw1 := -11) (ki := 5) (r' := 7) 1 1 (zdec DX5_agreed 55 rfl) rfl rfl shp1 rfl (by decide) rfl rfl fl_SixWalls_Masonry_33 (zPa hP 14 rfl) ?_
      refine z_iload 4 (zdec DX5_agreed 56 rfl) rfl ?_
      refine z_iald 7 (zdec DX5_agreed 57 rfl) rfl shp7 ⟨by omega, by omega⟩ ?_
      refine z_iconst 1 (zdec DX5_agreed 58 rfl) (by decide) ?_
      refine z_icmp_ne 121 (zdec DX5_agreed 59 rfl) rfl (fun h105 => ?_) (fun h105 => ?_)
      ·
        refine z_iload_n 2 (zdec DX5_agreed 66 rfl) rfl rfl ?_
        exact z_iret (zdec DX5_agreed 67 rfl) rfl (⟨rfl, rfl, zri (by first | omega | (unfold zagree; (repeat (first | rw [if_pos (by omega)] | rw [if_neg (by omega)]))))⟩)
      ·
        refine z_aload_n 0 (zdec DX5_agreed 60 rfl) rfl rfl (by decide) ?_
        refine z_getr (rw1 := -37) (ki := 0) (r' := 1) 27 5 (zdec DX5_agreed 61 rfl) rfl rfl shp27 rfl (by decide) rfl rfl fl_SixWalls_Masonry_21 (zPa hP 30 rfl) ?_
        refine z_getr (rw1 := -11) (ki := 8) (r' := 10) 1 1 (zdec DX5_agreed 62 rfl) rfl rfl shp1 rfl (by decide) rfl rfl fl_SixWalls_Masonry_36 (zPa hP 17 rfl) ?_
        refine z_iload 4 (zdec DX5_agreed 63 rfl) rfl ?_
        refine z_iald 10 (zdec DX5_agreed 64 rfl) rfl shp10 ⟨by omega, by omega⟩ ?_
        refine z_goto 122 (zdec DX5_agreed 65 rfl) rfl ?_
        exact z_iret (zdec DX5_agreed 67 rfl) rfl (⟨rfl, rfl, zri (by first | omega | (unfold zagree; (repeat (first | rw [if_pos (by omega)] | rw [if_neg (by omega)]))))⟩)
    ·
      refine z_aload_n 0 (zdec DX5_agreed 47 rfl) rfl rfl (by decide) ?_
      refine z_getr (rw1 := -37) (ki := 0) (r' := 1) 27 5 (zdec DX5_agreed 48 rfl) rfl rfl shp27 rfl (by decide) rfl rfl fl_SixWalls_Masonry_21 (zPa hP 30 rfl) ?_
      refine z_getr (rw1 := -11) (ki := 8) (r' := 10) 1 1 (zdec DX5_agreed 49 rfl) rfl rfl shp1 rfl (by decide) rfl rfl fl_SixWalls_Masonry_36 (zPa hP 17 rfl) ?_
      refine z_iload_n 3 (zdec DX5_agreed 50 rfl) rfl rfl ?_
      refine z_iald 10 (zdec DX5_agreed 51 rfl) rfl shp10 ⟨by omega, by omega⟩ ?_
      exact z_iret (zdec DX5_agreed 52 rfl) rfl (⟨rfl, rfl, zri (by first | omega | (unfold zagree; (repeat (first | rw [if_pos (by omega)] | rw [if_neg (by omega)]))))⟩)
  ·
    refine z_aload_n 0 (zdec DX5_agreed 19 rfl) rfl rfl (by decide) ?_
    refine z_getr (rw1 := -37) (ki := 0) (r' := 1) 27 5 (zdec DX5_agreed 20 rfl) rfl rfl shp27 rfl (by decide) rfl rfl fl_SixWalls_Masonry_21 (zPa hP 30 rfl) ?_
    refine z_getr (rw1 := -11) (ki := 5) (r' := 7) 1 1 (zdec DX5_agreed 21 rfl) rfl rfl shp1 rfl (by decide) rfl rfl fl_SixWalls_Masonry_33 (zPa hP 14 rfl) ?_
    refine z_iload 4 (zdec DX5_agreed 22 rfl) rfl ?_
    refine z_iald 7 (zdec DX5_agreed 23 rfl) rfl shp7 ⟨by omega, by omega⟩ ?_
    refine z_iconst 1 (zdec DX5_agreed 24 rfl) (by decide) ?_
    refine z_icmp_ne 71 (zdec DX5_agreed 25 rfl) rfl (fun h45 => ?_) (fun h45 => ?_)
    ·
      refine z_aload_n 0 (zdec DX5_agreed 40 rfl) rfl rfl (by decide) ?_
      refine z_getr (rw1 := -37) (ki := 0) (r' := 1) 27 5 (zdec DX5_agreed 41 rfl) rfl rfl shp27 rfl (by decide) rfl rfl fl_SixWalls_Masonry_21 (zPa hP 30 rfl) ?_
      refine z_getr (rw1 := -11) (ki := 5) (r' := 7) 1 1 (zdec DX5_agreed 42 rfl) rfl rfl shp1 rfl (by decide) rfl rfl fl_SixWalls_Masonry_33 (zPa hP 14 rfl) ?_
      refine z_iload_n 3 (zdec DX5_agreed 43 rfl) rfl rfl ?_
      refine z_iald 7 (zdec DX5_agreed 44 rfl) rfl shp7 ⟨by omega, by omega⟩ ?_
      refine z_iconst 1 (zdec DX5_agreed 45 rfl) (by decide) ?_
      refine z_icmp_ne 94 (zdec DX5_agreed 46 rfl) rfl (fun h81 => ?_) (fun h81 => ?_)
      ·
        refine z_aload_n 0 (zdec DX5_agreed 53 rfl) rfl rfl (by decide) ?_
        refine z_getr (rw1 := -37) (ki := 0) (r' := 1) 27 5 (zdec DX5_agreed 54 rfl) rfl rfl shp27 rfl (by decide) rfl rfl fl_SixWalls_Masonry_21 (zPa hP 30 rfl) ?_
        refine z_getr (rw1 := -11) (ki := 5) (r' := 7) 1 1 (zdec DX5_agreed 55 rfl) rfl rfl shp1 rfl (by decide) rfl rfl fl_SixWalls_Masonry_33 (zPa hP 14 rfl) ?_
        refine z_iload 4 (zdec DX5_agreed 56 rfl) rfl ?_
        refine z_iald 7 (zdec DX5_agreed 57 rfl) rfl shp7 ⟨by omega, by omega⟩ ?_
        refine z_iconst 1 (zdec DX5_agreed 58 rfl) (by decide) ?_
        refine z_icmp_ne 121 (zdec DX5_agreed 59 rfl) rfl (fun h105 => ?_) (fun h105 => ?_)
        ·
          refine z_iload_n 2 (zdec DX5_agreed 66 rfl) rfl rfl ?_
          exact z_iret (zdec DX5_agreed 67 rfl) rfl (⟨rfl, rfl, zri (by first | omega | (unfold zagree; (repeat (first | rw [if_pos (by omega)] | rw [if_neg (by omega)]))))⟩)
        ·
          refine z_aload_n 0 (zdec DX5_agreed 60 rfl) rfl rfl (by decide) ?_
          refine z_getr (rw1 := -37) (ki := 0) (r' := 1) 27 5 (zdec DX5_agreed 61 rfl) rfl rfl shp27 rfl (by decide) rfl rfl fl_SixWalls_Masonry_21 (zPa hP 30 rfl) ?_
          refine z_getr (rw1 := -11) (ki := 8) (r' := 10) 1 1 (zdec DX5_agreed 62 rfl) rfl rfl shp1 rfl (by decide) rfl rfl fl_SixWalls_Masonry_36 (zPa hP 17 rfl) ?_
          refine z_iload 4 (zdec DX5_agreed 63 rfl) rfl ?_
          refine z_iald 10 (zdec DX5_agreed 64 rfl) rfl shp10 ⟨by omega, by omega⟩ ?_
          refine z_goto 122 (zdec DX5_agreed 65 rfl) rfl ?_
          exact z_iret (zdec DX5_agreed 67 rfl) rfl (⟨rfl, rfl, zri (by first | omega | (unfold zagree; (repeat (first | rw [if_pos (by omega)] | rw [if_neg (by omega)]))))⟩)
      ·
        refine z_aload_n 0 (zdec DX5_agreed 47 rfl) rfl rfl (by decide) ?_
        refine z_getr (rw1 := -37) (ki := 0) (r' := 1) 27 5 (zdec DX5_agreed 48 rfl) rfl rfl shp27 rfl (by decide) rfl rfl fl_SixWalls_Masonry_21 (zPa hP 30 rfl) ?_
        refine z_getr (rw1 := -11) (ki := 8) (r' := 10) 1 1 (zdec DX5_agreed 49 rfl) rfl rfl shp1 rfl (by decide) rfl rfl fl_SixWalls_Masonry_36 (zPa hP 17 rfl) ?_
        refine z_iload_n 3 (zdec DX5_agreed 50 rfl) rfl rfl ?_
        refine z_iald 10 (zdec DX5_agreed 51 rfl) rfl shp10 ⟨by omega, by omega⟩ ?_
        exact z_iret (zdec DX5_agreed 52 rfl) rfl (⟨rfl, rfl, zri (by first | omega | (unfold zagree; (repeat (first | rw [if_pos (by omega)] | rw [if_neg (by omega)]))))⟩)
    ·
      refine z_aload_n 0 (zdec DX5_agreed 26 rfl) rfl rfl (by decide) ?_
      refine z_getr (rw1 := -37) (ki := 0) (r' := 1) 27 5 (zdec DX5_agreed 27 rfl) rfl rfl shp27 rfl (by decide) rfl rfl fl_SixWalls_Masonry_21 (zPa hP 30 rfl) ?_
      refine z_getr (rw1 := -11) (ki := 8) (r' := 10) 1 1 (zdec DX5_agreed 28 rfl) rfl rfl shp1 rfl (by decide) rfl rfl fl_SixWalls_Masonry_36 (zPa hP 17 rfl) ?_
      refine z_iload_n 3 (zdec DX5_agreed 29 rfl) rfl rfl ?_
      refine z_iald 10 (zdec DX5_agreed 30 rfl) rfl shp10 ⟨by omega, by omega⟩ ?_
      refine z_aload_n 0 (zdec DX5_agreed 31 rfl) rfl rfl (by decide) ?_
      refine z_getr (rw1 := -37) (ki := 0) (r' := 1) 27 5 (zdec DX5_agreed 32 rfl) rfl rfl shp27 rfl (by decide) rfl rfl fl_SixWalls_Masonry_21 (zPa hP 30 rfl) ?_
      refine z_getr (rw1 := -11) (ki := 8) (r' := 10) 1 1 (zdec DX5_agreed 33 rfl) rfl rfl shp1 rfl (by decide) rfl rfl fl_SixWalls_Masonry_36 (zPa hP 17 rfl) ?_
      refine z_iload 4 (zdec DX5_agreed 34 rfl) rfl ?_
      refine z_iald 10 (zdec DX5_agreed 35 rfl) rfl shp10 ⟨by omega, by omega⟩ ?_
      refine z_iadd (zdec DX5_agreed 36 rfl) (by unfold z32; omega) ?_
      refine z_iconst 2 (zdec DX5_agreed 37 rfl) (by decide) ?_
      refine z_idivp (zdec DX5_agreed 38 rfl) (by omega) (by omega) ?_
      exact z_iret (zdec DX5_agreed 39 rfl) rfl (⟨rfl, rfl, zri (by first | omega | (unfold zagree; (repeat (first | rw [if_pos (by omega)] | rw [if_neg (by omega)]))))⟩)
theorem zgr {s M2 : zMm} {T : Int → Int} {w ch st ch2 : Int} (hR : zRg s) (hw : 0 ≤ w ∧ w < 33) (h3 : zTh9 (zround s T w).1) (h4 : ch = (zround s T w).2) (h5 : zThin s M2 (zround s T w).1) (hst : st = zstp s (zround s T w).1 w) (hch : ch2 = if st = 0 then ch else 1) : 0 ≤ w + 1 ∧ w + 1 ≤ 33 ∧ zTh9 (zround s T (w + 1)).1 ∧ ch2 = (zround s T (w + 1)).2 ∧ zThin s (zup (zup (zup M2 28 w (M2 28 w + st)) 29 (zlow w) (M2 29 (zlow w) + st)) 29 (zhigh w) (M2 29 (zhigh w) + st)) (zround s T (w + 1)).1 := by
  have e : zround s T (w + 1) = zrd s (zround s T w) w := zfo_s _ _ hw.1
  have hne := zlow_neI hw
  rw [e]
  generalize hp : zround s T w = p at h3 h4 h5 hst ⊢
  refine ⟨by omega, by omega, zrd_9 hR h3 hw, ?_, fun k h0 h1 => ?_, fun h h0 h1 => ?_, fun c h0 h1 => ?_⟩
  · show ch2 = if zstp s p.1 w = 0 then p.2 else 1
    rw [hch, hst, h4]
  · show _ = zpu p.1 w (p.1 w + zstp s p.1 w) k
    rw [zup_row (c' := 28) (by decide), zup_row (c' := 28) (by decide)]
    by_cases hk : k = w
    · subst hk
      rw [zup_self, zpu_s, h5.1 k hw.1 hw.2, hst]
    · rw [zup_ne hk, zpu_n hk]
      exact h5.1 k h0 h1
  · show _ = zload (zpu p.1 w (p.1 w + zstp s p.1 w)) h
    rw [zload_up hw ⟨h0, h1⟩]
    have eh := h5.2.1 h h0 h1
    by_cases k1 : h = zhigh w
    · subst k1
      rw [zup_self, if_pos (Or.inr rfl), eh, hst]
      omega
    · rw [zup_ne k1]
      by_cases k2 : h = zlow w
      · subst k2
        rw [zup_self, if_pos (Or.inl rfl), eh, hst]
        omega
      · rw [zup_ne k2, zup_row (c' := 29) (by decide), if_neg (by omega), eh]
        omega
  · rw [zup_row (c' := c) h1, zup_row (c' := c) h1, zup_row (c' := c) h0]
    exact h5.2.2 c h0 h1
theorem zstp_lo {s : zMm} {T : Int → Int} {w x : Int} (hx : x = if zagree s w (T w) < T w then -1 else if zagree s w (T w) = T w then 0 else 1) (h : x ≤ 0) : x = zstp s T w := by
  unfold zstp
  split at hx
  · rw [if_neg (by omega), if_pos (by omega)]; exact hx
  · split at hx
    · rw [if_neg (by omega), if_neg (by omega)]; exact hx
    · omega
theorem zstp_hi {s : zMm} {T : Int → Int} {w x : Int} (hx : x = if zagree s w (T w) < T w then -1 else if zagree s w (T w) = T w then 0 else 1) (h : ¬ x ≤ 0) : x = 1 ∧ zstp s T w = if zload T (zlow w) < s 1 13 ∧ zload T (zhigh w) < s 1 13 then 1 else 0 := by
  unfold zstp
  split at hx
  · omega
  · split at hx
    · omega
    · exact ⟨hx, by rw [if_pos (by omega)]⟩
theorem zround_ch (s : zMm) (T : Int → Int) (n : Int) : 0 ≤ (zround s T n).2 ∧ (zround s T n).2 ≤ 1 := by
  have key : ∀ n : Nat, 0 ≤ (zfold (zrd s) (T, 0) n).2 ∧ (zfold (zrd s) (T, 0) n).2 ≤ 1 := by
    intro n
    induction n with
    | zero => exact ⟨Int.le_refl _, show (0 : Int) ≤ 1 by decide⟩
    | succ n ih =>
      simp only [zfold, zrd]
      split
      · exact ih
      · exact ⟨by decide, by decide⟩
  exact key n.toNat
def zset (s : zMm) : Nat → Int → (Int → Int) → Int × (Int → Int)
  | 0, _, T => (-2, T)
  | f + 1, n, T => if (zround s T 33).2 = 0 then (n, (zround s T 33).1) else zset s f (n + 1) (zround s T 33).1
theorem zset_stop {s : zMm} {n : Int} {T : Int → Int} (h : 0 ≤ n ∧ n ≤ 99) (hc : (zround s T 33).2 = 0) : zset s (100 - n).toNat n T = (n, (zround s T 33).1) := by
  rw [show (100 - n).toNat = (99 - n).toNat + 1 by omega]
  unfold zset
  rw [if_pos hc]
theorem zset_go {s : zMm} {n : Int} {T : Int → Int} (h : 0 ≤ n ∧ n ≤ 99) (hc : (zround s T 33).2 ≠ 0) : zset s (100 - n).toNat n T = zset s (100 - (n + 1)).toNat (n + 1) (zround s T 33).1 := by
  rw [show (100 - n).toNat = (100 - (n + 1)).toNat + 1 by omega]
  conv => lhs; unfold zset
  rw [if_neg hc]
set_option maxHeartbeats 4000000 in
theorem lp_X5_goRound_4 {Q : zPost} {s M : zMm} (hP : zP M) (hG : zG s) (hR : zRg s) (T : Int → Int) (hT : zTh9 T) (hM : zThin s M T) (hx137 : ∀ (ch : Int) (M2 : zMm), (zTh9 (zround s T 33).1 ∧ ch = (zround s T 33).2 ∧ zThin s M2 (zround s T 33).1) → zW mX5_goRound 3 Q (0, 0) zS0 137 [(1, .inl ch)] [] M2) : ∀ (n : Nat) (ch : Int) (w : Int) (M2 : zMm), (33 - w).toNat < n → (0 ≤ w ∧ w ≤ 33 ∧ zTh9 (zround s T w).1 ∧ ch = (zround s T w).2 ∧ zThin s M2 (zround s T w).1) → zW mX5_goRound 3 Q (0, 0) zS0 4 [(0, .inr (.inr 27)), (1, .inl ch), (2, .inl w)] [] M2 := by
  intro n
  induction n with
  | zero => intro ch w M2 hn; exact absurd hn (Nat.not_lt_zero _)
  | succ n ih =>
    intro ch w M2 hn hI
    obtain ⟨hI1, hI2, hI3, hI4, hI5, hI6, hI7⟩ := hI
    have hP2 : zP M2 := zP_of hP fun r hr => by rw [hI7 r (by omega) (by omega), hM.2.2 r (by omega) (by omega)]
    have hG2 : zG M2 := zG_of hG fun c h0 h1 => hI7 c (by omega) (by omega)
    have hR2 : zRg M2 := by unfold zRg; rw [hI7 7 (by omega) (by omega), hI7 8 (by omega) (by omega), hI7 9 (by omega) (by omega), hI7 10 (by omega) (by omega), hI7 11 (by omega) (by omega), hI7 12 (by omega) (by omega), hI7 13 (by omega) (by omega), hI7 1 (by omega) (by omega)]; exact hR
    have hl := zlow_b w
    have hh := zhigh_b w
    refine z_iload_n 2 (zdec DX5_goRound 4 rfl) rfl rfl ?_
    refine z_bipush 33 (zdec DX5_goRound 5 rfl) (by decide) ?_
    refine z_icmp_ge 137 (zdec DX5_goRound 6 rfl) rfl (fun h7 => ?_) (fun h7 => ?_)
    ·
      refine z_weak (L' := [(1, .inl ch)]) (by simp) ?_
      exact hx137 ch M2 (by have e : w = 33 := (by omega); subst e; exact ⟨hI3, hI4, hI5, hI6, hI7⟩)
    ·
      have hw9 : 0 ≤ w ∧ w < 33 := ⟨by omega, by omega⟩
      have hT1 := hI3 w hw9.1 hw9.2
      have ha9 := zagree_b hR hw9 hT1
      have eT := hI5 w hw9.1 hw9.2
      have la := zload_b hI3 (zlow w)
      have lb := zload_b hI3 (zhigh w)
      have ea := hI6 (zlow w) hl.1 hl.2
      have eb := hI6 (zhigh w) hh.1 hh.2
      have ebr : M2 1 13 = s 1 13 := by rw [hI7 1 (by omega) (by omega)]
      have hbb := hR.2.2.2
      have hne := zlow_neI hw9
      have sb := zstp_b hR hI3 hw9
      have eAg : zagree M2 w ((zround s T w).1 w) = zagree s w ((zround s T w).1 w) := by unfold zagree; rw [hI7 7 (by omega) (by omega), hI7 10 (by omega) (by omega)]
      refine z_aload_n 0 (zdec DX5_goRound 7 rfl) rfl rfl (by decide) ?_
      refine z_iload_n 2 (zdec DX5_goRound 8 rfl) rfl rfl ?_
      refine z_aload_n 0 (zdec DX5_goRound 9 rfl) rfl rfl (by decide) ?_
      refine z_getr (rw1 := -37) (ki := 1) (r' := 28) 27 5 (zdec DX5_goRound 10 rfl) rfl rfl shp27 rfl (by decide) rfl rfl fl_SixWalls_Masonry_9 (zPa hP2 31 rfl) ?_
      refine z_iload_n 2 (zdec DX5_goRound 11 rfl) rfl rfl ?_
      refine z_iald 28 (zdec DX5_goRound 12 rfl) rfl shp28 ⟨by omega, by omega⟩ ?_
      rw [eT]
      refine z_inv mX5_agreed 27 5 [.inl w, .inl ((zround s T w).1 w)] (zdec DX5_goRound 13 rfl) ml_SixWalls_Masonry_53 okX5_agreed rfl shp27 rfl rfl rfl rfl (Nat.le_of_ble_eq_true rfl) (Nat.le_of_ble_eq_true rfl) (b' := (0, 0)) ⟨Nat.le_refl 0, Nat.le_refl 0⟩ (Nat.le_of_ble_eq_true rfl) (cX5_agreed hP2 hG2 hR2 w ((zround s T w).1 w) ⟨by omega, by omega⟩) (fun rv9 S9 M18 h9 => ?_)
      obtain ⟨rfl, rfl, rfl⟩ := h9
      change zW _ _ _ _ _ 21 [(0, .inr (.inr 27)), (1, .inl ch), (2, .inl w)] [.inl (zagree M2 w ((zround s T w).1 w))] M2
      rw [eAg]
      refine z_aload_n 0 (zdec DX5_goRound 14 rfl) rfl rfl (by decide) ?_
      refine z_getr (rw1 := -37) (ki := 1) (r' := 28) 27 5 (zdec DX5_goRound 15 rfl) rfl rfl shp27 rfl (by decide) rfl rfl fl_SixWalls_Masonry_9 (zPa hP2 31 rfl) ?_
      refine z_iload_n 2 (zdec DX5_goRound 16 rfl) rfl rfl ?_
      refine z_iald 28 (zdec DX5_goRound 17 rfl) rfl shp28 ⟨by omega, by omega⟩ ?_
      rw [eT]
      refine z_invs mJ6_compare_7cf53 [.inl (zagree s w ((zround s T w).1 w)), .inl ((zround s T w).1 w)] (zdec DX5_goRound 18 rfl) (Or.inl ml_SixWalls_Masonry_57) okJ6_compare_7cf53 rfl rfl (Nat.le_of_ble_eq_true rfl) (Nat.le_of_ble_eq_true rfl) (b' := (0, 0)) ⟨Nat.le_refl 0, Nat.le_refl 0⟩ (Nat.le_of_ble_eq_true rfl) (cJ6_compare (zagree s w ((zround s T w).1 w)) ((zround s T w).1 w)) (fun rv9 S9 M27 h9 => ?_)
      obtain ⟨rfl, rfl, rfl⟩ := h9
      change zW _ _ _ _ _ 30 [(0, .inr (.inr 27)), (1, .inl ch), (2, .inl w)] [.inl (if (zagree s w ((zround s T w).1 w)) < ((zround s T w).1 w) then -1 else if (zagree s w ((zround s T w).1 w)) = ((zround s T w).1 w) then 0 else 1)] M2
      obtain ⟨stp, hstp⟩ : ∃ x, x = (if (zagree s w ((zround s T w).1 w)) < ((zround s T w).1 w) then -1 else if (zagree s w ((zround s T w).1 w)) = ((zround s T w).1 w) then 0 else 1) := ⟨_, rfl⟩
      rw [← hstp]
      have hs1 : -1 ≤ stp ∧ stp ≤ 1 := by rw [hstp]; split <;> (try split) <;> omega
      refine z_istore_n (L' := [(0, .inr (.inr 27)), (1, .inl ch), (2, .inl w), (3, .inl stp)]) (zdec DX5_goRound 19 rfl) rfl rfl (by decide) ?_
      refine z_aload_n 0 (zdec DX5_goRound 20 rfl) rfl rfl (by decide) ?_
      refine z_getr (rw1 := -37) (ki := 0) (r' := 1) 27 5 (zdec DX5_goRound 21 rfl) rfl rfl shp27 rfl (by decide) rfl rfl fl_SixWalls_Masonry_21 (zPa hP2 30 rfl) ?_
      refine z_getr (rw1 := -11) (ki := 0) (r' := 2) 1 1 (zdec DX5_goRound 22 rfl) rfl rfl shp1 rfl (by decide) rfl rfl fl_SixWalls_Masonry_25 (zPa hP2 9 rfl) ?_
      refine z_iload_n 2 (zdec DX5_goRound 23 rfl) rfl rfl ?_
      refine z_iald 2 (zdec DX5_goRound 24 rfl) rfl shp2 ⟨by omega, by omega⟩ ?_
      rw [hG2.low hw9.1 hw9.2]
      refine z_istore (L' := [(0, .inr (.inr 27)), (1, .inl ch), (2, .inl w), (3, .inl stp), (4, .inl (zlow w))]) (zdec DX5_goRound 25 rfl) rfl (by decide) ?_
      refine z_aload_n 0 (zdec DX5_goRound 26 rfl) rfl rfl (by decide) ?_
      refine z_getr (rw1 := -37) (ki := 0) (r' := 1) 27 5 (zdec DX5_goRound 27 rfl) rfl rfl shp27 rfl (by decide) rfl rfl fl_SixWalls_Masonry_21 (zPa hP2 30 rfl) ?_
      refine z_getr (rw1 := -11) (ki := 1) (r' := 3) 1 1 (zdec DX5_goRound 28 rfl) rfl rfl shp1 rfl (by decide) rfl rfl fl_SixWalls_Masonry_30 (zPa hP2 10 rfl) ?_
      refine z_iload_n 2 (zdec DX5_goRound 29 rfl) rfl rfl ?_
      refine z_iald 3 (zdec DX5_goRound 30 rfl) rfl shp3 ⟨by omega, by omega⟩ ?_
      rw [hG2.high hw9.1 hw9.2]
      refine z_istore (L' := [(0, .inr (.inr 27)), (1, .inl ch), (2, .inl w), (3, .inl stp), (4, .inl (zlow w)), (5, .inl (zhigh w))]) (zdec DX5_goRound 31 rfl) rfl (by decide) ?_
      refine z_iload_n 3 (zdec DX5_goRound 32 rfl) rfl rfl ?_
      refine z_if_le 93 (zdec DX5_goRound 33 rfl) rfl (fun h54 => ?_) (fun h54 => ?_)
      ·
        refine z_aload_n 0 (zdec DX5_goRound 52 rfl) rfl rfl (by decide) ?_
        refine z_getr (rw1 := -37) (ki := 1) (r' := 28) 27 5 (zdec DX5_goRound 53 rfl) rfl rfl shp27 rfl (by decide) rfl rfl fl_SixWalls_Masonry_9 (zPa hP2 31 rfl) ?_
        refine z_iload_n 2 (zdec DX5_goRound 54 rfl) rfl rfl ?_
        refine z_dup2 (zdec DX5_goRound 55 rfl) rfl rfl ?_
        refine z_iald 28 (zdec DX5_goRound 56 rfl) rfl shp28 ⟨by omega, by omega⟩ ?_
        refine z_iload_n 3 (zdec DX5_goRound 57 rfl) rfl rfl ?_
        refine z_iadd (zdec DX5_goRound 58 rfl) (by unfold z32; omega) ?_
        refine z_iast 28 (zdec DX5_goRound 59 rfl) rfl shp28 ⟨by omega, by omega⟩ ?_
        refine z_aload_n 0 (zdec DX5_goRound 60 rfl) rfl rfl (by decide) ?_
        refine z_getr (rw1 := -37) (ki := 2) (r' := 29) 27 5 (zdec DX5_goRound 61 rfl) rfl rfl shp27 rfl (by decide) rfl rfl fl_SixWalls_Masonry_15 (zPa (zP_up hP2 (by decide)) 32 rfl) ?_
        refine z_iload 4 (zdec DX5_goRound 62 rfl) rfl ?_
        refine z_dup2 (zdec DX5_goRound 63 rfl) rfl rfl ?_
        refine z_iald 29 (zdec DX5_goRound 64 rfl) rfl shp29 ⟨by omega, by omega⟩ ?_
        rw [show (zup M2 28 w ((M2 28 w) + stp)) 29 (zlow w) = M2 29 (zlow w) from by simp [zup, zcpy]]
        refine z_iload_n 3 (zdec DX5_goRound 65 rfl) rfl rfl ?_
        refine z_iadd (zdec DX5_goRound 66 rfl) (by unfold z32; omega) ?_
        refine z_iast 29 (zdec DX5_goRound 67 rfl) rfl shp29 ⟨by omega, by omega⟩ ?_
        refine z_aload_n 0 (zdec DX5_goRound 68 rfl) rfl rfl (by decide) ?_
        refine z_getr (rw1 := -37) (ki := 2) (r' := 29) 27 5 (zdec DX5_goRound 69 rfl) rfl rfl shp27 rfl (by decide) rfl rfl fl_SixWalls_Masonry_15 (zPa (zP_up (zP_up hP2 (by decide)) (by decide)) 32 rfl) ?_
        refine z_iload 5 (zdec DX5_goRound 70 rfl) rfl ?_
        refine z_dup2 (zdec DX5_goRound 71 rfl) rfl rfl ?_
        refine z_iald 29 (zdec DX5_goRound 72 rfl) rfl shp29 ⟨by omega, by omega⟩ ?_
        rw [show ((zup (zup M2 28 w ((M2 28 w) + stp)) 29 (zlow w) ((M2 29 (zlow w)) + stp)) 29 (zhigh w)) = M2 29 (zhigh w) from by rw [zup_ne (fun q => hne q.symm)]; exact congrFun (zup_row (by decide)) _]
        refine z_iload_n 3 (zdec DX5_goRound 73 rfl) rfl rfl ?_
        refine z_iadd (zdec DX5_goRound 74 rfl) (by unfold z32; omega) ?_
        refine z_iast 29 (zdec DX5_goRound 75 rfl) rfl shp29 ⟨by omega, by omega⟩ ?_
        refine z_iload_n 3 (zdec DX5_goRound 76 rfl) rfl rfl ?_
        refine z_if_eq 131 (zdec DX5_goRound 77 rfl) rfl (fun h126 => ?_) (fun h126 => ?_)
        ·
          refine z_iinc (L' := [(0, .inr (.inr 27)), (1, .inl ch), (2, .inl (w + 1)), (3, .inl stp), (4, .inl (zlow w)), (5, .inl (zhigh w))]) 2 (zdec DX5_goRound 80 rfl) rfl (by unfold z32; omega) rfl (by decide) ?_
          refine z_goto 4 (zdec DX5_goRound 81 rfl) rfl ?_
          refine z_weak (L' := [(0, .inr (.inr 27)), (1, .inl ch), (2, .inl (w + 1))]) (by simp) ?_
          exact ih ch (w + 1) (zup (zup (zup M2 28 w ((M2 28 w) + stp)) 29 (zlow w) ((M2 29 (zlow w)) + stp)) 29 (zhigh w) ((M2 29 (zhigh w)) + stp)) (by omega) (zgr hR hw9 hI3 hI4 ⟨hI5, hI6, hI7⟩ (by first | exact zstp_lo hstp (by assumption) | (rw [(zstp_hi hstp (by assumption)).2, if_pos (by omega)]; exact (zstp_hi hstp (by assumption)).1) | (rw [(zstp_hi hstp (by assumption)).2, if_neg (by omega)])) (by first | rw [if_pos (by omega)] | rw [if_neg (by omega)]))
        ·
          refine z_iconst 1 (zdec DX5_goRound 78 rfl) (by decide) ?_
          refine z_istore_n (L' := [(0, .inr (.inr 27)), (1, .inl 1), (2, .inl w), (3, .inl stp), (4, .inl (zlow w)), (5, .inl (zhigh w))]) (zdec DX5_goRound 79 rfl) rfl rfl (by decide) ?_
          refine z_iinc (L' := [(0, .inr (.inr 27)), (1, .inl 1), (2, .inl (w + 1)), (3, .inl stp), (4, .inl (zlow w)), (5, .inl (zhigh w))]) 2 (zdec DX5_goRound 80 rfl) rfl (by unfold z32; omega) rfl (by decide) ?_
          refine z_goto 4 (zdec DX5_goRound 81 rfl) rfl ?_
          refine z_weak (L' := [(0, .inr (.inr 27)), (1, .inl 1), (2, .inl (w + 1))]) (by simp) ?_
          exact ih 1 (w + 1) (zup (zup (zup M2 28 w ((M2 28 w) + stp)) 29 (zlow w) ((M2 29 (zlow w)) + stp)) 29 (zhigh w) ((M2 29 (zhigh w)) + stp)) (by omega) (zgr hR hw9 hI3 hI4 ⟨hI5, hI6, hI7⟩ (by first | exact zstp_lo hstp (by assumption) | (rw [(zstp_hi hstp (by assumption)).2, if_pos (by omega)]; exact (zstp_hi hstp (by assumption)).1) | (rw [(zstp_hi hstp (by assumption)).2, if_neg (by omega)])) (by first | rw [if_pos (by omega)] | rw [if_neg (by omega)]))
      ·
        refine z_aload_n 0 (zdec DX5_goRound 34 rfl) rfl rfl (by decide) ?_
        refine z_getr (rw1 := -37) (ki := 2) (r' := 29) 27 5 (zdec DX5_goRound 35 rfl) rfl rfl shp27 rfl (by decide) rfl rfl fl_SixWalls_Masonry_15 (zPa hP2 32 rfl) ?_
        refine z_iload 4 (zdec DX5_goRound 36 rfl) rfl ?_
        refine z_iald 29 (zdec DX5_goRound 37 rfl) rfl shp29 ⟨by omega, by omega⟩ ?_
        refine z_aload_n 0 (zdec DX5_goRound 38 rfl) rfl rfl (by decide) ?_
        refine z_getr (rw1 := -37) (ki := 0) (r' := 1) 27 5 (zdec DX5_goRound 39 rfl) rfl rfl shp27 rfl (by decide) rfl rfl fl_SixWalls_Masonry_21 (zPa hP2 30 rfl) ?_
        refine z_geti (ki := 13) 1 1 (zdec DX5_goRound 40 rfl) rfl shp1 rfl (by decide) rfl rfl fl_SixWalls_Masonry_62 ?_
        refine z_icmp_ge 91 (zdec DX5_goRound 41 rfl) rfl (fun h71 => ?_) (fun h71 => ?_)
        ·
          refine z_iconst 0 (zdec DX5_goRound 50 rfl) (by decide) ?_
          refine z_istore_n (L' := [(0, .inr (.inr 27)), (1, .inl ch), (2, .inl w), (3, .inl 0), (4, .inl (zlow w)), (5, .inl (zhigh w))]) (zdec DX5_goRound 51 rfl) rfl rfl (by decide) ?_
          refine z_aload_n 0 (zdec DX5_goRound 52 rfl) rfl rfl (by decide) ?_
          refine z_getr (rw1 := -37) (ki := 1) (r' := 28) 27 5 (zdec DX5_goRound 53 rfl) rfl rfl shp27 rfl (by decide) rfl rfl fl_SixWalls_Masonry_9 (zPa hP2 31 rfl) ?_
          refine z_iload_n 2 (zdec DX5_goRound 54 rfl) rfl rfl ?_
          refine z_dup2 (zdec DX5_goRound 55 rfl) rfl rfl ?_
          refine z_iald 28 (zdec DX5_goRound 56 rfl) rfl shp28 ⟨by omega, by omega⟩ ?_
          refine z_iload_n 3 (zdec DX5_goRound 57 rfl) rfl rfl ?_
          refine z_iadd (zdec DX5_goRound 58 rfl) (by unfold z32; omega) ?_
          refine z_iast 28 (zdec DX5_goRound 59 rfl) rfl shp28 ⟨by omega, by omega⟩ ?_
          refine z_aload_n 0 (zdec DX5_goRound 60 rfl) rfl rfl (by decide) ?_
          refine z_getr (rw1 := -37) (ki := 2) (r' := 29) 27 5 (zdec DX5_goRound 61 rfl) rfl rfl shp27 rfl (by decide) rfl rfl fl_SixWalls_Masonry_15 (zPa (zP_up hP2 (by decide)) 32 rfl) ?_
          refine z_iload 4 (zdec DX5_goRound 62 rfl) rfl ?_
          refine z_dup2 (zdec DX5_goRound 63 rfl) rfl rfl ?_
          refine z_iald 29 (zdec DX5_goRound 64 rfl) rfl shp29 ⟨by omega, by omega⟩ ?_
          rw [show (zup M2 28 w ((M2 28 w) + 0)) 29 (zlow w) = M2 29 (zlow w) from by simp [zup, zcpy]]
          refine z_iload_n 3 (zdec DX5_goRound 65 rfl) rfl rfl ?_
          refine z_iadd (zdec DX5_goRound 66 rfl) (by unfold z32; omega) ?_
          refine z_iast 29 (zdec DX5_goRound 67 rfl) rfl shp29 ⟨by omega, by omega⟩ ?_
          refine z_aload_n 0 (zdec DX5_goRound 68 rfl) rfl rfl (by decide) ?_
          refine z_getr (rw1 := -37) (ki := 2) (r' := 29) 27 5 (zdec DX5_goRound 69 rfl) rfl rfl shp27 rfl (by decide) rfl rfl fl_SixWalls_Masonry_15 (zPa (zP_up (zP_up hP2 (by decide)) (by decide)) 32 rfl) ?_
          refine z_iload 5 (zdec DX5_goRound 70 rfl) rfl ?_
          refine z_dup2 (zdec DX5_goRound 71 rfl) rfl rfl ?_
          refine z_iald 29 (zdec DX5_goRound 72 rfl) rfl shp29 ⟨by omega, by omega⟩ ?_
          rw [show ((zup (zup M2 28 w ((M2 28 w) + 0)) 29 (zlow w) ((M2 29 (zlow w)) + 0)) 29 (zhigh w)) = M2 29 (zhigh w) from by rw [zup_ne (fun q => hne q.symm)]; exact congrFun (zup_row (by decide)) _]
          refine z_iload_n 3 (zdec DX5_goRound 73 rfl) rfl rfl ?_
          refine z_iadd (zdec DX5_goRound 74 rfl) (by unfold z32; omega) ?_
          refine z_iast 29 (zdec DX5_goRound 75 rfl) rfl shp29 ⟨by omega, by omega⟩ ?_
          refine z_iload_n 3 (zdec DX5_goRound 76 rfl) rfl rfl ?_
          refine z_if_eq 131 (zdec DX5_goRound 77 rfl) rfl (fun _ => ?_) (fun h => absurd h (by decide))
          refine z_iinc (L' := [(0, .inr (.inr 27)), (1, .inl ch), (2, .inl (w + 1)), (3, .inl 0), (4, .inl (zlow w)), (5, .inl (zhigh w))]) 2 (zdec DX5_goRound 80 rfl) rfl (by unfold z32; omega) rfl (by decide) ?_
          refine z_goto 4 (zdec DX5_goRound 81 rfl) rfl ?_
          refine z_weak (L' := [(0, .inr (.inr 27)), (1, .inl ch), (2, .inl (w + 1))]) (by simp) ?_
          exact ih ch (w + 1) (zup (zup (zup M2 28 w ((M2 28 w) + 0)) 29 (zlow w) ((M2 29 (zlow w)) + 0)) 29 (zhigh w) ((M2 29 (zhigh w)) + 0)) (by omega) (zgr hR hw9 hI3 hI4 ⟨hI5, hI6, hI7⟩ (by first | exact zstp_lo hstp (by assumption) | (rw [(zstp_hi hstp (by assumption)).2, if_pos (by omega)]; exact (zstp_hi hstp (by assumption)).1) | (rw [(zstp_hi hstp (by assumption)).2, if_neg (by omega)])) (by first | rw [if_pos (by omega)] | rw [if_neg (by omega)]))
        ·
          refine z_aload_n 0 (zdec DX5_goRound 42 rfl) rfl rfl (by decide) ?_
          refine z_getr (rw1 := -37) (ki := 2) (r' := 29) 27 5 (zdec DX5_goRound 43 rfl) rfl rfl shp27 rfl (by decide) rfl rfl fl_SixWalls_Masonry_15 (zPa hP2 32 rfl) ?_
          refine z_iload 5 (zdec DX5_goRound 44 rfl) rfl ?_
          refine z_iald 29 (zdec DX5_goRound 45 rfl) rfl shp29 ⟨by omega, by omega⟩ ?_
          refine z_aload_n 0 (zdec DX5_goRound 46 rfl) rfl rfl (by decide) ?_
          refine z_getr (rw1 := -37) (ki := 0) (r' := 1) 27 5 (zdec DX5_goRound 47 rfl) rfl rfl shp27 rfl (by decide) rfl rfl fl_SixWalls_Masonry_21 (zPa hP2 30 rfl) ?_
          refine z_geti (ki := 13) 1 1 (zdec DX5_goRound 48 rfl) rfl shp1 rfl (by decide) rfl rfl fl_SixWalls_Masonry_62 ?_
          refine z_icmp_lt 93 (zdec DX5_goRound 49 rfl) rfl (fun h88 => ?_) (fun h88 => ?_)
          ·
            refine z_aload_n 0 (zdec DX5_goRound 52 rfl) rfl rfl (by decide) ?_
            refine z_getr (rw1 := -37) (ki := 1) (r' := 28) 27 5 (zdec DX5_goRound 53 rfl) rfl rfl shp27 rfl (by decide) rfl rfl fl_SixWalls_Masonry_9 (zPa hP2 31 rfl) ?_
            refine z_iload_n 2 (zdec DX5_goRound 54 rfl) rfl rfl ?_
            refine z_dup2 (zdec DX5_goRound 55 rfl) rfl rfl ?_
            refine z_iald 28 (zdec DX5_goRound 56 rfl) rfl shp28 ⟨by omega, by omega⟩ ?_
            refine z_iload_n 3 (zdec DX5_goRound 57 rfl) rfl rfl ?_
            refine z_iadd (zdec DX5_goRound 58 rfl) (by unfold z32; omega) ?_
            refine z_iast 28 (zdec DX5_goRound 59 rfl) rfl shp28 ⟨by omega, by omega⟩ ?_
            refine z_aload_n 0 (zdec DX5_goRound 60 rfl) rfl rfl (by decide) ?_
            refine z_getr (rw1 := -37) (ki := 2) (r' := 29) 27 5 (zdec DX5_goRound 61 rfl) rfl rfl shp27 rfl (by decide) rfl rfl fl_SixWalls_Masonry_15 (zPa (zP_up hP2 (by decide)) 32 rfl) ?_
            refine z_iload 4 (zdec DX5_goRound 62 rfl) rfl ?_
            refine z_dup2 (zdec DX5_goRound 63 rfl) rfl rfl ?_
            refine z_iald 29 (zdec DX5_goRound 64 rfl) rfl shp29 ⟨by omega, by omega⟩ ?_
            rw [show (zup M2 28 w ((M2 28 w) + stp)) 29 (zlow w) = M2 29 (zlow w) from by simp [zup, zcpy]]
            refine z_iload_n 3 (zdec DX5_goRound 65 rfl) rfl rfl ?_
            refine z_iadd (zdec DX5_goRound 66 rfl) (by unfold z32; omega) ?_
            refine z_iast 29 (zdec DX5_goRound 67 rfl) rfl shp29 ⟨by omega, by omega⟩ ?_
            refine z_aload_n 0 (zdec DX5_goRound 68 rfl) rfl rfl (by decide) ?_
            refine z_getr (rw1 := -37) (ki := 2) (r' := 29) 27 5 (zdec DX5_goRound 69 rfl) rfl rfl shp27 rfl (by decide) rfl rfl fl_SixWalls_Masonry_15 (zPa (zP_up (zP_up hP2 (by decide)) (by decide)) 32 rfl) ?_
            refine z_iload 5 (zdec DX5_goRound 70 rfl) rfl ?_
            refine z_dup2 (zdec DX5_goRound 71 rfl) rfl rfl ?_
            refine z_iald 29 (zdec DX5_goRound 72 rfl) rfl shp29 ⟨by omega, by omega⟩ ?_
            rw [show ((zup (zup M2 28 w ((M2 28 w) + stp)) 29 (zlow w) ((M2 29 (zlow w)) + stp)) 29 (zhigh w)) = M2 29 (zhigh w) from by rw [zup_ne (fun q => hne q.symm)]; exact congrFun (zup_row (by decide)) _]
            refine z_iload_n 3 (zdec DX5_goRound 73 rfl) rfl rfl ?_
            refine z_iadd (zdec DX5_goRound 74 rfl) (by unfold z32; omega) ?_
            refine z_iast 29 (zdec DX5_goRound 75 rfl) rfl shp29 ⟨by omega, by omega⟩ ?_
            refine z_iload_n 3 (zdec DX5_goRound 76 rfl) rfl rfl ?_
            refine z_if_eq 131 (zdec DX5_goRound 77 rfl) rfl (fun h126 => ?_) (fun h126 => ?_)
            ·
              refine z_iinc (L' := [(0, .inr (.inr 27)), (1, .inl ch), (2, .inl (w + 1)), (3, .inl stp), (4, .inl (zlow w)), (5, .inl (zhigh w))]) 2 (zdec DX5_goRound 80 rfl) rfl (by unfold z32; omega) rfl (by decide) ?_
              refine z_goto 4 (zdec DX5_goRound 81 rfl) rfl ?_
              refine z_weak (L' := [(0, .inr (.inr 27)), (1, .inl ch), (2, .inl (w + 1))]) (by simp) ?_
              exact ih ch (w + 1) (zup (zup (zup M2 28 w ((M2 28 w) + stp)) 29 (zlow w) ((M2 29 (zlow w)) + stp)) 29 (zhigh w) ((M2 29 (zhigh w)) + stp)) (by omega) (zgr hR hw9 hI3 hI4 ⟨hI5, hI6, hI7⟩ (by first | exact zstp_lo hstp (by assumption) | (rw [(zstp_hi hstp (by assumption)).2, if_pos (by omega)]; exact (zstp_hi hstp (by assumption)).1) | (rw [(zstp_hi hstp (by assumption)).2, if_neg (by omega)])) (by first | rw [if_pos (by omega)] | rw [if_neg (by omega)]))
            ·
              refine z_iconst 1 (zdec DX5_goRound 78 rfl) (by decide) ?_
              refine z_istore_n (L' := [(0, .inr (.inr 27)), (1, .inl 1), (2, .inl w), (3, .inl stp), (4, .inl (zlow w)), (5, .inl (zhigh w))]) (zdec DX5_goRound 79 rfl) rfl rfl (by decide) ?_
              refine z_iinc (L' := [(0, .inr (.inr 27)), (1, .inl 1), (2, .inl (w + 1)), (3, .inl stp), (4, .inl (zlow w)), (5, .inl (zhigh w))]) 2 (zdec DX5_goRound 80 rfl) rfl (by unfold z32; omega) rfl (by decide) ?_
              refine z_goto 4 (zdec DX5_goRound 81 rfl) rfl ?_
              refine z_weak (L' := [(0, .inr (.inr 27)), (1, .inl 1), (2, .inl (w + 1))]) (by simp) ?_
              exact ih 1 (w + 1) (zup (zup (zup M2 28 w ((M2 28 w) + stp)) 29 (zlow w) ((M2 29 (zlow w)) + stp)) 29 (zhigh w) ((M2 29 (zhigh w)) + stp)) (by omega) (zgr hR hw9 hI3 hI4 ⟨hI5, hI6, hI7⟩ (by first | exact zstp_lo hstp (by assumption) | (rw [(zstp_hi hstp (by assumption)).2, if_pos (by omega)]; exact (zstp_hi hstp (by assumption)).1) | (rw [(zstp_hi hstp (by assumption)).2, if_neg (by omega)])) (by first | rw [if_pos (by omega)] | rw [if_neg (by omega)]))
          ·
            refine z_iconst 0 (zdec DX5_goRound 50 rfl) (by decide) ?_
            refine z_istore_n (L' := [(0, .inr (.inr 27)), (1, .inl ch), (2, .inl w), (3, .inl 0), (4, .inl (zlow w)), (5, .inl (zhigh w))]) (zdec DX5_goRound 51 rfl) rfl rfl (by decide) ?_
            refine z_aload_n 0 (zdec DX5_goRound 52 rfl) rfl rfl (by decide) ?_
            refine z_getr (rw1 := -37) (ki := 1) (r' := 28) 27 5 (zdec DX5_goRound 53 rfl) rfl rfl shp27 rfl (by decide) rfl rfl fl_SixWalls_Masonry_9 (zPa hP2 31 rfl) ?_
            refine z_iload_n 2 (zdec DX5_goRound 54 rfl) rfl rfl ?_
            refine z_dup2 (zdec DX5_goRound 55 rfl) rfl rfl ?_
            refine z_iald 28 (zdec DX5_goRound 56 rfl) rfl shp28 ⟨by omega, by omega⟩ ?_
            refine z_iload_n 3 (zdec DX5_goRound 57 rfl) rfl rfl ?_
            refine z_iadd (zdec DX5_goRound 58 rfl) (by unfold z32; omega) ?_
            refine z_iast 28 (zdec DX5_goRound 59 rfl) rfl shp28 ⟨by omega, by omega⟩ ?_
            refine z_aload_n 0 (zdec DX5_goRound 60 rfl) rfl rfl (by decide) ?_
            refine z_getr (rw1 := -37) (ki := 2) (r' := 29) 27 5 (zdec DX5_goRound 61 rfl) rfl rfl shp27 rfl (by decide) rfl rfl fl_SixWalls_Masonry_15 (zPa (zP_up hP2 (by decide)) 32 rfl) ?_
            refine z_iload 4 (zdec DX5_goRound 62 rfl) rfl ?_
            refine z_dup2 (zdec DX5_goRound 63 rfl) rfl rfl ?_
            refine z_iald 29 (zdec DX5_goRound 64 rfl) rfl shp29 ⟨by omega, by omega⟩ ?_
            rw [show (zup M2 28 w ((M2 28 w) + 0)) 29 (zlow w) = M2 29 (zlow w) from by simp [zup, zcpy]]
            refine z_iload_n 3 (zdec DX5_goRound 65 rfl) rfl rfl ?_
            refine z_iadd (zdec DX5_goRound 66 rfl) (by unfold z32; omega) ?_
            refine z_iast 29 (zdec DX5_goRound 67 rfl) rfl shp29 ⟨by omega, by omega⟩ ?_
            refine z_aload_n 0 (zdec DX5_goRound 68 rfl) rfl rfl (by decide) ?_
            refine z_getr (rw1 := -37) (ki := 2) (r' := 29) 27 5 (zdec DX5_goRound 69 rfl) rfl rfl shp27 rfl (by decide) rfl rfl fl_SixWalls_Masonry_15 (zPa (zP_up (zP_up hP2 (by decide)) (by decide)) 32 rfl) ?_
            refine z_iload 5 (zdec DX5_goRound 70 rfl) rfl ?_
            refine z_dup2 (zdec DX5_goRound 71 rfl) rfl rfl ?_
            refine z_iald 29 (zdec DX5_goRound 72 rfl) rfl shp29 ⟨by omega, by omega⟩ ?_
            rw [show ((zup (zup M2 28 w ((M2 28 w) + 0)) 29 (zlow w) ((M2 29 (zlow w)) + 0)) 29 (zhigh w)) = M2 29 (zhigh w) from by rw [zup_ne (fun q => hne q.symm)]; exact congrFun (zup_row (by decide)) _]
            refine z_iload_n 3 (zdec DX5_goRound 73 rfl) rfl rfl ?_
            refine z_iadd (zdec DX5_goRound 74 rfl) (by unfold z32; omega) ?_
            refine z_iast 29 (zdec DX5_goRound 75 rfl) rfl shp29 ⟨by omega, by omega⟩ ?_
            refine z_iload_n 3 (zdec DX5_goRound 76 rfl) rfl rfl ?_
            refine z_if_eq 131 (zdec DX5_goRound 77 rfl) rfl (fun _ => ?_) (fun h => absurd h (by decide))
            refine z_iinc (L' := [(0, .inr (.inr 27)), (1, .inl ch), (2, .inl (w + 1)), (3, .inl 0), (4, .inl (zlow w)), (5, .inl (zhigh w))]) 2 (zdec DX5_goRound 80 rfl) rfl (by unfold z32; omega) rfl (by decide) ?_
            refine z_goto 4 (zdec DX5_goRound 81 rfl) rfl ?_
            refine z_weak (L' := [(0, .inr (.inr 27)), (1, .inl ch), (2, .inl (w + 1))]) (by simp) ?_
            exact ih ch (w + 1) (zup (zup (zup M2 28 w ((M2 28 w) + 0)) 29 (zlow w) ((M2 29 (zlow w)) + 0)) 29 (zhigh w) ((M2 29 (zhigh w)) + 0)) (by omega) (zgr hR hw9 hI3 hI4 ⟨hI5, hI6, hI7⟩ (by first | exact zstp_lo hstp (by assumption) | (rw [(zstp_hi hstp (by assumption)).2, if_pos (by omega)]; exact (zstp_hi hstp (by assumption)).1) | (rw [(zstp_hi hstp (by assumption)).2, if_neg (by omega)])) (by first | rw [if_pos (by omega)] | rw [if_neg (by omega)]))
set_option maxHeartbeats 4000000 in
theorem cX5_goRound {s M : zMm} (hP : zP M) (hG : zG s) (hR : zRg s) (T : Int → Int) (hT : zTh9 T) (hM : zThin s M T) : zW mX5_goRound 3 (fun rv S' M' => S' = zS0 ∧ rv = some (.inl (zround s T 33).2) ∧ zTh9 (zround s T 33).1 ∧ zThin s M' (zround s T 33).1) (0, 0) zS0 0 (zargs 0 [.inr (.inr 27)]) [] M := by
  change zW _ _ _ _ _ 0 [(0, .inr (.inr 27))] [] M
  refine z_iconst 0 (zdec DX5_goRound 0 rfl) (by decide) ?_
  refine z_istore_n (L' := [(0, .inr (.inr 27)), (1, .inl 0)]) (zdec DX5_goRound 1 rfl) rfl rfl (by decide) ?_
  refine z_iconst 0 (zdec DX5_goRound 2 rfl) (by decide) ?_
  refine z_istore_n (L' := [(0, .inr (.inr 27)), (1, .inl 0), (2, .inl 0)]) (zdec DX5_goRound 3 rfl) rfl rfl (by decide) ?_
  refine lp_X5_goRound_4 hP hG hR T hT hM (hx137 := fun ch M2 hx => ?_) _ 0 0 M (Nat.lt_succ_self _) ⟨by omega, by omega, hT, rfl, hM⟩
  refine z_iload_n 0 (zdec DX5_goRound 82 rfl) rfl rfl ?_
  exact z_zret (zdec DX5_goRound 83 rfl) rfl (by rw [hx.2.1]; exact zround_ch s T 33) (⟨rfl, zri hx.2.1, hx.1, hx.2.2⟩)
set_option maxHeartbeats 4000000 in
theorem lp_X5_settle_52 {M : zMm} (hP : zP M) (hG : zG M) (hR : zRg M) (hx73 : ∀ (M2 : zMm), ((zset M 100 0 (M 11)).1 = -2 ∧ (∀ w : Int, 0 ≤ w → w < 33 → M2 28 w = (zset M 100 0 (M 11)).2 w) ∧ (∀ w : Int, 0 ≤ w → w < 33 → 0 ≤ M2 28 w ∧ M2 28 w ≤ 9) ∧ ∀ c : Int, c ≠ 28 → c ≠ 29 → M2 c = M c) → zW mX5_settle 4 (fun rv S' M' => S' = zS0 ∧ rv = some (.inl (zset M 100 0 (M 11)).1) ∧ (∀ w : Int, 0 ≤ w → w < 33 → M' 28 w = (zset M 100 0 (M 11)).2 w) ∧ (∀ w : Int, 0 ≤ w → w < 33 → 0 ≤ M' 28 w ∧ M' 28 w ≤ 9) ∧ ∀ c : Int, c ≠ 28 → c ≠ 29 → M' c = M c) (0, 0) zS0 73 [] [] M2) : ∀ (n : Nat) (n1 : Int) (M2 : zMm), (100 - n1).toNat < n → (0 ≤ n1 ∧ n1 ≤ 100 ∧ ∃ T, zTh9 T ∧ zThin M M2 T ∧ zset M 100 0 (M 11) = zset M (100 - n1).toNat n1 T) → zW mX5_settle 4 (fun rv S' M' => S' = zS0 ∧ rv = some (.inl (zset M 100 0 (M 11)).1) ∧ (∀ w : Int, 0 ≤ w → w < 33 → M' 28 w = (zset M 100 0 (M 11)).2 w) ∧ (∀ w : Int, 0 ≤ w → w < 33 → 0 ≤ M' 28 w ∧ M' 28 w ≤ 9) ∧ ∀ c : Int, c ≠ 28 → c ≠ 29 → M' c = M c) (0, 0) zS0 52 [(0, .inr (.inr 27)), (1, .inl n1)] [] M2 := by
  intro n
  induction n with
  | zero => intro n1 M2 hn; exact absurd hn (Nat.not_lt_zero _)
  | succ n ih =>
    intro n1 M2 hn hI
    obtain ⟨hI0, hI1, T, hI2, hI3, hI4⟩ := hI
    have hP2 : zP M2 := zP_of hP fun r hr => hI3.2.2 r (by omega) (by omega)
    refine z_iload_n 1 (zdec DX5_settle 28 rfl) rfl rfl ?_
    refine z_bipush 99 (zdec DX5_settle 29 rfl) (by decide) ?_
    refine z_icmp_gt 73 (zdec DX5_settle 30 rfl) rfl (fun h55 => ?_) (fun h55 => ?_)
    ·
      refine z_weak (L' := []) (by simp) ?_
      exact hx73 M2 (by have e : n1 = 100 := (by omega); subst e; rw [hI4]; exact ⟨rfl, hI3.1, fun w h0 h1 => by rw [hI3.1 w h0 h1]; exact hI2 w h0 h1, hI3.2.2⟩)
    ·
      refine z_aload_n 0 (zdec DX5_settle 31 rfl) rfl rfl (by decide) ?_
      refine z_inv mX5_goRound 27 5 [] (zdec DX5_settle 32 rfl) ml_SixWalls_Masonry_49 okX5_goRound rfl shp27 rfl rfl rfl rfl (Nat.le_of_ble_eq_true rfl) (Nat.le_of_ble_eq_true rfl) (b' := (0, 0)) ⟨Nat.le_refl 0, Nat.le_refl 0⟩ (Nat.le_of_ble_eq_true rfl) (cX5_goRound hP2 hG hR T hI2 hI3) (fun rv9 S9 M59 h9 => ?_)
      obtain ⟨rfl, rfl, hr1, hr2⟩ := h9
      change zW _ _ _ _ _ 62 [(0, .inr (.inr 27)), (1, .inl n1)] [.inl ((zround M T 33).2)] M59
      refine z_if_ne 67 (zdec DX5_settle 33 rfl) rfl (fun h62 => ?_) (fun h62 => ?_)
      ·
        refine z_iinc (L' := [(0, .inr (.inr 27)), (1, .inl (n1 + 1))]) 1 (zdec DX5_settle 36 rfl) rfl (by unfold z32; omega) rfl (by decide) ?_
        refine z_goto 52 (zdec DX5_settle 37 rfl) rfl ?_
        exact ih (n1 + 1) M59 (by omega) ⟨by omega, by omega, _, hr1, hr2, by rw [hI4, zset_go ⟨by omega, by omega⟩ h62]⟩
      ·
        refine z_iload_n 1 (zdec DX5_settle 34 rfl) rfl rfl ?_
        exact z_iret (zdec DX5_settle 35 rfl) rfl (by have e0 : (zround M T 33).2 = 0 := (by omega); have e1 := hI4.trans (zset_stop ⟨by omega, by omega⟩ e0); exact ⟨rfl, zri (by rw [e1]), fun w h0 h1 => by rw [e1]; exact hr2.1 w h0 h1, fun w h0 h1 => by rw [hr2.1 w h0 h1]; exact hr1 w h0 h1, hr2.2.2⟩)
set_option maxHeartbeats 4000000 in
theorem lp_X5_settle_20 {Q : zPost} {M : zMm} (hP : zP M) (hG : zG M) (hR : zRg M) (hx50 : ∀ (M2 : zMm), (zThin M M2 (M 11)) → zW mX5_settle 4 Q (0, 0) zS0 50 [(0, .inr (.inr 27))] [] M2) : ∀ (n : Nat) (h : Int) (M2 : zMm), (16 - h).toNat < n → (0 ≤ h ∧ h ≤ 16 ∧ (∀ w : Int, 0 ≤ w → w < 33 → M2 28 w = M 11 w) ∧ (∀ k : Int, 0 ≤ k → k < h → M2 29 k = zload (M 11) k) ∧ ∀ c : Int, c ≠ 28 → c ≠ 29 → M2 c = M c) → zW mX5_settle 4 Q (0, 0) zS0 20 [(0, .inr (.inr 27)), (1, .inl h)] [] M2 := by
  intro n
  induction n with
  | zero => intro h M2 hn; exact absurd hn (Nat.not_lt_zero _)
  | succ n ih =>
    intro h M2 hn hI
    refine z_iload_n 1 (zdec DX5_settle 11 rfl) rfl rfl ?_
    refine z_bipush 16 (zdec DX5_settle 12 rfl) (by decide) ?_
    refine z_icmp_ge 50 (zdec DX5_settle 13 rfl) rfl (fun h23 => ?_) (fun h23 => ?_)
    ·
      refine z_weak (L' := [(0, .inr (.inr 27))]) (by simp) ?_
      exact hx50 M2 ⟨hI.2.2.1, fun k h0 h1 => hI.2.2.2.1 k h0 (by omega), hI.2.2.2.2⟩
    ·
      refine z_aload_n 0 (zdec DX5_settle 14 rfl) rfl rfl (by decide) ?_
      refine z_getr (rw1 := -37) (ki := 2) (r' := 29) 27 5 (zdec DX5_settle 15 rfl) rfl rfl shp27 rfl (by decide) rfl rfl fl_SixWalls_Masonry_15 (zPa (zP_of hP fun r hr => hI.2.2.2.2 r (by omega) (by omega)) 32 rfl) ?_
      refine z_iload_n 1 (zdec DX5_settle 16 rfl) rfl rfl ?_
      refine z_aload_n 0 (zdec DX5_settle 17 rfl) rfl rfl (by decide) ?_
      refine z_getr (rw1 := -37) (ki := 0) (r' := 1) 27 5 (zdec DX5_settle 18 rfl) rfl rfl shp27 rfl (by decide) rfl rfl fl_SixWalls_Masonry_21 (zPa (zP_of hP fun r hr => hI.2.2.2.2 r (by omega) (by omega)) 30 rfl) ?_
      refine z_iload_n 1 (zdec DX5_settle 19 rfl) rfl rfl ?_
      refine z_aload_n 0 (zdec DX5_settle 20 rfl) rfl rfl (by decide) ?_
      refine z_getr (rw1 := -37) (ki := 1) (r' := 28) 27 5 (zdec DX5_settle 21 rfl) rfl rfl shp27 rfl (by decide) rfl rfl fl_SixWalls_Masonry_9 (zPa (zP_of hP fun r hr => hI.2.2.2.2 r (by omega) (by omega)) 31 rfl) ?_
      refine z_inv mX1_load 1 1 [.inl h, .inr (.inr 28)] (zdec DX5_settle 22 rfl) ml_SixWalls_Masonry_46 okX1_load rfl shp1 rfl rfl rfl rfl (Nat.le_of_ble_eq_true rfl) (Nat.le_of_ble_eq_true rfl) (b' := (0, 0)) ⟨Nat.le_refl 0, Nat.le_refl 0⟩ (Nat.le_of_ble_eq_true rfl) (cX1_load_28 (zP_of hP fun r hr => hI.2.2.2.2 r (by omega) (by omega)) (zG_of hG fun c h0 h1 => hI.2.2.2.2 c (by omega) (by omega)) (fun w h0 h1 => by rw [hI.2.2.1 w h0 h1]; exact (hR.2.1 w h0 h1).1) h ⟨by omega, by omega⟩) (fun rv9 S9 M40 h9 => ?_)
      obtain ⟨rfl, rfl, rfl⟩ := h9
      change zW _ _ _ _ _ 43 [(0, .inr (.inr 27)), (1, .inl h)] [.inl (zload (M2 28) h), .inl h, .inr (.inr 29)] M2
      refine z_iast 29 (zdec DX5_settle 23 rfl) rfl shp29 ⟨by omega, by omega⟩ ?_
      refine z_iinc (L' := [(0, .inr (.inr 27)), (1, .inl (h + 1))]) 1 (zdec DX5_settle 24 rfl) rfl (by unfold z32; omega) rfl (by decide) ?_
      refine z_goto 20 (zdec DX5_settle 25 rfl) rfl ?_
      exact ih (h + 1) (zup M2 29 h (zload (M2 28) h)) (by omega) ⟨by omega, by omega, fun k h0 h1 => by rw [zup_row (by decide)]; exact hI.2.2.1 k h0 h1, fun k h0 h1 => (by by_cases hk : k = h; (subst hk; rw [zup_self]; exact zload_c hI.2.2.1 k); (rw [zup_ne hk]; exact hI.2.2.2.1 k h0 (by omega))), fun c h0 h1 => (zup_row h1).trans (hI.2.2.2.2 c h0 h1)⟩
set_option maxHeartbeats 4000000 in
theorem cX5_settle {M : zMm} (hP : zP M) (hG : zG M) (hR : zRg M) : zW mX5_settle 4 (fun rv S' M' => S' = zS0 ∧ rv = some (.inl (zset M 100 0 (M 11)).1) ∧ (∀ w : Int, 0 ≤ w → w < 33 → M' 28 w = (zset M 100 0 (M 11)).2 w) ∧ (∀ w : Int, 0 ≤ w → w < 33 → 0 ≤ M' 28 w ∧ M' 28 w ≤ 9) ∧ ∀ c : Int, c ≠ 28 → c ≠ 29 → M' c = M c) (0, 0) zS0 0 (zargs 0 [.inr (.inr 27)]) [] M := by
  change zW _ _ _ _ _ 0 [(0, .inr (.inr 27))] [] M
  refine z_aload_n 0 (zdec DX5_settle 0 rfl) rfl rfl (by decide) ?_
  refine z_getr (rw1 := -37) (ki := 0) (r' := 1) 27 5 (zdec DX5_settle 1 rfl) rfl rfl shp27 rfl (by decide) rfl rfl fl_SixWalls_Masonry_21 (zPa hP 30 rfl) ?_
  refine z_getr (rw1 := -11) (ki := 9) (r' := 11) 1 1 (zdec DX5_settle 2 rfl) rfl rfl shp1 rfl (by decide) rfl rfl fl_SixWalls_Masonry_39 (zPa hP 18 rfl) ?_
  refine z_iconst 0 (zdec DX5_settle 3 rfl) (by decide) ?_
  refine z_aload_n 0 (zdec DX5_settle 4 rfl) rfl rfl (by decide) ?_
  refine z_getr (rw1 := -37) (ki := 1) (r' := 28) 27 5 (zdec DX5_settle 5 rfl) rfl rfl shp27 rfl (by decide) rfl rfl fl_SixWalls_Masonry_9 (zPa hP 31 rfl) ?_
  refine z_iconst 0 (zdec DX5_settle 6 rfl) (by decide) ?_
  refine z_bipush 33 (zdec DX5_settle 7 rfl) (by decide) ?_
  refine z_copyi 11 28 (zdec DX5_settle 8 rfl) ml_SixWalls_Masonry_40 zcp1 zcp2 zcp3 rfl rfl shp11 shp28 ⟨by omega, by omega, by omega⟩ ⟨by omega, by omega⟩ (by decide) rfl ?_
  refine z_iconst 0 (zdec DX5_settle 9 rfl) (by decide) ?_
  refine z_istore_n (L' := [(0, .inr (.inr 27)), (1, .inl 0)]) (zdec DX5_settle 10 rfl) rfl rfl (by decide) ?_
  refine lp_X5_settle_20 hP hG hR (hx50 := fun M2 hx => ?_) _ 0 (zcpy M 11 0 28 0 33) (Nat.lt_succ_self _) ⟨by omega, by omega, fun k h0 h1 => (by show zcpy M 11 0 28 0 33 28 k = M 11 k; unfold zcpy; rw [if_pos ⟨rfl, by omega, by omega⟩]; congr 1; omega), fun k h0 h1 => by omega, fun c hc _ => zcpy_row hc⟩
  refine z_iconst 0 (zdec DX5_settle 26 rfl) (by decide) ?_
  refine z_istore_n (L' := [(0, .inr (.inr 27)), (1, .inl 0)]) (zdec DX5_settle 27 rfl) rfl rfl (by decide) ?_
  refine lp_X5_settle_52 hP hG hR (hx73 := fun M2 hx => ?_) _ 0 M2 (Nat.lt_succ_self _) ⟨by omega, by omega, M 11, fun w h0 h1 => (hR.2.1 w h0 h1).1, hx, rfl⟩
  refine z_bipush (-2) (zdec DX5_settle 38 rfl) (by decide) ?_
  exact z_iret (zdec DX5_settle 39 rfl) rfl (⟨rfl, zri hx.1.symm, hx.2.1, hx.2.2.1, hx.2.2.2⟩)
set_option maxHeartbeats 4000000 in
theorem cX5_thickThen {M : zMm} (hP : zP M) (w : Int) (hw : 0 ≤ w ∧ w < 33) : zW mX5_thickThen 1 (fun rv S' M' => S' = zS0 ∧ M = M' ∧ rv = some (.inl (M 28 w))) (0, 0) zS0 0 (zargs 0 [.inr (.inr 27), .inl w]) [] M := by
  change zW _ _ _ _ _ 0 [(0, .inr (.inr 27)), (1, .inl w)] [] M
  refine z_aload_n 0 (zdec DX5_thickThen 0 rfl) rfl rfl (by decide) ?_
  refine z_getr (rw1 := -37) (ki := 1) (r' := 28) 27 5 (zdec DX5_thickThen 1 rfl) rfl rfl shp27 rfl (by decide) rfl rfl fl_SixWalls_Masonry_9 (zPa hP 31 rfl) ?_
  refine z_iload_n 1 (zdec DX5_thickThen 2 rfl) rfl rfl ?_
  refine z_iald 28 (zdec DX5_thickThen 3 rfl) rfl shp28 ⟨by omega, by omega⟩ ?_
  exact z_iret (zdec DX5_thickThen 4 rfl) rfl (⟨rfl, rfl, rfl⟩)
set_option maxHeartbeats 4000000 in
theorem cX9_rounds {M : zMm} (hP : zP M) (hG : zG M) (hR : zRg M) (w : Int) : zW mX9_rounds 5 (fun rv S' M' => S' = zS0 ∧ rv = some (.inl (if w = -1 then (zset M 100 0 (M 11)).1 else if 0 ≤ w ∧ w < 33 then (zset M 100 0 (M 11)).2 w else -1)) ∧ ∀ c : Int, c ≠ 28 → c ≠ 29 → M' c = M c) (0, 0) zS0 0 (zargs 0 [.inr (.inr 0), .inl w]) [] M := by
  change zW _ _ _ _ _ 0 [(0, .inr (.inr 0)), (1, .inl w)] [] M
  refine z_iload_n 1 (zdec DX9_rounds 0 rfl) rfl rfl ?_
  refine z_iconst (-1) (zdec DX9_rounds 1 rfl) (by decide) ?_
  refine z_icmp_eq 14 (zdec DX9_rounds 2 rfl) rfl (fun h2 => ?_) (fun h2 => ?_)
  ·
    refine z_aload_n 0 (zdec DX9_rounds 8 rfl) rfl rfl (by decide) ?_
    refine z_getr (rw1 := -10) (ki := 3) (r' := 27) 0 9 (zdec DX9_rounds 9 rfl) rfl rfl shp0 rfl (by decide) rfl rfl fl_SixWalls_37 (zPa hP 3 rfl) ?_
    refine z_inv mX5_settle 27 5 [] (zdec DX9_rounds 10 rfl) ml_SixWalls_227 okX5_settle rfl shp27 rfl rfl rfl rfl (Nat.le_of_ble_eq_true rfl) (Nat.le_of_ble_eq_true rfl) (b' := (0, 0)) ⟨Nat.le_refl 0, Nat.le_refl 0⟩ (Nat.le_of_ble_eq_true rfl) (cX5_settle hP hG hR) (fun rv9 S9 M18 h9 => ?_)
    obtain ⟨rfl, rfl, hs1, hs2, hs3⟩ := h9
    have hPM18 : zP M18 := zP_of hP fun r hr => hs3 r (by omega) (by omega)
    have hw9 : w = -1 ∨ (0 ≤ w ∧ w < 33) := by first | (left; assumption) | (right; exact zb_ne0.mp (by assumption))
    change zW _ _ _ _ _ 21 [(0, .inr (.inr 0)), (1, .inl w)] [.inl ((zset M 100 0 (M 11)).1)] M18
    refine z_istore_n (L' := [(0, .inr (.inr 0)), (1, .inl w), (2, .inl ((zset M 100 0 (M 11)).1))]) (zdec DX9_rounds 11 rfl) rfl rfl (by decide) ?_
    refine z_iload_n 1 (zdec DX9_rounds 12 rfl) rfl rfl ?_
    refine z_if_ge 30 (zdec DX9_rounds 13 rfl) rfl (fun h23 => ?_) (fun h23 => ?_)
    ·
      refine z_aload_n 0 (zdec DX9_rounds 16 rfl) rfl rfl (by decide) ?_
      refine z_getr (rw1 := -10) (ki := 3) (r' := 27) 0 9 (zdec DX9_rounds 17 rfl) rfl rfl shp0 rfl (by decide) rfl rfl fl_SixWalls_37 (zPa hPM18 3 rfl) ?_
      refine z_iload_n 1 (zdec DX9_rounds 18 rfl) rfl rfl ?_
      refine z_inv mX5_thickThen 27 5 [.inl w] (zdec DX9_rounds 19 rfl) ml_SixWalls_230 okX5_thickThen rfl shp27 rfl rfl rfl rfl (Nat.le_of_ble_eq_true rfl) (Nat.le_of_ble_eq_true rfl) (b' := (0, 0)) ⟨Nat.le_refl 0, Nat.le_refl 0⟩ (Nat.le_of_ble_eq_true rfl) (cX5_thickThen hPM18 w (by omega)) (fun rv9 S9 M35 h9 => ?_)
      obtain ⟨rfl, rfl, rfl⟩ := h9
      change zW _ _ _ _ _ 38 [(0, .inr (.inr 0)), (1, .inl w), (2, .inl ((zset M 100 0 (M 11)).1))] [.inl (M18 28 w)] M18
      exact z_iret (zdec DX9_rounds 20 rfl) rfl (⟨rfl, zri (by first | (rw [if_pos (by omega)]; done) | (rw [if_neg (by omega), if_pos (by omega)]; exact hs1 w (by omega) (by omega))), hs3⟩)
    ·
      refine z_iload_n 2 (zdec DX9_rounds 14 rfl) rfl rfl ?_
      refine z_goto 38 (zdec DX9_rounds 15 rfl) rfl ?_
      exact z_iret (zdec DX9_rounds 20 rfl) rfl (⟨rfl, zri (by first | (rw [if_pos (by omega)]; done) | (rw [if_neg (by omega), if_pos (by omega)]; exact hs1 w (by omega) (by omega))), hs3⟩)
  ·
    refine z_iload_n 1 (zdec DX9_rounds 3 rfl) rfl rfl ?_
    refine z_invs mX9_isWall [.inl w] (zdec DX9_rounds 4 rfl) (Or.inl ml_SixWalls_109) okX9_isWall rfl rfl (Nat.le_of_ble_eq_true rfl) (Nat.le_of_ble_eq_true rfl) (b' := (0, 0)) ⟨Nat.le_refl 0, Nat.le_refl 0⟩ (Nat.le_of_ble_eq_true rfl) (cX9_isWall w) (fun rv9 S9 M6 h9 => ?_)
    obtain ⟨rfl, rfl, rfl⟩ := h9
    change zW _ _ _ _ _ 9 [(0, .inr (.inr 0)), (1, .inl w)] [.inl (zb (0 ≤ w ∧ w < 33))] M
    refine z_if_ne 14 (zdec DX9_rounds 5 rfl) rfl (fun h9 => ?_) (fun h9 => ?_)
    ·
      refine z_aload_n 0 (zdec DX9_rounds 8 rfl) rfl rfl (by decide) ?_
      refine z_getr (rw1 := -10) (ki := 3) (r' := 27) 0 9 (zdec DX9_rounds 9 rfl) rfl rfl shp0 rfl (by decide) rfl rfl fl_SixWalls_37 (zPa hP 3 rfl) ?_
      refine z_inv mX5_settle 27 5 [] (zdec DX9_rounds 10 rfl) ml_SixWalls_227 okX5_settle rfl shp27 rfl rfl rfl rfl (Nat.le_of_ble_eq_true rfl) (Nat.le_of_ble_eq_true rfl) (b' := (0, 0)) ⟨Nat.le_refl 0, Nat.le_refl 0⟩ (Nat.le_of_ble_eq_true rfl) (cX5_settle hP hG hR) (fun rv9 S9 M18 h9 => ?_)
      obtain ⟨rfl, rfl, hs1, hs2, hs3⟩ := h9
      have hPM18 : zP M18 := zP_of hP fun r hr => hs3 r (by omega) (by omega)
      have hw9 : w = -1 ∨ (0 ≤ w ∧ w < 33) := by first | (left; assumption) | (right; exact zb_ne0.mp (by assumption))
      change zW _ _ _ _ _ 21 [(0, .inr (.inr 0)), (1, .inl w)] [.inl ((zset M 100 0 (M 11)).1)] M18
      refine z_istore_n (L' := [(0, .inr (.inr 0)), (1, .inl w), (2, .inl ((zset M 100 0 (M 11)).1))]) (zdec DX9_rounds 11 rfl) rfl rfl (by decide) ?_
      refine z_iload_n 1 (zdec DX9_rounds 12 rfl) rfl rfl ?_
      refine z_if_ge 30 (zdec DX9_rounds 13 rfl) rfl (fun h23 => ?_) (fun h23 => ?_)
      ·
        refine z_aload_n 0 (zdec DX9_rounds 16 rfl) rfl rfl (by decide) ?_
        refine z_getr (rw1 := -10) (ki := 3) (r' := 27) 0 9 (zdec DX9_rounds 17 rfl) rfl rfl shp0 rfl (by decide) rfl rfl fl_SixWalls_37 (zPa hPM18 3 rfl) ?_
        refine z_iload_n 1 (zdec DX9_rounds 18 rfl) rfl rfl ?_
        refine z_inv mX5_thickThen 27 5 [.inl w] (zdec DX9_rounds 19 rfl) ml_SixWalls_230 okX5_thickThen rfl shp27 rfl rfl rfl rfl (Nat.le_of_ble_eq_true rfl) (Nat.le_of_ble_eq_true rfl) (b' := (0, 0)) ⟨Nat.le_refl 0, Nat.le_refl 0⟩ (Nat.le_of_ble_eq_true rfl) (cX5_thickThen hPM18 w (by omega)) (fun rv9 S9 M35 h9 => ?_)
        obtain ⟨rfl, rfl, rfl⟩ := h9
        change zW _ _ _ _ _ 38 [(0, .inr (.inr 0)), (1, .inl w), (2, .inl ((zset M 100 0 (M 11)).1))] [.inl (M18 28 w)] M18
        exact z_iret (zdec DX9_rounds 20 rfl) rfl (⟨rfl, zri (by first | (rw [if_pos (by omega)]; done) | (rw [if_neg (by omega), if_pos (by omega)]; exact hs1 w (by omega) (by omega))), hs3⟩)
      ·
        refine z_iload_n 2 (zdec DX9_rounds 14 rfl) rfl rfl ?_
        refine z_goto 38 (zdec DX9_rounds 15 rfl) rfl ?_
        exact z_iret (zdec DX9_rounds 20 rfl) rfl (⟨rfl, zri (by first | (rw [if_pos (by omega)]; done) | (rw [if_neg (by omega), if_pos (by omega)]; exact hs1 w (by omega) (by omega))), hs3⟩)
    ·
      refine z_iconst (-1) (zdec DX9_rounds 6 rfl) (by decide) ?_
      exact z_iret (zdec DX9_rounds 7 rfl) rfl (⟨rfl, zri (by rw [zb_ne0] at h9; rw [if_neg (by omega), if_neg (by omega)]), fun c _ _ => rfl⟩)
set_option maxHeartbeats 4000000 in
theorem cX9_colours {M : zMm} (hP : zP M) (hG : zG M) (w : Int) : zW mX9_colours 5 (fun rv S' M' => S' = zS0 ∧ rv = some (.inl (if w = 0 then zclash (M 13) else if w = 1 then zclash (zcalmed (M 13) 33) else if w = 2 then zbitc (zpots (M 13) 33) else -1)) ∧ ∀ c : Int, c ≠ 30 → M' c = M c) (0, 0) zS0 0 (zargs 0 [.inr (.inr 0), .inl w]) [] M := by
  change zW _ _ _ _ _ 0 [(0, .inr (.inr 0)), (1, .inl w)] [] M
  refine z_iload_n 1 (zdec DX9_colours 0 rfl) rfl rfl ?_
  refine z_tsw (zdec DX9_colours 1 rfl) (by decide) (fun j off hj he => ?_) (fun hd => ?_)
  · match j, hj, he with
    | 0, hj, he =>
      cases hj
      refine ⟨28, rfl, ?_⟩
      have h1 : w = 0 := by simpa using he
      refine z_aload_n 0 (zdec DX9_colours 2 rfl) rfl rfl (by decide) ?_
      refine z_getr (rw1 := -10) (ki := 3) (r' := 27) 0 9 (zdec DX9_colours 3 rfl) rfl rfl shp0 rfl (by decide) rfl rfl fl_SixWalls_37 (zPa hP 3 rfl) ?_
      refine z_inv mX5_clashes 27 5 [] (zdec DX9_colours 4 rfl) ml_SixWalls_262 okX5_clashes rfl shp27 rfl rfl rfl rfl (Nat.le_of_ble_eq_true rfl) (Nat.le_of_ble_eq_true rfl) (b' := (0, 0)) ⟨Nat.le_refl 0, Nat.le_refl 0⟩ (Nat.le_of_ble_eq_true rfl) (cX5_clashes hP hG) (fun rv9 S9 M32 h9 => ?_)
      obtain ⟨rfl, rfl, rfl⟩ := h9
      change zW _ _ _ _ _ 35 [(0, .inr (.inr 0)), (1, .inl w)] [.inl (zclash (M 13))] M
      exact z_iret (zdec DX9_colours 5 rfl) rfl (⟨rfl, zri (by rw [if_pos h1]), fun _ _ => rfl⟩)
    | 1, hj, he =>
      cases hj
      refine ⟨36, rfl, ?_⟩
      have h1 : w = 1 := by simpa using he
      refine z_aload_n 0 (zdec DX9_colours 6 rfl) rfl rfl (by decide) ?_
      refine z_getr (rw1 := -10) (ki := 3) (r' := 27) 0 9 (zdec DX9_colours 7 rfl) rfl rfl shp0 rfl (by decide) rfl rfl fl_SixWalls_37 (zPa hP 3 rfl) ?_
      refine z_inv mX5_calmed 27 5 [] (zdec DX9_colours 8 rfl) ml_SixWalls_265 okX5_calmed rfl shp27 rfl rfl rfl rfl (Nat.le_of_ble_eq_true rfl) (Nat.le_of_ble_eq_true rfl) (b' := (0, 0)) ⟨Nat.le_refl 0, Nat.le_refl 0⟩ (Nat.le_of_ble_eq_true rfl) (cX5_calmed hP hG) (fun rv9 S9 M40 h9 => ?_)
      obtain ⟨rfl, rfl, hs⟩ := h9
      change zW _ _ _ _ _ 43 [(0, .inr (.inr 0)), (1, .inl w)] [.inl (zclash (zcalmed (M 13) 33))] M40
      exact z_iret (zdec DX9_colours 9 rfl) rfl (⟨rfl, zri (by rw [if_neg (by omega), if_pos h1]), hs⟩)
    | 2, hj, he =>
      cases hj
      refine ⟨44, rfl, ?_⟩
      have h1 : w = 2 := by simpa using he
      refine z_aload_n 0 (zdec DX9_colours 10 rfl) rfl rfl (by decide) ?_
      refine z_getr (rw1 := -10) (ki := 3) (r' := 27) 0 9 (zdec DX9_colours 11 rfl) rfl rfl shp0 rfl (by decide) rfl rfl fl_SixWalls_37 (zPa hP 3 rfl) ?_
      refine z_inv mX5_pots 27 5 [] (zdec DX9_colours 12 rfl) ml_SixWalls_268 okX5_pots rfl shp27 rfl rfl rfl rfl (Nat.le_of_ble_eq_true rfl) (Nat.le_of_ble_eq_true rfl) (b' := (0, 0)) ⟨Nat.le_refl 0, Nat.le_refl 0⟩ (Nat.le_of_ble_eq_true rfl) (cX5_pots hP hG) (fun rv9 S9 M48 h9 => ?_)
      obtain ⟨rfl, rfl, rfl⟩ := h9
      change zW _ _ _ _ _ 51 [(0, .inr (.inr 0)), (1, .inl w)] [.inl (zbitc (zpots (M 13) 33))] M
      exact z_iret (zdec DX9_colours 13 rfl) rfl (⟨rfl, zri (by rw [if_neg (by omega), if_neg (by omega), if_pos h1]), fun _ _ => rfl⟩)
    | j + 3, hj, he => exact absurd (List.getElem?_eq_some_iff.mp hj).1 (by simp)
  · refine ⟨52, rfl, ?_⟩
    refine z_iconst (-1) (zdec DX9_colours 14 rfl) (by decide) ?_
    exact z_iret (zdec DX9_colours 15 rfl) rfl (⟨rfl, zri (by rw [if_neg (by omega), if_neg (by omega), if_neg (by omega)]), fun _ _ => rfl⟩)
set_option maxHeartbeats 4000000 in
theorem cX9_paint {M : zMm} (hP : zP M) (hG : zG M) (w : Int) : zW mX9_paint 5 (fun rv S' M' => S' = zS0 ∧ M = M' ∧ rv = some (.inl (if 0 ≤ w ∧ w < 33 then zcalm (M 13) w else -1))) (0, 0) zS0 0 (zargs 0 [.inr (.inr 0), .inl w]) [] M := by
  change zW _ _ _ _ _ 0 [(0, .inr (.inr 0)), (1, .inl w)] [] M
  refine z_iload_n 1 (zdec DX9_paint 0 rfl) rfl rfl ?_
  refine z_invs mX9_isWall [.inl w] (zdec DX9_paint 1 rfl) (Or.inl ml_SixWalls_109) okX9_isWall rfl rfl (Nat.le_of_ble_eq_true rfl) (Nat.le_of_ble_eq_true rfl) (b' := (0, 0)) ⟨Nat.le_refl 0, Nat.le_refl 0⟩ (Nat.le_of_ble_eq_true rfl) (cX9_isWall w) (fun rv9 S9 M1 h9 => ?_)
  obtain ⟨rfl, rfl, rfl⟩ := h9
  change zW _ _ _ _ _ 4 [(0, .inr (.inr 0)), (1, .inl w)] [.inl (zb (0 ≤ w ∧ w < 33))] M
  refine z_if_eq 25 (zdec DX9_paint 2 rfl) rfl (fun h4 => ?_) (fun h4 => ?_)
  ·
    rw [zb_eq0] at h4
    refine z_iconst (-1) (zdec DX9_paint 11 rfl) (by decide) ?_
    exact z_iret (zdec DX9_paint 12 rfl) rfl (⟨rfl, rfl, zri (by rw [if_neg h4])⟩)
  ·
    rw [zb_eq0, Classical.not_not] at h4
    refine z_aload_n 0 (zdec DX9_paint 3 rfl) rfl rfl (by decide) ?_
    refine z_getr (rw1 := -10) (ki := 3) (r' := 27) 0 9 (zdec DX9_paint 4 rfl) rfl rfl shp0 rfl (by decide) rfl rfl fl_SixWalls_37 (zPa hP 3 rfl) ?_
    refine z_iload_n 1 (zdec DX9_paint 5 rfl) rfl rfl ?_
    refine z_aload_n 0 (zdec DX9_paint 6 rfl) rfl rfl (by decide) ?_
    refine z_getr (rw1 := -10) (ki := 0) (r' := 1) 0 9 (zdec DX9_paint 7 rfl) rfl rfl shp0 rfl (by decide) rfl rfl fl_SixWalls_10 (zPa hP 0 rfl) ?_
    refine z_getr (rw1 := -11) (ki := 11) (r' := 13) 1 1 (zdec DX9_paint 8 rfl) rfl rfl shp1 rfl (by decide) rfl rfl fl_SixWalls_148 (zPa hP 20 rfl) ?_
    refine z_inv mX5_calmest 27 5 [.inl w, .inr (.inr 13)] (zdec DX9_paint 9 rfl) ml_SixWalls_271 okX5_calmest rfl shp27 rfl rfl rfl rfl (Nat.le_of_ble_eq_true rfl) (Nat.le_of_ble_eq_true rfl) (b' := (0, 0)) ⟨Nat.le_refl 0, Nat.le_refl 0⟩ (Nat.le_of_ble_eq_true rfl) (cX5_calmest_13 hP hG w h4) (fun rv9 S9 M19 h9 => ?_)
    obtain ⟨rfl, rfl, rfl⟩ := h9
    change zW _ _ _ _ _ 22 [(0, .inr (.inr 0)), (1, .inl w)] [.inl (zcalm (M 13) w)] M
    refine z_goto 26 (zdec DX9_paint 10 rfl) rfl ?_
    exact z_iret (zdec DX9_paint 12 rfl) rfl (⟨rfl, rfl, zri (by rw [if_pos h4])⟩)
