/-! contracts: from and run of Cells, act of SixWalls -/
set_option maxHeartbeats 4000000 in
theorem lp_X0_from_6 {Q : zPost} (f : Nat) {M : zMm} {K self : Int} (hK : zKK M K self) (kind act x dep : Int) (ha : 0 ≤ act ∧ act < 4)  (hx47 : ∀ (k : Int), (k = zfk act 8 kind ∧ -1 ≤ k ∧ k < 8) → zW mX0_from (3 * f + 4) Q (0, 0) zS0 47 [(0, .inr (.inr 42)), (1, .inl kind), (2, .inl act), (3, .inl x), (4, .inl dep), (5, .inl k)] [] M) : ∀ (n : Nat) (k : Int) (n0 : Int), (8 - n0).toNat < n → (0 ≤ n0 ∧ n0 ≤ 8 ∧ (-1 ≤ k ∧ k < 8) ∧ zfk act 8 kind = zfk act (8 - n0).toNat k) → zW mX0_from (3 * f + 4) Q (0, 0) zS0 6 [(0, .inr (.inr 42)), (1, .inl kind), (2, .inl act), (3, .inl x), (4, .inl dep), (5, .inl k), (6, .inl n0)] [] M := by
  intro n
  induction n with
  | zero => intro k n0 hn; exact absurd hn (Nat.not_lt_zero _)
  | succ n ih =>
    intro k n0 hn hI
    obtain ⟨k1, k2, k3, k4, k5, k6, k7⟩ := id hK
    have k81 := k2.1
    have k82 := k2.2.1
    have hab := zabv_b k
    have hxa := k2.2.2.1 k
    have hxb := k2.2.2.2 (k * 4 + act)
    have hz : n0 < 8 → zfk act 8 kind = if 0 ≤ k ∧ zbod (k * 4 + act) = 0 then zfk act (8 - (n0 + 1)).toNat (zabv k) else k := fun h => by rw [hI.2.2.2, show (8 - n0).toNat = (8 - (n0 + 1)).toNat + 1 by omega, zfk_s]
    refine z_iload 6 (zdec DX0_from 4 rfl) rfl ?_
    refine z_gets (ri := -3) (zdec DX0_from 5 rfl) fl_SixWalls_Cells_28 (Or.inl ⟨rfl, rfl⟩) ?_
    refine z_slen (zdec DX0_from 6 rfl) (by decide) ?_
    refine z_icmp_ge 47 (zdec DX0_from 7 rfl) rfl (fun h12 => ?_) (fun h12 => ?_)
    ·
      refine z_weak (L' := [(0, .inr (.inr 42)), (1, .inl kind), (2, .inl act), (3, .inl x), (4, .inl dep), (5, .inl k)]) (by simp) ?_
      exact hx47 k (by refine ⟨?_, hI.2.2.1⟩; by_cases hn8 : n0 = 8; (rw [hI.2.2.2, hn8]; rfl); (rw [hz (by omega), if_neg]; intro e; first | omega | (rw [← hxb (by omega) (by omega)] at e; omega)))
    ·
      refine z_iload 5 (zdec DX0_from 8 rfl) rfl ?_
      refine z_if_lt 47 (zdec DX0_from 9 rfl) rfl (fun h17 => ?_) (fun h17 => ?_)
      ·
        refine z_weak (L' := [(0, .inr (.inr 42)), (1, .inl kind), (2, .inl act), (3, .inl x), (4, .inl dep), (5, .inl k)]) (by simp) ?_
        exact hx47 k (by refine ⟨?_, hI.2.2.1⟩; by_cases hn8 : n0 = 8; (rw [hI.2.2.2, hn8]; rfl); (rw [hz (by omega), if_neg]; intro e; first | omega | (rw [← hxb (by omega) (by omega)] at e; omega)))
      ·
        refine z_gets (ri := -4) (zdec DX0_from 10 rfl) fl_SixWalls_Cells_49 (Or.inr ⟨rfl, rfl⟩) ?_
        refine z_iload 5 (zdec DX0_from 11 rfl) rfl ?_
        refine z_iconst 4 (zdec DX0_from 12 rfl) (by decide) ?_
        refine z_imul (zdec DX0_from 13 rfl) (by unfold z32; omega) ?_
        refine z_iload_n 2 (zdec DX0_from 14 rfl) rfl rfl ?_
        refine z_iadd (zdec DX0_from 15 rfl) (by unfold z32; omega) ?_
        refine z_sald (zdec DX0_from 16 rfl) (by decide) (by omega) ?_
        refine z_if_ne 47 (zdec DX0_from 17 rfl) rfl (fun h30 => ?_) (fun h30 => ?_)
        ·
          refine z_weak (L' := [(0, .inr (.inr 42)), (1, .inl kind), (2, .inl act), (3, .inl x), (4, .inl dep), (5, .inl k)]) (by simp) ?_
          exact hx47 k (by refine ⟨?_, hI.2.2.1⟩; by_cases hn8 : n0 = 8; (rw [hI.2.2.2, hn8]; rfl); (rw [hz (by omega), if_neg]; intro e; first | omega | (rw [← hxb (by omega) (by omega)] at e; omega)))
        ·
          refine z_gets (ri := -3) (zdec DX0_from 18 rfl) fl_SixWalls_Cells_28 (Or.inl ⟨rfl, rfl⟩) ?_
          refine z_iload 5 (zdec DX0_from 19 rfl) rfl ?_
          refine z_sald (zdec DX0_from 20 rfl) (by decide) (by omega) ?_
          refine z_istore (L' := [(0, .inr (.inr 42)), (1, .inl kind), (2, .inl act), (3, .inl x), (4, .inl dep), (5, .inl (M (-3) k)), (6, .inl n0)]) (zdec DX0_from 21 rfl) rfl (by decide) ?_
          refine z_iinc (L' := [(0, .inr (.inr 42)), (1, .inl kind), (2, .inl act), (3, .inl x), (4, .inl dep), (5, .inl (M (-3) k)), (6, .inl (n0 + 1))]) 6 (zdec DX0_from 22 rfl) rfl (by unfold z32; omega) rfl (by decide) ?_
          refine z_goto 6 (zdec DX0_from 23 rfl) rfl ?_
          exact ih (M (-3) k) (n0 + 1) (by omega) ⟨by omega, by omega, (by rw [hxa (by omega) (by omega)]; omega), (by rw [hz (by omega), if_pos ⟨by omega, by rw [← hxb (by omega) (by omega)]; omega⟩, hxa (by omega) (by omega)])⟩
set_option maxHeartbeats 4000000 in
theorem cX0_from {K self : Int} (f : Nat) (hPf : ∀ (M : zMm) (b ab x dep : Int), zKK M K self → M 42 3 + 2 * zpw f ≤ 1000000 → -1 ≤ ab → ab < 8 → 0 ≤ dep → dep + f ≤ 40 → zcOP (zcO K f) K b ab = true → zW mX0_perform (3 * f + 3) (fun rv S' M' => S' = zS0 ∧ rv = some (.inl (zcP (zcF K self f) K self b ab x M).1) ∧ M' = (zcP (zcF K self f) K self b ab x M).2) (0, 0) zS0 0 (zargs 0 [.inr (.inr 42), .inl b, .inl ab, .inl x, .inl dep]) [] M) {M : zMm} (kind act x dep : Int) (hK : zKK M K self) (hb : M 42 3 + zpw (f + 1) ≤ 1000000) (hk : -1 ≤ kind ∧ kind < 8) (ha : 0 ≤ act ∧ act < 4) (hd : 0 ≤ dep) (hdf : dep + (f + 1) ≤ 40) (hok : zcO K (f + 1) kind act = true) : zW mX0_from (3 * f + 4) (fun rv S' M' => S' = zS0 ∧ rv = some (.inl (zcF K self (f + 1) kind act x M).1) ∧ M' = (zcF K self (f + 1) kind act x M).2) (0, 0) zS0 0 (zargs 0 [.inr (.inr 42), .inl kind, .inl act, .inl x, .inl dep]) [] M := by
  change zW _ _ _ _ _ 0 [(0, .inr (.inr 42)), (1, .inl kind), (2, .inl act), (3, .inl x), (4, .inl dep)] [] M
  obtain ⟨k1, k2, k3, k4, k5, k6, k7⟩ := id hK
  have hb2 : M 42 3 + (1 + 2 * zpw f) ≤ 1000000 := hb
  have hpw := zpw_0 f
  refine z_iload_n 1 (zdec DX0_from 0 rfl) rfl rfl ?_
  refine z_istore (L' := [(0, .inr (.inr 42)), (1, .inl kind), (2, .inl act), (3, .inl x), (4, .inl dep), (5, .inl kind)]) (zdec DX0_from 1 rfl) rfl (by decide) ?_
  refine z_iconst 0 (zdec DX0_from 2 rfl) (by decide) ?_
  refine z_istore (L' := [(0, .inr (.inr 42)), (1, .inl kind), (2, .inl act), (3, .inl x), (4, .inl dep), (5, .inl kind), (6, .inl 0)]) (zdec DX0_from 3 rfl) rfl (by decide) ?_
  refine lp_X0_from_6 f hK kind act x dep ha (hx47 := fun k hx => ?_) _ kind 0 (Nat.lt_succ_self _) ⟨by omega, by omega, hk, rfl⟩
  refine z_iload 5 (zdec DX0_from 24 rfl) rfl ?_
  refine z_if_lt 59 (zdec DX0_from 25 rfl) rfl (fun h49 => ?_) (fun h49 => ?_)
  ·
    refine z_iconst 0 (zdec DX0_from 29 rfl) (by decide) ?_
    exact z_iret (zdec DX0_from 30 rfl) rfl (by first | (exfalso; omega) | exact ⟨rfl, by show _ = some (Sum.inl (if zfk act 8 kind < 0 then ((0, M) : Int × zMm) else _).1); rw [if_pos (by omega)], by show _ = (if zfk act 8 kind < 0 then ((0, M) : Int × zMm) else _).2; rw [if_pos (by omega)]⟩)
  ·
    refine z_iload 4 (zdec DX0_from 26 rfl) rfl ?_
    refine z_bipush 40 (zdec DX0_from 27 rfl) (by decide) ?_
    refine z_icmp_lt 61 (zdec DX0_from 28 rfl) rfl (fun h56 => ?_) (fun h56 => ?_)
    ·
      have k81 := k2.1
      have k82 := k2.2.1
      obtain ⟨b, eb⟩ : ∃ b, b = zbod (k * 4 + act) := ⟨_, rfl⟩
      have hok2 : zcOP (zcO K f) K b (zabv k) = true := by have h : (if zfk act 8 kind < 0 then true else zcOP (zcO K f) K (zbod (zfk act 8 kind * 4 + act)) (zabv (zfk act 8 kind))) = true := hok; rw [← hx.1, if_neg (by omega), ← eb] at h; exact h
      have hzF : zcF K self (f + 1) kind act x M = zcP (zcF K self f) K self b (zabv k) x (ztr M b) := by show (if zfk act 8 kind < 0 then ((0, M) : Int × zMm) else _) = _; rw [← hx.1, if_neg (by omega), ← eb]
      have hab := zabv_b k
      refine z_gets (ri := -4) (zdec DX0_from 31 rfl) fl_SixWalls_Cells_49 (Or.inr ⟨rfl, rfl⟩) ?_
      refine z_iload 5 (zdec DX0_from 32 rfl) rfl ?_
      refine z_iconst 4 (zdec DX0_from 33 rfl) (by decide) ?_
      refine z_imul (zdec DX0_from 34 rfl) (by unfold z32; omega) ?_
      refine z_iload_n 2 (zdec DX0_from 35 rfl) rfl rfl ?_
      refine z_iadd (zdec DX0_from 36 rfl) (by unfold z32; omega) ?_
      refine z_sald (zdec DX0_from 37 rfl) (by decide) (by omega) ?_
      rw [k2.2.2.2 _ (by omega) (by omega), ← eb]
      refine z_istore (L' := [(0, .inr (.inr 42)), (1, .inl kind), (2, .inl act), (3, .inl x), (4, .inl dep), (5, .inl k), (6, .inl b)]) (zdec DX0_from 38 rfl) rfl (by decide) ?_
      refine z_aload_n 0 (zdec DX0_from 39 rfl) rfl rfl (by decide) ?_
      refine z_geti (ki := 3) 42 0 (zdec DX0_from 40 rfl) rfl shp42 rfl (by decide) rfl rfl fl_SixWalls_Cells_22 ?_
      refine z_bipush 24 (zdec DX0_from 41 rfl) (by decide) ?_
      refine z_icmp_ge 93 (zdec DX0_from 42 rfl) rfl (fun h79 => ?_) (fun h79 => ?_)
      ·
        refine z_aload_n 0 (zdec DX0_from 49 rfl) rfl rfl (by decide) ?_
        refine z_dup (zdec DX0_from 50 rfl) rfl ?_
        refine z_geti (ki := 3) 42 0 (zdec DX0_from 51 rfl) rfl shp42 rfl (by decide) rfl rfl fl_SixWalls_Cells_22 ?_
        refine z_iconst 1 (zdec DX0_from 52 rfl) (by decide) ?_
        refine z_iadd (zdec DX0_from 53 rfl) (by unfold z32; omega) ?_
        refine z_puti (ki := 3) 42 0 (zdec DX0_from 54 rfl) rfl shp42 rfl (by decide) rfl rfl fl_SixWalls_Cells_22 (Or.inl rfl) ?_
        have em : (zup M 42 3 ((M 42 3) + 1)) = ztr M b := by unfold ztr; first | rw [if_pos (by omega)] | rw [if_neg (by omega)]
        have ht := hK.tr b
        refine z_aload_n 0 (zdec DX0_from 55 rfl) rfl rfl (by decide) ?_
        refine z_iload 6 (zdec DX0_from 56 rfl) rfl ?_
        refine z_gets (ri := -3) (zdec DX0_from 57 rfl) fl_SixWalls_Cells_28 (Or.inl ⟨rfl, rfl⟩) ?_
        refine z_iload 5 (zdec DX0_from 58 rfl) rfl ?_
        refine z_sald (zdec DX0_from 59 rfl) (by decide) (by refine ⟨by omega, ?_⟩; (repeat rw [zup_row (by decide)]); omega) ?_
        rw [show (zup M 42 3 ((M 42 3) + 1)) (-3) k = M (-3) k from by simp [zup, zcpy]]
        rw [k2.2.2.1 k (by omega) (by omega)]
        refine z_iload_n 3 (zdec DX0_from 60 rfl) rfl rfl ?_
        refine z_iload 4 (zdec DX0_from 61 rfl) rfl ?_
        refine z_iconst 1 (zdec DX0_from 62 rfl) (by decide) ?_
        refine z_iadd (zdec DX0_from 63 rfl) (by unfold z32; omega) ?_
        refine z_inv mX0_perform 42 0 [.inl b, .inl (zabv k), .inl x, .inl (dep + 1)] (zdec DX0_from 64 rfl) ml_SixWalls_Cells_52 okX0_perform rfl shp42 rfl rfl rfl rfl (Nat.le_of_ble_eq_true rfl) (by omega) (b' := (0, 0)) ⟨Nat.le_refl 0, Nat.le_refl 0⟩ (Nat.le_of_ble_eq_true rfl) (hPf (zup M 42 3 ((M 42 3) + 1)) b (zabv k) x (dep + 1) (by rw [em]; exact ht.1) (by rw [em, ht.2]; omega) (by omega) (by omega) (by omega) (by omega) hok2) (fun rv9 S9 M117 h9 => ?_)
        obtain ⟨rfl, rfl, e117⟩ := h9
        rw [em] at e117
        rw [em]
        change zW _ _ _ _ _ 120 [(0, .inr (.inr 42)), (1, .inl kind), (2, .inl act), (3, .inl x), (4, .inl dep), (5, .inl k), (6, .inl b)] [.inl ((zcP (zcF K self f) K self b (zabv k) x (ztr M b)).1)] M117
        exact z_iret (zdec DX0_from 65 rfl) rfl (⟨rfl, by rw [hzF], by rw [hzF]; exact e117⟩)
      ·
        refine z_aload_n 0 (zdec DX0_from 43 rfl) rfl rfl (by decide) ?_
        refine z_getr (rw1 := -52) (ki := 2) (r' := 44) 42 0 (zdec DX0_from 44 rfl) rfl rfl shp42 rfl (by decide) rfl rfl fl_SixWalls_Cells_19 (zPa hK.1 46 rfl) ?_
        refine z_aload_n 0 (zdec DX0_from 45 rfl) rfl rfl (by decide) ?_
        refine z_geti (ki := 3) 42 0 (zdec DX0_from 46 rfl) rfl shp42 rfl (by decide) rfl rfl fl_SixWalls_Cells_22 ?_
        refine z_iload 6 (zdec DX0_from 47 rfl) rfl ?_
        refine z_iast 44 (zdec DX0_from 48 rfl) rfl shp44 ⟨by omega, by omega⟩ ?_
        refine z_aload_n 0 (zdec DX0_from 49 rfl) rfl rfl (by decide) ?_
        refine z_dup (zdec DX0_from 50 rfl) rfl ?_
        refine z_geti (ki := 3) 42 0 (zdec DX0_from 51 rfl) rfl shp42 rfl (by decide) rfl rfl fl_SixWalls_Cells_22 ?_
        rw [show (zup M 44 (M 42 3) b) 42 3 = M 42 3 from by simp [zup, zcpy]]
        refine z_iconst 1 (zdec DX0_from 52 rfl) (by decide) ?_
        refine z_iadd (zdec DX0_from 53 rfl) (by unfold z32; omega) ?_
        refine z_puti (ki := 3) 42 0 (zdec DX0_from 54 rfl) rfl shp42 rfl (by decide) rfl rfl fl_SixWalls_Cells_22 (Or.inl rfl) ?_
        have em : (zup (zup M 44 (M 42 3) b) 42 3 ((M 42 3) + 1)) = ztr M b := by unfold ztr; first | rw [if_pos (by omega)] | rw [if_neg (by omega)]
        have ht := hK.tr b
        refine z_aload_n 0 (zdec DX0_from 55 rfl) rfl rfl (by decide) ?_
        refine z_iload 6 (zdec DX0_from 56 rfl) rfl ?_
        refine z_gets (ri := -3) (zdec DX0_from 57 rfl) fl_SixWalls_Cells_28 (Or.inl ⟨rfl, rfl⟩) ?_
        refine z_iload 5 (zdec DX0_from 58 rfl) rfl ?_
        refine z_sald (zdec DX0_from 59 rfl) (by decide) (by refine ⟨by omega, ?_⟩; (repeat rw [zup_row (by decide)]); omega) ?_
        rw [show (zup (zup M 44 (M 42 3) b) 42 3 ((M 42 3) + 1)) (-3) k = M (-3) k from by simp [zup, zcpy]]
        rw [k2.2.2.1 k (by omega) (by omega)]
        refine z_iload_n 3 (zdec DX0_from 60 rfl) rfl rfl ?_
        refine z_iload 4 (zdec DX0_from 61 rfl) rfl ?_
        refine z_iconst 1 (zdec DX0_from 62 rfl) (by decide) ?_
        refine z_iadd (zdec DX0_from 63 rfl) (by unfold z32; omega) ?_
        refine z_inv mX0_perform 42 0 [.inl b, .inl (zabv k), .inl x, .inl (dep + 1)] (zdec DX0_from 64 rfl) ml_SixWalls_Cells_52 okX0_perform rfl shp42 rfl rfl rfl rfl (Nat.le_of_ble_eq_true rfl) (by omega) (b' := (0, 0)) ⟨Nat.le_refl 0, Nat.le_refl 0⟩ (Nat.le_of_ble_eq_true rfl) (hPf (zup (zup M 44 (M 42 3) b) 42 3 ((M 42 3) + 1)) b (zabv k) x (dep + 1) (by rw [em]; exact ht.1) (by rw [em, ht.2]; omega) (by omega) (by omega) (by omega) (by omega) hok2) (fun rv9 S9 M117 h9 => ?_)
        obtain ⟨rfl, rfl, e117⟩ := h9
        rw [em] at e117
        rw [em]
        change zW _ _ _ _ _ 120 [(0, .inr (.inr 42)), (1, .inl kind), (2, .inl act), (3, .inl x), (4, .inl dep), (5, .inl k), (6, .inl b)] [.inl ((zcP (zcF K self f) K self b (zabv k) x (ztr M b)).1)] M117
        exact z_iret (zdec DX0_from 65 rfl) rfl (⟨rfl, by rw [hzF], by rw [hzF]; exact e117⟩)
    ·
      refine z_iconst 0 (zdec DX0_from 29 rfl) (by decide) ?_
      exact z_iret (zdec DX0_from 30 rfl) rfl (by first | (exfalso; omega) | exact ⟨rfl, by show _ = some (Sum.inl (if zfk act 8 kind < 0 then ((0, M) : Int × zMm) else _).1); rw [if_pos (by omega)], by show _ = (if zfk act 8 kind < 0 then ((0, M) : Int × zMm) else _).2; rw [if_pos (by omega)]⟩)
theorem cX0_all {K self : Int} : ∀ f : Nat, ∀ (M : zMm) (kind act x dep : Int), zKK M K self → M 42 3 + zpw f ≤ 1000000 → -1 ≤ kind → kind < 8 → 0 ≤ act → act < 4 → 0 ≤ dep → dep + f ≤ 40 → zcO K f kind act = true → zW mX0_from (3 * f + 1) (fun rv S' M' => S' = zS0 ∧ rv = some (.inl (zcF K self f kind act x M).1) ∧ M' = (zcF K self f kind act x M).2) (0, 0) zS0 0 (zargs 0 [.inr (.inr 42), .inl kind, .inl act, .inl x, .inl dep]) [] M := by
  intro f
  induction f with
  | zero => exact fun M kind act x dep _ _ _ _ _ _ _ _ hok => absurd hok Bool.false_ne_true
  | succ f ih =>
    intro M kind act x dep hK hb h1 h2 h3 h4 hd hdf hok
    exact cX0_from f (fun M b ab x dep hK hb h1 h2 hd hdf hok => cX0_perform f ih (fun M act x dep hK hb h1 h2 hd hdf hok => cX0_own f ih act x dep hK hb ⟨h1, h2⟩ hd hdf hok) b ab x dep hK hb ⟨h1, h2⟩ hd hdf hok) kind act x dep hK hb ⟨h1, h2⟩ ⟨h3, h4⟩ hd (by omega) hok
theorem zcO_10 {K act : Int} (h0 : 0 ≤ K) (h1 : K < 8) (h2 : 0 ≤ act) (h3 : act < 4) : zcO K 10 K act = true := by
  have h := zcO_all ⟨K.toNat, by omega⟩ ⟨K.toNat, by omega⟩ ⟨act.toNat, by omega⟩
  dsimp only at h
  rw [show ((K.toNat : Nat) : Int) = K by omega, show ((act.toNat : Nat) : Int) = act by omega] at h
  exact h
def zrun0 (M : zMm) (b : Int) : zMm := zup (zup M 42 3 0) 42 4 b
theorem zrun0_K {M : zMm} {b : Int} (hP : zP M) (hC : zCe M) (hX : zSx M) (hb : 0 ≤ b ∧ b < M 42 1) : zKK (zrun0 M b) (M 43 b) b := by
  have hc := hC.1
  have hk := hC.2.2 b hb.1 (by omega)
  unfold zrun0
  refine ⟨zP_up (zP_up hP (by decide)) (by decide), ⟨?_, ?_, ?_, ?_⟩, zup_self _ _ _ _, ?_, ⟨hb.1, by omega⟩, ?_, hk⟩
  · rw [zup_row (by decide), zup_row (by decide)]; exact hX.1
  · rw [zup_row (by decide), zup_row (by decide)]; exact hX.2.1
  · rw [zup_row (by decide), zup_row (by decide)]; exact hX.2.2.1
  · rw [zup_row (by decide), zup_row (by decide)]; exact hX.2.2.2
  · rw [zup_row (by decide), zup_row (by decide)]
  · rw [zup_42 (by decide), zup_self]; omega
set_option maxHeartbeats 4000000 in
theorem cX0_run {M : zMm} (hP : zP M) (hC : zCe M) (hX : zSx M) (b a x : Int) : zW mX0_run 32 (fun rv S' M' => S' = zS0 ∧ ((¬ ((0 ≤ b ∧ b < M 42 1) ∧ 0 ≤ a ∧ a < 4) ∧ rv = some (.inl 0) ∧ M' = zup M 42 3 0) ∨ (((0 ≤ b ∧ b < M 42 1) ∧ 0 ≤ a ∧ a < 4) ∧ rv = some (.inl (zcF (M 43 b) b 10 (M 43 b) a x (zrun0 M b)).1) ∧ M' = (zcF (M 43 b) b 10 (M 43 b) a x (zrun0 M b)).2))) (0, 0) zS0 0 (zargs 0 [.inr (.inr 42), .inl b, .inl a, .inl x]) [] M := by
  change zW _ _ _ _ _ 0 [(0, .inr (.inr 42)), (1, .inl b), (2, .inl a), (3, .inl x)] [] M
  have hc1 := hC.1
  refine z_aload_n 0 (zdec DX0_run 0 rfl) rfl rfl (by decide) ?_
  refine z_iconst 0 (zdec DX0_run 1 rfl) (by decide) ?_
  refine z_puti (ki := 3) 42 0 (zdec DX0_run 2 rfl) rfl shp42 rfl (by decide) rfl rfl fl_SixWalls_Cells_22 (Or.inl rfl) ?_
  refine z_aload_n 0 (zdec DX0_run 3 rfl) rfl rfl (by decide) ?_
  refine z_iload_n 1 (zdec DX0_run 4 rfl) rfl rfl ?_
  refine z_inv mX0_isBody 42 0 [.inl b] (zdec DX0_run 5 rfl) ml_SixWalls_Cells_31 okX0_isBody rfl shp42 rfl rfl rfl rfl (Nat.le_of_ble_eq_true rfl) (Nat.le_of_ble_eq_true rfl) (b' := (0, 0)) ⟨Nat.le_refl 0, Nat.le_refl 0⟩ (Nat.le_of_ble_eq_true rfl) (cX0_isBody (zP_up hP (by decide)) b) (fun rv9 S9 M7 h9 => ?_)
  obtain ⟨rfl, rfl, rfl⟩ := h9
  change zW _ _ _ _ _ 10 [(0, .inr (.inr 42)), (1, .inl b), (2, .inl a), (3, .inl x)] [.inl (zb (0 ≤ b ∧ b < M 42 1))] (zup M 42 3 0)
  refine z_if_eq 22 (zdec DX0_run 6 rfl) rfl (fun h10 => ?_) (fun h10 => ?_)
  ·
    have hq10 := zb_eq0.mp h10
    refine z_iconst 0 (zdec DX0_run 12 rfl) (by decide) ?_
    exact z_iret (zdec DX0_run 13 rfl) rfl (⟨rfl, Or.inl ⟨by omega, rfl, rfl⟩⟩)
  ·
    have hq10 := zb_ne0.mp h10
    have hkk := hC.2.2 b hq10.1 (by omega)
    refine z_iload_n 2 (zdec DX0_run 7 rfl) rfl rfl ?_
    refine z_if_lt 22 (zdec DX0_run 8 rfl) rfl (fun h14 => ?_) (fun h14 => ?_)
    ·
      refine z_iconst 0 (zdec DX0_run 12 rfl) (by decide) ?_
      exact z_iret (zdec DX0_run 13 rfl) rfl (⟨rfl, Or.inl ⟨by omega, rfl, rfl⟩⟩)
    ·
      refine z_iload_n 2 (zdec DX0_run 9 rfl) rfl rfl ?_
      refine z_iconst 4 (zdec DX0_run 10 rfl) (by decide) ?_
      refine z_icmp_lt 24 (zdec DX0_run 11 rfl) rfl (fun h19 => ?_) (fun h19 => ?_)
      ·
        refine z_aload_n 0 (zdec DX0_run 14 rfl) rfl rfl (by decide) ?_
        refine z_iload_n 1 (zdec DX0_run 15 rfl) rfl rfl ?_
        refine z_puti (ki := 4) 42 0 (zdec DX0_run 16 rfl) rfl shp42 rfl (by decide) rfl rfl fl_SixWalls_Cells_25 (Or.inl rfl) ?_
        refine z_aload_n 0 (zdec DX0_run 17 rfl) rfl rfl (by decide) ?_
        refine z_aload_n 0 (zdec DX0_run 18 rfl) rfl rfl (by decide) ?_
        refine z_getr (rw1 := -52) (ki := 0) (r' := 43) 42 0 (zdec DX0_run 19 rfl) rfl rfl shp42 rfl (by decide) rfl rfl fl_SixWalls_Cells_11 (zPa (zP_up (zP_up hP (by decide)) (by decide)) 45 rfl) ?_
        refine z_iload_n 1 (zdec DX0_run 20 rfl) rfl rfl ?_
        refine z_iald 43 (zdec DX0_run 21 rfl) rfl shp43 ⟨by omega, by omega⟩ ?_
        rw [show (zup (zup M 42 3 0) 42 4 b) 43 b = M 43 b from by simp [zup, zcpy]]
        refine z_iload_n 2 (zdec DX0_run 22 rfl) rfl rfl ?_
        refine z_iload_n 3 (zdec DX0_run 23 rfl) rfl rfl ?_
        refine z_iconst 0 (zdec DX0_run 24 rfl) (by decide) ?_
        refine z_inv mX0_from 42 0 [.inl (M 43 b), .inl a, .inl x, .inl 0] (zdec DX0_run 25 rfl) ml_SixWalls_Cells_45 okX0_from rfl shp42 rfl rfl rfl rfl (Nat.le_of_ble_eq_true rfl) (Nat.le_of_ble_eq_true rfl) (b' := (0, 0)) ⟨Nat.le_refl 0, Nat.le_refl 0⟩ (Nat.le_of_ble_eq_true rfl) (cX0_all 10 (zrun0 M b) (M 43 b) a x 0 (zrun0_K hP hC hX hq10) (by unfold zrun0; rw [zup_42 (by decide), zup_self]; decide) (by omega) (by omega) (by omega) (by omega) (by omega) (by omega) (zcO_10 hkk.1 hkk.2 (by omega) (by omega))) (fun rv9 S9 M39 h9 => ?_)
        obtain ⟨rfl, rfl, e39⟩ := h9
        change zW _ _ _ _ _ 42 [(0, .inr (.inr 42)), (1, .inl b), (2, .inl a), (3, .inl x)] [.inl ((zcF (M 43 b) b 10 (M 43 b) a x (zrun0 M b)).1)] M39
        exact z_iret (zdec DX0_run 26 rfl) rfl (⟨rfl, Or.inr ⟨⟨hq10, by omega⟩, rfl, e39⟩⟩)
      ·
        refine z_iconst 0 (zdec DX0_run 12 rfl) (by decide) ?_
        exact z_iret (zdec DX0_run 13 rfl) rfl (⟨rfl, Or.inl ⟨by omega, rfl, rfl⟩⟩)
set_option maxHeartbeats 4000000 in
theorem cX9_act {M : zMm} (hP : zP M) (hC : zCe M) (hX : zSx M) (b a x : Int) : zW mX9_act 33 (fun rv S' M' => S' = zS0 ∧ ((¬ ((0 ≤ b ∧ b < M 42 1) ∧ 0 ≤ a ∧ a < 4) ∧ rv = some (.inl 0) ∧ M' = zup M 42 3 0) ∨ (((0 ≤ b ∧ b < M 42 1) ∧ 0 ≤ a ∧ a < 4) ∧ rv = some (.inl (zcF (M 43 b) b 10 (M 43 b) a x (zrun0 M b)).1) ∧ M' = (zcF (M 43 b) b 10 (M 43 b) a x (zrun0 M b)).2))) (0, 0) zS0 0 (zargs 0 [.inr (.inr 0), .inl b, .inl a, .inl x]) [] M := by
  change zW _ _ _ _ _ 0 [(0, .inr (.inr 0)), (1, .inl b), (2, .inl a), (3, .inl x)] [] M
  refine z_aload_n 0 (zdec DX9_act 0 rfl) rfl rfl (by decide) ?_
  refine z_getr (rw1 := -10) (ki := 7) (r' := 42) 0 9 (zdec DX9_act 1 rfl) rfl rfl shp0 rfl (by decide) rfl rfl fl_SixWalls_65 (zPa hP 7 rfl) ?_
  refine z_iload_n 1 (zdec DX9_act 2 rfl) rfl rfl ?_
  refine z_iload_n 2 (zdec DX9_act 3 rfl) rfl rfl ?_
  refine z_iload_n 3 (zdec DX9_act 4 rfl) rfl rfl ?_
  refine z_inv mX0_run 42 0 [.inl b, .inl a, .inl x] (zdec DX9_act 5 rfl) ml_SixWalls_303 okX0_run rfl shp42 rfl rfl rfl rfl (Nat.le_of_ble_eq_true rfl) (Nat.le_of_ble_eq_true rfl) (b' := (0, 0)) ⟨Nat.le_refl 0, Nat.le_refl 0⟩ (Nat.le_of_ble_eq_true rfl) (cX0_run hP hC hX b a x) (fun rv9 S9 M7 h9 => ?_)
  obtain ⟨rfl, h7⟩ := h9
  obtain ⟨r7, rfl⟩ : ∃ r, rv9 = some (.inl r) := by rcases h7 with h | h <;> exact ⟨_, h.2.1⟩
  change zW _ _ _ _ _ 10 [(0, .inr (.inr 0)), (1, .inl b), (2, .inl a), (3, .inl x)] [.inl r7] M7
  exact z_iret (zdec DX9_act 6 rfl) rfl (⟨rfl, h7⟩)
