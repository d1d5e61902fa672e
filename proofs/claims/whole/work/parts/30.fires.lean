/-! contract: fires of SixWalls -/
def zfiO (M : zMm) (s j : Int) : Prop := (0 ≤ j ∧ j < M 48 s) ∧ 0 ≤ M (50 + s) j ∧ M (50 + s) j ≤ 9
def zfiM (M : zMm) (s i h n : Int) : zMm := zfo (fun M2 k => zup M2 8 (h + k) (M (50 + s) (i + k))) M n
theorem zfiM_o {M : zMm} {s i h : Int} : ∀ n : Nat, zonly 8 M (zfold (fun M2 k => zup M2 8 (h + k) (M (50 + s) (i + k))) M n) := by
  intro n
  induction n with
  | zero => exact zonly.rf
  | succ n ih => exact ih.up
set_option maxHeartbeats 4000000 in
theorem lp_X9_fires_80 {Q : zPost} {M : zMm} (hP : zP M) (hv : zSv M) (s i h m : Int) (hi : z32 i) (hs : 0 ≤ s ∧ s < 6) (hh : 0 ≤ h ∧ h < 16) (hm : m ≤ 16 - h)  (hx163 : ∀ (c : Int) (M2 : zMm), (0 ≤ c ∧ (c ≤ m ∨ c = 0) ∧ (∀ k : Int, 0 ≤ k → k < c → zfiO M s (i + k)) ∧ (m ≤ c ∨ ¬ zfiO M s (i + c)) ∧ M2 = zfiM M s i h c) → zW mX9_fires 3 Q (0, 0) zS0 163 [(6, .inl c)] [] M2) : ∀ (n : Nat) (c : Int) (k : Int) (M2 : zMm), (m - k).toNat < n → (0 ≤ k ∧ (k ≤ m ∨ k = 0) ∧ c = k ∧ (∀ j : Int, 0 ≤ j → j < k → zfiO M s (i + j)) ∧ M2 = zfiM M s i h k ∧ zonly 8 M M2 ∧ (k = 0 ∨ (0 ≤ i + (k - 1) ∧ i + (k - 1) < 60))) → zW mX9_fires 3 Q (0, 0) zS0 80 [(0, .inr (.inr 0)), (1, .inl s), (2, .inl i), (4, .inl h), (5, .inl m), (6, .inl c), (7, .inl k)] [] M2 := by
  intro n
  induction n with
  | zero => intro c k M2 hn; exact absurd hn (Nat.not_lt_zero _)
  | succ n ih =>
    intro c k M2 hn hI
    have hv1 := hv s hs.1 hs.2
    have e48 : M2 48 = M 48 := hI.2.2.2.2.2.1 48 (by decide)
    have er : M2 (50 + s) = M (50 + s) := hI.2.2.2.2.2.1 (50 + s) (by omega)
    have e48s : M2 48 s = M 48 s := by rw [e48]
    unfold z32 at hi
    have hmm : (if 16 - h / 100 < h % 100 then 16 - h / 100 else h % 100) ≤ 16 - h / 100 := by split <;> omega
    refine z_iload 6 (zdec DX9_fires 44 rfl) rfl ?_
    refine z_iload 4 (zdec DX9_fires 45 rfl) rfl ?_
    refine z_icmp_ge 163 (zdec DX9_fires 46 rfl) rfl (fun h84 => ?_) (fun h84 => ?_)
    ·
      refine z_weak (L' := [(6, .inl c)]) (by simp) ?_
      exact hx163 c M2 (by have ec : c = k := hI.2.2.1; subst ec; exact ⟨hI.1, hI.2.1, hI.2.2.2.1, (by first | exact Or.inl (by omega) | (refine Or.inr (fun e => ?_); unfold zfiO at e; rw [← er, ← e48] at e; omega)), hI.2.2.2.2.1⟩)
    ·
      refine z_aload_n 0 (zdec DX9_fires 47 rfl) rfl rfl (by decide) ?_
      refine z_getr (rw1 := -10) (ki := 8) (r' := 45) 0 9 (zdec DX9_fires 48 rfl) rfl rfl shp0 rfl (by decide) rfl rfl fl_SixWalls_72 (zPa (hI.2.2.2.2.2.1.P (by decide) hP) 8 rfl) ?_
      refine z_iload_n 1 (zdec DX9_fires 49 rfl) rfl rfl ?_
      refine z_iload_n 2 (zdec DX9_fires 50 rfl) rfl rfl ?_
      refine z_iload 6 (zdec DX9_fires 51 rfl) rfl ?_
      refine z_iadd (zdec DX9_fires 52 rfl) (by unfold z32; omega) ?_
      refine z_inv mX6_hasPlace 45 6 [.inl s, .inl (i + k)] (zdec DX9_fires 53 rfl) ml_SixWalls_174 okX6_hasPlace rfl shp45 rfl rfl rfl rfl (Nat.le_of_ble_eq_true rfl) (Nat.le_of_ble_eq_true rfl) (b' := (0, 0)) ⟨Nat.le_refl 0, Nat.le_refl 0⟩ (Nat.le_of_ble_eq_true rfl) (cX6_hasPlace (hI.2.2.2.2.2.1.P (by decide) hP) s (i + k) hs) (fun rv9 S9 M96 h9 => ?_)
      obtain ⟨rfl, rfl, rfl⟩ := h9
      change zW _ _ _ _ _ 99 [(0, .inr (.inr 0)), (1, .inl s), (2, .inl i), (4, .inl h), (5, .inl m), (6, .inl c), (7, .inl k)] [.inl (zb (0 ≤ (i + k) ∧ (i + k) < M2 48 s))] M2
      refine z_if_ne 105 (zdec DX9_fires 54 rfl) rfl (fun h99 => ?_) (fun h99 => ?_)
      ·
        have hq99 := zb_ne0.mp h99
        refine z_aload_n 0 (zdec DX9_fires 56 rfl) rfl rfl (by decide) ?_
        refine z_getr (rw1 := -10) (ki := 8) (r' := 45) 0 9 (zdec DX9_fires 57 rfl) rfl rfl shp0 rfl (by decide) rfl rfl fl_SixWalls_72 (zPa (hI.2.2.2.2.2.1.P (by decide) hP) 8 rfl) ?_
        refine z_iload_n 1 (zdec DX9_fires 58 rfl) rfl rfl ?_
        refine z_iload_n 2 (zdec DX9_fires 59 rfl) rfl rfl ?_
        refine z_iload 6 (zdec DX9_fires 60 rfl) rfl ?_
        refine z_iadd (zdec DX9_fires 61 rfl) (by unfold z32; omega) ?_
        refine z_inv mX6_at 45 6 [.inl s, .inl (i + k)] (zdec DX9_fires 62 rfl) ml_SixWalls_178 okX6_at rfl shp45 rfl rfl rfl rfl (Nat.le_of_ble_eq_true rfl) (Nat.le_of_ble_eq_true rfl) (b' := (0, 0)) ⟨Nat.le_refl 0, Nat.le_refl 0⟩ (Nat.le_of_ble_eq_true rfl) (cX6_at (hI.2.2.2.2.2.1.P (by decide) hP) s (i + k) hs ⟨by omega, by omega⟩) (fun rv9 S9 M114 h9 => ?_)
        obtain ⟨rfl, rfl, rfl⟩ := h9
        change zW _ _ _ _ _ 117 [(0, .inr (.inr 0)), (1, .inl s), (2, .inl i), (4, .inl h), (5, .inl m), (6, .inl c), (7, .inl k)] [.inr (.inl (M2 (50 + s) (i + k)))] M2
        refine z_lstore (L' := [(0, .inr (.inr 0)), (1, .inl s), (2, .inl i), (4, .inl h), (5, .inl m), (6, .inl c), (7, .inl k), (8, .inr (.inl (M2 (50 + s) (i + k))))]) (zdec DX9_fires 63 rfl) rfl (by decide) ?_
        refine z_lload 7 (zdec DX9_fires 64 rfl) rfl ?_
        refine z_lconst 0 (zdec DX9_fires 65 rfl) rfl ?_
        refine z_lcmp (zdec DX9_fires 66 rfl) ?_
        refine z_if_lt 163 (zdec DX9_fires 67 rfl) rfl (fun h123 => ?_) (fun h123 => ?_)
        ·
          have hc123 : M2 (50 + s) (i + k) < 0 := by unfold zcmp at h123; (repeat split at h123) <;> omega
          refine z_weak (L' := [(6, .inl c)]) (by simp) ?_
          exact hx163 c M2 (by have ec : c = k := hI.2.2.1; subst ec; exact ⟨hI.1, hI.2.1, hI.2.2.2.1, (by first | exact Or.inl (by omega) | (refine Or.inr (fun e => ?_); unfold zfiO at e; rw [← er, ← e48] at e; omega)), hI.2.2.2.2.1⟩)
        ·
          have hc123 : 0 ≤ M2 (50 + s) (i + k) := by unfold zcmp at h123; (repeat split at h123) <;> omega
          refine z_lload 7 (zdec DX9_fires 68 rfl) rfl ?_
          refine z_ldc2 9 (zdec DX9_fires 69 rfl) kl_SixWalls_182 rfl ⟨by decide, by decide⟩ ?_
          refine z_lcmp (zdec DX9_fires 70 rfl) ?_
          refine z_if_le 138 (zdec DX9_fires 71 rfl) rfl (fun h132 => ?_) (fun h132 => ?_)
          ·
            have hc132 : M2 (50 + s) (i + k) ≤ 9 := by unfold zcmp at h132; (repeat split at h132) <;> omega
            refine z_aload_n 0 (zdec DX9_fires 73 rfl) rfl rfl (by decide) ?_
            refine z_getr (rw1 := -10) (ki := 0) (r' := 1) 0 9 (zdec DX9_fires 74 rfl) rfl rfl shp0 rfl (by decide) rfl rfl fl_SixWalls_10 (zPa (hI.2.2.2.2.2.1.P (by decide) hP) 0 rfl) ?_
            refine z_getr (rw1 := -11) (ki := 6) (r' := 8) 1 1 (zdec DX9_fires 75 rfl) rfl rfl shp1 rfl (by decide) rfl rfl fl_SixWalls_122 (zPa (hI.2.2.2.2.2.1.P (by decide) hP) 15 rfl) ?_
            refine z_iload 3 (zdec DX9_fires 76 rfl) rfl ?_
            refine z_iload 6 (zdec DX9_fires 77 rfl) rfl ?_
            refine z_iadd (zdec DX9_fires 78 rfl) (by unfold z32; omega) ?_
            refine z_lload 7 (zdec DX9_fires 79 rfl) rfl ?_
            refine z_l2i (zdec DX9_fires 80 rfl) ?_
            rw [show zw (M2 (50 + s) (i + k)) = M2 (50 + s) (i + k) by unfold zw; omega]
            refine z_iast 8 (zdec DX9_fires 81 rfl) rfl shp8 ⟨by omega, by omega⟩ ?_
            refine z_iinc (L' := [(0, .inr (.inr 0)), (1, .inl s), (2, .inl i), (4, .inl h), (5, .inl m), (6, .inl (c + 1)), (7, .inl k), (8, .inr (.inl (M2 (50 + s) (i + k))))]) 5 (zdec DX9_fires 82 rfl) rfl (by unfold z32; omega) rfl (by decide) ?_
            refine z_iinc (L' := [(0, .inr (.inr 0)), (1, .inl s), (2, .inl i), (4, .inl h), (5, .inl m), (6, .inl (c + 1)), (7, .inl (k + 1)), (8, .inr (.inl (M2 (50 + s) (i + k))))]) 6 (zdec DX9_fires 83 rfl) rfl (by unfold z32; omega) rfl (by decide) ?_
            refine z_goto 80 (zdec DX9_fires 84 rfl) rfl ?_
            refine z_weak (L' := [(0, .inr (.inr 0)), (1, .inl s), (2, .inl i), (4, .inl h), (5, .inl m), (6, .inl (c + 1)), (7, .inl (k + 1))]) (by simp) ?_
            exact ih (c + 1) (k + 1) (zup M2 8 (h + k) (M2 (50 + s) (i + k))) (by omega) ⟨by omega, by omega, by omega, fun j h0 h1 => (by by_cases hj : j = k; (subst hj; unfold zfiO; rw [← er, ← e48]; omega); (exact hI.2.2.2.1 j h0 (by omega))), (by unfold zfiM; rw [zfo_s _ _ hI.1, show M (50 + s) (i + k) = M2 (50 + s) (i + k) by rw [er]]; exact congrArg (fun Z => zup Z 8 (h + k) (M2 (50 + s) (i + k))) hI.2.2.2.2.1), hI.2.2.2.2.2.1.up, by omega⟩
          ·
            have hc132 : 9 < M2 (50 + s) (i + k) := by unfold zcmp at h132; (repeat split at h132) <;> omega
            refine z_goto 163 (zdec DX9_fires 72 rfl) rfl ?_
            refine z_weak (L' := [(6, .inl c)]) (by simp) ?_
            exact hx163 c M2 (by have ec : c = k := hI.2.2.1; subst ec; exact ⟨hI.1, hI.2.1, hI.2.2.2.1, (by first | exact Or.inl (by omega) | (refine Or.inr (fun e => ?_); unfold zfiO at e; rw [← er, ← e48] at e; omega)), hI.2.2.2.2.1⟩)
      ·
        have hq99 := zb_eq0.mp (Decidable.not_not.mp h99)
        refine z_goto 163 (zdec DX9_fires 55 rfl) rfl ?_
        refine z_weak (L' := [(6, .inl c)]) (by simp) ?_
        exact hx163 c M2 (by have ec : c = k := hI.2.2.1; subst ec; exact ⟨hI.1, hI.2.1, hI.2.2.2.1, (by first | exact Or.inl (by omega) | (refine Or.inr (fun e => ?_); unfold zfiO at e; rw [← er, ← e48] at e; omega)), hI.2.2.2.2.1⟩)
set_option maxHeartbeats 4000000 in
theorem cX9_fires {M : zMm} (hP : zP M) (hv : zSv M) (s i h : Int) (hi : z32 i) : zW mX9_fires 3 (fun rv S' M' => S' = zS0 ∧ ((¬ ((0 ≤ s ∧ s < 6) ∧ 0 ≤ h ∧ h / 100 < 16 ∧ 1 ≤ h % 100 ∧ h % 100 ≤ 16) ∧ rv = some (.inl (-1)) ∧ M' = M) ∨ (((0 ≤ s ∧ s < 6) ∧ 0 ≤ h ∧ h / 100 < 16 ∧ 1 ≤ h % 100 ∧ h % 100 ≤ 16) ∧ ¬ (M 46 s = -1 ∨ M 46 s = 0) ∧ rv = some (.inl (-12)) ∧ M' = M) ∨ (((0 ≤ s ∧ s < 6) ∧ 0 ≤ h ∧ h / 100 < 16 ∧ 1 ≤ h % 100 ∧ h % 100 ≤ 16) ∧ (M 46 s = -1 ∨ M 46 s = 0) ∧ ∃ c : Int, 0 ≤ c ∧ c ≤ (if 16 - h / 100 < h % 100 then 16 - h / 100 else h % 100) ∧ (∀ k : Int, 0 ≤ k → k < c → zfiO M s (i + k)) ∧ (c = (if 16 - h / 100 < h % 100 then 16 - h / 100 else h % 100) ∨ ¬ zfiO M s (i + c)) ∧ rv = some (.inl c) ∧ M' = zfiM M s i (h / 100) c))) (0, 0) zS0 0 (zargs 0 [.inr (.inr 0), .inl s, .inl i, .inl h]) [] M := by
  change zW _ _ _ _ _ 0 [(0, .inr (.inr 0)), (1, .inl s), (2, .inl i), (3, .inl h)] [] M
  refine z_aload_n 0 (zdec DX9_fires 0 rfl) rfl rfl (by decide) ?_
  refine z_getr (rw1 := -10) (ki := 8) (r' := 45) 0 9 (zdec DX9_fires 1 rfl) rfl rfl shp0 rfl (by decide) rfl rfl fl_SixWalls_72 (zPa hP 8 rfl) ?_
  refine z_iload_n 1 (zdec DX9_fires 2 rfl) rfl rfl ?_
  refine z_inv mX6_isShelf 45 6 [.inl s] (zdec DX9_fires 3 rfl) ml_SixWalls_163 okX6_isShelf rfl shp45 rfl rfl rfl rfl (Nat.le_of_ble_eq_true rfl) (Nat.le_of_ble_eq_true rfl) (b' := (0, 0)) ⟨Nat.le_refl 0, Nat.le_refl 0⟩ (Nat.le_of_ble_eq_true rfl) (cX6_isShelf s) (fun rv9 S9 M5 h9 => ?_)
  obtain ⟨rfl, rfl, rfl⟩ := h9
  change zW _ _ _ _ _ 8 [(0, .inr (.inr 0)), (1, .inl s), (2, .inl i), (3, .inl h)] [.inl (zb (0 ≤ s ∧ s < 6))] M
  refine z_if_eq 38 (zdec DX9_fires 4 rfl) rfl (fun h8 => ?_) (fun h8 => ?_)
  ·
    have hq8 := zb_eq0.mp h8
    refine z_iconst (-1) (zdec DX9_fires 19 rfl) (by decide) ?_
    exact z_iret (zdec DX9_fires 20 rfl) rfl (⟨rfl, Or.inl ⟨by omega, rfl, rfl⟩⟩)
  ·
    have hq8 := zb_ne0.mp h8
    refine z_iload_n 3 (zdec DX9_fires 5 rfl) rfl rfl ?_
    refine z_if_lt 38 (zdec DX9_fires 6 rfl) rfl (fun h12 => ?_) (fun h12 => ?_)
    ·
      refine z_iconst (-1) (zdec DX9_fires 19 rfl) (by decide) ?_
      exact z_iret (zdec DX9_fires 20 rfl) rfl (⟨rfl, Or.inl ⟨by omega, rfl, rfl⟩⟩)
    ·
      refine z_iload_n 3 (zdec DX9_fires 7 rfl) rfl rfl ?_
      refine z_bipush 100 (zdec DX9_fires 8 rfl) (by decide) ?_
      refine z_idivp (zdec DX9_fires 9 rfl) (by omega) (by omega) ?_
      refine z_invs mX9_isHouse [.inl (h / 100)] (zdec DX9_fires 10 rfl) (Or.inl ml_SixWalls_80) okX9_isHouse rfl rfl (Nat.le_of_ble_eq_true rfl) (Nat.le_of_ble_eq_true rfl) (b' := (0, 0)) ⟨Nat.le_refl 0, Nat.le_refl 0⟩ (Nat.le_of_ble_eq_true rfl) (cX9_isHouse (h / 100)) (fun rv9 S9 M19 h9 => ?_)
      obtain ⟨rfl, rfl, rfl⟩ := h9
      change zW _ _ _ _ _ 22 [(0, .inr (.inr 0)), (1, .inl s), (2, .inl i), (3, .inl h)] [.inl (zb (0 ≤ (h / 100) ∧ (h / 100) < 16))] M
      refine z_if_eq 38 (zdec DX9_fires 11 rfl) rfl (fun h22 => ?_) (fun h22 => ?_)
      ·
        have hq22 := zb_eq0.mp h22
        refine z_iconst (-1) (zdec DX9_fires 19 rfl) (by decide) ?_
        exact z_iret (zdec DX9_fires 20 rfl) rfl (⟨rfl, Or.inl ⟨by omega, rfl, rfl⟩⟩)
      ·
        have hq22 := zb_ne0.mp h22
        refine z_iload_n 3 (zdec DX9_fires 12 rfl) rfl rfl ?_
        refine z_bipush 100 (zdec DX9_fires 13 rfl) (by decide) ?_
        refine z_iremp (zdec DX9_fires 14 rfl) (by omega) (by omega) ?_
        refine z_iconst 1 (zdec DX9_fires 15 rfl) (by decide) ?_
        refine z_bipush 16 (zdec DX9_fires 16 rfl) (by decide) ?_
        refine z_invs mX9_within [.inl (h % 100), .inl 1, .inl 16] (zdec DX9_fires 17 rfl) (Or.inl ml_SixWalls_76) okX9_within rfl rfl (Nat.le_of_ble_eq_true rfl) (Nat.le_of_ble_eq_true rfl) (b' := (0, 0)) ⟨Nat.le_refl 0, Nat.le_refl 0⟩ (Nat.le_of_ble_eq_true rfl) (cX9_within (h % 100) 1 16) (fun rv9 S9 M32 h9 => ?_)
        obtain ⟨rfl, rfl, rfl⟩ := h9
        change zW _ _ _ _ _ 35 [(0, .inr (.inr 0)), (1, .inl s), (2, .inl i), (3, .inl h)] [.inl (zb (1 ≤ (h % 100) ∧ (h % 100) ≤ 16))] M
        refine z_if_ne 40 (zdec DX9_fires 18 rfl) rfl (fun h35 => ?_) (fun h35 => ?_)
        ·
          have hq35 := zb_ne0.mp h35
          refine z_aload_n 0 (zdec DX9_fires 21 rfl) rfl rfl (by decide) ?_
          refine z_getr (rw1 := -10) (ki := 8) (r' := 45) 0 9 (zdec DX9_fires 22 rfl) rfl rfl shp0 rfl (by decide) rfl rfl fl_SixWalls_72 (zPa hP 8 rfl) ?_
          refine z_iload_n 1 (zdec DX9_fires 23 rfl) rfl rfl ?_
          refine z_inv mX6_mayBeBytes 45 6 [.inl s] (zdec DX9_fires 24 rfl) ml_SixWalls_166 okX6_mayBeBytes rfl shp45 rfl rfl rfl rfl (Nat.le_of_ble_eq_true rfl) (Nat.le_of_ble_eq_true rfl) (b' := (0, 0)) ⟨Nat.le_refl 0, Nat.le_refl 0⟩ (Nat.le_of_ble_eq_true rfl) (cX6_mayBeBytes hP s hq8) (fun rv9 S9 M45 h9 => ?_)
          obtain ⟨rfl, rfl, rfl⟩ := h9
          change zW _ _ _ _ _ 48 [(0, .inr (.inr 0)), (1, .inl s), (2, .inl i), (3, .inl h)] [.inl (zb (M 46 s = -1 ∨ M 46 s = 0))] M
          refine z_if_ne 54 (zdec DX9_fires 25 rfl) rfl (fun h48 => ?_) (fun h48 => ?_)
          ·
            have hq48 := zb_ne0.mp h48
            refine z_iload_n 3 (zdec DX9_fires 28 rfl) rfl rfl ?_
            refine z_bipush 100 (zdec DX9_fires 29 rfl) (by decide) ?_
            refine z_idivp (zdec DX9_fires 30 rfl) (by omega) (by omega) ?_
            refine z_istore (L' := [(0, .inr (.inr 0)), (1, .inl s), (2, .inl i), (3, .inl h), (4, .inl (h / 100))]) (zdec DX9_fires 31 rfl) rfl (by decide) ?_
            refine z_iload_n 3 (zdec DX9_fires 32 rfl) rfl rfl ?_
            refine z_bipush 100 (zdec DX9_fires 33 rfl) (by decide) ?_
            refine z_iremp (zdec DX9_fires 34 rfl) (by omega) (by omega) ?_
            refine z_bipush 16 (zdec DX9_fires 35 rfl) (by decide) ?_
            refine z_iload 4 (zdec DX9_fires 36 rfl) rfl ?_
            refine z_isub (zdec DX9_fires 37 rfl) (by unfold z32; omega) ?_
            refine z_mmin (zdec DX9_fires 38 rfl) ml_SixWalls_169 (by decide) (Nat.le_of_ble_eq_true rfl) ?_
            refine z_istore (L' := [(0, .inr (.inr 0)), (1, .inl s), (2, .inl i), (3, .inl h), (4, .inl (h / 100)), (5, .inl (if 16 - (h / 100) < h % 100 then 16 - (h / 100) else h % 100))]) (zdec DX9_fires 39 rfl) rfl (by decide) ?_
            refine z_iconst 0 (zdec DX9_fires 40 rfl) (by decide) ?_
            refine z_istore (L' := [(0, .inr (.inr 0)), (1, .inl s), (2, .inl i), (3, .inl h), (4, .inl (h / 100)), (5, .inl (if 16 - (h / 100) < h % 100 then 16 - (h / 100) else h % 100)), (6, .inl 0)]) (zdec DX9_fires 41 rfl) rfl (by decide) ?_
            refine z_iconst 0 (zdec DX9_fires 42 rfl) (by decide) ?_
            refine z_istore (L' := [(0, .inr (.inr 0)), (1, .inl s), (2, .inl i), (3, .inl h), (4, .inl (h / 100)), (5, .inl (if 16 - (h / 100) < h % 100 then 16 - (h / 100) else h % 100)), (6, .inl 0), (7, .inl 0)]) (zdec DX9_fires 43 rfl) rfl (by decide) ?_
            refine z_weak (L' := [(0, .inr (.inr 0)), (1, .inl s), (2, .inl i), (4, .inl (h / 100)), (5, .inl (if 16 - (h / 100) < h % 100 then 16 - (h / 100) else h % 100)), (6, .inl 0), (7, .inl 0)]) (by simp) ?_
            refine lp_X9_fires_80 hP hv s i _ _ hi hq8 hq22 (by split <;> omega) (hx163 := fun c M2 hx => ?_) _ 0 0 M (Nat.lt_succ_self _) ⟨by omega, by omega, rfl, fun j h0 h1 => by omega, rfl, zonly.rf, by omega⟩
            refine z_iload 0 (zdec DX9_fires 85 rfl) rfl ?_
            exact z_iret (zdec DX9_fires 86 rfl) rfl (⟨rfl, Or.inr (Or.inr ⟨⟨hq8, by omega⟩, hq48, c, hx.1, (by have := hx.2.1; split at * <;> omega), hx.2.2.1, (by rcases hx.2.2.2.1 with e | e; (exact Or.inl (by have := hx.2.1; split at * <;> omega)); (exact Or.inr e)), rfl, hx.2.2.2.2⟩)⟩)
          ·
            have hq48 := zb_eq0.mp (Decidable.not_not.mp h48)
            refine z_bipush (-12) (zdec DX9_fires 26 rfl) (by decide) ?_
            exact z_iret (zdec DX9_fires 27 rfl) rfl (⟨rfl, Or.inr (Or.inl ⟨⟨hq8, by omega⟩, hq48, rfl, rfl⟩)⟩)
        ·
          have hq35 := zb_eq0.mp (Decidable.not_not.mp h35)
          refine z_iconst (-1) (zdec DX9_fires 19 rfl) (by decide) ?_
          exact z_iret (zdec DX9_fires 20 rfl) rfl (⟨rfl, Or.inl ⟨by omega, rfl, rfl⟩⟩)
