/-! contracts: fires for a warmth, days in deed, winters of SixWalls -/
def zfr (s : zMm) (q h k f : Int) : Int := zdN s q (zpu (s 8) h f) (s 9) k.toNat h
theorem zbH_pu {s : zMm} (hR : zRg s) {h f : Int} (hf : 0 ≤ f ∧ f ≤ 9) : zbH (zpu (s 8) h f) := zpu_r (zb8 hR) hf
theorem zsum_H {f g : Int → Int} (h : zH f g) : zsum f 16 = zsum g 16 := zsum_c (fun i h0 h1 => h i h0 h1)
theorem zWm_b {s : zMm} {q : Int} (h : zRg s) (k : Int) : zbW (zWm s q k) := zdN_b (zb9 h) _
set_option maxHeartbeats 4000000 in
theorem lp_X8_fireFor_3 {s : zMm} (hP : zP s) {q : Int} (hG : zG s) (hR : zRg s) (hT : zTx s q) (h v k : Int) (hh : 0 ≤ h ∧ h < 16) (hk : 0 ≤ k ∧ k ≤ 99)  (hx46 : ∀ (M2 : zMm), (zoW s M2 ∧ ∀ j : Int, 0 ≤ j → j ≤ 9 → zfr s q h k j < v) → zW mX8_fireFor 8 (fun rv S' M' => S' = zS0 ∧ zoW s M' ∧ ((∃ f : Int, (0 ≤ f ∧ f ≤ 9) ∧ (∀ j : Int, 0 ≤ j → j < f → zfr s q h k j < v) ∧ v ≤ zfr s q h k f ∧ rv = some (.inl f)) ∨ ((∀ j : Int, 0 ≤ j → j ≤ 9 → zfr s q h k j < v) ∧ rv = some (.inl (-2))))) (0, 0) zS0 46 [] [] M2) : ∀ (n : Nat) (f : Int) (M2 : zMm), (10 - f).toNat < n → (0 ≤ f ∧ f ≤ 10 ∧ zoW s M2 ∧ ∀ j : Int, 0 ≤ j → j < f → zfr s q h k j < v) → zW mX8_fireFor 8 (fun rv S' M' => S' = zS0 ∧ zoW s M' ∧ ((∃ f : Int, (0 ≤ f ∧ f ≤ 9) ∧ (∀ j : Int, 0 ≤ j → j < f → zfr s q h k j < v) ∧ v ≤ zfr s q h k f ∧ rv = some (.inl f)) ∨ ((∀ j : Int, 0 ≤ j → j ≤ 9 → zfr s q h k j < v) ∧ rv = some (.inl (-2))))) (0, 0) zS0 3 [(0, .inr (.inr 21)), (1, .inl h), (2, .inl v), (3, .inl k), (4, .inl f)] [] M2 := by
  intro n
  induction n with
  | zero => intro f M2 hn; exact absurd hn (Nat.not_lt_zero _)
  | succ n ih =>
    intro f M2 hn hI
    refine z_iload 4 (zdec DX8_fireFor 2 rfl) rfl ?_
    refine z_bipush 9 (zdec DX8_fireFor 3 rfl) (by decide) ?_
    refine z_icmp_gt 46 (zdec DX8_fireFor 4 rfl) rfl (fun h7 => ?_) (fun h7 => ?_)
    ·
      refine z_weak (L' := []) (by simp) ?_
      exact hx46 M2 ⟨hI.2.2.1, fun j h0 h1 => hI.2.2.2 j h0 (by omega)⟩
    ·
      refine z_aload_n 0 (zdec DX8_fireFor 5 rfl) rfl rfl (by decide) ?_
      refine z_inv mX8_begin 21 8 [] (zdec DX8_fireFor 6 rfl) ml_SixWalls_Winter_101 okX8_begin rfl shp21 rfl rfl rfl rfl (Nat.le_of_ble_eq_true rfl) (Nat.le_of_ble_eq_true rfl) (b' := (0, 0)) ⟨Nat.le_refl 0, Nat.le_refl 0⟩ (Nat.le_of_ble_eq_true rfl) (cX8_begin hP hI.2.2.1) (fun rv9 S9 M11 h9 => ?_)
      obtain ⟨rfl, rfl, b1, b2, b3⟩ := h9
      change zW _ _ _ _ _ 14 [(0, .inr (.inr 21)), (1, .inl h), (2, .inl v), (3, .inl k), (4, .inl f)] [] M11
      refine z_aload_n 0 (zdec DX8_fireFor 7 rfl) rfl rfl (by decide) ?_
      refine z_getr (rw1 := -31) (ki := 3) (r' := 23) 21 8 (zdec DX8_fireFor 8 rfl) rfl rfl shp21 rfl (by decide) rfl rfl fl_SixWalls_Winter_15 (zPa (b1.P hP) 26 rfl) ?_
      refine z_iload_n 1 (zdec DX8_fireFor 9 rfl) rfl rfl ?_
      refine z_iload 4 (zdec DX8_fireFor 10 rfl) rfl ?_
      refine z_iast 23 (zdec DX8_fireFor 11 rfl) rfl shp23 ⟨by omega, by omega⟩ ?_
      refine z_aload_n 0 (zdec DX8_fireFor 12 rfl) rfl rfl (by decide) ?_
      refine z_iload_n 3 (zdec DX8_fireFor 13 rfl) rfl rfl ?_
      refine z_inv mX8_passAll 21 8 [.inl k] (zdec DX8_fireFor 14 rfl) ml_SixWalls_Winter_104 okX8_passAll rfl shp21 rfl rfl rfl rfl (Nat.le_of_ble_eq_true rfl) (Nat.le_of_ble_eq_true rfl) (b' := (0, 0)) ⟨Nat.le_refl 0, Nat.le_refl 0⟩ (Nat.le_of_ble_eq_true rfl) (cX8_passAll hP hG hR hT (zpu (s 8) h f) (s 9) (zb9 hR) (zbH_pu hR (by omega)) k hk (b1.up (by omega)) (by rw [zup_row (by decide)]; exact b2) (by rw [zup_zpu]; exact b3.pu rfl)) (fun rv9 S9 M24 h9 => ?_)
      obtain ⟨rfl, rfl, x1, x2, x3, x4⟩ := h9
      have xh := x2 h hh.1 hh.2
      change zW _ _ _ _ _ 27 [(0, .inr (.inr 21)), (1, .inl h), (2, .inl v), (3, .inl k), (4, .inl f)] [] M24
      refine z_aload_n 0 (zdec DX8_fireFor 15 rfl) rfl rfl (by decide) ?_
      refine z_getr (rw1 := -31) (ki := 2) (r' := 22) 21 8 (zdec DX8_fireFor 16 rfl) rfl rfl shp21 rfl (by decide) rfl rfl fl_SixWalls_Winter_9 (zPa (x1.P hP) 25 rfl) ?_
      refine z_iload_n 1 (zdec DX8_fireFor 17 rfl) rfl rfl ?_
      refine z_iald 22 (zdec DX8_fireFor 18 rfl) rfl shp22 ⟨by omega, by omega⟩ ?_
      refine z_iload_n 2 (zdec DX8_fireFor 19 rfl) rfl rfl ?_
      refine z_icmp_lt 40 (zdec DX8_fireFor 20 rfl) rfl (fun h34 => ?_) (fun h34 => ?_)
      ·
        refine z_iinc (L' := [(0, .inr (.inr 21)), (1, .inl h), (2, .inl v), (3, .inl k), (4, .inl (f + 1))]) 4 (zdec DX8_fireFor 23 rfl) rfl (by unfold z32; omega) rfl (by decide) ?_
        refine z_goto 3 (zdec DX8_fireFor 24 rfl) rfl ?_
        exact ih (f + 1) M24 (by omega) ⟨by omega, by omega, x1, fun j h0 h1 => (by by_cases hj : j = f; (subst hj; unfold zfr; rw [← xh]; omega); (exact hI.2.2.2 j h0 (by omega)))⟩
      ·
        refine z_iload 4 (zdec DX8_fireFor 21 rfl) rfl ?_
        exact z_iret (zdec DX8_fireFor 22 rfl) rfl (⟨rfl, x1, Or.inl ⟨f, by omega, hI.2.2.2, (by unfold zfr; rw [← xh]; omega), rfl⟩⟩)
set_option maxHeartbeats 4000000 in
theorem cX8_fireFor {s : zMm} (hP : zP s) {q : Int} (hG : zG s) (hR : zRg s) (hT : zTx s q) (h v k : Int) (hh : 0 ≤ h ∧ h < 16) (hk : 0 ≤ k ∧ k ≤ 99) {M : zMm} (hM : zoW s M) : zW mX8_fireFor 8 (fun rv S' M' => S' = zS0 ∧ zoW s M' ∧ ((∃ f : Int, (0 ≤ f ∧ f ≤ 9) ∧ (∀ j : Int, 0 ≤ j → j < f → zfr s q h k j < v) ∧ v ≤ zfr s q h k f ∧ rv = some (.inl f)) ∨ ((∀ j : Int, 0 ≤ j → j ≤ 9 → zfr s q h k j < v) ∧ rv = some (.inl (-2))))) (0, 0) zS0 0 (zargs 0 [.inr (.inr 21), .inl h, .inl v, .inl k]) [] M := by
  change zW _ _ _ _ _ 0 [(0, .inr (.inr 21)), (1, .inl h), (2, .inl v), (3, .inl k)] [] M
  refine z_iconst 0 (zdec DX8_fireFor 0 rfl) (by decide) ?_
  refine z_istore (L' := [(0, .inr (.inr 21)), (1, .inl h), (2, .inl v), (3, .inl k), (4, .inl 0)]) (zdec DX8_fireFor 1 rfl) rfl (by decide) ?_
  refine lp_X8_fireFor_3 hP hG hR hT h v k hh hk (hx46 := fun M2 hx => ?_) _ 0 M (Nat.lt_succ_self _) ⟨by omega, by omega, hM, fun j h0 h1 => by omega⟩
  refine z_bipush (-2) (zdec DX8_fireFor 25 rfl) (by decide) ?_
  exact z_iret (zdec DX8_fireFor 26 rfl) rfl (⟨rfl, hx.1, Or.inr ⟨hx.2, rfl⟩⟩)
/-- days in deed -/
def zLiv (s : zMm) (q k : Int) (M : zMm) : Prop := zH (M 9) (zWm s q k) ∧ (∀ w : Int, 0 ≤ w → w < 33 → M 26 w = zflow s q (zWm s q (k - 1)) w) ∧ M 21 7 = zw (s 21 7 + k) ∧ (∀ j : Int, j ≠ 7 → M 21 j = s 21 j) ∧ ∀ c : Int, c ≠ 9 → c < 20 ∨ 26 < c → M c = s c
theorem zlive {s M : zMm} {q k : Int} (hk : 1 ≤ k) (h1 : zoW s M) (h2 : zH (M 22) (zWm s q k)) (h3 : 0 < k → ∀ w : Int, 0 ≤ w → w < 33 → M 24 w = zflow s q (zWm s q (k - 1)) w) : zLiv s q k (zup (zcpy (zcpy M 22 0 9 0 16) 24 0 26 0 33) 21 7 (zw (s 21 7 + k))) := by
  refine ⟨fun i h0 h1 => ?_, fun w h0 h1 => ?_, zup_self _ _ _ _, fun j hj => ?_, fun c hc hc2 => ?_⟩
  · rw [zup_row (by decide), zcpy_row (by decide)]
    show (if (9 : Int) = 9 ∧ 0 ≤ i ∧ i < 0 + 16 then M 22 (0 + (i - 0)) else _) = _
    rw [if_pos ⟨rfl, by omega, by omega⟩, show (0 : Int) + (i - 0) = i by omega]
    exact h2 i h0 h1
  · rw [zup_row (by decide)]
    show (if (26 : Int) = 26 ∧ 0 ≤ w ∧ w < 0 + 33 then zcpy M 22 0 9 0 16 24 (0 + (w - 0)) else _) = _
    rw [if_pos ⟨rfl, by omega, by omega⟩, show (0 : Int) + (w - 0) = w by omega, zcpy_row (by decide)]
    exact h3 (by omega) w h0 h1
  · rw [zup_ne hj, zcpy_row (by decide), zcpy_row (by decide)]
    exact congrFun (h1 21 (by decide) (by decide) (by decide) (by decide) (by decide)) j
  · rw [zup_row (by omega), zcpy_row (by omega), zcpy_row hc]
    exact h1 c (by omega) (by omega) (by omega) (by omega) (by omega)
theorem zLiv.P {s M : zMm} {q k : Int} (h : zLiv s q k M) (hP : zP s) : zP M := zP_of hP fun r hr => h.2.2.2.2 r (by omega) (by omega)
set_option maxHeartbeats 4000000 in
theorem cX8_live {M : zMm} (hP : zP M) {q : Int} (hG : zG M) (hR : zRg M) (hT : zTx M q) (k : Int) (hk : 1 ≤ k ∧ k ≤ 30) : zW mX8_live 9 (fun rv S' M' => S' = zS0 ∧ rv = none ∧ zLiv M q k M') (0, 0) zS0 0 (zargs 0 [.inr (.inr 21), .inl k]) [] M := by
  change zW _ _ _ _ _ 0 [(0, .inr (.inr 21)), (1, .inl k)] [] M
  refine z_aload_n 0 (zdec DX8_live 0 rfl) rfl rfl (by decide) ?_
  refine z_inv mX8_begin 21 8 [] (zdec DX8_live 1 rfl) ml_SixWalls_Winter_101 okX8_begin rfl shp21 rfl rfl rfl rfl (Nat.le_of_ble_eq_true rfl) (Nat.le_of_ble_eq_true rfl) (b' := (0, 0)) ⟨Nat.le_refl 0, Nat.le_refl 0⟩ (Nat.le_of_ble_eq_true rfl) (cX8_begin hP zoW.rf) (fun rv9 S9 M1 h9 => ?_)
  obtain ⟨rfl, rfl, b1, b2, b3⟩ := h9
  change zW _ _ _ _ _ 4 [(0, .inr (.inr 21)), (1, .inl k)] [] M1
  refine z_aload_n 0 (zdec DX8_live 2 rfl) rfl rfl (by decide) ?_
  refine z_iload_n 1 (zdec DX8_live 3 rfl) rfl rfl ?_
  refine z_inv mX8_passAll 21 8 [.inl k] (zdec DX8_live 4 rfl) ml_SixWalls_Winter_104 okX8_passAll rfl shp21 rfl rfl rfl rfl (Nat.le_of_ble_eq_true rfl) (Nat.le_of_ble_eq_true rfl) (b' := (0, 0)) ⟨Nat.le_refl 0, Nat.le_refl 0⟩ (Nat.le_of_ble_eq_true rfl) (cX8_passAll hP hG hR hT (M 8) (M 9) (zb9 hR) (zb8 hR) k (by omega) b1 b2 b3) (fun rv9 S9 M6 h9 => ?_)
  obtain ⟨rfl, rfl, x1, x2, x3, x4⟩ := h9
  change zW _ _ _ _ _ 9 [(0, .inr (.inr 21)), (1, .inl k)] [] M6
  refine z_aload_n 0 (zdec DX8_live 5 rfl) rfl rfl (by decide) ?_
  refine z_getr (rw1 := -31) (ki := 2) (r' := 22) 21 8 (zdec DX8_live 6 rfl) rfl rfl shp21 rfl (by decide) rfl rfl fl_SixWalls_Winter_9 (zPa (x1.P hP) 25 rfl) ?_
  refine z_iconst 0 (zdec DX8_live 7 rfl) (by decide) ?_
  refine z_aload_n 0 (zdec DX8_live 8 rfl) rfl rfl (by decide) ?_
  refine z_getr (rw1 := -31) (ki := 0) (r' := 1) 21 8 (zdec DX8_live 9 rfl) rfl rfl shp21 rfl (by decide) rfl rfl fl_SixWalls_Winter_31 (zPa (x1.P hP) 23 rfl) ?_
  refine z_getr (rw1 := -11) (ki := 7) (r' := 9) 1 1 (zdec DX8_live 10 rfl) rfl rfl shp1 rfl (by decide) rfl rfl fl_SixWalls_Winter_76 (zPa (x1.P hP) 16 rfl) ?_
  refine z_iconst 0 (zdec DX8_live 11 rfl) (by decide) ?_
  refine z_bipush 16 (zdec DX8_live 12 rfl) (by decide) ?_
  refine z_copyi 22 9 (zdec DX8_live 13 rfl) ml_SixWalls_Winter_79 zcp1 zcp2 zcp3 rfl rfl shp22 shp9 ⟨by omega, by omega, by omega⟩ ⟨by omega, by omega⟩ (by decide) rfl ?_
  refine z_aload_n 0 (zdec DX8_live 14 rfl) rfl rfl (by decide) ?_
  refine z_getr (rw1 := -31) (ki := 4) (r' := 24) 21 8 (zdec DX8_live 15 rfl) rfl rfl shp21 rfl (by decide) rfl rfl fl_SixWalls_Winter_18 (zPa (zP_cpy (x1.P hP) (by decide)) 27 rfl) ?_
  refine z_iconst 0 (zdec DX8_live 16 rfl) (by decide) ?_
  refine z_aload_n 0 (zdec DX8_live 17 rfl) rfl rfl (by decide) ?_
  refine z_getr (rw1 := -31) (ki := 6) (r' := 26) 21 8 (zdec DX8_live 18 rfl) rfl rfl shp21 rfl (by decide) rfl rfl fl_SixWalls_Winter_24 (zPa (zP_cpy (x1.P hP) (by decide)) 29 rfl) ?_
  refine z_iconst 0 (zdec DX8_live 19 rfl) (by decide) ?_
  refine z_bipush 33 (zdec DX8_live 20 rfl) (by decide) ?_
  refine z_copyi 24 26 (zdec DX8_live 21 rfl) ml_SixWalls_Winter_79 zcp1 zcp2 zcp3 rfl rfl shp24 shp26 ⟨by omega, by omega, by omega⟩ ⟨by omega, by omega⟩ (by decide) rfl ?_
  refine z_aload_n 0 (zdec DX8_live 22 rfl) rfl rfl (by decide) ?_
  refine z_dup (zdec DX8_live 23 rfl) rfl ?_
  refine z_geti (ki := 7) 21 8 (zdec DX8_live 24 rfl) rfl shp21 rfl (by decide) rfl rfl fl_SixWalls_Winter_27 ?_
  rw [show (zcpy (zcpy M6 22 0 9 0 16) 24 0 26 0 33) 21 7 = M6 21 7 from by simp [zup, zcpy]]
  have e21 : M6 21 = M 21 := x1 21 (by decide) (by decide) (by decide) (by decide) (by decide)
  refine z_iload_n 1 (zdec DX8_live 25 rfl) rfl rfl ?_
  refine z_iaddw (zdec DX8_live 26 rfl) ?_
  refine z_puti (ki := 7) 21 8 (zdec DX8_live 27 rfl) rfl shp21 rfl (by decide) rfl rfl fl_SixWalls_Winter_27 (Or.inl rfl) ?_
  exact z_vret (zdec DX8_live 28 rfl) rfl (⟨rfl, rfl, (by have := zlive (k := k) (by omega) x1 x2 x4; rw [← e21] at this; exact this)⟩)
set_option maxHeartbeats 4000000 in
theorem cX9_warmth {s : zMm} (hP : zP s) {q : Int} (hG : zG s) (hR : zRg s) (hT : zTx s q) (h k : Int) {M : zMm} (hM : zoW s M) : zW mX9_warmth 9 (fun rv S' M' => S' = zS0 ∧ zoW s M' ∧ rv = some (.inl (if (h = -1 ∨ (0 ≤ h ∧ h < 16)) ∧ 0 ≤ k ∧ k < 31 then (if h < 0 then zsum (zWm s q k) 16 else zWm s q k h) else -1))) (0, 0) zS0 0 (zargs 0 [.inr (.inr 0), .inl h, .inl k]) [] M := by
  change zW _ _ _ _ _ 0 [(0, .inr (.inr 0)), (1, .inl h), (2, .inl k)] [] M
  refine z_iload_n 1 (zdec DX9_warmth 0 rfl) rfl rfl ?_
  refine z_iconst (-1) (zdec DX9_warmth 1 rfl) (by decide) ?_
  refine z_icmp_eq 12 (zdec DX9_warmth 2 rfl) rfl (fun h2 => ?_) (fun h2 => ?_)
  ·
    refine z_iload_n 2 (zdec DX9_warmth 6 rfl) rfl rfl ?_
    refine z_invs mX9_isThought [.inl k] (zdec DX9_warmth 7 rfl) (Or.inl ml_SixWalls_194) okX9_isThought rfl rfl (Nat.le_of_ble_eq_true rfl) (Nat.le_of_ble_eq_true rfl) (b' := (0, 0)) ⟨Nat.le_refl 0, Nat.le_refl 0⟩ (Nat.le_of_ble_eq_true rfl) (cX9_isThought k) (fun rv9 S9 M13 h9 => ?_)
    obtain ⟨rfl, rfl, rfl⟩ := h9
    change zW _ _ _ _ _ 16 [(0, .inr (.inr 0)), (1, .inl h), (2, .inl k)] [.inl (zb (0 ≤ k ∧ k < 31))] M
    refine z_if_ne 21 (zdec DX9_warmth 8 rfl) rfl (fun h16 => ?_) (fun h16 => ?_)
    ·
      have hq16 := zb_ne0.mp h16
      refine z_aload_n 0 (zdec DX9_warmth 11 rfl) rfl rfl (by decide) ?_
      refine z_getr (rw1 := -10) (ki := 2) (r' := 21) 0 9 (zdec DX9_warmth 12 rfl) rfl rfl shp0 rfl (by decide) rfl rfl fl_SixWalls_28 (zPa (hM.P hP) 2 rfl) ?_
      refine z_iload_n 2 (zdec DX9_warmth 13 rfl) rfl rfl ?_
      refine z_inv mX8_think 21 8 [.inl k] (zdec DX9_warmth 14 rfl) ml_SixWalls_197 okX8_think rfl shp21 rfl rfl rfl rfl (Nat.le_of_ble_eq_true rfl) (Nat.le_of_ble_eq_true rfl) (b' := (0, 0)) ⟨Nat.le_refl 0, Nat.le_refl 0⟩ (Nat.le_of_ble_eq_true rfl) (cX8_think hP hG hR hT k (by omega) hM) (fun rv9 S9 M26 h9 => ?_)
      obtain ⟨rfl, rfl, x1, x2, x3, x4⟩ := h9
      change zW _ _ _ _ _ 29 [(0, .inr (.inr 0)), (1, .inl h), (2, .inl k)] [] M26
      refine z_iload_n 1 (zdec DX9_warmth 15 rfl) rfl rfl ?_
      refine z_if_ge 46 (zdec DX9_warmth 16 rfl) rfl (fun h30 => ?_) (fun h30 => ?_)
      ·
        refine z_aload_n 0 (zdec DX9_warmth 22 rfl) rfl rfl (by decide) ?_
        refine z_getr (rw1 := -10) (ki := 2) (r' := 21) 0 9 (zdec DX9_warmth 23 rfl) rfl rfl shp0 rfl (by decide) rfl rfl fl_SixWalls_28 (zPa (x1.P hP) 2 rfl) ?_
        refine z_getr (rw1 := -31) (ki := 2) (r' := 22) 21 8 (zdec DX9_warmth 24 rfl) rfl rfl shp21 rfl (by decide) rfl rfl fl_SixWalls_201 (zPa (x1.P hP) 25 rfl) ?_
        refine z_iload_n 1 (zdec DX9_warmth 25 rfl) rfl rfl ?_
        refine z_iald 22 (zdec DX9_warmth 26 rfl) rfl shp22 ⟨by omega, by omega⟩ ?_
        exact z_iret (zdec DX9_warmth 27 rfl) rfl (⟨rfl, x1, zri (by rw [if_pos (by omega)]; first | (rw [if_pos (by omega)]; exact zsum_H x2) | (rw [if_neg (by omega)]; exact x2 h (by omega) (by omega)))⟩)
      ·
        refine z_aload_n 0 (zdec DX9_warmth 17 rfl) rfl rfl (by decide) ?_
        refine z_getr (rw1 := -10) (ki := 2) (r' := 21) 0 9 (zdec DX9_warmth 18 rfl) rfl rfl shp0 rfl (by decide) rfl rfl fl_SixWalls_28 (zPa (x1.P hP) 2 rfl) ?_
        refine z_getr (rw1 := -31) (ki := 2) (r' := 22) 21 8 (zdec DX9_warmth 19 rfl) rfl rfl shp21 rfl (by decide) rfl rfl fl_SixWalls_201 (zPa (x1.P hP) 25 rfl) ?_
        refine z_invs mX9_sum [.inr (.inr 22)] (zdec DX9_warmth 20 rfl) (Or.inl ml_SixWalls_204) okX9_sum rfl rfl (Nat.le_of_ble_eq_true rfl) (Nat.le_of_ble_eq_true rfl) (b' := (0, 0)) ⟨Nat.le_refl 0, Nat.le_refl 0⟩ (Nat.le_of_ble_eq_true rfl) (cX9_sum_22 (zbWc x2 (zWm_b hR _))) (fun rv9 S9 M40 h9 => ?_)
        obtain ⟨rfl, rfl, rfl⟩ := h9
        change zW _ _ _ _ _ 43 [(0, .inr (.inr 0)), (1, .inl h), (2, .inl k)] [.inl (zsum (M26 22) 16)] M26
        refine z_goto 55 (zdec DX9_warmth 21 rfl) rfl ?_
        exact z_iret (zdec DX9_warmth 27 rfl) rfl (⟨rfl, x1, zri (by rw [if_pos (by omega)]; first | (rw [if_pos (by omega)]; exact zsum_H x2) | (rw [if_neg (by omega)]; exact x2 h (by omega) (by omega)))⟩)
    ·
      have hq16 : ¬ (0 ≤ k ∧ k < 31) := fun e => h16 (zb_ne0.mpr e)
      refine z_iconst (-1) (zdec DX9_warmth 9 rfl) (by decide) ?_
      exact z_iret (zdec DX9_warmth 10 rfl) rfl (⟨rfl, hM, zri (by rw [if_neg (by omega)])⟩)
  ·
    refine z_iload_n 1 (zdec DX9_warmth 3 rfl) rfl rfl ?_
    refine z_invs mX9_isHouse [.inl h] (zdec DX9_warmth 4 rfl) (Or.inl ml_SixWalls_80) okX9_isHouse rfl rfl (Nat.le_of_ble_eq_true rfl) (Nat.le_of_ble_eq_true rfl) (b' := (0, 0)) ⟨Nat.le_refl 0, Nat.le_refl 0⟩ (Nat.le_of_ble_eq_true rfl) (cX9_isHouse h) (fun rv9 S9 M6 h9 => ?_)
    obtain ⟨rfl, rfl, rfl⟩ := h9
    change zW _ _ _ _ _ 9 [(0, .inr (.inr 0)), (1, .inl h), (2, .inl k)] [.inl (zb (0 ≤ h ∧ h < 16))] M
    refine z_if_eq 19 (zdec DX9_warmth 5 rfl) rfl (fun h9 => ?_) (fun h9 => ?_)
    ·
      have hq9 := zb_eq0.mp h9
      refine z_iconst (-1) (zdec DX9_warmth 9 rfl) (by decide) ?_
      exact z_iret (zdec DX9_warmth 10 rfl) rfl (⟨rfl, hM, zri (by rw [if_neg (by omega)])⟩)
    ·
      have hq9 := zb_ne0.mp h9
      refine z_iload_n 2 (zdec DX9_warmth 6 rfl) rfl rfl ?_
      refine z_invs mX9_isThought [.inl k] (zdec DX9_warmth 7 rfl) (Or.inl ml_SixWalls_194) okX9_isThought rfl rfl (Nat.le_of_ble_eq_true rfl) (Nat.le_of_ble_eq_true rfl) (b' := (0, 0)) ⟨Nat.le_refl 0, Nat.le_refl 0⟩ (Nat.le_of_ble_eq_true rfl) (cX9_isThought k) (fun rv9 S9 M13 h9 => ?_)
      obtain ⟨rfl, rfl, rfl⟩ := h9
      change zW _ _ _ _ _ 16 [(0, .inr (.inr 0)), (1, .inl h), (2, .inl k)] [.inl (zb (0 ≤ k ∧ k < 31))] M
      refine z_if_ne 21 (zdec DX9_warmth 8 rfl) rfl (fun h16 => ?_) (fun h16 => ?_)
      ·
        have hq16 := zb_ne0.mp h16
        refine z_aload_n 0 (zdec DX9_warmth 11 rfl) rfl rfl (by decide) ?_
        refine z_getr (rw1 := -10) (ki := 2) (r' := 21) 0 9 (zdec DX9_warmth 12 rfl) rfl rfl shp0 rfl (by decide) rfl rfl fl_SixWalls_28 (zPa (hM.P hP) 2 rfl) ?_
        refine z_iload_n 2 (zdec DX9_warmth 13 rfl) rfl rfl ?_
        refine z_inv mX8_think 21 8 [.inl k] (zdec DX9_warmth 14 rfl) ml_SixWalls_197 okX8_think rfl shp21 rfl rfl rfl rfl (Nat.le_of_ble_eq_true rfl) (Nat.le_of_ble_eq_true rfl) (b' := (0, 0)) ⟨Nat.le_refl 0, Nat.le_refl 0⟩ (Nat.le_of_ble_eq_true rfl) (cX8_think hP hG hR hT k (by omega) hM) (fun rv9 S9 M26 h9 => ?_)
        obtain ⟨rfl, rfl, x1, x2, x3, x4⟩ := h9
        change zW _ _ _ _ _ 29 [(0, .inr (.inr 0)), (1, .inl h), (2, .inl k)] [] M26
        refine z_iload_n 1 (zdec DX9_warmth 15 rfl) rfl rfl ?_
        refine z_if_ge 46 (zdec DX9_warmth 16 rfl) rfl (fun h30 => ?_) (fun h30 => ?_)
        ·
          refine z_aload_n 0 (zdec DX9_warmth 22 rfl) rfl rfl (by decide) ?_
          refine z_getr (rw1 := -10) (ki := 2) (r' := 21) 0 9 (zdec DX9_warmth 23 rfl) rfl rfl shp0 rfl (by decide) rfl rfl fl_SixWalls_28 (zPa (x1.P hP) 2 rfl) ?_
          refine z_getr (rw1 := -31) (ki := 2) (r' := 22) 21 8 (zdec DX9_warmth 24 rfl) rfl rfl shp21 rfl (by decide) rfl rfl fl_SixWalls_201 (zPa (x1.P hP) 25 rfl) ?_
          refine z_iload_n 1 (zdec DX9_warmth 25 rfl) rfl rfl ?_
          refine z_iald 22 (zdec DX9_warmth 26 rfl) rfl shp22 ⟨by omega, by omega⟩ ?_
          exact z_iret (zdec DX9_warmth 27 rfl) rfl (⟨rfl, x1, zri (by rw [if_pos (by omega)]; first | (rw [if_pos (by omega)]; exact zsum_H x2) | (rw [if_neg (by omega)]; exact x2 h (by omega) (by omega)))⟩)
        ·
          refine z_aload_n 0 (zdec DX9_warmth 17 rfl) rfl rfl (by decide) ?_
          refine z_getr (rw1 := -10) (ki := 2) (r' := 21) 0 9 (zdec DX9_warmth 18 rfl) rfl rfl shp0 rfl (by decide) rfl rfl fl_SixWalls_28 (zPa (x1.P hP) 2 rfl) ?_
          refine z_getr (rw1 := -31) (ki := 2) (r' := 22) 21 8 (zdec DX9_warmth 19 rfl) rfl rfl shp21 rfl (by decide) rfl rfl fl_SixWalls_201 (zPa (x1.P hP) 25 rfl) ?_
          refine z_invs mX9_sum [.inr (.inr 22)] (zdec DX9_warmth 20 rfl) (Or.inl ml_SixWalls_204) okX9_sum rfl rfl (Nat.le_of_ble_eq_true rfl) (Nat.le_of_ble_eq_true rfl) (b' := (0, 0)) ⟨Nat.le_refl 0, Nat.le_refl 0⟩ (Nat.le_of_ble_eq_true rfl) (cX9_sum_22 (zbWc x2 (zWm_b hR _))) (fun rv9 S9 M40 h9 => ?_)
          obtain ⟨rfl, rfl, rfl⟩ := h9
          change zW _ _ _ _ _ 43 [(0, .inr (.inr 0)), (1, .inl h), (2, .inl k)] [.inl (zsum (M26 22) 16)] M26
          refine z_goto 55 (zdec DX9_warmth 21 rfl) rfl ?_
          exact z_iret (zdec DX9_warmth 27 rfl) rfl (⟨rfl, x1, zri (by rw [if_pos (by omega)]; first | (rw [if_pos (by omega)]; exact zsum_H x2) | (rw [if_neg (by omega)]; exact x2 h (by omega) (by omega)))⟩)
      ·
        have hq16 : ¬ (0 ≤ k ∧ k < 31) := fun e => h16 (zb_ne0.mpr e)
        refine z_iconst (-1) (zdec DX9_warmth 9 rfl) (by decide) ?_
        exact z_iret (zdec DX9_warmth 10 rfl) rfl (⟨rfl, hM, zri (by rw [if_neg (by omega)])⟩)

set_option maxHeartbeats 4000000 in
theorem cX9_still {s : zMm} (hP : zP s) {q : Int} (hG : zG s) (hR : zRg s) (hT : zTx s q) {M : zMm} (hM : zoW s M) : zW mX9_still 8 (fun rv S' M' => S' = zS0 ∧ zoW s M' ∧ ((∃ r : Int, (0 ≤ r ∧ r ≤ 60) ∧ (∀ j : Int, 0 ≤ j → j < r → zchg (zWm s q j) (zWm s q (j + 1)) 16) ∧ ¬ zchg (zWm s q r) (zWm s q (r + 1)) 16 ∧ rv = some (.inl r)) ∨ ((∀ j : Int, 0 ≤ j → j ≤ 60 → zchg (zWm s q j) (zWm s q (j + 1)) 16) ∧ rv = some (.inl (-2))))) (0, 0) zS0 0 (zargs 0 [.inr (.inr 0)]) [] M := by
  change zW _ _ _ _ _ 0 [(0, .inr (.inr 0))] [] M
  refine z_aload_n 0 (zdec DX9_still 0 rfl) rfl rfl (by decide) ?_
  refine z_getr (rw1 := -10) (ki := 2) (r' := 21) 0 9 (zdec DX9_still 1 rfl) rfl rfl shp0 rfl (by decide) rfl rfl fl_SixWalls_28 (zPa (hM.P hP) 2 rfl) ?_
  refine z_inv mX8_daysTillStill 21 8 [] (zdec DX9_still 2 rfl) ml_SixWalls_208 okX8_daysTillStill rfl shp21 rfl rfl rfl rfl (Nat.le_of_ble_eq_true rfl) (Nat.le_of_ble_eq_true rfl) (b' := (0, 0)) ⟨Nat.le_refl 0, Nat.le_refl 0⟩ (Nat.le_of_ble_eq_true rfl) (cX8_daysTillStill hP hG hR hT hM) (fun rv9 S9 M4 h9 => ?_)
  obtain ⟨rfl, x1, x2⟩ := h9
  obtain ⟨r4, rfl⟩ : ∃ r, rv9 = some (.inl r) := by rcases x2 with ⟨r, _, _, _, h⟩ | h; (exact ⟨r, h⟩); (exact ⟨_, h.2⟩)
  change zW _ _ _ _ _ 7 [(0, .inr (.inr 0))] [.inl r4] M4
  exact z_iret (zdec DX9_still 3 rfl) rfl (⟨rfl, x1, x2⟩)
set_option maxHeartbeats 4000000 in
theorem lp_X9_cold_32 {Q : zPost} {s : zMm} (hP : zP s) {q : Int} (b k : Int) {M24 : zMm} (x1 : zoW s M24) (x2 : zH (M24 22) (zWm s q k)) (hx76 : ∀ (a : Int), (a = zsum (fun i => if s 7 i = 1 ∧ zWm s q k i < b then 1 else 0) 16) → zW mX9_cold 9 Q (0, 0) zS0 76 [(3, .inl a)] [] M24) : ∀ (n : Nat) (a : Int) (i : Int), (16 - i).toNat < n → (0 ≤ i ∧ i ≤ 16 ∧ (0 ≤ a ∧ a ≤ i) ∧ a = zsum (fun i => if s 7 i = 1 ∧ zWm s q k i < b then 1 else 0) i) → zW mX9_cold 9 Q (0, 0) zS0 32 [(0, .inr (.inr 0)), (1, .inl b), (3, .inl a), (4, .inl i)] [] M24 := by
  intro n
  induction n with
  | zero => intro a i hn; exact absurd hn (Nat.not_lt_zero _)
  | succ n ih =>
    intro a i hn hI
    have e7 : M24 7 = s 7 := x1 7 (by decide) (by decide) (by decide) (by decide) (by decide)
    have e2 := x2 i hI.1
    refine z_iload 3 (zdec DX9_cold 18 rfl) rfl ?_
    refine z_bipush 16 (zdec DX9_cold 19 rfl) (by decide) ?_
    refine z_icmp_ge 76 (zdec DX9_cold 20 rfl) rfl (fun h36 => ?_) (fun h36 => ?_)
    ·
      refine z_weak (L' := [(3, .inl a)]) (by simp) ?_
      exact hx76 a (by rw [hI.2.2.2, show i = 16 by omega])
    ·
      refine z_aload_n 0 (zdec DX9_cold 21 rfl) rfl rfl (by decide) ?_
      refine z_getr (rw1 := -10) (ki := 0) (r' := 1) 0 9 (zdec DX9_cold 22 rfl) rfl rfl shp0 rfl (by decide) rfl rfl fl_SixWalls_10 (zPa (x1.P hP) 0 rfl) ?_
      refine z_getr (rw1 := -11) (ki := 5) (r' := 7) 1 1 (zdec DX9_cold 23 rfl) rfl rfl shp1 rfl (by decide) rfl rfl fl_SixWalls_132 (zPa (x1.P hP) 14 rfl) ?_
      refine z_iload 3 (zdec DX9_cold 24 rfl) rfl ?_
      refine z_iald 7 (zdec DX9_cold 25 rfl) rfl shp7 ⟨by omega, by omega⟩ ?_
      refine z_iconst 1 (zdec DX9_cold 26 rfl) (by decide) ?_
      refine z_icmp_ne 70 (zdec DX9_cold 27 rfl) rfl (fun h50 => ?_) (fun h50 => ?_)
      ·
        refine z_iinc (L' := [(0, .inr (.inr 0)), (1, .inl b), (3, .inl a), (4, .inl (i + 1))]) 3 (zdec DX9_cold 36 rfl) rfl (by unfold z32; omega) rfl (by decide) ?_
        refine z_goto 32 (zdec DX9_cold 37 rfl) rfl ?_
        exact ih a (i + 1) (by omega) ⟨by omega, by omega, by omega, (by rw [zsum_s _ hI.1, if_neg (by rw [← e7, ← e2 (by omega)]; omega), hI.2.2.2]; omega)⟩
      ·
        refine z_aload_n 0 (zdec DX9_cold 28 rfl) rfl rfl (by decide) ?_
        refine z_getr (rw1 := -10) (ki := 2) (r' := 21) 0 9 (zdec DX9_cold 29 rfl) rfl rfl shp0 rfl (by decide) rfl rfl fl_SixWalls_28 (zPa (x1.P hP) 2 rfl) ?_
        refine z_getr (rw1 := -31) (ki := 2) (r' := 22) 21 8 (zdec DX9_cold 30 rfl) rfl rfl shp21 rfl (by decide) rfl rfl fl_SixWalls_201 (zPa (x1.P hP) 25 rfl) ?_
        refine z_iload 3 (zdec DX9_cold 31 rfl) rfl ?_
        refine z_iald 22 (zdec DX9_cold 32 rfl) rfl shp22 ⟨by omega, by omega⟩ ?_
        refine z_iload_n 1 (zdec DX9_cold 33 rfl) rfl rfl ?_
        refine z_icmp_ge 70 (zdec DX9_cold 34 rfl) rfl (fun h64 => ?_) (fun h64 => ?_)
        ·
          refine z_iinc (L' := [(0, .inr (.inr 0)), (1, .inl b), (3, .inl a), (4, .inl (i + 1))]) 3 (zdec DX9_cold 36 rfl) rfl (by unfold z32; omega) rfl (by decide) ?_
          refine z_goto 32 (zdec DX9_cold 37 rfl) rfl ?_
          exact ih a (i + 1) (by omega) ⟨by omega, by omega, by omega, (by rw [zsum_s _ hI.1, if_neg (by rw [← e7, ← e2 (by omega)]; omega), hI.2.2.2]; omega)⟩
        ·
          refine z_iinc (L' := [(0, .inr (.inr 0)), (1, .inl b), (3, .inl (a + 1)), (4, .inl i)]) 2 (zdec DX9_cold 35 rfl) rfl (by unfold z32; omega) rfl (by decide) ?_
          refine z_iinc (L' := [(0, .inr (.inr 0)), (1, .inl b), (3, .inl (a + 1)), (4, .inl (i + 1))]) 3 (zdec DX9_cold 36 rfl) rfl (by unfold z32; omega) rfl (by decide) ?_
          refine z_goto 32 (zdec DX9_cold 37 rfl) rfl ?_
          exact ih (a + 1) (i + 1) (by omega) ⟨by omega, by omega, by omega, (by rw [zsum_s _ hI.1, if_pos (by rw [← e7, ← e2 (by omega)]; exact ⟨by omega, by omega⟩), hI.2.2.2])⟩
set_option maxHeartbeats 4000000 in
theorem cX9_cold {s : zMm} (hP : zP s) {q : Int} (hG : zG s) (hR : zRg s) (hT : zTx s q) (b k : Int) {M : zMm} (hM : zoW s M) : zW mX9_cold 9 (fun rv S' M' => S' = zS0 ∧ zoW s M' ∧ rv = some (.inl (if (0 ≤ b ∧ b ≤ 99) ∧ 0 ≤ k ∧ k < 31 then zsum (fun i => if s 7 i = 1 ∧ zWm s q k i < b then 1 else 0) 16 else -1))) (0, 0) zS0 0 (zargs 0 [.inr (.inr 0), .inl b, .inl k]) [] M := by
  change zW _ _ _ _ _ 0 [(0, .inr (.inr 0)), (1, .inl b), (2, .inl k)] [] M
  refine z_iload_n 1 (zdec DX9_cold 0 rfl) rfl rfl ?_
  refine z_iconst 0 (zdec DX9_cold 1 rfl) (by decide) ?_
  refine z_bipush 99 (zdec DX9_cold 2 rfl) (by decide) ?_
  refine z_invs mX9_within [.inl b, .inl 0, .inl 99] (zdec DX9_cold 3 rfl) (Or.inl ml_SixWalls_76) okX9_within rfl rfl (Nat.le_of_ble_eq_true rfl) (Nat.le_of_ble_eq_true rfl) (b' := (0, 0)) ⟨Nat.le_refl 0, Nat.le_refl 0⟩ (Nat.le_of_ble_eq_true rfl) (cX9_within b 0 99) (fun rv9 S9 M4 h9 => ?_)
  obtain ⟨rfl, rfl, rfl⟩ := h9
  change zW _ _ _ _ _ 7 [(0, .inr (.inr 0)), (1, .inl b), (2, .inl k)] [.inl (zb (0 ≤ b ∧ b ≤ 99))] M
  refine z_if_eq 17 (zdec DX9_cold 4 rfl) rfl (fun h7 => ?_) (fun h7 => ?_)
  ·
    have hq7 := zb_eq0.mp h7
    refine z_iconst (-1) (zdec DX9_cold 8 rfl) (by decide) ?_
    exact z_iret (zdec DX9_cold 9 rfl) rfl (⟨rfl, hM, zri (by rw [if_neg (by omega)])⟩)
  ·
    have hq7 := zb_ne0.mp h7
    refine z_iload_n 2 (zdec DX9_cold 5 rfl) rfl rfl ?_
    refine z_invs mX9_isThought [.inl k] (zdec DX9_cold 6 rfl) (Or.inl ml_SixWalls_194) okX9_isThought rfl rfl (Nat.le_of_ble_eq_true rfl) (Nat.le_of_ble_eq_true rfl) (b' := (0, 0)) ⟨Nat.le_refl 0, Nat.le_refl 0⟩ (Nat.le_of_ble_eq_true rfl) (cX9_isThought k) (fun rv9 S9 M11 h9 => ?_)
    obtain ⟨rfl, rfl, rfl⟩ := h9
    change zW _ _ _ _ _ 14 [(0, .inr (.inr 0)), (1, .inl b), (2, .inl k)] [.inl (zb (0 ≤ k ∧ k < 31))] M
    refine z_if_ne 19 (zdec DX9_cold 7 rfl) rfl (fun h14 => ?_) (fun h14 => ?_)
    ·
      have hq14 := zb_ne0.mp h14
      refine z_aload_n 0 (zdec DX9_cold 10 rfl) rfl rfl (by decide) ?_
      refine z_getr (rw1 := -10) (ki := 2) (r' := 21) 0 9 (zdec DX9_cold 11 rfl) rfl rfl shp0 rfl (by decide) rfl rfl fl_SixWalls_28 (zPa (hM.P hP) 2 rfl) ?_
      refine z_iload_n 2 (zdec DX9_cold 12 rfl) rfl rfl ?_
      refine z_inv mX8_think 21 8 [.inl k] (zdec DX9_cold 13 rfl) ml_SixWalls_197 okX8_think rfl shp21 rfl rfl rfl rfl (Nat.le_of_ble_eq_true rfl) (Nat.le_of_ble_eq_true rfl) (b' := (0, 0)) ⟨Nat.le_refl 0, Nat.le_refl 0⟩ (Nat.le_of_ble_eq_true rfl) (cX8_think hP hG hR hT k (by omega) hM) (fun rv9 S9 M24 h9 => ?_)
      obtain ⟨rfl, rfl, x1, x2, x3, x4⟩ := h9
      change zW _ _ _ _ _ 27 [(0, .inr (.inr 0)), (1, .inl b), (2, .inl k)] [] M24
      refine z_iconst 0 (zdec DX9_cold 14 rfl) (by decide) ?_
      refine z_istore_n (L' := [(0, .inr (.inr 0)), (1, .inl b), (2, .inl k), (3, .inl 0)]) (zdec DX9_cold 15 rfl) rfl rfl (by decide) ?_
      refine z_iconst 0 (zdec DX9_cold 16 rfl) (by decide) ?_
      refine z_istore (L' := [(0, .inr (.inr 0)), (1, .inl b), (2, .inl k), (3, .inl 0), (4, .inl 0)]) (zdec DX9_cold 17 rfl) rfl (by decide) ?_
      refine z_weak (L' := [(0, .inr (.inr 0)), (1, .inl b), (3, .inl 0), (4, .inl 0)]) (by simp) ?_
      refine lp_X9_cold_32 hP b k x1 x2 (hx76 := fun a hx => ?_) _ 0 0 (Nat.lt_succ_self _) ⟨by omega, by omega, by omega, rfl⟩
      refine z_iload_n 0 (zdec DX9_cold 38 rfl) rfl rfl ?_
      exact z_iret (zdec DX9_cold 39 rfl) rfl (⟨rfl, x1, zri (by rw [if_pos ⟨hq7, hq14⟩]; exact hx)⟩)
    ·
      have hq14 : ¬ (0 ≤ k ∧ k < 31) := fun e => h14 (zb_ne0.mpr e)
      refine z_iconst (-1) (zdec DX9_cold 8 rfl) (by decide) ?_
      exact z_iret (zdec DX9_cold 9 rfl) rfl (⟨rfl, hM, zri (by rw [if_neg (by omega)])⟩)
set_option maxHeartbeats 4000000 in
theorem cX9_gave {s : zMm} (hP : zP s) {q : Int} (hG : zG s) (hR : zRg s) (hT : zTx s q) (w k : Int) {M : zMm} (hM : zoW s M) : zW mX9_gave 8 (fun rv S' M' => S' = zS0 ∧ zoW s M' ∧ rv = some (.inl (if (0 ≤ w ∧ w < 33) ∧ 0 ≤ k ∧ k < 31 then zsum (fun d => zflow s q (zWm s q d) w) k else -2000000000))) (0, 0) zS0 0 (zargs 0 [.inr (.inr 0), .inl w, .inl k]) [] M := by
  change zW _ _ _ _ _ 0 [(0, .inr (.inr 0)), (1, .inl w), (2, .inl k)] [] M
  refine z_iload_n 1 (zdec DX9_gave 0 rfl) rfl rfl ?_
  refine z_invs mX9_isWall [.inl w] (zdec DX9_gave 1 rfl) (Or.inl ml_SixWalls_109) okX9_isWall rfl rfl (Nat.le_of_ble_eq_true rfl) (Nat.le_of_ble_eq_true rfl) (b' := (0, 0)) ⟨Nat.le_refl 0, Nat.le_refl 0⟩ (Nat.le_of_ble_eq_true rfl) (cX9_isWall w) (fun rv9 S9 M1 h9 => ?_)
  obtain ⟨rfl, rfl, rfl⟩ := h9
  change zW _ _ _ _ _ 4 [(0, .inr (.inr 0)), (1, .inl w), (2, .inl k)] [.inl (zb (0 ≤ w ∧ w < 33))] M
  refine z_if_eq 14 (zdec DX9_gave 2 rfl) rfl (fun h4 => ?_) (fun h4 => ?_)
  ·
    have hq4 := zb_eq0.mp h4
    refine z_ldc (-2000000000) (zdec DX9_gave 6 rfl) kc_SixWalls_108 rfl ⟨by decide, by decide⟩ ?_
    exact z_iret (zdec DX9_gave 7 rfl) rfl (⟨rfl, hM, zri (by rw [if_neg (by omega)])⟩)
  ·
    have hq4 := zb_ne0.mp h4
    refine z_iload_n 2 (zdec DX9_gave 3 rfl) rfl rfl ?_
    refine z_invs mX9_isThought [.inl k] (zdec DX9_gave 4 rfl) (Or.inl ml_SixWalls_194) okX9_isThought rfl rfl (Nat.le_of_ble_eq_true rfl) (Nat.le_of_ble_eq_true rfl) (b' := (0, 0)) ⟨Nat.le_refl 0, Nat.le_refl 0⟩ (Nat.le_of_ble_eq_true rfl) (cX9_isThought k) (fun rv9 S9 M8 h9 => ?_)
    obtain ⟨rfl, rfl, rfl⟩ := h9
    change zW _ _ _ _ _ 11 [(0, .inr (.inr 0)), (1, .inl w), (2, .inl k)] [.inl (zb (0 ≤ k ∧ k < 31))] M
    refine z_if_ne 17 (zdec DX9_gave 5 rfl) rfl (fun h11 => ?_) (fun h11 => ?_)
    ·
      have hq11 := zb_ne0.mp h11
      refine z_aload_n 0 (zdec DX9_gave 8 rfl) rfl rfl (by decide) ?_
      refine z_getr (rw1 := -10) (ki := 2) (r' := 21) 0 9 (zdec DX9_gave 9 rfl) rfl rfl shp0 rfl (by decide) rfl rfl fl_SixWalls_28 (zPa (hM.P hP) 2 rfl) ?_
      refine z_iload_n 1 (zdec DX9_gave 10 rfl) rfl rfl ?_
      refine z_iload_n 2 (zdec DX9_gave 11 rfl) rfl rfl ?_
      refine z_inv mX8_goneThrough 21 8 [.inl w, .inl k] (zdec DX9_gave 12 rfl) ml_SixWalls_211 okX8_goneThrough rfl shp21 rfl rfl rfl rfl (Nat.le_of_ble_eq_true rfl) (Nat.le_of_ble_eq_true rfl) (b' := (0, 0)) ⟨Nat.le_refl 0, Nat.le_refl 0⟩ (Nat.le_of_ble_eq_true rfl) (cX8_goneThrough hP hG hR hT w k (by omega) (by omega) hM) (fun rv9 S9 M23 h9 => ?_)
      obtain ⟨rfl, x1, rfl⟩ := h9
      change zW _ _ _ _ _ 26 [(0, .inr (.inr 0)), (1, .inl w), (2, .inl k)] [.inl (zsum (fun d => zflow s q (zWm s q d) w) k)] M23
      exact z_iret (zdec DX9_gave 13 rfl) rfl (⟨rfl, x1, zri (by rw [if_pos ⟨hq4, hq11⟩])⟩)
    ·
      have hq11 : ¬ (0 ≤ k ∧ k < 31) := fun e => h11 (zb_ne0.mpr e)
      refine z_ldc (-2000000000) (zdec DX9_gave 6 rfl) kc_SixWalls_108 rfl ⟨by decide, by decide⟩ ?_
      exact z_iret (zdec DX9_gave 7 rfl) rfl (⟨rfl, hM, zri (by rw [if_neg (by omega)])⟩)
set_option maxHeartbeats 4000000 in
theorem cX9_leastFire {s : zMm} (hP : zP s) {q : Int} (hG : zG s) (hR : zRg s) (hT : zTx s q) (h v : Int) {M : zMm} (hM : zoW s M) : zW mX9_leastFire 9 (fun rv S' M' => S' = zS0 ∧ zoW s M' ∧ ((¬ ((0 ≤ h ∧ h < 16) ∧ 0 ≤ v ∧ v / 100 ≤ 99 ∧ v % 100 < 31) ∧ rv = some (.inl (-1))) ∨ (((0 ≤ h ∧ h < 16) ∧ 0 ≤ v ∧ v / 100 ≤ 99 ∧ v % 100 < 31) ∧ ((∃ f : Int, (0 ≤ f ∧ f ≤ 9) ∧ (∀ j : Int, 0 ≤ j → j < f → zfr s q h (v % 100) j < v / 100) ∧ v / 100 ≤ zfr s q h (v % 100) f ∧ rv = some (.inl f)) ∨ ((∀ j : Int, 0 ≤ j → j ≤ 9 → zfr s q h (v % 100) j < v / 100) ∧ rv = some (.inl (-2))))))) (0, 0) zS0 0 (zargs 0 [.inr (.inr 0), .inl h, .inl v]) [] M := by
  change zW _ _ _ _ _ 0 [(0, .inr (.inr 0)), (1, .inl h), (2, .inl v)] [] M
  refine z_iload_n 1 (zdec DX9_leastFire 0 rfl) rfl rfl ?_
  refine z_invs mX9_isHouse [.inl h] (zdec DX9_leastFire 1 rfl) (Or.inl ml_SixWalls_80) okX9_isHouse rfl rfl (Nat.le_of_ble_eq_true rfl) (Nat.le_of_ble_eq_true rfl) (b' := (0, 0)) ⟨Nat.le_refl 0, Nat.le_refl 0⟩ (Nat.le_of_ble_eq_true rfl) (cX9_isHouse h) (fun rv9 S9 M1 h9 => ?_)
  obtain ⟨rfl, rfl, rfl⟩ := h9
  change zW _ _ _ _ _ 4 [(0, .inr (.inr 0)), (1, .inl h), (2, .inl v)] [.inl (zb (0 ≤ h ∧ h < 16))] M
  refine z_if_eq 30 (zdec DX9_leastFire 2 rfl) rfl (fun h4 => ?_) (fun h4 => ?_)
  ·
    have hq4 := zb_eq0.mp h4
    refine z_iconst (-1) (zdec DX9_leastFire 15 rfl) (by decide) ?_
    exact z_iret (zdec DX9_leastFire 16 rfl) rfl (⟨rfl, hM, Or.inl ⟨by omega, rfl⟩⟩)
  ·
    have hq4 := zb_ne0.mp h4
    refine z_iload_n 2 (zdec DX9_leastFire 3 rfl) rfl rfl ?_
    refine z_if_lt 30 (zdec DX9_leastFire 4 rfl) rfl (fun h8 => ?_) (fun h8 => ?_)
    ·
      refine z_iconst (-1) (zdec DX9_leastFire 15 rfl) (by decide) ?_
      exact z_iret (zdec DX9_leastFire 16 rfl) rfl (⟨rfl, hM, Or.inl ⟨by omega, rfl⟩⟩)
    ·
      refine z_iload_n 2 (zdec DX9_leastFire 5 rfl) rfl rfl ?_
      refine z_bipush 100 (zdec DX9_leastFire 6 rfl) (by decide) ?_
      refine z_idivp (zdec DX9_leastFire 7 rfl) (by omega) (by omega) ?_
      refine z_bipush 99 (zdec DX9_leastFire 8 rfl) (by decide) ?_
      refine z_icmp_gt 30 (zdec DX9_leastFire 9 rfl) rfl (fun h17 => ?_) (fun h17 => ?_)
      ·
        refine z_iconst (-1) (zdec DX9_leastFire 15 rfl) (by decide) ?_
        exact z_iret (zdec DX9_leastFire 16 rfl) rfl (⟨rfl, hM, Or.inl ⟨by omega, rfl⟩⟩)
      ·
        refine z_iload_n 2 (zdec DX9_leastFire 10 rfl) rfl rfl ?_
        refine z_bipush 100 (zdec DX9_leastFire 11 rfl) (by decide) ?_
        refine z_iremp (zdec DX9_leastFire 12 rfl) (by omega) (by omega) ?_
        refine z_invs mX9_isThought [.inl (v % 100)] (zdec DX9_leastFire 13 rfl) (Or.inl ml_SixWalls_194) okX9_isThought rfl rfl (Nat.le_of_ble_eq_true rfl) (Nat.le_of_ble_eq_true rfl) (b' := (0, 0)) ⟨Nat.le_refl 0, Nat.le_refl 0⟩ (Nat.le_of_ble_eq_true rfl) (cX9_isThought (v % 100)) (fun rv9 S9 M24 h9 => ?_)
        obtain ⟨rfl, rfl, rfl⟩ := h9
        change zW _ _ _ _ _ 27 [(0, .inr (.inr 0)), (1, .inl h), (2, .inl v)] [.inl (zb (0 ≤ (v % 100) ∧ (v % 100) < 31))] M
        refine z_if_ne 32 (zdec DX9_leastFire 14 rfl) rfl (fun h27 => ?_) (fun h27 => ?_)
        ·
          have hq27 := zb_ne0.mp h27
          refine z_aload_n 0 (zdec DX9_leastFire 17 rfl) rfl rfl (by decide) ?_
          refine z_getr (rw1 := -10) (ki := 2) (r' := 21) 0 9 (zdec DX9_leastFire 18 rfl) rfl rfl shp0 rfl (by decide) rfl rfl fl_SixWalls_28 (zPa (hM.P hP) 2 rfl) ?_
          refine z_iload_n 1 (zdec DX9_leastFire 19 rfl) rfl rfl ?_
          refine z_iload_n 2 (zdec DX9_leastFire 20 rfl) rfl rfl ?_
          refine z_bipush 100 (zdec DX9_leastFire 21 rfl) (by decide) ?_
          refine z_idivp (zdec DX9_leastFire 22 rfl) (by omega) (by omega) ?_
          refine z_iload_n 2 (zdec DX9_leastFire 23 rfl) rfl rfl ?_
          refine z_bipush 100 (zdec DX9_leastFire 24 rfl) (by decide) ?_
          refine z_iremp (zdec DX9_leastFire 25 rfl) (by omega) (by omega) ?_
          refine z_inv mX8_fireFor 21 8 [.inl h, .inl (v / 100), .inl (v % 100)] (zdec DX9_leastFire 26 rfl) ml_SixWalls_214 okX8_fireFor rfl shp21 rfl rfl rfl rfl (Nat.le_of_ble_eq_true rfl) (Nat.le_of_ble_eq_true rfl) (b' := (0, 0)) ⟨Nat.le_refl 0, Nat.le_refl 0⟩ (Nat.le_of_ble_eq_true rfl) (cX8_fireFor hP hG hR hT h (v / 100) (v % 100) hq4 (by omega) hM) (fun rv9 S9 M45 h9 => ?_)
          obtain ⟨rfl, x1, x2⟩ := h9
          obtain ⟨r45, rfl⟩ : ∃ r, rv9 = some (.inl r) := by rcases x2 with ⟨r, _, _, _, h⟩ | h; (exact ⟨r, h⟩); (exact ⟨_, h.2⟩)
          change zW _ _ _ _ _ 48 [(0, .inr (.inr 0)), (1, .inl h), (2, .inl v)] [.inl r45] M45
          exact z_iret (zdec DX9_leastFire 27 rfl) rfl (⟨rfl, x1, Or.inr ⟨⟨hq4, by omega, by omega, by omega⟩, x2⟩⟩)
        ·
          have hq27 : ¬ (0 ≤ v % 100 ∧ v % 100 < 31) := fun e => h27 (zb_ne0.mpr e)
          refine z_iconst (-1) (zdec DX9_leastFire 15 rfl) (by decide) ?_
          exact z_iret (zdec DX9_leastFire 16 rfl) rfl (⟨rfl, hM, Or.inl ⟨by omega, rfl⟩⟩)
set_option maxHeartbeats 4000000 in
theorem cX9_days {M : zMm} (hP : zP M) {q : Int} (hG : zG M) (hR : zRg M) (hT : zTx M q) (k : Int) : zW mX9_days 10 (fun rv S' M' => S' = zS0 ∧ ((¬ (1 ≤ k ∧ k ≤ 30) ∧ rv = some (.inl (-1)) ∧ M' = M) ∨ ((1 ≤ k ∧ k ≤ 30) ∧ rv = some (.inl (zsum (zWm M q k) 16)) ∧ zLiv M q k M'))) (0, 0) zS0 0 (zargs 0 [.inr (.inr 0), .inl k]) [] M := by
  change zW _ _ _ _ _ 0 [(0, .inr (.inr 0)), (1, .inl k)] [] M
  refine z_iload_n 1 (zdec DX9_days 0 rfl) rfl rfl ?_
  refine z_iconst 1 (zdec DX9_days 1 rfl) (by decide) ?_
  refine z_bipush 30 (zdec DX9_days 2 rfl) (by decide) ?_
  refine z_invs mX9_within [.inl k, .inl 1, .inl 30] (zdec DX9_days 3 rfl) (Or.inl ml_SixWalls_76) okX9_within rfl rfl (Nat.le_of_ble_eq_true rfl) (Nat.le_of_ble_eq_true rfl) (b' := (0, 0)) ⟨Nat.le_refl 0, Nat.le_refl 0⟩ (Nat.le_of_ble_eq_true rfl) (cX9_within k 1 30) (fun rv9 S9 M4 h9 => ?_)
  obtain ⟨rfl, rfl, rfl⟩ := h9
  change zW _ _ _ _ _ 7 [(0, .inr (.inr 0)), (1, .inl k)] [.inl (zb (1 ≤ k ∧ k ≤ 30))] M
  refine z_if_ne 12 (zdec DX9_days 4 rfl) rfl (fun h7 => ?_) (fun h7 => ?_)
  ·
    have hq7 := zb_ne0.mp h7
    refine z_aload_n 0 (zdec DX9_days 7 rfl) rfl rfl (by decide) ?_
    refine z_getr (rw1 := -10) (ki := 2) (r' := 21) 0 9 (zdec DX9_days 8 rfl) rfl rfl shp0 rfl (by decide) rfl rfl fl_SixWalls_28 (zPa hP 2 rfl) ?_
    refine z_iload_n 1 (zdec DX9_days 9 rfl) rfl rfl ?_
    refine z_inv mX8_live 21 8 [.inl k] (zdec DX9_days 10 rfl) ml_SixWalls_218 okX8_live rfl shp21 rfl rfl rfl rfl (Nat.le_of_ble_eq_true rfl) (Nat.le_of_ble_eq_true rfl) (b' := (0, 0)) ⟨Nat.le_refl 0, Nat.le_refl 0⟩ (Nat.le_of_ble_eq_true rfl) (cX8_live hP hG hR hT k hq7) (fun rv9 S9 M17 h9 => ?_)
    obtain ⟨rfl, rfl, x1⟩ := h9
    change zW _ _ _ _ _ 20 [(0, .inr (.inr 0)), (1, .inl k)] [] M17
    refine z_aload_n 0 (zdec DX9_days 11 rfl) rfl rfl (by decide) ?_
    refine z_getr (rw1 := -10) (ki := 0) (r' := 1) 0 9 (zdec DX9_days 12 rfl) rfl rfl shp0 rfl (by decide) rfl rfl fl_SixWalls_10 (zPa (x1.P hP) 0 rfl) ?_
    refine z_getr (rw1 := -11) (ki := 7) (r' := 9) 1 1 (zdec DX9_days 13 rfl) rfl rfl shp1 rfl (by decide) rfl rfl fl_SixWalls_129 (zPa (x1.P hP) 16 rfl) ?_
    refine z_invs mX9_sum [.inr (.inr 9)] (zdec DX9_days 14 rfl) (Or.inl ml_SixWalls_204) okX9_sum rfl rfl (Nat.le_of_ble_eq_true rfl) (Nat.le_of_ble_eq_true rfl) (b' := (0, 0)) ⟨Nat.le_refl 0, Nat.le_refl 0⟩ (Nat.le_of_ble_eq_true rfl) (cX9_sum_9 (zbWc x1.1 (zWm_b hR _))) (fun rv9 S9 M27 h9 => ?_)
    obtain ⟨rfl, rfl, rfl⟩ := h9
    change zW _ _ _ _ _ 30 [(0, .inr (.inr 0)), (1, .inl k)] [.inl (zsum (M17 9) 16)] M17
    exact z_iret (zdec DX9_days 15 rfl) rfl (⟨rfl, Or.inr ⟨hq7, zri (zsum_H x1.1), x1⟩⟩)
  ·
    have hq7 : ¬ (1 ≤ k ∧ k ≤ 30) := fun e => h7 (zb_ne0.mpr e)
    refine z_iconst (-1) (zdec DX9_days 5 rfl) (by decide) ?_
    exact z_iret (zdec DX9_days 6 rfl) rfl (⟨rfl, Or.inl ⟨hq7, rfl, rfl⟩⟩)
set_option maxHeartbeats 4000000 in
theorem cX9_led {M : zMm} (hP : zP M) (w : Int) : zW mX9_led 3 (fun rv S' M' => S' = zS0 ∧ M = M' ∧ rv = some (.inl (if 0 ≤ w ∧ w < 33 then (if M 21 7 = 0 then -5 else M 26 w) else -2000000000))) (0, 0) zS0 0 (zargs 0 [.inr (.inr 0), .inl w]) [] M := by
  change zW _ _ _ _ _ 0 [(0, .inr (.inr 0)), (1, .inl w)] [] M
  refine z_iload_n 1 (zdec DX9_led 0 rfl) rfl rfl ?_
  refine z_invs mX9_isWall [.inl w] (zdec DX9_led 1 rfl) (Or.inl ml_SixWalls_109) okX9_isWall rfl rfl (Nat.le_of_ble_eq_true rfl) (Nat.le_of_ble_eq_true rfl) (b' := (0, 0)) ⟨Nat.le_refl 0, Nat.le_refl 0⟩ (Nat.le_of_ble_eq_true rfl) (cX9_isWall w) (fun rv9 S9 M1 h9 => ?_)
  obtain ⟨rfl, rfl, rfl⟩ := h9
  change zW _ _ _ _ _ 4 [(0, .inr (.inr 0)), (1, .inl w)] [.inl (zb (0 ≤ w ∧ w < 33))] M
  refine z_if_ne 10 (zdec DX9_led 2 rfl) rfl (fun h4 => ?_) (fun h4 => ?_)
  ·
    have hq4 := zb_ne0.mp h4
    refine z_aload_n 0 (zdec DX9_led 5 rfl) rfl rfl (by decide) ?_
    refine z_getr (rw1 := -10) (ki := 2) (r' := 21) 0 9 (zdec DX9_led 6 rfl) rfl rfl shp0 rfl (by decide) rfl rfl fl_SixWalls_28 (zPa hP 2 rfl) ?_
    refine z_geti (ki := 7) 21 8 (zdec DX9_led 7 rfl) rfl shp21 rfl (by decide) rfl rfl fl_SixWalls_221 ?_
    refine z_if_ne 25 (zdec DX9_led 8 rfl) rfl (fun h17 => ?_) (fun h17 => ?_)
    ·
      refine z_aload_n 0 (zdec DX9_led 11 rfl) rfl rfl (by decide) ?_
      refine z_getr (rw1 := -10) (ki := 2) (r' := 21) 0 9 (zdec DX9_led 12 rfl) rfl rfl shp0 rfl (by decide) rfl rfl fl_SixWalls_28 (zPa hP 2 rfl) ?_
      refine z_getr (rw1 := -31) (ki := 6) (r' := 26) 21 8 (zdec DX9_led 13 rfl) rfl rfl shp21 rfl (by decide) rfl rfl fl_SixWalls_224 (zPa hP 29 rfl) ?_
      refine z_iload_n 1 (zdec DX9_led 14 rfl) rfl rfl ?_
      refine z_iald 26 (zdec DX9_led 15 rfl) rfl shp26 ⟨by omega, by omega⟩ ?_
      exact z_iret (zdec DX9_led 16 rfl) rfl (⟨rfl, rfl, zri (by first | rw [if_neg hq4] | rw [if_pos hq4, if_pos (by omega)] | rw [if_pos hq4, if_neg (by omega)])⟩)
    ·
      refine z_bipush (-5) (zdec DX9_led 9 rfl) (by decide) ?_
      refine z_goto 34 (zdec DX9_led 10 rfl) rfl ?_
      exact z_iret (zdec DX9_led 16 rfl) rfl (⟨rfl, rfl, zri (by first | rw [if_neg hq4] | rw [if_pos hq4, if_pos (by omega)] | rw [if_pos hq4, if_neg (by omega)])⟩)
  ·
    have hq4 : ¬ (0 ≤ w ∧ w < 33) := fun e => h4 (zb_ne0.mpr e)
    refine z_ldc (-2000000000) (zdec DX9_led 3 rfl) kc_SixWalls_108 rfl ⟨by decide, by decide⟩ ?_
    exact z_iret (zdec DX9_led 4 rfl) rfl (⟨rfl, rfl, zri (by first | rw [if_neg hq4] | rw [if_pos hq4, if_pos (by omega)] | rw [if_pos hq4, if_neg (by omega)])⟩)
set_option maxHeartbeats 4000000 in
theorem lp_X9_where_22 {Q : zPost} {s : zMm} (hP : zP s) {q : Int} (k : Int) {M14 : zMm} (x1 : zoW s M14) (x2 : zH (M14 22) (zWm s q k)) (hx73 : ∀ (b : Int), (b = zfo (fun best i => if s 7 i = 0 ∧ (best < 0 ∨ zWm s q k best < zWm s q k i) then i else best) (-2)  16) → zW mX9_where 9 Q (0, 0) zS0 73 [(2, .inl b)] [] M14) : ∀ (n : Nat) (b : Int) (i : Int), (16 - i).toNat < n → (0 ≤ i ∧ i ≤ 16 ∧ (-2 ≤ b ∧ b < 16) ∧ b = zfo (fun best i => if s 7 i = 0 ∧ (best < 0 ∨ zWm s q k best < zWm s q k i) then i else best) (-2)  i) → zW mX9_where 9 Q (0, 0) zS0 22 [(0, .inr (.inr 0)), (2, .inl b), (3, .inl i)] [] M14 := by
  intro n
  induction n with
  | zero => intro b i hn; exact absurd hn (Nat.not_lt_zero _)
  | succ n ih =>
    intro b i hn hI
    have e7 : M14 7 = s 7 := x1 7 (by decide) (by decide) (by decide) (by decide) (by decide)
    have e2 := x2 i hI.1
    have e3 := x2 b
    refine z_iload_n 2 (zdec DX9_where 13 rfl) rfl rfl ?_
    refine z_bipush 16 (zdec DX9_where 14 rfl) (by decide) ?_
    refine z_icmp_ge 73 (zdec DX9_where 15 rfl) rfl (fun h25 => ?_) (fun h25 => ?_)
    ·
      refine z_weak (L' := [(2, .inl b)]) (by simp) ?_
      exact hx73 b (by rw [hI.2.2.2, show i = 16 by omega])
    ·
      refine z_aload_n 0 (zdec DX9_where 16 rfl) rfl rfl (by decide) ?_
      refine z_getr (rw1 := -10) (ki := 0) (r' := 1) 0 9 (zdec DX9_where 17 rfl) rfl rfl shp0 rfl (by decide) rfl rfl fl_SixWalls_10 (zPa (x1.P hP) 0 rfl) ?_
      refine z_getr (rw1 := -11) (ki := 5) (r' := 7) 1 1 (zdec DX9_where 18 rfl) rfl rfl shp1 rfl (by decide) rfl rfl fl_SixWalls_132 (zPa (x1.P hP) 14 rfl) ?_
      refine z_iload_n 2 (zdec DX9_where 19 rfl) rfl rfl ?_
      refine z_iald 7 (zdec DX9_where 20 rfl) rfl shp7 ⟨by omega, by omega⟩ ?_
      refine z_if_ne 67 (zdec DX9_where 21 rfl) rfl (fun h37 => ?_) (fun h37 => ?_)
      ·
        refine z_iinc (L' := [(0, .inr (.inr 0)), (2, .inl b), (3, .inl (i + 1))]) 2 (zdec DX9_where 37 rfl) rfl (by unfold z32; omega) rfl (by decide) ?_
        refine z_goto 22 (zdec DX9_where 38 rfl) rfl ?_
        exact ih b (i + 1) (by omega) ⟨by omega, by omega, by omega, (by rw [zfo_s _ _ hI.1, ← hI.2.2.2, if_neg (by rw [← e7]; omega)])⟩
      ·
        refine z_iload_n 1 (zdec DX9_where 22 rfl) rfl rfl ?_
        refine z_if_lt 65 (zdec DX9_where 23 rfl) rfl (fun h41 => ?_) (fun h41 => ?_)
        ·
          refine z_iload_n 2 (zdec DX9_where 35 rfl) rfl rfl ?_
          refine z_istore_n (L' := [(0, .inr (.inr 0)), (2, .inl i), (3, .inl i)]) (zdec DX9_where 36 rfl) rfl rfl (by decide) ?_
          refine z_iinc (L' := [(0, .inr (.inr 0)), (2, .inl i), (3, .inl (i + 1))]) 2 (zdec DX9_where 37 rfl) rfl (by unfold z32; omega) rfl (by decide) ?_
          refine z_goto 22 (zdec DX9_where 38 rfl) rfl ?_
          exact ih i (i + 1) (by omega) ⟨by omega, by omega, by omega, (by rw [zfo_s _ _ hI.1, ← hI.2.2.2, if_pos ⟨by rw [← e7]; omega, Or.inl (by omega)⟩])⟩
        ·
          refine z_aload_n 0 (zdec DX9_where 24 rfl) rfl rfl (by decide) ?_
          refine z_getr (rw1 := -10) (ki := 2) (r' := 21) 0 9 (zdec DX9_where 25 rfl) rfl rfl shp0 rfl (by decide) rfl rfl fl_SixWalls_28 (zPa (x1.P hP) 2 rfl) ?_
          refine z_getr (rw1 := -31) (ki := 2) (r' := 22) 21 8 (zdec DX9_where 26 rfl) rfl rfl shp21 rfl (by decide) rfl rfl fl_SixWalls_201 (zPa (x1.P hP) 25 rfl) ?_
          refine z_iload_n 2 (zdec DX9_where 27 rfl) rfl rfl ?_
          refine z_iald 22 (zdec DX9_where 28 rfl) rfl shp22 ⟨by omega, by omega⟩ ?_
          refine z_aload_n 0 (zdec DX9_where 29 rfl) rfl rfl (by decide) ?_
          refine z_getr (rw1 := -10) (ki := 2) (r' := 21) 0 9 (zdec DX9_where 30 rfl) rfl rfl shp0 rfl (by decide) rfl rfl fl_SixWalls_28 (zPa (x1.P hP) 2 rfl) ?_
          refine z_getr (rw1 := -31) (ki := 2) (r' := 22) 21 8 (zdec DX9_where 31 rfl) rfl rfl shp21 rfl (by decide) rfl rfl fl_SixWalls_201 (zPa (x1.P hP) 25 rfl) ?_
          refine z_iload_n 1 (zdec DX9_where 32 rfl) rfl rfl ?_
          refine z_iald 22 (zdec DX9_where 33 rfl) rfl shp22 ⟨by omega, by omega⟩ ?_
          refine z_icmp_le 67 (zdec DX9_where 34 rfl) rfl (fun h62 => ?_) (fun h62 => ?_)
          ·
            refine z_iinc (L' := [(0, .inr (.inr 0)), (2, .inl b), (3, .inl (i + 1))]) 2 (zdec DX9_where 37 rfl) rfl (by unfold z32; omega) rfl (by decide) ?_
            refine z_goto 22 (zdec DX9_where 38 rfl) rfl ?_
            exact ih b (i + 1) (by omega) ⟨by omega, by omega, by omega, (by rw [zfo_s _ _ hI.1, ← hI.2.2.2, if_neg (by rw [← e3 (by omega) (by omega), ← e2 (by omega)]; omega)])⟩
          ·
            refine z_iload_n 2 (zdec DX9_where 35 rfl) rfl rfl ?_
            refine z_istore_n (L' := [(0, .inr (.inr 0)), (2, .inl i), (3, .inl i)]) (zdec DX9_where 36 rfl) rfl rfl (by decide) ?_
            refine z_iinc (L' := [(0, .inr (.inr 0)), (2, .inl i), (3, .inl (i + 1))]) 2 (zdec DX9_where 37 rfl) rfl (by unfold z32; omega) rfl (by decide) ?_
            refine z_goto 22 (zdec DX9_where 38 rfl) rfl ?_
            exact ih i (i + 1) (by omega) ⟨by omega, by omega, by omega, (by rw [zfo_s _ _ hI.1, ← hI.2.2.2, if_pos ⟨by rw [← e7]; omega, Or.inr (by rw [← e3 (by omega) (by omega), ← e2 (by omega)]; omega)⟩])⟩
set_option maxHeartbeats 4000000 in
theorem cX9_where {s : zMm} (hP : zP s) {q : Int} (hG : zG s) (hR : zRg s) (hT : zTx s q) (k : Int) {M : zMm} (hM : zoW s M) : zW mX9_where 9 (fun rv S' M' => S' = zS0 ∧ zoW s M' ∧ rv = some (.inl (if 0 ≤ k ∧ k < 31 then zfo (fun best i => if s 7 i = 0 ∧ (best < 0 ∨ zWm s q k best < zWm s q k i) then i else best) (-2)  16 else -1))) (0, 0) zS0 0 (zargs 0 [.inr (.inr 0), .inl k]) [] M := by
  change zW _ _ _ _ _ 0 [(0, .inr (.inr 0)), (1, .inl k)] [] M
  refine z_iload_n 1 (zdec DX9_where 0 rfl) rfl rfl ?_
  refine z_invs mX9_isThought [.inl k] (zdec DX9_where 1 rfl) (Or.inl ml_SixWalls_194) okX9_isThought rfl rfl (Nat.le_of_ble_eq_true rfl) (Nat.le_of_ble_eq_true rfl) (b' := (0, 0)) ⟨Nat.le_refl 0, Nat.le_refl 0⟩ (Nat.le_of_ble_eq_true rfl) (cX9_isThought k) (fun rv9 S9 M1 h9 => ?_)
  obtain ⟨rfl, rfl, rfl⟩ := h9
  change zW _ _ _ _ _ 4 [(0, .inr (.inr 0)), (1, .inl k)] [.inl (zb (0 ≤ k ∧ k < 31))] M
  refine z_if_ne 9 (zdec DX9_where 2 rfl) rfl (fun h4 => ?_) (fun h4 => ?_)
  ·
    have hq4 := zb_ne0.mp h4
    refine z_aload_n 0 (zdec DX9_where 5 rfl) rfl rfl (by decide) ?_
    refine z_getr (rw1 := -10) (ki := 2) (r' := 21) 0 9 (zdec DX9_where 6 rfl) rfl rfl shp0 rfl (by decide) rfl rfl fl_SixWalls_28 (zPa (hM.P hP) 2 rfl) ?_
    refine z_iload_n 1 (zdec DX9_where 7 rfl) rfl rfl ?_
    refine z_inv mX8_think 21 8 [.inl k] (zdec DX9_where 8 rfl) ml_SixWalls_197 okX8_think rfl shp21 rfl rfl rfl rfl (Nat.le_of_ble_eq_true rfl) (Nat.le_of_ble_eq_true rfl) (b' := (0, 0)) ⟨Nat.le_refl 0, Nat.le_refl 0⟩ (Nat.le_of_ble_eq_true rfl) (cX8_think hP hG hR hT k (by omega) hM) (fun rv9 S9 M14 h9 => ?_)
    obtain ⟨rfl, rfl, x1, x2, x3, x4⟩ := h9
    change zW _ _ _ _ _ 17 [(0, .inr (.inr 0)), (1, .inl k)] [] M14
    refine z_bipush (-2) (zdec DX9_where 9 rfl) (by decide) ?_
    refine z_istore_n (L' := [(0, .inr (.inr 0)), (1, .inl k), (2, .inl (-2))]) (zdec DX9_where 10 rfl) rfl rfl (by decide) ?_
    refine z_iconst 0 (zdec DX9_where 11 rfl) (by decide) ?_
    refine z_istore_n (L' := [(0, .inr (.inr 0)), (1, .inl k), (2, .inl (-2)), (3, .inl 0)]) (zdec DX9_where 12 rfl) rfl rfl (by decide) ?_
    refine z_weak (L' := [(0, .inr (.inr 0)), (2, .inl (-2)), (3, .inl 0)]) (by simp) ?_
    refine lp_X9_where_22 hP k x1 x2 (hx73 := fun b hx => ?_) _ (-2) 0 (Nat.lt_succ_self _) ⟨by omega, by omega, by omega, rfl⟩
    refine z_iload_n 0 (zdec DX9_where 39 rfl) rfl rfl ?_
    exact z_iret (zdec DX9_where 40 rfl) rfl (⟨rfl, x1, zri (by rw [if_pos hq4]; exact hx)⟩)
  ·
    have hq4 : ¬ (0 ≤ k ∧ k < 31) := fun e => h4 (zb_ne0.mpr e)
    refine z_iconst (-1) (zdec DX9_where 3 rfl) (by decide) ?_
    exact z_iret (zdec DX9_where 4 rfl) rfl (⟨rfl, hM, zri (by rw [if_neg hq4])⟩)
