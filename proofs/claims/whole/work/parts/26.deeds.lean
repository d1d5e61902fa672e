/-! contracts: fires for a warmth, days in deed, winters of SixWalls -/
def zfr (s : zMm) (q h k f : Int) : Int := zdN s q (zpu (s 8) h f) (s 9) k.toNat h
theorem zbH_pu {s : zMm} (hR : zRg s) {h f : Int} (hf : 0 ≤ f ∧ f ≤ 9) : zbH (zpu (s 8) h f) := zpu_r (zb8 hR) hf
theorem zsum_H {f g : Int → Int} (h : zH f g) : zsum f 16 = zsum g 16 := zsum_c (fun i h0 h1 => h i h0 h1)
theorem zWm_b {s : zMm} {q : Int} (h : zRg s) (k : Int) : zbW (zWm s q k) := zdN_b (zb9 h) _
set_option maxHeartbeats 4000000 in
theorem lp_X8_fireFor_3 {s : zMm} (hP : zP s) {q : Int} (hG : zG s) (hR : zRg s) (hT : zTx s q) (h v k : Int) (hh : 0 ≤ h ∧ h < 16) (hk : 0 ≤ k ∧ k ≤ 99)  (hx46 : ∀ (M2 : zMm), (zoW s M2 ∧ ∀ j : Int, 0 ≤ j → j ≤ 9 → zfr s q h k j < v) → zW mX8_fireFor 8 (fun rv S' M' => S' = zS0 ∧ zoW s M' ∧ ((∃ f : Int, (0 ≤ f ∧ f ≤ 9) ∧ (∀ j : Int, 0 ≤ j → j < f → zfr s q h k j < v) ∧ v ≤ zfr s q h k f ∧ rv = some (.inl f)) ∨ ((∀ j : Int, 0 ≤ j → j ≤ 9 → zfr s q h k j < v) ∧ rv = some (.inl (-2))))) (0, 0) zS0 46 [] [] M2) : ∀ (n : Nat) (f : Int) (M2 : zMm), (10 - f).toNat < n → (0 ≤ f ∧ f ≤ 10 ∧ zoW s M2 ∧ ∀ j : Int, 0 ≤ j → j < f → zfr s q h k j < v) → zW mX8_fireFor 8 (fun rv S' M' => S' = zS0 ∧ zoW s M' ∧ ((∃ f : Int, (0 ≤ f ∧ f ≤ 9) ∧ (∀ j : Int, 0 ≤ j → j < f → zfr s q h k j < v) ∧ v ≤ zfr s q h k f ∧ rv = some (.inl f)) ∨ ((∀ j : Int, 0 ≤ j → j ≤ 9 → zfr s q h k j < v) ∧ rv = some (.inl (-2))))) (0, 0) zS0 3 [(0, .inr (.inr 21)), (1, .inl h), (2, .inl v), (3, .inl k), (4, .inl f)] [] M2 := by
  intro n
  induction n with
  | zero => intro f M2 hn; exact absurd hn (Nat.not_lt_zero _)
  | succ n ih =>
    intro f M2 hn hI
    refine z_iload 4 (zdec DX8_fireFor 2 rfl) rfl ?_
    refine z_bipush 9 (zdec DX8_fireFor 3 rfl) (by decide) ?_
    refine z_icmp_gt 46 (zdec DX8_fireFor 4 rfl) rfl (fun h7 => ?_) (fun h7 => ?_)
    ·
      refine z_weak (L' := []) (by simp) ?_
      exact hx46 M2 ⟨hI.2.2.1, fun j h0 h1 => hI.2.2.2 j h0 (by omega)⟩
    ·
      refine z_aload_n 0 (zdec DX8_fireFor 5 rfl) rfl rfl (by decide) ?_
      refine z_inv mX8_begin 21 8 [] (zdec DX8_fireFor 6 rfl) ml_SixWalls_Winter_105 okX8_begin rfl shp21 rfl rfl rfl rfl (Nat.le_of_ble_eq_true rfl) (Nat.le_of_ble_eq_true rfl) (b' := (0, 0)) ⟨Nat.le_refl 0, Nat.le_refl 0⟩ (Nat.le_of_ble_eq_true rfl) (cX8_begin hP hI.2.2.1) (fun rv9 S9 M11 h9 => ?_)
      obtain ⟨rfl, rfl, b1, b2, b3⟩ := h9
      change zW _ _ _ _ _ 14 [(0, .inr (.inr 21)), (1, .inl h), (2, .inl v), (3, .inl k), (4, .inl f)] [] M11
      refine z_aload_n 0 (zdec DX8_fireFor 7 rfl) rfl rfl (by decide) ?_
      refine z_getr (rw1 := -31) (ki := 3) (r' := 23) 21 8 (zdec DX8_fireFor 8 rfl) rfl rfl shp21 rfl (by decide) rfl rfl fl_SixWalls_Winter_15 (zPa (b1.P hP) 26 rfl) ?_
      refine z_iload_n 1 (zdec DX8_fireFor 9 rfl) rfl rfl ?_
      refine z_iload 4 (zdec DX8_fireFor 10 rfl) rfl ?_
      refine z_iast 23 (zdec DX8_fireFor 11 rfl) rfl shp23 ⟨by omega, by omega⟩ ?_
      refine z_aload_n 0 (zdec DX8_fireFor 12 rfl) rfl rfl (by decide) ?_
      refine z_iload_n 3 (zdec DX8_fireFor 13 rfl) rfl rfl ?_
      refine z_inv mX8_passAll 21 8 [.inl k] (zdec DX8_fireFor 14 rfl) ml_SixWalls_Winter_108 okX8_passAll rfl shp21 rfl rfl rfl rfl (Nat.le_of_ble_eq_true rfl) (Nat.le_of_ble_eq_true rfl) (b' := (0, 0)) ⟨Nat.le_refl 0, Nat.le_refl 0⟩ (Nat.le_of_ble_eq_true rfl) (cX8_passAll hP hG hR hT (zpu (s 8) h f) (s 9) (zb9 hR) (zbH_pu hR (by omega)) k hk (b1.up (by omega)) (by rw [zup_row (by decide)]; exact b2) (by rw [zup_zpu]; exact b3.pu rfl)) (fun rv9 S9 M24 h9 => ?_)
      obtain ⟨rfl, rfl, x1, x2, x3, x4⟩ := h9
      have xh := x2 h hh.1 hh.2
      change zW _ _ _ _ _ 27 [(0, .inr (.inr 21)), (1, .inl h), (2, .inl v), (3, .inl k), (4, .inl f)] [] M24
      refine z_aload_n 0 (zdec DX8_fireFor 15 rfl) rfl rfl (by decide) ?_
      refine z_getr (rw1 := -31) (ki := 2) (r' := 22) 21 8 (zdec DX8_fireFor 16 rfl) rfl rfl shp21 rfl (by decide) rfl rfl fl_SixWalls_Winter_9 (zPa (x1.P hP) 25 rfl) ?_
      refine z_iload_n 1 (zdec DX8_fireFor 17 rfl) rfl rfl ?_
      refine z_iald 22 (zdec DX8_fireFor 18 rfl) rfl shp22 ⟨by omega, by omega⟩ ?_
      refine z_iload_n 2 (zdec DX8_fireFor 19 rfl) rfl rfl ?_
      refine z_icmp_lt 40 (zdec DX8_fireFor 20 rfl) rfl (fun h34 => ?_) (fun h34 => ?_)
      ·
        refine z_iinc (L' := [(0, .inr (.inr 21)), (1, .inl h), (2, .inl v), (3, .inl k), (4, .inl (f + 1))]) 4 (zdec DX8_fireFor 23 rfl) rfl (by unfold z32; omega) rfl (by decide) ?_
        refine z_goto 3 (zdec DX8_fireFor 24 rfl) rfl ?_
        exact ih (f + 1) M24 (by omega) ⟨by omega, by omega, x1, fun j h0 h1 => (by by_cases hj : j = f; (subst hj; unfold zfr; rw [← xh]; omega); (exact hI.2.2.2 j h0 (by omega)))⟩
      ·
        refine z_iload 4 (zdec DX8_fireFor 21 rfl) rfl ?_
        exact z_iret (zdec DX8_fireFor 22 rfl) rfl (⟨rfl, x1, Or.inl ⟨f, by omega, hI.2.2.2, (by unfold zfr; rw [← xh]; omega), rfl⟩⟩)
set_option maxHeartbeats 4000000 in
theorem cX8_fireFor {s : zMm} (hP : zP s) {q : Int} (hG : zG s) (hR : zRg s) (hT : zTx s q) (h v k : Int) (hh : 0 ≤ h ∧ h < 16) (hk : 0 ≤ k ∧ k ≤ 99) {M : zMm} (hM : zoW s M) : zW mX8_fireFor 8 (fun rv S' M' => S' = zS0 ∧ zoW s M' ∧ ((∃ f : Int, (0 ≤ f ∧ f ≤ 9) ∧ (∀ j : Int, 0 ≤ j → j < f → zfr s q h k j < v) ∧ v ≤ zfr s q h k f ∧ rv = some (.inl f)) ∨ ((∀ j : Int, 0 ≤ j → j ≤ 9 → zfr s q h k j < v) ∧ rv = some (.inl (-2))))) (0, 0) zS0 0 (zargs 0 [.inr (.inr 21), .inl h, .inl v, .inl k]) [] M := by
  change zW _ _ _ _ _ 0 [(0, .inr (.inr 21)), (1, .inl h), (2, .inl v), (3, .inl k)] [] M
  refine z_iconst 0 (zdec DX8_fireFor 0 rfl) (by decide) ?_
  refine z_istore (L' := [(0, .inr (.inr 21)), (1, .inl h), (2, .inl v), (3, .inl k), (4, .inl 0)]) (zdec DX8_fireFor 1 rfl) rfl (by decide) ?_
  refine lp_X8_fireFor_3 hP hG hR hT h v k hh hk (hx46 := fun M2 hx => ?_) _ 0 M (Nat.lt_succ_self _) ⟨by omega, by omega, hM, fun j h0 h1 => by omega⟩
  refine z_bipush (-2) (zdec DX8_fireFor 25 rfl) (by decide) ?_
  exact z_iret (zdec DX8_fireFor 26 rfl) rfl (⟨rfl, hx.1, Or.inr ⟨hx.2, rfl⟩⟩)
/-- days in deed -/
def zLiv (s : zMm) (q k : Int) (M : zMm) : Prop := zH (M 9) (zWm s q k) ∧ (∀ w : Int, 0 ≤ w → w < 33 → M 26 w = zflow s q (zWm s q (k - 1)) w) ∧ M 21 7 = zw (s 21 7 + k) ∧ (∀ j : Int, j ≠ 7 → M 21 j = s 21 j) ∧ ∀ c : Int, c ≠ 9 → c < 20 ∨ 26 < c → M c = s c
theorem zlive {s M : zMm} {q k : Int} (hk : 1 ≤ k) (h1 : zoW s M) (h2 : zH (M 22) (zWm s q k)) (h3 : 0 < k → ∀ w : Int, 0 ≤ w → w < 33 → M 24 w = zflow s q (zWm s q (k - 1)) w) : zLiv s q k (zup (zcpy (zcpy M 22 0 9 0 16) 24 0 26 0 33) 21 7 (zw (s 21 7 + k))) := by
  refine ⟨fun i h0 h1 => ?_, fun w h0 h1 => ?_, zup_self _ _ _ _, fun j hj => ?_, fun c hc hc2 => ?_⟩
  · rw [zup_row (by decide), zcpy_row (by decide)]
    show (if (9 : Int) = 9 ∧ 0 ≤ i ∧ i < 0 + 16 then M 22 (0 + (i - 0)) else _) = _
    rw [if_pos ⟨rfl, by omega, by omega⟩, show (0 : Int) + (i - 0) = i by omega]
    exact h2 i h0 h1
  · rw [zup_row (by decide)]
    show (if (26 : Int) = 26 ∧ 0 ≤ w ∧ w < 0 + 33 then zcpy M 22 0 9 0 16 24 (0 + (w - 0)) else _) = _
    rw [if_pos ⟨rfl, by omega, by omega⟩, show (0 : Int) + (w - 0) = w by omega, zcpy_row (by decide)]
    exact h3 (by omega) w h0 h1
  · rw [zup_ne hj, zcpy_row (by decide), zcpy_row (by decide)]
    exact congrFun (h1 21 (by decide) (by decide) (by decide) (by decide) (by decide)) j
  · rw [zup_row (by omega), zcpy_row (by omega), zcpy_row hc]
    exact h1 c (by omega) (by omega) (by omega) (by omega) (by omega)
theorem zLiv.P {s M : zMm} {q k : Int} (h : zLiv s q k M) (hP : zP s) : zP M := zP_of hP fun r hr => h.2.2.2.2 r (by omega) (by omega)
set_option maxHeartbeats 4000000 in
theorem cX8_live {M : zMm} (hP : zP M) {q : Int} (hG : zG M) (hR : zRg M) (hT : zTx M q) (k : Int) (hk : 1 ≤ k ∧ k ≤ 30) : zW mX8_live 9 (fun rv S' M' => S' = zS0 ∧ rv = none ∧ zLiv M q k M') (0, 0) zS0 0 (zargs 0 [.inr (.inr 21), .inl k]) [] M := by
  change zW _ _ _ _ _ 0 [(0, .inr (.inr 21)), (1, .inl k)] [] M
  refine z_aload_n 0 (zdec DX8_live 0 rfl) rfl rfl (by decide) ?_
  refine z_iload_n 1 (zdec DX8_live 1 rfl) rfl rfl ?_
  refine z_inv mX8_think 21 8 [.inl k] (zdec DX8_live 2 rfl) ml_SixWalls_Winter_112 okX8_think rfl shp21 rfl rfl rfl rfl (Nat.le_of_ble_eq_true rfl) (Nat.le_of_ble_eq_true rfl) (b' := (0, 0)) ⟨Nat.le_refl 0, Nat.le_refl 0⟩ (Nat.le_of_ble_eq_true rfl) (cX8_think hP hG hR hT k (by omega) zoW.rf) (fun rv9 S9 M2 h9 => ?_)
  obtain ⟨rfl, rfl, x1, x2, x3, x4⟩ := h9
  change zW _ _ _ _ _ 5 [(0, .inr (.inr 21)), (1, .inl k)] [] M2
  refine z_aload_n 0 (zdec DX8_live 3 rfl) rfl rfl (by decide) ?_
  refine z_getr (rw1 := -31) (ki := 2) (r' := 22) 21 8 (zdec DX8_live 4 rfl) rfl rfl shp21 rfl (by decide) rfl rfl fl_SixWalls_Winter_9 (zPa (x1.P hP) 25 rfl) ?_
  refine z_iconst 0 (zdec DX8_live 5 rfl) (by decide) ?_
  refine z_aload_n 0 (zdec DX8_live 6 rfl) rfl rfl (by decide) ?_
  refine z_getr (rw1 := -31) (ki := 0) (r' := 1) 21 8 (zdec DX8_live 7 rfl) rfl rfl shp21 rfl (by decide) rfl rfl fl_SixWalls_Winter_31 (zPa (x1.P hP) 23 rfl) ?_
  refine z_getr (rw1 := -11) (ki := 7) (r' := 9) 1 1 (zdec DX8_live 8 rfl) rfl rfl shp1 rfl (by decide) rfl rfl fl_SixWalls_Winter_80 (zPa (x1.P hP) 16 rfl) ?_
  refine z_iconst 0 (zdec DX8_live 9 rfl) (by decide) ?_
  refine z_bipush 16 (zdec DX8_live 10 rfl) (by decide) ?_
  refine z_copyi 22 9 (zdec DX8_live 11 rfl) ml_SixWalls_Winter_83 zcp1 zcp2 zcp3 rfl rfl shp22 shp9 ⟨by omega, by omega, by omega⟩ ⟨by omega, by omega⟩ (by decide) rfl ?_
  refine z_aload_n 0 (zdec DX8_live 12 rfl) rfl rfl (by decide) ?_
  refine z_getr (rw1 := -31) (ki := 4) (r' := 24) 21 8 (zdec DX8_live 13 rfl) rfl rfl shp21 rfl (by decide) rfl rfl fl_SixWalls_Winter_18 (zPa (zP_cpy (x1.P hP) (by decide)) 27 rfl) ?_
  refine z_iconst 0 (zdec DX8_live 14 rfl) (by decide) ?_
  refine z_aload_n 0 (zdec DX8_live 15 rfl) rfl rfl (by decide) ?_
  refine z_getr (rw1 := -31) (ki := 6) (r' := 26) 21 8 (zdec DX8_live 16 rfl) rfl rfl shp21 rfl (by decide) rfl rfl fl_SixWalls_Winter_24 (zPa (zP_cpy (x1.P hP) (by decide)) 29 rfl) ?_
  refine z_iconst 0 (zdec DX8_live 17 rfl) (by decide) ?_
  refine z_bipush 33 (zdec DX8_live 18 rfl) (by decide) ?_
  refine z_copyi 24 26 (zdec DX8_live 19 rfl) ml_SixWalls_Winter_83 zcp1 zcp2 zcp3 rfl rfl shp24 shp26 ⟨by omega, by omega, by omega⟩ ⟨by omega, by omega⟩ (by decide) rfl ?_
  refine z_aload_n 0 (zdec DX8_live 20 rfl) rfl rfl (by decide) ?_
  refine z_dup (zdec DX8_live 21 rfl) rfl ?_
  refine z_geti (ki := 7) 21 8 (zdec DX8_live 22 rfl) rfl shp21 rfl (by decide) rfl rfl fl_SixWalls_Winter_27 ?_
  rw [show (zcpy (zcpy M2 22 0 9 0 16) 24 0 26 0 33) 21 7 = M2 21 7 from by simp [zup, zcpy]]
  have e21 : M2 21 = M 21 := x1 21 (by decide) (by decide) (by decide) (by decide) (by decide)
  refine z_iload_n 1 (zdec DX8_live 23 rfl) rfl rfl ?_
  refine z_iaddw (zdec DX8_live 24 rfl) ?_
  refine z_puti (ki := 7) 21 8 (zdec DX8_live 25 rfl) rfl shp21 rfl (by decide) rfl rfl fl_SixWalls_Winter_27 (Or.inl rfl) ?_
  exact z_vret (zdec DX8_live 26 rfl) rfl (⟨rfl, rfl, (by have := zlive (k := k) (by omega) x1 x2 x4; rw [← e21] at this; exact this)⟩)
set_option maxHeartbeats 4000000 in
theorem cX9_warmth {s : zMm} (hP : zP s) {q : Int} (hG : zG s) (hR : zRg s) (hT : zTx s q) (h k : Int) {M : zMm} (hM : zoW s M) : zW mX9_warmth 9 (fun rv S' M' => S' = zS0 ∧ zoW s M' ∧ rv = some (.inl (if (h = -1 ∨ (0 ≤ h ∧ h < 16)) ∧ 0 ≤ k ∧ k < 31 then (if h < 0 then zsum (zWm s q k) 16 else zWm s q k h) else -1))) (0, 0) zS0 0 (zargs 0 [.inr (.inr 0), .inl h, .inl k]) [] M := by
  change zW _ _ _ _ _ 0 [(0, .inr (.inr 0)), (1, .inl h), (2, .inl k)] [] M
  refine z_iload_n 1 (zdec DX9_warmth 0 rfl) rfl rfl ?_
  refine z_iconst (-1) (zdec DX9_warmth 1 rfl) (by decide) ?_
  refine z_icmp_eq 12 (zdec DX9_warmth 2 rfl) rfl (fun h2 => ?_) (fun h2 => ?_)
  ·
    refine z_iload_n 2 (zdec DX9_warmth 6 rfl) rfl rfl ?_
    refine z_invs mX9_isThought [.inl k] (zdec DX9_warmth 7 rfl) (Or.inl ml_SixWalls_194) okX9_isThought rfl rfl (Nat.le_of_ble_eq_true rfl) (Nat.le_of_ble_eq_true rfl) (b' := (0, 0)) ⟨Nat.le_refl 0, Nat.le_refl 0⟩ (Nat.le_of_ble_eq_true rfl) (cX9_isThought k) (fun rv9 S9 M13 h9 => ?_)
    obtain ⟨rfl, rfl, rfl⟩ := h9
    change zW _ _ _ _ _ 16 [(0, .inr (.inr 0)), (1, .inl h), (2, .inl k)] [.inl (zb (0 ≤ k ∧ k < 31))] M
    refine z_if_ne 21 (zdec DX9_warmth 8 rfl) rfl (fun h16 => ?_) (fun h16 => ?_)
    ·
      have hq16 := zb_ne0.mp h16
      refine z_aload_n 0 (zdec DX9_warmth 11 rfl) rfl rfl (by decide) ?_
      refine z_getr (rw1 := -10) (ki := 2) (r' := 21) 0 9 (zdec DX9_warmth 12 rfl) rfl rfl shp0 rfl (by decide) rfl rfl fl_SixWalls_28 (zPa (hM.P hP) 2 rfl) ?_
      refine z_iload_n 2 (zdec DX9_warmth 13 rfl) rfl rfl ?_
      refine z_inv mX8_think 21 8 [.inl k] (zdec DX9_warmth 14 rfl) ml_SixWalls_197 okX8_think rfl shp21 rfl rfl rfl rfl (Nat.le_of_ble_eq_true rfl) (Nat.le_of_ble_eq_true rfl) (b' := (0, 0)) ⟨Nat.le_refl 0, Nat.le_refl 0⟩ (Nat.le_of_ble_eq_true rfl) (cX8_think hP hG hR hT k (by omega) hM) (fun rv9 S9 M26 h9 => ?_)
      obtain ⟨rfl, rfl, x1, x2, x3, x4⟩ := h9
      change zW _ _ _ _ _ 29 [(0, .inr (.inr 0)), (1, .inl h), (2, .inl k)] [] M26
      refine z_iload_n 1 (zdec DX9_warmth 15 rfl) rfl rfl ?_
      refine z_if_ge 46 (zdec DX9_warmth 16 rfl) rfl (fun h30 => ?_) (fun h30 => ?_)
      ·
        refine z_aload_n 0 (zdec DX9_warmth 22 rfl) rfl rfl (by decide) ?_
        refine z_getr (rw1 := -10) (ki := 2) (r' := 21) 0 9 (zdec DX9_warmth 23 rfl) rfl rfl shp0 rfl (by decide) rfl rfl fl_SixWalls_28 (zPa (x1.P hP) 2 rfl) ?_
        refine z_getr (rw1 := -31) (ki := 2) (r' := 22) 21 8 (zdec DX9_warmth 24 rfl) rfl rfl shp21 rfl (by decide) rfl rfl fl_SixWalls_201 (zPa (x1.P hP) 25 rfl) ?_
        refine z_iload_n 1 (zdec DX9_warmth 25 rfl) rfl rfl ?_
        refine z_iald 22 (zdec DX9_warmth 26 rfl) rfl shp22 ⟨by omega, by omega⟩ ?_
        exact z_iret (zdec DX9_warmth 27 rfl) rfl (⟨rfl, x1, zri (by rw [if_pos (by omega)]; first | (rw [if_pos (by omega)]; exact zsum_H x2) | (rw [if_neg (by omega)]; exact x2 h (by omega) (by omega)))⟩)
      ·
        refine z_aload_n 0 (zdec DX9_warmth 17 rfl) rfl rfl (by decide) ?_
        refine z_getr (rw1 := -10) (ki := 2) (r' := 21) 0 9 (zdec DX9_warmth 18 rfl) rfl rfl shp0 rfl (by decide) rfl rfl fl_SixWalls_28 (zPa (x1.P hP) 2 rfl) ?_
        refine z_getr (rw1 := -31) (ki := 2) (r' := 22) 21 8 (zdec DX9_warmth 19 rfl) rfl rfl shp21 rfl (by decide) rfl rfl fl_SixWalls_201 (zPa (x1.P hP) 25 rfl) ?_
        refine z_invs mX9_sum [.inr (.inr 22)] (zdec DX9_warmth 20 rfl) (Or.inl ml_SixWalls_204) okX9_sum rfl rfl (Nat.le_of_ble_eq_true rfl) (Nat.le_of_ble_eq_true rfl) (b' := (0, 0)) ⟨Nat.le_refl 0, Nat.le_refl 0⟩ (Nat.le_of_ble_eq_true rfl) (cX9_sum_22 (zbWc x2 (zWm_b hR _))) (fun rv9 S9 M40 h9 => ?_)
        obtain ⟨rfl, rfl, rfl⟩ := h9
        change zW _ _ _ _ _ 43 [(0, .inr (.inr 0)), (1, .inl h), (2, .inl k)] [.inl (zsum (M26 22) 16)] M26
        refine z_goto 55 (zdec DX9_warmth 21 rfl) rfl ?_
        exact z_iret (zdec DX9_warmth 27 rfl) rfl (⟨rfl, x1, zri (by rw [if_pos (by omega)]; first | (rw [if_pos (by omega)]; exact zsum_H x2) | (rw [if_neg (by omega)]; exact x2 h (by omega) (by omega)))⟩)
    ·
      have hq16 : ¬ (0 ≤ k ∧ k < 31) := fun e => h16 (zb_ne0.mpr e)
      refine z_iconst (-1) (zdec DX9_warmth 9 rfl) (by decide) ?_
      exact z_iret (zdec DX9_warmth 10 rfl) rfl (⟨rfl, hM, zri (by rw [if_neg (by omega)])⟩)
  ·
    refine z_iload_n 1 (zdec DX9_warmth 3 rfl) rfl rfl ?_
    refine z_invs mX9_isHouse [.inl h] (zdec DX9_warmth 4 rfl) (Or.inl ml_SixWalls_80) okX9_isHouse rfl rfl (Nat.le_of_ble_eq_true rfl) (Nat.le_of_ble_eq_true rfl) (b' := (0, 0)) ⟨Nat.le_refl 0, Nat.le_refl 0⟩ (Nat.le_of_ble_eq_true rfl) (cX9_isHouse h) (fun rv9 S9 M6 h9 => ?_)
    obtain ⟨rfl, rfl, rfl⟩ := h9
    change zW _ _ _ _ _ 9 [(0, .inr (.inr 0)), (1, .inl h), (2, .inl k)] [.inl (zb (0 ≤ h ∧ h < 16))] M
    refine z_if_eq 19 (zdec DX9_warmth 5 rfl) rfl (fun h9 => ?_) (fun h9 => ?_)
    ·
      have hq9 := zb_eq0.mp h9
      refine z_iconst (-1) (zdec DX9_warmth 9 rfl) (by decide) ?_
      exact z_iret (zdec DX9_warmth 10 rfl) rfl (⟨rfl, hM, zri (by rw [if_neg (by omega)])⟩)
    ·
      have hq9 := zb_ne0.mp h9
      refine z_iload_n 2 (zdec DX9_warmth 6 rfl) rfl rfl ?_
      refine z_invs mX9_isThought [.inl k] (zdec DX9_warmth 7 rfl) (Or.inl ml_SixWalls_194) okX9_isThought rfl rfl (Nat.le_of_ble_eq_true rfl) (Nat.le_of_ble_eq_true rfl) (b' := (0, 0)) ⟨Nat.le_refl 0, Nat.le_refl 0⟩ (Nat.le_of_ble_eq_true rfl) (cX9_isThought k) (fun rv9 S9 M13 h9 => ?_)
      obtain ⟨rfl, rfl, rfl⟩ := h9
      change zW _ _ _ _ _ 16 [(0, .inr (.inr 0)), (1, .inl h), (2, .inl k)] [.inl (zb (0 ≤ k ∧ k < 31))] M
      refine z_if_ne 21 (zdec DX9_warmth 8 rfl) rfl (fun h16 => ?_) (fun h16 => ?_)
      ·
        have hq16 := zb_ne0.mp h16
        refine z_aload_n 0 (zdec DX9_warmth 11 rfl) rfl rfl (by decide) ?_
        refine z_getr (rw1 := -10) (ki := 2) (r' := 21) 0 9 (zdec DX9_warmth 12 rfl) rfl rfl shp0 rfl (by decide) rfl rfl fl_SixWalls_28 (zPa (hM.P hP) 2 rfl) ?_
        refine z_iload_n 2 (zdec DX9_warmth 13 rfl) rfl rfl ?_
        refine z_inv mX8_think 21 8 [.inl k] (zdec DX9_warmth 14 rfl) ml_SixWalls_197 okX8_think rfl shp21 rfl rfl rfl rfl (Nat.le_of_ble_eq_true rfl) (Nat.le_of_ble_eq_true rfl) (b' := (0, 0)) ⟨Nat.le_refl 0, Nat.le_refl 0⟩ (Nat.le_of_ble_eq_true rfl) (cX8_think hP hG hR hT k (by omega) hM) (fun rv9 S9 M26 h9 => ?_)
        obtain ⟨rfl, rfl, x1, x2, x3, x4⟩ := h9
        change zW _ _ _ _ _ 29 [(0, .inr (.inr 0)), (1, .inl h), (2, .inl k)] [] M26
        refine z_iload_n 1 (zdec DX9_warmth 15 rfl) rfl rfl ?_
        refine z_if_ge 46 (zdec DX9_warmth 16 rfl) rfl (fun h30 => ?_) (fun h30 => ?_)
        ·
          refine z_aload_n 0 (zdec DX9_warmth 22 rfl) rfl rfl (by decide) ?_
          refine z_getr (rw1 := -10) (ki := 2) (r' := 21) 0 9 (zdec DX9_warmth 23 rfl) rfl rfl shp0 rfl (by decide) rfl rfl fl_SixWalls_28 (zPa (x1.P hP) 2 rfl) ?_
          refine z_getr (rw1 := -31) (ki := 2) (r' := 22) 21 8 (zdec DX9_warmth 24 rfl) rfl rfl shp21 rfl (by decide) rfl rfl fl_SixWalls_201 (zPa (x1.P hP) 25 rfl) ?_
          refine z_iload_n 1 (zdec DX9_warmth 25 rfl) rfl rfl ?_
          refine z_iald 22 (zdec DX9_warmth 26 rfl) rfl shp22 ⟨by omega, by omega⟩ ?_
          exact z_iret (zdec DX9_warmth 27 rfl) rfl (⟨rfl, x1, zri (by rw [if_pos (by omega)]; first | (rw [if_pos (by omega)]; exact zsum_H x2) | (rw [if_neg (by omega)]; exact x2 h (by omega) (by omega)))⟩)
        ·
          refine z_aload_n 0 (zdec DX9_warmth 17 rfl) rfl rfl (by decide) ?_
          refine z_getr (rw1 := -10) (ki := 2) (r' := 21) 0 9 (zdec DX9_warmth 18 rfl) rfl rfl shp0 rfl (by decide) rfl rfl fl_SixWalls_28 (zPa (x1.P hP) 2 rfl) ?_
          refine z_getr (rw1 := -31) (ki := 2) (r' := 22) 21 8 (zdec DX9_warmth 19 rfl) rfl rfl shp21 rfl (by decide) rfl rfl fl_SixWalls_201 (zPa (x1.P hP) 25 rfl) ?_
          refine z_invs mX9_sum [.inr (.inr 22)] (zdec DX9_warmth 20 rfl) (Or.inl ml_SixWalls_204) okX9_sum rfl rfl (Nat.le_of_ble_eq_true rfl) (Nat.le_of_ble_eq_true rfl) (b' := (0, 0)) ⟨Nat.le_refl 0, Nat.le_refl 0⟩ (Nat.le_of_ble_eq_true rfl) (cX9_sum_22 (zbWc x2 (zWm_b hR _))) (fun rv9 S9 M40 h9 => ?_)
          obtain ⟨rfl, rfl, rfl⟩ := h9
          change zW _ _ _ _ _ 43 [(0, .inr (.inr 0)), (1, .inl h), (2, .inl k)] [.inl (zsum (M26 22) 16)] M26
          refine z_goto 55 (zdec DX9_warmth 21 rfl) rfl ?_
          exact z_iret (zdec DX9_warmth 27 rfl) rfl (⟨rfl, x1, zri (by rw [if_pos (by omega)]; first | (rw [if_pos (by omega)]; exact zsum_H x2) | (rw [if_neg (by omega)]; exact x2 h (by omega) (by omega)))⟩)
      ·
        have hq16 : ¬ (0 ≤ k ∧ k < 31) := fun e => h16 (zb_ne0.mpr e)
        refine z_iconst (-1) (zdec DX9_warmth 9 rfl) (by decide) ?_
        exact z_iret (zdec DX9_warmth 10 rfl) rfl (⟨rfl, hM, zri (by rw [if_neg (by omega)])⟩)

