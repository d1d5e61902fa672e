/-! the reference: acts -/
def zla (l : List Int) (M : zMm) : zMm := l.foldl ztrR M
theorem zla_ap (l k : List Int) (M : zMm) : zla (l ++ k) M = zla k (zla l M) := List.foldl_append ..
def zKR (M : zMm) (K self : Int) : Prop := zP M ∧ M 56 38 = K ∧ M 56 39 = self ∧ 0 ≤ M 56 37
theorem ztrR_s {M : zMm} {K self : Int} (h : zKR M K self) (b : Int) : zKR (ztrR M b) K self ∧ ztrR M b 56 37 = M 56 37 + 1 ∧ (∀ j : Int, j ≠ 37 → ztrR M b 56 j = M 56 j) ∧ ∀ c : Int, c ≠ 56 → c ≠ 79 → ztrR M b c = M c := by
  have e1 : ztrR M b 56 37 = M 56 37 + 1 := zup_self _ _ _ _
  have e2 : ∀ j : Int, j ≠ 37 → ztrR M b 56 j = M 56 j := fun j hj => by
    unfold ztrR
    rw [zup_ne hj]
    split
    · rw [zup_row (by decide)]
    · rfl
  have e3 : ∀ c : Int, c ≠ 56 → c ≠ 79 → ztrR M b c = M c := fun c h1 h2 => by
    unfold ztrR
    rw [zup_row h1]
    split
    · rw [zup_row h2]
    · rfl
  exact ⟨⟨zP_of h.1 fun r hr => e3 r (by omega) (by omega), by rw [e2 38 (by decide)]; exact h.2.1, by rw [e2 39 (by decide)]; exact h.2.2.1, by rw [e1]; have := h.2.2.2; omega⟩, e1, e2, e3⟩
theorem zla_s {K self : Int} : ∀ (l : List Int) {M : zMm}, zKR M K self → zKR (zla l M) K self ∧ zla l M 56 37 = M 56 37 + l.length ∧ (∀ j : Int, j ≠ 37 → zla l M 56 j = M 56 j) ∧ ∀ c : Int, c ≠ 56 → c ≠ 79 → zla l M c = M c := by
  intro l
  induction l with
  | nil => intro M h; exact ⟨h, by show M 56 37 = M 56 37 + 0; omega, fun _ _ => rfl, fun _ _ _ => rfl⟩
  | cons b l ih =>
    intro M h
    have s := ztrR_s h b
    have q := ih s.1
    refine ⟨q.1, ?_, fun j hj => (q.2.2.1 j hj).trans (s.2.2.1 j hj), fun c h1 h2 => (q.2.2.2 c h1 h2).trans (s.2.2.2 c h1 h2)⟩
    show zla l (ztrR M b) 56 37 = _
    rw [q.2.1, s.2.1, List.length_cons]
    omega
/-- what acts answer, and what runs -/
def zaw0 (self x : Int) : Int := zw (x + self)
def zaw (self k x : Int) : Int := if k = 1 ∨ k = 4 ∨ k = 7 then zw (zaw0 self x + 3) else if k = 6 then zw (zaw0 self x * 2) else zaw0 self x
def zawT (k : Int) : List Int := if k = 1 ∨ k = 4 ∨ k = 7 then [20, 1] else if k = 6 then [70, 1] else [1]
def zap (K self k x : Int) : Int := if k = 3 ∨ k = 5 then zw (zxor x self * 3) else if k = 4 ∨ k = 7 then zw (zxor x self - zaw self K 2) else zxor x self
def zapT (K k : Int) : List Int := if k = 3 ∨ k = 5 then [40, 11] else if k = 4 ∨ k = 7 then [50, 11] ++ zawT K else [11]
def zal0 (K self x : Int) : Int := zw (zaw self K x * 2)
def zal0T (K : Int) : List Int := 10 :: zawT K
def zal2 (K self x : Int) : Int := zw (-(zal0 K self x))
def zal2T (K : Int) : List Int := 30 :: zal0T K
def zal (K self k x : Int) : Int := if k = 3 ∨ k = 5 then zal2 K self (zw (x + 1)) else if k = 2 then zal2 K self x else if k = 7 then zw (zal0 K self x + zap K self K 2) else zal0 K self x
def zalT (K k : Int) : List Int := if k = 3 ∨ k = 5 then 41 :: zal2T K else if k = 2 then zal2T K else if k = 7 then 80 :: (zal0T K ++ zapT K K) else zal0T K
def zat0 (K self x : Int) : Int := zw (zal K self K x - zap K self K 1)
def zat0T (K : Int) : List Int := 2 :: (zalT K K ++ zapT K K)
def ztl (K self k x : Int) : Int := if k = 5 then zxor (zat0 K self x) 5 else if k = 7 then zw (zat0 K self x - 1) else zat0 K self x
def ztlT (K k : Int) : List Int := if k = 5 then 60 :: zat0T K else if k = 7 then 81 :: zat0T K else zat0T K
theorem zawT_l (k : Int) : (zawT k).length ≤ 2 := by unfold zawT; (repeat' split) <;> decide
theorem zapT_l (K k : Int) : (zapT K k).length ≤ 4 := by
  have := zawT_l K
  unfold zapT
  repeat' split
  all_goals simp
  all_goals omega
theorem zal0T_l (K : Int) : (zal0T K).length ≤ 3 := by have := zawT_l K; unfold zal0T; rw [List.length_cons]; omega
theorem zal2T_l (K : Int) : (zal2T K).length ≤ 4 := by have := zal0T_l K; unfold zal2T; rw [List.length_cons]; omega
theorem zalT_l (K k : Int) : (zalT K k).length ≤ 8 := by
  have := zal0T_l K
  have := zal2T_l K
  have := zapT_l K K
  unfold zalT
  repeat' split
  all_goals first | (rw [List.length_cons, List.length_append]; omega) | (rw [List.length_cons]; omega) | omega
set_option maxHeartbeats 4000000 in
theorem cX10_begins {M : zMm} (hP : zP M) (hb : 0 ≤ M 56 37 ∧ M 56 37 ≤ 1000) (b : Int) : zW mX10_begins 1 (fun rv S' M' => S' = zS0 ∧ rv = none ∧ M' = ztrR M b) (0, 0) zS0 0 (zargs 0 [.inr (.inr 56), .inl b]) [] M := by
  change zW _ _ _ _ _ 0 [(0, .inr (.inr 56)), (1, .inl b)] [] M
  refine z_aload_n 0 (zdec DX10_begins 0 rfl) rfl rfl (by decide) ?_
  refine z_geti (ki := 37) 56 10 (zdec DX10_begins 1 rfl) rfl shp56 rfl (by decide) rfl rfl fl_SixWallsModel_327 ?_
  refine z_bipush 24 (zdec DX10_begins 2 rfl) (by decide) ?_
  refine z_icmp_ge 19 (zdec DX10_begins 3 rfl) rfl (fun h6 => ?_) (fun h6 => ?_)
  ·
    refine z_aload_n 0 (zdec DX10_begins 10 rfl) rfl rfl (by decide) ?_
    refine z_dup (zdec DX10_begins 11 rfl) rfl ?_
    refine z_geti (ki := 37) 56 10 (zdec DX10_begins 12 rfl) rfl shp56 rfl (by decide) rfl rfl fl_SixWallsModel_327 ?_
    refine z_iconst 1 (zdec DX10_begins 13 rfl) (by decide) ?_
    refine z_iadd (zdec DX10_begins 14 rfl) (by unfold z32; omega) ?_
    refine z_puti (ki := 37) 56 10 (zdec DX10_begins 15 rfl) rfl shp56 rfl (by decide) rfl rfl fl_SixWallsModel_327 (Or.inl rfl) ?_
    exact z_vret (zdec DX10_begins 16 rfl) rfl (⟨rfl, rfl, by unfold ztrR; rw [if_neg (by omega)]⟩)
  ·
    refine z_aload_n 0 (zdec DX10_begins 4 rfl) rfl rfl (by decide) ?_
    refine z_getr (rw1 := -66) (ki := 36) (r' := 79) 56 10 (zdec DX10_begins 5 rfl) rfl rfl shp56 rfl (by decide) rfl rfl fl_SixWallsModel_77 (zPa hP 79 rfl) ?_
    refine z_aload_n 0 (zdec DX10_begins 6 rfl) rfl rfl (by decide) ?_
    refine z_geti (ki := 37) 56 10 (zdec DX10_begins 7 rfl) rfl shp56 rfl (by decide) rfl rfl fl_SixWallsModel_327 ?_
    refine z_iload_n 1 (zdec DX10_begins 8 rfl) rfl rfl ?_
    refine z_iast 79 (zdec DX10_begins 9 rfl) rfl shp79 ⟨by omega, by omega⟩ ?_
    refine z_aload_n 0 (zdec DX10_begins 10 rfl) rfl rfl (by decide) ?_
    refine z_dup (zdec DX10_begins 11 rfl) rfl ?_
    refine z_geti (ki := 37) 56 10 (zdec DX10_begins 12 rfl) rfl shp56 rfl (by decide) rfl rfl fl_SixWallsModel_327 ?_
    rw [show (zup M 79 (M 56 37) b) 56 37 = M 56 37 from by simp [zup, zcpy]]
    refine z_iconst 1 (zdec DX10_begins 13 rfl) (by decide) ?_
    refine z_iadd (zdec DX10_begins 14 rfl) (by unfold z32; omega) ?_
    refine z_puti (ki := 37) 56 10 (zdec DX10_begins 15 rfl) rfl shp56 rfl (by decide) rfl rfl fl_SixWallsModel_327 (Or.inl rfl) ?_
    exact z_vret (zdec DX10_begins 16 rfl) rfl (⟨rfl, rfl, by unfold ztrR; rw [if_pos (by omega)]⟩)
set_option maxHeartbeats 4000000 in
theorem cX10_warms0 {M : zMm} {K self : Int} (hK : zKR M K self) (hb : M 56 37 ≤ 1000) (x : Int) : zW mX10_warmsAs 2 (fun rv S' M' => S' = zS0 ∧ rv = some (.inl (zaw0 self x)) ∧ M' = zla ([1]) M) (0, 0) zS0 0 (zargs 0 [.inr (.inr 56), .inl 0, .inl x]) [] M := by
  change zW _ _ _ _ _ 0 [(0, .inr (.inr 56)), (1, .inl 0), (2, .inl x)] [] M
  have h0 := hK.2.2.2
  refine z_iload_n 1 (zdec DX10_warmsAs 0 rfl) rfl rfl ?_
  refine z_iconst 1 (zdec DX10_warmsAs 1 rfl) (by decide) ?_
  refine z_icmp_eq 16 (zdec DX10_warmsAs 2 rfl) rfl (fun h => absurd h (by decide)) (fun _ => ?_)
  refine z_iload_n 1 (zdec DX10_warmsAs 3 rfl) rfl rfl ?_
  refine z_iconst 4 (zdec DX10_warmsAs 4 rfl) (by decide) ?_
  refine z_icmp_eq 16 (zdec DX10_warmsAs 5 rfl) rfl (fun h => absurd h (by decide)) (fun _ => ?_)
  refine z_iload_n 1 (zdec DX10_warmsAs 6 rfl) rfl rfl ?_
  refine z_bipush 7 (zdec DX10_warmsAs 7 rfl) (by decide) ?_
  refine z_icmp_ne 31 (zdec DX10_warmsAs 8 rfl) rfl (fun _ => ?_) (fun h => absurd h (by decide))
  refine z_iload_n 1 (zdec DX10_warmsAs 19 rfl) rfl rfl ?_
  refine z_bipush 6 (zdec DX10_warmsAs 20 rfl) (by decide) ?_
  refine z_icmp_ne 52 (zdec DX10_warmsAs 21 rfl) rfl (fun _ => ?_) (fun h => absurd h (by decide))
  refine z_aload_n 0 (zdec DX10_warmsAs 32 rfl) rfl rfl (by decide) ?_
  refine z_iconst 1 (zdec DX10_warmsAs 33 rfl) (by decide) ?_
  refine z_inv mX10_begins 56 10 [.inl 1] (zdec DX10_warmsAs 34 rfl) ml_SixWallsModel_330 okX10_begins rfl shp56 rfl rfl rfl rfl (Nat.le_of_ble_eq_true rfl) (Nat.le_of_ble_eq_true rfl) (b' := (0, 0)) ⟨Nat.le_refl 0, Nat.le_refl 0⟩ (Nat.le_of_ble_eq_true rfl) (cX10_begins hK.1 ⟨by omega, by omega⟩ 1) (fun rv9 S9 M54 h9 => ?_)
  obtain ⟨rfl, rfl, rfl⟩ := h9
  have hk54 := ztrR_s hK 1
  have hn54 := hk54.1.2.2.2
  change zW _ _ _ _ _ 57 [(0, .inr (.inr 56)), (1, .inl 0), (2, .inl x)] [] (ztrR M 1)
  refine z_iload_n 2 (zdec DX10_warmsAs 35 rfl) rfl rfl ?_
  refine z_aload_n 0 (zdec DX10_warmsAs 36 rfl) rfl rfl (by decide) ?_
  refine z_geti (ki := 39) 56 10 (zdec DX10_warmsAs 37 rfl) rfl shp56 rfl (by decide) rfl rfl fl_SixWallsModel_336 ?_
  rw [show ztrR M 1 56 39 = self from hk54.1.2.2.1]
  refine z_iaddw (zdec DX10_warmsAs 38 rfl) ?_
  exact z_iret (zdec DX10_warmsAs 39 rfl) rfl (⟨rfl, rfl, rfl⟩)
set_option maxHeartbeats 4000000 in
theorem cX10_warmsAs {M : zMm} {K self : Int} (hK : zKR M K self) (hb : M 56 37 ≤ 900) (k x : Int) : zW mX10_warmsAs 3 (fun rv S' M' => S' = zS0 ∧ rv = some (.inl (zaw self k x)) ∧ M' = zla (zawT k) M) (0, 0) zS0 0 (zargs 0 [.inr (.inr 56), .inl k, .inl x]) [] M := by
  change zW _ _ _ _ _ 0 [(0, .inr (.inr 56)), (1, .inl k), (2, .inl x)] [] M
  have h0 := hK.2.2.2
  refine z_iload_n 1 (zdec DX10_warmsAs 0 rfl) rfl rfl ?_
  refine z_iconst 1 (zdec DX10_warmsAs 1 rfl) (by decide) ?_
  refine z_icmp_eq 16 (zdec DX10_warmsAs 2 rfl) rfl (fun h2 => ?_) (fun h2 => ?_)
  ·
    refine z_aload_n 0 (zdec DX10_warmsAs 9 rfl) rfl rfl (by decide) ?_
    refine z_bipush 20 (zdec DX10_warmsAs 10 rfl) (by decide) ?_
    refine z_inv mX10_begins 56 10 [.inl 20] (zdec DX10_warmsAs 11 rfl) ml_SixWallsModel_330 okX10_begins rfl shp56 rfl rfl rfl rfl (Nat.le_of_ble_eq_true rfl) (Nat.le_of_ble_eq_true rfl) (b' := (0, 0)) ⟨Nat.le_refl 0, Nat.le_refl 0⟩ (Nat.le_of_ble_eq_true rfl) (cX10_begins hK.1 ⟨by omega, by omega⟩ 20) (fun rv9 S9 M19 h9 => ?_)
    obtain ⟨rfl, rfl, rfl⟩ := h9
    have hk19 := ztrR_s hK 20
    have hn19 := hk19.1.2.2.2
    change zW _ _ _ _ _ 22 [(0, .inr (.inr 56)), (1, .inl k), (2, .inl x)] [] (ztrR M 20)
    refine z_aload_n 0 (zdec DX10_warmsAs 12 rfl) rfl rfl (by decide) ?_
    refine z_iconst 0 (zdec DX10_warmsAs 13 rfl) (by decide) ?_
    refine z_iload_n 2 (zdec DX10_warmsAs 14 rfl) rfl rfl ?_
    refine z_inv mX10_warmsAs 56 10 [.inl 0, .inl x] (zdec DX10_warmsAs 15 rfl) ml_SixWallsModel_333 okX10_warmsAs rfl shp56 rfl rfl rfl rfl (Nat.le_of_ble_eq_true rfl) (Nat.le_of_ble_eq_true rfl) (b' := (0, 0)) ⟨Nat.le_refl 0, Nat.le_refl 0⟩ (Nat.le_of_ble_eq_true rfl) (cX10_warms0 hk19.1 (by omega) x) (fun rv9 S9 M25 h9 => ?_)
    obtain ⟨rfl, rfl, rfl⟩ := h9
    have hk25 := zla_s ([1]) hk19.1
    have hn25 := hk25.1.2.2.2
    have hl25 := hk25.2.1
    rw [show ([1] : List Int).length = 1 from rfl] at hl25
    change zW _ _ _ _ _ 28 [(0, .inr (.inr 56)), (1, .inl k), (2, .inl x)] [.inl (zaw0 self x)] (zla ([1]) (ztrR M 20))
    refine z_iconst 3 (zdec DX10_warmsAs 16 rfl) (by decide) ?_
    refine z_iaddw (zdec DX10_warmsAs 17 rfl) ?_
    exact z_iret (zdec DX10_warmsAs 18 rfl) rfl (⟨rfl, zri (by unfold zaw; first | (rw [if_pos (by omega)]; done) | (rw [if_neg (by omega), if_pos (by omega)]; done) | (rw [if_neg (by omega), if_neg (by omega), if_pos (by omega)]; done) | (rw [if_neg (by omega), if_neg (by omega), if_neg (by omega)]; done) | (rw [if_neg (by omega), if_neg (by omega)]; first | done | rfl)), by unfold zawT; first | (rw [if_pos (by omega)]; first | done | rfl) | (rw [if_neg (by omega), if_pos (by omega)]; first | done | rfl) | (rw [if_neg (by omega), if_neg (by omega), if_pos (by omega)]; first | done | rfl) | (rw [if_neg (by omega), if_neg (by omega), if_neg (by omega)]; first | done | rfl) | (rw [if_neg (by omega), if_neg (by omega)]; first | done | rfl)⟩)
  ·
    refine z_iload_n 1 (zdec DX10_warmsAs 3 rfl) rfl rfl ?_
    refine z_iconst 4 (zdec DX10_warmsAs 4 rfl) (by decide) ?_
    refine z_icmp_eq 16 (zdec DX10_warmsAs 5 rfl) rfl (fun h7 => ?_) (fun h7 => ?_)
    ·
      refine z_aload_n 0 (zdec DX10_warmsAs 9 rfl) rfl rfl (by decide) ?_
      refine z_bipush 20 (zdec DX10_warmsAs 10 rfl) (by decide) ?_
      refine z_inv mX10_begins 56 10 [.inl 20] (zdec DX10_warmsAs 11 rfl) ml_SixWallsModel_330 okX10_begins rfl shp56 rfl rfl rfl rfl (Nat.le_of_ble_eq_true rfl) (Nat.le_of_ble_eq_true rfl) (b' := (0, 0)) ⟨Nat.le_refl 0, Nat.le_refl 0⟩ (Nat.le_of_ble_eq_true rfl) (cX10_begins hK.1 ⟨by omega, by omega⟩ 20) (fun rv9 S9 M19 h9 => ?_)
      obtain ⟨rfl, rfl, rfl⟩ := h9
      have hk19 := ztrR_s hK 20
      have hn19 := hk19.1.2.2.2
      change zW _ _ _ _ _ 22 [(0, .inr (.inr 56)), (1, .inl k), (2, .inl x)] [] (ztrR M 20)
      refine z_aload_n 0 (zdec DX10_warmsAs 12 rfl) rfl rfl (by decide) ?_
      refine z_iconst 0 (zdec DX10_warmsAs 13 rfl) (by decide) ?_
      refine z_iload_n 2 (zdec DX10_warmsAs 14 rfl) rfl rfl ?_
      refine z_inv mX10_warmsAs 56 10 [.inl 0, .inl x] (zdec DX10_warmsAs 15 rfl) ml_SixWallsModel_333 okX10_warmsAs rfl shp56 rfl rfl rfl rfl (Nat.le_of_ble_eq_true rfl) (Nat.le_of_ble_eq_true rfl) (b' := (0, 0)) ⟨Nat.le_refl 0, Nat.le_refl 0⟩ (Nat.le_of_ble_eq_true rfl) (cX10_warms0 hk19.1 (by omega) x) (fun rv9 S9 M25 h9 => ?_)
      obtain ⟨rfl, rfl, rfl⟩ := h9
      have hk25 := zla_s ([1]) hk19.1
      have hn25 := hk25.1.2.2.2
      have hl25 := hk25.2.1
      rw [show ([1] : List Int).length = 1 from rfl] at hl25
      change zW _ _ _ _ _ 28 [(0, .inr (.inr 56)), (1, .inl k), (2, .inl x)] [.inl (zaw0 self x)] (zla ([1]) (ztrR M 20))
      refine z_iconst 3 (zdec DX10_warmsAs 16 rfl) (by decide) ?_
      refine z_iaddw (zdec DX10_warmsAs 17 rfl) ?_
      exact z_iret (zdec DX10_warmsAs 18 rfl) rfl (⟨rfl, zri (by unfold zaw; first | (rw [if_pos (by omega)]; done) | (rw [if_neg (by omega), if_pos (by omega)]; done) | (rw [if_neg (by omega), if_neg (by omega), if_pos (by omega)]; done) | (rw [if_neg (by omega), if_neg (by omega), if_neg (by omega)]; done) | (rw [if_neg (by omega), if_neg (by omega)]; first | done | rfl)), by unfold zawT; first | (rw [if_pos (by omega)]; first | done | rfl) | (rw [if_neg (by omega), if_pos (by omega)]; first | done | rfl) | (rw [if_neg (by omega), if_neg (by omega), if_pos (by omega)]; first | done | rfl) | (rw [if_neg (by omega), if_neg (by omega), if_neg (by omega)]; first | done | rfl) | (rw [if_neg (by omega), if_neg (by omega)]; first | done | rfl)⟩)
    ·
      refine z_iload_n 1 (zdec DX10_warmsAs 6 rfl) rfl rfl ?_
      refine z_bipush 7 (zdec DX10_warmsAs 7 rfl) (by decide) ?_
      refine z_icmp_ne 31 (zdec DX10_warmsAs 8 rfl) rfl (fun h13 => ?_) (fun h13 => ?_)
      ·
        refine z_iload_n 1 (zdec DX10_warmsAs 19 rfl) rfl rfl ?_
        refine z_bipush 6 (zdec DX10_warmsAs 20 rfl) (by decide) ?_
        refine z_icmp_ne 52 (zdec DX10_warmsAs 21 rfl) rfl (fun h34 => ?_) (fun h34 => ?_)
        ·
          refine z_aload_n 0 (zdec DX10_warmsAs 32 rfl) rfl rfl (by decide) ?_
          refine z_iconst 1 (zdec DX10_warmsAs 33 rfl) (by decide) ?_
          refine z_inv mX10_begins 56 10 [.inl 1] (zdec DX10_warmsAs 34 rfl) ml_SixWallsModel_330 okX10_begins rfl shp56 rfl rfl rfl rfl (Nat.le_of_ble_eq_true rfl) (Nat.le_of_ble_eq_true rfl) (b' := (0, 0)) ⟨Nat.le_refl 0, Nat.le_refl 0⟩ (Nat.le_of_ble_eq_true rfl) (cX10_begins hK.1 ⟨by omega, by omega⟩ 1) (fun rv9 S9 M54 h9 => ?_)
          obtain ⟨rfl, rfl, rfl⟩ := h9
          have hk54 := ztrR_s hK 1
          have hn54 := hk54.1.2.2.2
          change zW _ _ _ _ _ 57 [(0, .inr (.inr 56)), (1, .inl k), (2, .inl x)] [] (ztrR M 1)
          refine z_iload_n 2 (zdec DX10_warmsAs 35 rfl) rfl rfl ?_
          refine z_aload_n 0 (zdec DX10_warmsAs 36 rfl) rfl rfl (by decide) ?_
          refine z_geti (ki := 39) 56 10 (zdec DX10_warmsAs 37 rfl) rfl shp56 rfl (by decide) rfl rfl fl_SixWallsModel_336 ?_
          rw [show ztrR M 1 56 39 = self from hk54.1.2.2.1]
          refine z_iaddw (zdec DX10_warmsAs 38 rfl) ?_
          exact z_iret (zdec DX10_warmsAs 39 rfl) rfl (⟨rfl, zri (by unfold zaw; first | (rw [if_pos (by omega)]; done) | (rw [if_neg (by omega), if_pos (by omega)]; done) | (rw [if_neg (by omega), if_neg (by omega), if_pos (by omega)]; done) | (rw [if_neg (by omega), if_neg (by omega), if_neg (by omega)]; done) | (rw [if_neg (by omega), if_neg (by omega)]; first | done | rfl)), by unfold zawT; first | (rw [if_pos (by omega)]; first | done | rfl) | (rw [if_neg (by omega), if_pos (by omega)]; first | done | rfl) | (rw [if_neg (by omega), if_neg (by omega), if_pos (by omega)]; first | done | rfl) | (rw [if_neg (by omega), if_neg (by omega), if_neg (by omega)]; first | done | rfl) | (rw [if_neg (by omega), if_neg (by omega)]; first | done | rfl)⟩)
        ·
          refine z_aload_n 0 (zdec DX10_warmsAs 22 rfl) rfl rfl (by decide) ?_
          refine z_bipush 70 (zdec DX10_warmsAs 23 rfl) (by decide) ?_
          refine z_inv mX10_begins 56 10 [.inl 70] (zdec DX10_warmsAs 24 rfl) ml_SixWallsModel_330 okX10_begins rfl shp56 rfl rfl rfl rfl (Nat.le_of_ble_eq_true rfl) (Nat.le_of_ble_eq_true rfl) (b' := (0, 0)) ⟨Nat.le_refl 0, Nat.le_refl 0⟩ (Nat.le_of_ble_eq_true rfl) (cX10_begins hK.1 ⟨by omega, by omega⟩ 70) (fun rv9 S9 M40 h9 => ?_)
          obtain ⟨rfl, rfl, rfl⟩ := h9
          have hk40 := ztrR_s hK 70
          have hn40 := hk40.1.2.2.2
          change zW _ _ _ _ _ 43 [(0, .inr (.inr 56)), (1, .inl k), (2, .inl x)] [] (ztrR M 70)
          refine z_aload_n 0 (zdec DX10_warmsAs 25 rfl) rfl rfl (by decide) ?_
          refine z_iconst 0 (zdec DX10_warmsAs 26 rfl) (by decide) ?_
          refine z_iload_n 2 (zdec DX10_warmsAs 27 rfl) rfl rfl ?_
          refine z_inv mX10_warmsAs 56 10 [.inl 0, .inl x] (zdec DX10_warmsAs 28 rfl) ml_SixWallsModel_333 okX10_warmsAs rfl shp56 rfl rfl rfl rfl (Nat.le_of_ble_eq_true rfl) (Nat.le_of_ble_eq_true rfl) (b' := (0, 0)) ⟨Nat.le_refl 0, Nat.le_refl 0⟩ (Nat.le_of_ble_eq_true rfl) (cX10_warms0 hk40.1 (by omega) x) (fun rv9 S9 M46 h9 => ?_)
          obtain ⟨rfl, rfl, rfl⟩ := h9
          have hk46 := zla_s ([1]) hk40.1
          have hn46 := hk46.1.2.2.2
          have hl46 := hk46.2.1
          rw [show ([1] : List Int).length = 1 from rfl] at hl46
          change zW _ _ _ _ _ 49 [(0, .inr (.inr 56)), (1, .inl k), (2, .inl x)] [.inl (zaw0 self x)] (zla ([1]) (ztrR M 70))
          refine z_iconst 2 (zdec DX10_warmsAs 29 rfl) (by decide) ?_
          refine z_imulw (zdec DX10_warmsAs 30 rfl) ?_
          exact z_iret (zdec DX10_warmsAs 31 rfl) rfl (⟨rfl, zri (by unfold zaw; first | (rw [if_pos (by omega)]; done) | (rw [if_neg (by omega), if_pos (by omega)]; done) | (rw [if_neg (by omega), if_neg (by omega), if_pos (by omega)]; done) | (rw [if_neg (by omega), if_neg (by omega), if_neg (by omega)]; done) | (rw [if_neg (by omega), if_neg (by omega)]; first | done | rfl)), by unfold zawT; first | (rw [if_pos (by omega)]; first | done | rfl) | (rw [if_neg (by omega), if_pos (by omega)]; first | done | rfl) | (rw [if_neg (by omega), if_neg (by omega), if_pos (by omega)]; first | done | rfl) | (rw [if_neg (by omega), if_neg (by omega), if_neg (by omega)]; first | done | rfl) | (rw [if_neg (by omega), if_neg (by omega)]; first | done | rfl)⟩)
      ·
        refine z_aload_n 0 (zdec DX10_warmsAs 9 rfl) rfl rfl (by decide) ?_
        refine z_bipush 20 (zdec DX10_warmsAs 10 rfl) (by decide) ?_
        refine z_inv mX10_begins 56 10 [.inl 20] (zdec DX10_warmsAs 11 rfl) ml_SixWallsModel_330 okX10_begins rfl shp56 rfl rfl rfl rfl (Nat.le_of_ble_eq_true rfl) (Nat.le_of_ble_eq_true rfl) (b' := (0, 0)) ⟨Nat.le_refl 0, Nat.le_refl 0⟩ (Nat.le_of_ble_eq_true rfl) (cX10_begins hK.1 ⟨by omega, by omega⟩ 20) (fun rv9 S9 M19 h9 => ?_)
        obtain ⟨rfl, rfl, rfl⟩ := h9
        have hk19 := ztrR_s hK 20
        have hn19 := hk19.1.2.2.2
        change zW _ _ _ _ _ 22 [(0, .inr (.inr 56)), (1, .inl k), (2, .inl x)] [] (ztrR M 20)
        refine z_aload_n 0 (zdec DX10_warmsAs 12 rfl) rfl rfl (by decide) ?_
        refine z_iconst 0 (zdec DX10_warmsAs 13 rfl) (by decide) ?_
        refine z_iload_n 2 (zdec DX10_warmsAs 14 rfl) rfl rfl ?_
        refine z_inv mX10_warmsAs 56 10 [.inl 0, .inl x] (zdec DX10_warmsAs 15 rfl) ml_SixWallsModel_333 okX10_warmsAs rfl shp56 rfl rfl rfl rfl (Nat.le_of_ble_eq_true rfl) (Nat.le_of_ble_eq_true rfl) (b' := (0, 0)) ⟨Nat.le_refl 0, Nat.le_refl 0⟩ (Nat.le_of_ble_eq_true rfl) (cX10_warms0 hk19.1 (by omega) x) (fun rv9 S9 M25 h9 => ?_)
        obtain ⟨rfl, rfl, rfl⟩ := h9
        have hk25 := zla_s ([1]) hk19.1
        have hn25 := hk25.1.2.2.2
        have hl25 := hk25.2.1
        rw [show ([1] : List Int).length = 1 from rfl] at hl25
        change zW _ _ _ _ _ 28 [(0, .inr (.inr 56)), (1, .inl k), (2, .inl x)] [.inl (zaw0 self x)] (zla ([1]) (ztrR M 20))
        refine z_iconst 3 (zdec DX10_warmsAs 16 rfl) (by decide) ?_
        refine z_iaddw (zdec DX10_warmsAs 17 rfl) ?_
        exact z_iret (zdec DX10_warmsAs 18 rfl) rfl (⟨rfl, zri (by unfold zaw; first | (rw [if_pos (by omega)]; done) | (rw [if_neg (by omega), if_pos (by omega)]; done) | (rw [if_neg (by omega), if_neg (by omega), if_pos (by omega)]; done) | (rw [if_neg (by omega), if_neg (by omega), if_neg (by omega)]; done) | (rw [if_neg (by omega), if_neg (by omega)]; first | done | rfl)), by unfold zawT; first | (rw [if_pos (by omega)]; first | done | rfl) | (rw [if_neg (by omega), if_pos (by omega)]; first | done | rfl) | (rw [if_neg (by omega), if_neg (by omega), if_pos (by omega)]; first | done | rfl) | (rw [if_neg (by omega), if_neg (by omega), if_neg (by omega)]; first | done | rfl) | (rw [if_neg (by omega), if_neg (by omega)]; first | done | rfl)⟩)
set_option maxHeartbeats 4000000 in
theorem cX10_pipes1 {M : zMm} {K self : Int} (hK : zKR M K self) (hb : M 56 37 ≤ 1000) (x : Int) : zW mX10_pipesAs 2 (fun rv S' M' => S' = zS0 ∧ rv = some (.inl (zxor x self)) ∧ M' = zla ([11]) M) (0, 0) zS0 0 (zargs 0 [.inr (.inr 56), .inl 1, .inl x]) [] M := by
  change zW _ _ _ _ _ 0 [(0, .inr (.inr 56)), (1, .inl 1), (2, .inl x)] [] M
  have h0 := hK.2.2.2
  refine z_iload_n 1 (zdec DX10_pipesAs 0 rfl) rfl rfl ?_
  refine z_iconst 3 (zdec DX10_pipesAs 1 rfl) (by decide) ?_
  refine z_icmp_eq 10 (zdec DX10_pipesAs 2 rfl) rfl (fun h => absurd h (by decide)) (fun _ => ?_)
  refine z_iload_n 1 (zdec DX10_pipesAs 3 rfl) rfl rfl ?_
  refine z_iconst 5 (zdec DX10_pipesAs 4 rfl) (by decide) ?_
  refine z_icmp_ne 25 (zdec DX10_pipesAs 5 rfl) rfl (fun _ => ?_) (fun h => absurd h (by decide))
  refine z_iload_n 1 (zdec DX10_pipesAs 16 rfl) rfl rfl ?_
  refine z_iconst 4 (zdec DX10_pipesAs 17 rfl) (by decide) ?_
  refine z_icmp_eq 36 (zdec DX10_pipesAs 18 rfl) rfl (fun h => absurd h (by decide)) (fun _ => ?_)
  refine z_iload_n 1 (zdec DX10_pipesAs 19 rfl) rfl rfl ?_
  refine z_bipush 7 (zdec DX10_pipesAs 20 rfl) (by decide) ?_
  refine z_icmp_ne 61 (zdec DX10_pipesAs 21 rfl) rfl (fun _ => ?_) (fun h => absurd h (by decide))
  refine z_aload_n 0 (zdec DX10_pipesAs 38 rfl) rfl rfl (by decide) ?_
  refine z_bipush 11 (zdec DX10_pipesAs 39 rfl) (by decide) ?_
  refine z_inv mX10_begins 56 10 [.inl 11] (zdec DX10_pipesAs 40 rfl) ml_SixWallsModel_330 okX10_begins rfl shp56 rfl rfl rfl rfl (Nat.le_of_ble_eq_true rfl) (Nat.le_of_ble_eq_true rfl) (b' := (0, 0)) ⟨Nat.le_refl 0, Nat.le_refl 0⟩ (Nat.le_of_ble_eq_true rfl) (cX10_begins hK.1 ⟨by omega, by omega⟩ 11) (fun rv9 S9 M64 h9 => ?_)
  obtain ⟨rfl, rfl, rfl⟩ := h9
  have hk64 := ztrR_s hK 11
  have hn64 := hk64.1.2.2.2
  change zW _ _ _ _ _ 67 [(0, .inr (.inr 56)), (1, .inl 1), (2, .inl x)] [] (ztrR M 11)
  refine z_iload_n 2 (zdec DX10_pipesAs 41 rfl) rfl rfl ?_
  refine z_aload_n 0 (zdec DX10_pipesAs 42 rfl) rfl rfl (by decide) ?_
  refine z_geti (ki := 39) 56 10 (zdec DX10_pipesAs 43 rfl) rfl shp56 rfl (by decide) rfl rfl fl_SixWallsModel_336 ?_
  rw [show ztrR M 11 56 39 = self from hk64.1.2.2.1]
  refine z_ixor (zdec DX10_pipesAs 44 rfl) ?_
  exact z_iret (zdec DX10_pipesAs 45 rfl) rfl (⟨rfl, rfl, rfl⟩)
set_option maxHeartbeats 4000000 in
theorem cX10_pipes2 {M : zMm} {K self : Int} (hK : zKR M K self) (hb : M 56 37 ≤ 1000) (x : Int) : zW mX10_pipesAs 2 (fun rv S' M' => S' = zS0 ∧ rv = some (.inl (zxor x self)) ∧ M' = zla ([11]) M) (0, 0) zS0 0 (zargs 0 [.inr (.inr 56), .inl 2, .inl x]) [] M := by
  change zW _ _ _ _ _ 0 [(0, .inr (.inr 56)), (1, .inl 2), (2, .inl x)] [] M
  have h0 := hK.2.2.2
  refine z_iload_n 1 (zdec DX10_pipesAs 0 rfl) rfl rfl ?_
  refine z_iconst 3 (zdec DX10_pipesAs 1 rfl) (by decide) ?_
  refine z_icmp_eq 10 (zdec DX10_pipesAs 2 rfl) rfl (fun h => absurd h (by decide)) (fun _ => ?_)
  refine z_iload_n 1 (zdec DX10_pipesAs 3 rfl) rfl rfl ?_
  refine z_iconst 5 (zdec DX10_pipesAs 4 rfl) (by decide) ?_
  refine z_icmp_ne 25 (zdec DX10_pipesAs 5 rfl) rfl (fun _ => ?_) (fun h => absurd h (by decide))
  refine z_iload_n 1 (zdec DX10_pipesAs 16 rfl) rfl rfl ?_
  refine z_iconst 4 (zdec DX10_pipesAs 17 rfl) (by decide) ?_
  refine z_icmp_eq 36 (zdec DX10_pipesAs 18 rfl) rfl (fun h => absurd h (by decide)) (fun _ => ?_)
  refine z_iload_n 1 (zdec DX10_pipesAs 19 rfl) rfl rfl ?_
  refine z_bipush 7 (zdec DX10_pipesAs 20 rfl) (by decide) ?_
  refine z_icmp_ne 61 (zdec DX10_pipesAs 21 rfl) rfl (fun _ => ?_) (fun h => absurd h (by decide))
  refine z_aload_n 0 (zdec DX10_pipesAs 38 rfl) rfl rfl (by decide) ?_
  refine z_bipush 11 (zdec DX10_pipesAs 39 rfl) (by decide) ?_
  refine z_inv mX10_begins 56 10 [.inl 11] (zdec DX10_pipesAs 40 rfl) ml_SixWallsModel_330 okX10_begins rfl shp56 rfl rfl rfl rfl (Nat.le_of_ble_eq_true rfl) (Nat.le_of_ble_eq_true rfl) (b' := (0, 0)) ⟨Nat.le_refl 0, Nat.le_refl 0⟩ (Nat.le_of_ble_eq_true rfl) (cX10_begins hK.1 ⟨by omega, by omega⟩ 11) (fun rv9 S9 M64 h9 => ?_)
  obtain ⟨rfl, rfl, rfl⟩ := h9
  have hk64 := ztrR_s hK 11
  have hn64 := hk64.1.2.2.2
  change zW _ _ _ _ _ 67 [(0, .inr (.inr 56)), (1, .inl 2), (2, .inl x)] [] (ztrR M 11)
  refine z_iload_n 2 (zdec DX10_pipesAs 41 rfl) rfl rfl ?_
  refine z_aload_n 0 (zdec DX10_pipesAs 42 rfl) rfl rfl (by decide) ?_
  refine z_geti (ki := 39) 56 10 (zdec DX10_pipesAs 43 rfl) rfl shp56 rfl (by decide) rfl rfl fl_SixWallsModel_336 ?_
  rw [show ztrR M 11 56 39 = self from hk64.1.2.2.1]
  refine z_ixor (zdec DX10_pipesAs 44 rfl) ?_
  exact z_iret (zdec DX10_pipesAs 45 rfl) rfl (⟨rfl, rfl, rfl⟩)
set_option maxHeartbeats 4000000 in
theorem cX10_pipesAs {M : zMm} {K self : Int} (hK : zKR M K self) (hb : M 56 37 ≤ 800) (k x : Int) : zW mX10_pipesAs 4 (fun rv S' M' => S' = zS0 ∧ rv = some (.inl (zap K self k x)) ∧ M' = zla (zapT K k) M) (0, 0) zS0 0 (zargs 0 [.inr (.inr 56), .inl k, .inl x]) [] M := by
  change zW _ _ _ _ _ 0 [(0, .inr (.inr 56)), (1, .inl k), (2, .inl x)] [] M
  have h0 := hK.2.2.2
  refine z_iload_n 1 (zdec DX10_pipesAs 0 rfl) rfl rfl ?_
  refine z_iconst 3 (zdec DX10_pipesAs 1 rfl) (by decide) ?_
  refine z_icmp_eq 10 (zdec DX10_pipesAs 2 rfl) rfl (fun h2 => ?_) (fun h2 => ?_)
  ·
    refine z_aload_n 0 (zdec DX10_pipesAs 6 rfl) rfl rfl (by decide) ?_
    refine z_bipush 40 (zdec DX10_pipesAs 7 rfl) (by decide) ?_
    refine z_inv mX10_begins 56 10 [.inl 40] (zdec DX10_pipesAs 8 rfl) ml_SixWallsModel_330 okX10_begins rfl shp56 rfl rfl rfl rfl (Nat.le_of_ble_eq_true rfl) (Nat.le_of_ble_eq_true rfl) (b' := (0, 0)) ⟨Nat.le_refl 0, Nat.le_refl 0⟩ (Nat.le_of_ble_eq_true rfl) (cX10_begins hK.1 ⟨by omega, by omega⟩ 40) (fun rv9 S9 M13 h9 => ?_)
    obtain ⟨rfl, rfl, rfl⟩ := h9
    have hk13 := ztrR_s hK 40
    have hn13 := hk13.1.2.2.2
    change zW _ _ _ _ _ 16 [(0, .inr (.inr 56)), (1, .inl k), (2, .inl x)] [] (ztrR M 40)
    refine z_aload_n 0 (zdec DX10_pipesAs 9 rfl) rfl rfl (by decide) ?_
    refine z_iconst 2 (zdec DX10_pipesAs 10 rfl) (by decide) ?_
    refine z_iload_n 2 (zdec DX10_pipesAs 11 rfl) rfl rfl ?_
    refine z_inv mX10_pipesAs 56 10 [.inl 2, .inl x] (zdec DX10_pipesAs 12 rfl) ml_SixWallsModel_345 okX10_pipesAs rfl shp56 rfl rfl rfl rfl (Nat.le_of_ble_eq_true rfl) (Nat.le_of_ble_eq_true rfl) (b' := (0, 0)) ⟨Nat.le_refl 0, Nat.le_refl 0⟩ (Nat.le_of_ble_eq_true rfl) (cX10_pipes2 hk13.1 (by omega) x) (fun rv9 S9 M19 h9 => ?_)
    obtain ⟨rfl, rfl, rfl⟩ := h9
    have hk19 := zla_s ([11]) hk13.1
    have hn19 := hk19.1.2.2.2
    have hl19 := hk19.2.1
    rw [show ([11] : List Int).length = 1 from rfl] at hl19
    change zW _ _ _ _ _ 22 [(0, .inr (.inr 56)), (1, .inl k), (2, .inl x)] [.inl (zxor x self)] (zla ([11]) (ztrR M 40))
    refine z_iconst 3 (zdec DX10_pipesAs 13 rfl) (by decide) ?_
    refine z_imulw (zdec DX10_pipesAs 14 rfl) ?_
    exact z_iret (zdec DX10_pipesAs 15 rfl) rfl (⟨rfl, zri (by unfold zap; first | (rw [if_pos (by omega)]; done) | (rw [if_neg (by omega), if_pos (by omega)]; done) | (rw [if_neg (by omega), if_neg (by omega), if_pos (by omega)]; done) | (rw [if_neg (by omega), if_neg (by omega), if_neg (by omega)]; done) | (rw [if_neg (by omega), if_neg (by omega)]; first | done | rfl)), by unfold zapT; first | (rw [if_pos (by omega)]; rfl) | (rw [if_neg (by omega), if_pos (by omega), zla_ap]; rfl) | (rw [if_neg (by omega), if_neg (by omega)]; rfl)⟩)
  ·
    refine z_iload_n 1 (zdec DX10_pipesAs 3 rfl) rfl rfl ?_
    refine z_iconst 5 (zdec DX10_pipesAs 4 rfl) (by decide) ?_
    refine z_icmp_ne 25 (zdec DX10_pipesAs 5 rfl) rfl (fun h7 => ?_) (fun h7 => ?_)
    ·
      refine z_iload_n 1 (zdec DX10_pipesAs 16 rfl) rfl rfl ?_
      refine z_iconst 4 (zdec DX10_pipesAs 17 rfl) (by decide) ?_
      refine z_icmp_eq 36 (zdec DX10_pipesAs 18 rfl) rfl (fun h27 => ?_) (fun h27 => ?_)
      ·
        refine z_aload_n 0 (zdec DX10_pipesAs 22 rfl) rfl rfl (by decide) ?_
        refine z_bipush 50 (zdec DX10_pipesAs 23 rfl) (by decide) ?_
        refine z_inv mX10_begins 56 10 [.inl 50] (zdec DX10_pipesAs 24 rfl) ml_SixWallsModel_330 okX10_begins rfl shp56 rfl rfl rfl rfl (Nat.le_of_ble_eq_true rfl) (Nat.le_of_ble_eq_true rfl) (b' := (0, 0)) ⟨Nat.le_refl 0, Nat.le_refl 0⟩ (Nat.le_of_ble_eq_true rfl) (cX10_begins hK.1 ⟨by omega, by omega⟩ 50) (fun rv9 S9 M39 h9 => ?_)
        obtain ⟨rfl, rfl, rfl⟩ := h9
        have hk39 := ztrR_s hK 50
        have hn39 := hk39.1.2.2.2
        change zW _ _ _ _ _ 42 [(0, .inr (.inr 56)), (1, .inl k), (2, .inl x)] [] (ztrR M 50)
        refine z_aload_n 0 (zdec DX10_pipesAs 25 rfl) rfl rfl (by decide) ?_
        refine z_iconst 1 (zdec DX10_pipesAs 26 rfl) (by decide) ?_
        refine z_iload_n 2 (zdec DX10_pipesAs 27 rfl) rfl rfl ?_
        refine z_inv mX10_pipesAs 56 10 [.inl 1, .inl x] (zdec DX10_pipesAs 28 rfl) ml_SixWallsModel_345 okX10_pipesAs rfl shp56 rfl rfl rfl rfl (Nat.le_of_ble_eq_true rfl) (Nat.le_of_ble_eq_true rfl) (b' := (0, 0)) ⟨Nat.le_refl 0, Nat.le_refl 0⟩ (Nat.le_of_ble_eq_true rfl) (cX10_pipes1 hk39.1 (by omega) x) (fun rv9 S9 M45 h9 => ?_)
        obtain ⟨rfl, rfl, rfl⟩ := h9
        have hk45 := zla_s ([11]) hk39.1
        have hn45 := hk45.1.2.2.2
        have hl45 := hk45.2.1
        rw [show ([11] : List Int).length = 1 from rfl] at hl45
        change zW _ _ _ _ _ 48 [(0, .inr (.inr 56)), (1, .inl k), (2, .inl x)] [.inl (zxor x self)] (zla ([11]) (ztrR M 50))
        refine z_istore_n (L' := [(0, .inr (.inr 56)), (1, .inl k), (2, .inl x), (3, .inl (zxor x self))]) (zdec DX10_pipesAs 29 rfl) rfl rfl (by decide) ?_
        refine z_iload_n 3 (zdec DX10_pipesAs 30 rfl) rfl rfl ?_
        refine z_aload_n 0 (zdec DX10_pipesAs 31 rfl) rfl rfl (by decide) ?_
        refine z_aload_n 0 (zdec DX10_pipesAs 32 rfl) rfl rfl (by decide) ?_
        refine z_geti (ki := 38) 56 10 (zdec DX10_pipesAs 33 rfl) rfl shp56 rfl (by decide) rfl rfl fl_SixWallsModel_342 ?_
        rw [show zla [11] (ztrR M 50) 56 38 = K from hk45.1.2.1]
        refine z_iconst 2 (zdec DX10_pipesAs 34 rfl) (by decide) ?_
        refine z_inv mX10_warmsAs 56 10 [.inl K, .inl 2] (zdec DX10_pipesAs 35 rfl) ml_SixWallsModel_333 okX10_warmsAs rfl shp56 rfl rfl rfl rfl (Nat.le_of_ble_eq_true rfl) (Nat.le_of_ble_eq_true rfl) (b' := (0, 0)) ⟨Nat.le_refl 0, Nat.le_refl 0⟩ (Nat.le_of_ble_eq_true rfl) (cX10_warmsAs hk45.1 (by omega) K 2) (fun rv9 S9 M56 h9 => ?_)
        obtain ⟨rfl, rfl, rfl⟩ := h9
        have hk56 := zla_s (zawT K) hk45.1
        have hn56 := hk56.1.2.2.2
        have hl56 := zawT_l K
        change zW _ _ _ _ _ 59 [(0, .inr (.inr 56)), (1, .inl k), (2, .inl x), (3, .inl (zxor x self))] [.inl (zaw self K 2), .inl (zxor x self)] (zla (zawT K) (zla ([11]) (ztrR M 50)))
        refine z_isubw (zdec DX10_pipesAs 36 rfl) ?_
        exact z_iret (zdec DX10_pipesAs 37 rfl) rfl (⟨rfl, zri (by unfold zap; first | (rw [if_pos (by omega)]; done) | (rw [if_neg (by omega), if_pos (by omega)]; done) | (rw [if_neg (by omega), if_neg (by omega), if_pos (by omega)]; done) | (rw [if_neg (by omega), if_neg (by omega), if_neg (by omega)]; done) | (rw [if_neg (by omega), if_neg (by omega)]; first | done | rfl)), by unfold zapT; first | (rw [if_pos (by omega)]; rfl) | (rw [if_neg (by omega), if_pos (by omega), zla_ap]; rfl) | (rw [if_neg (by omega), if_neg (by omega)]; rfl)⟩)
      ·
        refine z_iload_n 1 (zdec DX10_pipesAs 19 rfl) rfl rfl ?_
        refine z_bipush 7 (zdec DX10_pipesAs 20 rfl) (by decide) ?_
        refine z_icmp_ne 61 (zdec DX10_pipesAs 21 rfl) rfl (fun h33 => ?_) (fun h33 => ?_)
        ·
          refine z_aload_n 0 (zdec DX10_pipesAs 38 rfl) rfl rfl (by decide) ?_
          refine z_bipush 11 (zdec DX10_pipesAs 39 rfl) (by decide) ?_
          refine z_inv mX10_begins 56 10 [.inl 11] (zdec DX10_pipesAs 40 rfl) ml_SixWallsModel_330 okX10_begins rfl shp56 rfl rfl rfl rfl (Nat.le_of_ble_eq_true rfl) (Nat.le_of_ble_eq_true rfl) (b' := (0, 0)) ⟨Nat.le_refl 0, Nat.le_refl 0⟩ (Nat.le_of_ble_eq_true rfl) (cX10_begins hK.1 ⟨by omega, by omega⟩ 11) (fun rv9 S9 M64 h9 => ?_)
          obtain ⟨rfl, rfl, rfl⟩ := h9
          have hk64 := ztrR_s hK 11
          have hn64 := hk64.1.2.2.2
          change zW _ _ _ _ _ 67 [(0, .inr (.inr 56)), (1, .inl k), (2, .inl x)] [] (ztrR M 11)
          refine z_iload_n 2 (zdec DX10_pipesAs 41 rfl) rfl rfl ?_
          refine z_aload_n 0 (zdec DX10_pipesAs 42 rfl) rfl rfl (by decide) ?_
          refine z_geti (ki := 39) 56 10 (zdec DX10_pipesAs 43 rfl) rfl shp56 rfl (by decide) rfl rfl fl_SixWallsModel_336 ?_
          rw [show ztrR M 11 56 39 = self from hk64.1.2.2.1]
          refine z_ixor (zdec DX10_pipesAs 44 rfl) ?_
          exact z_iret (zdec DX10_pipesAs 45 rfl) rfl (⟨rfl, zri (by unfold zap; first | (rw [if_pos (by omega)]; done) | (rw [if_neg (by omega), if_pos (by omega)]; done) | (rw [if_neg (by omega), if_neg (by omega), if_pos (by omega)]; done) | (rw [if_neg (by omega), if_neg (by omega), if_neg (by omega)]; done) | (rw [if_neg (by omega), if_neg (by omega)]; first | done | rfl)), by unfold zapT; first | (rw [if_pos (by omega)]; rfl) | (rw [if_neg (by omega), if_pos (by omega), zla_ap]; rfl) | (rw [if_neg (by omega), if_neg (by omega)]; rfl)⟩)
        ·
          refine z_aload_n 0 (zdec DX10_pipesAs 22 rfl) rfl rfl (by decide) ?_
          refine z_bipush 50 (zdec DX10_pipesAs 23 rfl) (by decide) ?_
          refine z_inv mX10_begins 56 10 [.inl 50] (zdec DX10_pipesAs 24 rfl) ml_SixWallsModel_330 okX10_begins rfl shp56 rfl rfl rfl rfl (Nat.le_of_ble_eq_true rfl) (Nat.le_of_ble_eq_true rfl) (b' := (0, 0)) ⟨Nat.le_refl 0, Nat.le_refl 0⟩ (Nat.le_of_ble_eq_true rfl) (cX10_begins hK.1 ⟨by omega, by omega⟩ 50) (fun rv9 S9 M39 h9 => ?_)
          obtain ⟨rfl, rfl, rfl⟩ := h9
          have hk39 := ztrR_s hK 50
          have hn39 := hk39.1.2.2.2
          change zW _ _ _ _ _ 42 [(0, .inr (.inr 56)), (1, .inl k), (2, .inl x)] [] (ztrR M 50)
          refine z_aload_n 0 (zdec DX10_pipesAs 25 rfl) rfl rfl (by decide) ?_
          refine z_iconst 1 (zdec DX10_pipesAs 26 rfl) (by decide) ?_
          refine z_iload_n 2 (zdec DX10_pipesAs 27 rfl) rfl rfl ?_
          refine z_inv mX10_pipesAs 56 10 [.inl 1, .inl x] (zdec DX10_pipesAs 28 rfl) ml_SixWallsModel_345 okX10_pipesAs rfl shp56 rfl rfl rfl rfl (Nat.le_of_ble_eq_true rfl) (Nat.le_of_ble_eq_true rfl) (b' := (0, 0)) ⟨Nat.le_refl 0, Nat.le_refl 0⟩ (Nat.le_of_ble_eq_true rfl) (cX10_pipes1 hk39.1 (by omega) x) (fun rv9 S9 M45 h9 => ?_)
          obtain ⟨rfl, rfl, rfl⟩ := h9
          have hk45 := zla_s ([11]) hk39.1
          have hn45 := hk45.1.2.2.2
          have hl45 := hk45.2.1
          rw [show ([11] : List Int).length = 1 from rfl] at hl45
          change zW _ _ _ _ _ 48 [(0, .inr (.inr 56)), (1, .inl k), (2, .inl x)] [.inl (zxor x self)] (zla ([11]) (ztrR M 50))
          refine z_istore_n (L' := [(0, .inr (.inr 56)), (1, .inl k), (2, .inl x), (3, .inl (zxor x self))]) (zdec DX10_pipesAs 29 rfl) rfl rfl (by decide) ?_
          refine z_iload_n 3 (zdec DX10_pipesAs 30 rfl) rfl rfl ?_
          refine z_aload_n 0 (zdec DX10_pipesAs 31 rfl) rfl rfl (by decide) ?_
          refine z_aload_n 0 (zdec DX10_pipesAs 32 rfl) rfl rfl (by decide) ?_
          refine z_geti (ki := 38) 56 10 (zdec DX10_pipesAs 33 rfl) rfl shp56 rfl (by decide) rfl rfl fl_SixWallsModel_342 ?_
          rw [show zla [11] (ztrR M 50) 56 38 = K from hk45.1.2.1]
          refine z_iconst 2 (zdec DX10_pipesAs 34 rfl) (by decide) ?_
          refine z_inv mX10_warmsAs 56 10 [.inl K, .inl 2] (zdec DX10_pipesAs 35 rfl) ml_SixWallsModel_333 okX10_warmsAs rfl shp56 rfl rfl rfl rfl (Nat.le_of_ble_eq_true rfl) (Nat.le_of_ble_eq_true rfl) (b' := (0, 0)) ⟨Nat.le_refl 0, Nat.le_refl 0⟩ (Nat.le_of_ble_eq_true rfl) (cX10_warmsAs hk45.1 (by omega) K 2) (fun rv9 S9 M56 h9 => ?_)
          obtain ⟨rfl, rfl, rfl⟩ := h9
          have hk56 := zla_s (zawT K) hk45.1
          have hn56 := hk56.1.2.2.2
          have hl56 := zawT_l K
          change zW _ _ _ _ _ 59 [(0, .inr (.inr 56)), (1, .inl k), (2, .inl x), (3, .inl (zxor x self))] [.inl (zaw self K 2), .inl (zxor x self)] (zla (zawT K) (zla ([11]) (ztrR M 50)))
          refine z_isubw (zdec DX10_pipesAs 36 rfl) ?_
          exact z_iret (zdec DX10_pipesAs 37 rfl) rfl (⟨rfl, zri (by unfold zap; first | (rw [if_pos (by omega)]; done) | (rw [if_neg (by omega), if_pos (by omega)]; done) | (rw [if_neg (by omega), if_neg (by omega), if_pos (by omega)]; done) | (rw [if_neg (by omega), if_neg (by omega), if_neg (by omega)]; done) | (rw [if_neg (by omega), if_neg (by omega)]; first | done | rfl)), by unfold zapT; first | (rw [if_pos (by omega)]; rfl) | (rw [if_neg (by omega), if_pos (by omega), zla_ap]; rfl) | (rw [if_neg (by omega), if_neg (by omega)]; rfl)⟩)
    ·
      refine z_aload_n 0 (zdec DX10_pipesAs 6 rfl) rfl rfl (by decide) ?_
      refine z_bipush 40 (zdec DX10_pipesAs 7 rfl) (by decide) ?_
      refine z_inv mX10_begins 56 10 [.inl 40] (zdec DX10_pipesAs 8 rfl) ml_SixWallsModel_330 okX10_begins rfl shp56 rfl rfl rfl rfl (Nat.le_of_ble_eq_true rfl) (Nat.le_of_ble_eq_true rfl) (b' := (0, 0)) ⟨Nat.le_refl 0, Nat.le_refl 0⟩ (Nat.le_of_ble_eq_true rfl) (cX10_begins hK.1 ⟨by omega, by omega⟩ 40) (fun rv9 S9 M13 h9 => ?_)
      obtain ⟨rfl, rfl, rfl⟩ := h9
      have hk13 := ztrR_s hK 40
      have hn13 := hk13.1.2.2.2
      change zW _ _ _ _ _ 16 [(0, .inr (.inr 56)), (1, .inl k), (2, .inl x)] [] (ztrR M 40)
      refine z_aload_n 0 (zdec DX10_pipesAs 9 rfl) rfl rfl (by decide) ?_
      refine z_iconst 2 (zdec DX10_pipesAs 10 rfl) (by decide) ?_
      refine z_iload_n 2 (zdec DX10_pipesAs 11 rfl) rfl rfl ?_
      refine z_inv mX10_pipesAs 56 10 [.inl 2, .inl x] (zdec DX10_pipesAs 12 rfl) ml_SixWallsModel_345 okX10_pipesAs rfl shp56 rfl rfl rfl rfl (Nat.le_of_ble_eq_true rfl) (Nat.le_of_ble_eq_true rfl) (b' := (0, 0)) ⟨Nat.le_refl 0, Nat.le_refl 0⟩ (Nat.le_of_ble_eq_true rfl) (cX10_pipes2 hk13.1 (by omega) x) (fun rv9 S9 M19 h9 => ?_)
      obtain ⟨rfl, rfl, rfl⟩ := h9
      have hk19 := zla_s ([11]) hk13.1
      have hn19 := hk19.1.2.2.2
      have hl19 := hk19.2.1
      rw [show ([11] : List Int).length = 1 from rfl] at hl19
      change zW _ _ _ _ _ 22 [(0, .inr (.inr 56)), (1, .inl k), (2, .inl x)] [.inl (zxor x self)] (zla ([11]) (ztrR M 40))
      refine z_iconst 3 (zdec DX10_pipesAs 13 rfl) (by decide) ?_
      refine z_imulw (zdec DX10_pipesAs 14 rfl) ?_
      exact z_iret (zdec DX10_pipesAs 15 rfl) rfl (⟨rfl, zri (by unfold zap; first | (rw [if_pos (by omega)]; done) | (rw [if_neg (by omega), if_pos (by omega)]; done) | (rw [if_neg (by omega), if_neg (by omega), if_pos (by omega)]; done) | (rw [if_neg (by omega), if_neg (by omega), if_neg (by omega)]; done) | (rw [if_neg (by omega), if_neg (by omega)]; first | done | rfl)), by unfold zapT; first | (rw [if_pos (by omega)]; rfl) | (rw [if_neg (by omega), if_pos (by omega), zla_ap]; rfl) | (rw [if_neg (by omega), if_neg (by omega)]; rfl)⟩)
set_option maxHeartbeats 4000000 in
theorem cX10_walls0 {M : zMm} {K self : Int} (hK : zKR M K self) (hb : M 56 37 ≤ 800) (x : Int) : zW mX10_wallsAs 4 (fun rv S' M' => S' = zS0 ∧ rv = some (.inl (zal0 K self x)) ∧ M' = zla (zal0T K) M) (0, 0) zS0 0 (zargs 0 [.inr (.inr 56), .inl 0, .inl x]) [] M := by
  change zW _ _ _ _ _ 0 [(0, .inr (.inr 56)), (1, .inl 0), (2, .inl x)] [] M
  have h0 := hK.2.2.2
  refine z_iload_n 1 (zdec DX10_wallsAs 0 rfl) rfl rfl ?_
  refine z_iconst 3 (zdec DX10_wallsAs 1 rfl) (by decide) ?_
  refine z_icmp_eq 10 (zdec DX10_wallsAs 2 rfl) rfl (fun h => absurd h (by decide)) (fun _ => ?_)
  refine z_iload_n 1 (zdec DX10_wallsAs 3 rfl) rfl rfl ?_
  refine z_iconst 5 (zdec DX10_wallsAs 4 rfl) (by decide) ?_
  refine z_icmp_ne 25 (zdec DX10_wallsAs 5 rfl) rfl (fun _ => ?_) (fun h => absurd h (by decide))
  refine z_iload_n 1 (zdec DX10_wallsAs 16 rfl) rfl rfl ?_
  refine z_iconst 2 (zdec DX10_wallsAs 17 rfl) (by decide) ?_
  refine z_icmp_ne 44 (zdec DX10_wallsAs 18 rfl) rfl (fun _ => ?_) (fun h => absurd h (by decide))
  refine z_iload_n 1 (zdec DX10_wallsAs 28 rfl) rfl rfl ?_
  refine z_bipush 7 (zdec DX10_wallsAs 29 rfl) (by decide) ?_
  refine z_icmp_ne 75 (zdec DX10_wallsAs 30 rfl) rfl (fun _ => ?_) (fun h => absurd h (by decide))
  refine z_aload_n 0 (zdec DX10_wallsAs 47 rfl) rfl rfl (by decide) ?_
  refine z_bipush 10 (zdec DX10_wallsAs 48 rfl) (by decide) ?_
  refine z_inv mX10_begins 56 10 [.inl 10] (zdec DX10_wallsAs 49 rfl) ml_SixWallsModel_330 okX10_begins rfl shp56 rfl rfl rfl rfl (Nat.le_of_ble_eq_true rfl) (Nat.le_of_ble_eq_true rfl) (b' := (0, 0)) ⟨Nat.le_refl 0, Nat.le_refl 0⟩ (Nat.le_of_ble_eq_true rfl) (cX10_begins hK.1 ⟨by omega, by omega⟩ 10) (fun rv9 S9 M78 h9 => ?_)
  obtain ⟨rfl, rfl, rfl⟩ := h9
  have hk78 := ztrR_s hK 10
  have hn78 := hk78.1.2.2.2
  change zW _ _ _ _ _ 81 [(0, .inr (.inr 56)), (1, .inl 0), (2, .inl x)] [] (ztrR M 10)
  refine z_aload_n 0 (zdec DX10_wallsAs 50 rfl) rfl rfl (by decide) ?_
  refine z_aload_n 0 (zdec DX10_wallsAs 51 rfl) rfl rfl (by decide) ?_
  refine z_geti (ki := 38) 56 10 (zdec DX10_wallsAs 52 rfl) rfl shp56 rfl (by decide) rfl rfl fl_SixWallsModel_342 ?_
  rw [show ztrR M 10 56 38 = K from hk78.1.2.1]
  refine z_iload_n 2 (zdec DX10_wallsAs 53 rfl) rfl rfl ?_
  refine z_inv mX10_warmsAs 56 10 [.inl K, .inl x] (zdec DX10_wallsAs 54 rfl) ml_SixWallsModel_333 okX10_warmsAs rfl shp56 rfl rfl rfl rfl (Nat.le_of_ble_eq_true rfl) (Nat.le_of_ble_eq_true rfl) (b' := (0, 0)) ⟨Nat.le_refl 0, Nat.le_refl 0⟩ (Nat.le_of_ble_eq_true rfl) (cX10_warmsAs hk78.1 (by omega) K x) (fun rv9 S9 M87 h9 => ?_)
  obtain ⟨rfl, rfl, rfl⟩ := h9
  have hk87 := zla_s (zawT K) hk78.1
  have hn87 := hk87.1.2.2.2
  have hl87 := zawT_l K
  change zW _ _ _ _ _ 90 [(0, .inr (.inr 56)), (1, .inl 0), (2, .inl x)] [.inl (zaw self K x)] (zla (zawT K) (ztrR M 10))
  refine z_iconst 2 (zdec DX10_wallsAs 55 rfl) (by decide) ?_
  refine z_imulw (zdec DX10_wallsAs 56 rfl) ?_
  exact z_iret (zdec DX10_wallsAs 57 rfl) rfl (⟨rfl, rfl, rfl⟩)
set_option maxHeartbeats 4000000 in
theorem cX10_walls4 {M : zMm} {K self : Int} (hK : zKR M K self) (hb : M 56 37 ≤ 800) (x : Int) : zW mX10_wallsAs 4 (fun rv S' M' => S' = zS0 ∧ rv = some (.inl (zal0 K self x)) ∧ M' = zla (zal0T K) M) (0, 0) zS0 0 (zargs 0 [.inr (.inr 56), .inl 4, .inl x]) [] M := by
  change zW _ _ _ _ _ 0 [(0, .inr (.inr 56)), (1, .inl 4), (2, .inl x)] [] M
  have h0 := hK.2.2.2
  refine z_iload_n 1 (zdec DX10_wallsAs 0 rfl) rfl rfl ?_
  refine z_iconst 3 (zdec DX10_wallsAs 1 rfl) (by decide) ?_
  refine z_icmp_eq 10 (zdec DX10_wallsAs 2 rfl) rfl (fun h => absurd h (by decide)) (fun _ => ?_)
  refine z_iload_n 1 (zdec DX10_wallsAs 3 rfl) rfl rfl ?_
  refine z_iconst 5 (zdec DX10_wallsAs 4 rfl) (by decide) ?_
  refine z_icmp_ne 25 (zdec DX10_wallsAs 5 rfl) rfl (fun _ => ?_) (fun h => absurd h (by decide))
  refine z_iload_n 1 (zdec DX10_wallsAs 16 rfl) rfl rfl ?_
  refine z_iconst 2 (zdec DX10_wallsAs 17 rfl) (by decide) ?_
  refine z_icmp_ne 44 (zdec DX10_wallsAs 18 rfl) rfl (fun _ => ?_) (fun h => absurd h (by decide))
  refine z_iload_n 1 (zdec DX10_wallsAs 28 rfl) rfl rfl ?_
  refine z_bipush 7 (zdec DX10_wallsAs 29 rfl) (by decide) ?_
  refine z_icmp_ne 75 (zdec DX10_wallsAs 30 rfl) rfl (fun _ => ?_) (fun h => absurd h (by decide))
  refine z_aload_n 0 (zdec DX10_wallsAs 47 rfl) rfl rfl (by decide) ?_
  refine z_bipush 10 (zdec DX10_wallsAs 48 rfl) (by decide) ?_
  refine z_inv mX10_begins 56 10 [.inl 10] (zdec DX10_wallsAs 49 rfl) ml_SixWallsModel_330 okX10_begins rfl shp56 rfl rfl rfl rfl (Nat.le_of_ble_eq_true rfl) (Nat.le_of_ble_eq_true rfl) (b' := (0, 0)) ⟨Nat.le_refl 0, Nat.le_refl 0⟩ (Nat.le_of_ble_eq_true rfl) (cX10_begins hK.1 ⟨by omega, by omega⟩ 10) (fun rv9 S9 M78 h9 => ?_)
  obtain ⟨rfl, rfl, rfl⟩ := h9
  have hk78 := ztrR_s hK 10
  have hn78 := hk78.1.2.2.2
  change zW _ _ _ _ _ 81 [(0, .inr (.inr 56)), (1, .inl 4), (2, .inl x)] [] (ztrR M 10)
  refine z_aload_n 0 (zdec DX10_wallsAs 50 rfl) rfl rfl (by decide) ?_
  refine z_aload_n 0 (zdec DX10_wallsAs 51 rfl) rfl rfl (by decide) ?_
  refine z_geti (ki := 38) 56 10 (zdec DX10_wallsAs 52 rfl) rfl shp56 rfl (by decide) rfl rfl fl_SixWallsModel_342 ?_
  rw [show ztrR M 10 56 38 = K from hk78.1.2.1]
  refine z_iload_n 2 (zdec DX10_wallsAs 53 rfl) rfl rfl ?_
  refine z_inv mX10_warmsAs 56 10 [.inl K, .inl x] (zdec DX10_wallsAs 54 rfl) ml_SixWallsModel_333 okX10_warmsAs rfl shp56 rfl rfl rfl rfl (Nat.le_of_ble_eq_true rfl) (Nat.le_of_ble_eq_true rfl) (b' := (0, 0)) ⟨Nat.le_refl 0, Nat.le_refl 0⟩ (Nat.le_of_ble_eq_true rfl) (cX10_warmsAs hk78.1 (by omega) K x) (fun rv9 S9 M87 h9 => ?_)
  obtain ⟨rfl, rfl, rfl⟩ := h9
  have hk87 := zla_s (zawT K) hk78.1
  have hn87 := hk87.1.2.2.2
  have hl87 := zawT_l K
  change zW _ _ _ _ _ 90 [(0, .inr (.inr 56)), (1, .inl 4), (2, .inl x)] [.inl (zaw self K x)] (zla (zawT K) (ztrR M 10))
  refine z_iconst 2 (zdec DX10_wallsAs 55 rfl) (by decide) ?_
  refine z_imulw (zdec DX10_wallsAs 56 rfl) ?_
  exact z_iret (zdec DX10_wallsAs 57 rfl) rfl (⟨rfl, rfl, rfl⟩)
set_option maxHeartbeats 4000000 in
theorem cX10_walls2 {M : zMm} {K self : Int} (hK : zKR M K self) (hb : M 56 37 ≤ 750) (x : Int) : zW mX10_wallsAs 5 (fun rv S' M' => S' = zS0 ∧ rv = some (.inl (zal2 K self x)) ∧ M' = zla (zal2T K) M) (0, 0) zS0 0 (zargs 0 [.inr (.inr 56), .inl 2, .inl x]) [] M := by
  change zW _ _ _ _ _ 0 [(0, .inr (.inr 56)), (1, .inl 2), (2, .inl x)] [] M
  have h0 := hK.2.2.2
  refine z_iload_n 1 (zdec DX10_wallsAs 0 rfl) rfl rfl ?_
  refine z_iconst 3 (zdec DX10_wallsAs 1 rfl) (by decide) ?_
  refine z_icmp_eq 10 (zdec DX10_wallsAs 2 rfl) rfl (fun h => absurd h (by decide)) (fun _ => ?_)
  refine z_iload_n 1 (zdec DX10_wallsAs 3 rfl) rfl rfl ?_
  refine z_iconst 5 (zdec DX10_wallsAs 4 rfl) (by decide) ?_
  refine z_icmp_ne 25 (zdec DX10_wallsAs 5 rfl) rfl (fun _ => ?_) (fun h => absurd h (by decide))
  refine z_iload_n 1 (zdec DX10_wallsAs 16 rfl) rfl rfl ?_
  refine z_iconst 2 (zdec DX10_wallsAs 17 rfl) (by decide) ?_
  refine z_icmp_ne 44 (zdec DX10_wallsAs 18 rfl) rfl (fun h => absurd h (by decide)) (fun _ => ?_)
  refine z_aload_n 0 (zdec DX10_wallsAs 19 rfl) rfl rfl (by decide) ?_
  refine z_bipush 30 (zdec DX10_wallsAs 20 rfl) (by decide) ?_
  refine z_inv mX10_begins 56 10 [.inl 30] (zdec DX10_wallsAs 21 rfl) ml_SixWallsModel_330 okX10_begins rfl shp56 rfl rfl rfl rfl (Nat.le_of_ble_eq_true rfl) (Nat.le_of_ble_eq_true rfl) (b' := (0, 0)) ⟨Nat.le_refl 0, Nat.le_refl 0⟩ (Nat.le_of_ble_eq_true rfl) (cX10_begins hK.1 ⟨by omega, by omega⟩ 30) (fun rv9 S9 M33 h9 => ?_)
  obtain ⟨rfl, rfl, rfl⟩ := h9
  have hk33 := ztrR_s hK 30
  have hn33 := hk33.1.2.2.2
  change zW _ _ _ _ _ 36 [(0, .inr (.inr 56)), (1, .inl 2), (2, .inl x)] [] (ztrR M 30)
  refine z_aload_n 0 (zdec DX10_wallsAs 22 rfl) rfl rfl (by decide) ?_
  refine z_iconst 0 (zdec DX10_wallsAs 23 rfl) (by decide) ?_
  refine z_iload_n 2 (zdec DX10_wallsAs 24 rfl) rfl rfl ?_
  refine z_inv mX10_wallsAs 56 10 [.inl 0, .inl x] (zdec DX10_wallsAs 25 rfl) ml_SixWallsModel_339 okX10_wallsAs rfl shp56 rfl rfl rfl rfl (Nat.le_of_ble_eq_true rfl) (Nat.le_of_ble_eq_true rfl) (b' := (0, 0)) ⟨Nat.le_refl 0, Nat.le_refl 0⟩ (Nat.le_of_ble_eq_true rfl) (cX10_walls0 hk33.1 (by omega) x) (fun rv9 S9 M39 h9 => ?_)
  obtain ⟨rfl, rfl, rfl⟩ := h9
  have hk39 := zla_s (zal0T K) hk33.1
  have hn39 := hk39.1.2.2.2
  have hl39 := zal0T_l K
  change zW _ _ _ _ _ 42 [(0, .inr (.inr 56)), (1, .inl 2), (2, .inl x)] [.inl (zal0 K self x)] (zla (zal0T K) (ztrR M 30))
  refine z_inegw (zdec DX10_wallsAs 26 rfl) ?_
  exact z_iret (zdec DX10_wallsAs 27 rfl) rfl (⟨rfl, rfl, rfl⟩)
set_option maxHeartbeats 4000000 in
theorem cX10_wallsAs {M : zMm} {K self : Int} (hK : zKR M K self) (hb : M 56 37 ≤ 700) (k x : Int) : zW mX10_wallsAs 6 (fun rv S' M' => S' = zS0 ∧ rv = some (.inl (zal K self k x)) ∧ M' = zla (zalT K k) M) (0, 0) zS0 0 (zargs 0 [.inr (.inr 56), .inl k, .inl x]) [] M := by
  change zW _ _ _ _ _ 0 [(0, .inr (.inr 56)), (1, .inl k), (2, .inl x)] [] M
  have h0 := hK.2.2.2
  refine z_iload_n 1 (zdec DX10_wallsAs 0 rfl) rfl rfl ?_
  refine z_iconst 3 (zdec DX10_wallsAs 1 rfl) (by decide) ?_
  refine z_icmp_eq 10 (zdec DX10_wallsAs 2 rfl) rfl (fun h2 => ?_) (fun h2 => ?_)
  ·
    refine z_aload_n 0 (zdec DX10_wallsAs 6 rfl) rfl rfl (by decide) ?_
    refine z_bipush 41 (zdec DX10_wallsAs 7 rfl) (by decide) ?_
    refine z_inv mX10_begins 56 10 [.inl 41] (zdec DX10_wallsAs 8 rfl) ml_SixWallsModel_330 okX10_begins rfl shp56 rfl rfl rfl rfl (Nat.le_of_ble_eq_true rfl) (Nat.le_of_ble_eq_true rfl) (b' := (0, 0)) ⟨Nat.le_refl 0, Nat.le_refl 0⟩ (Nat.le_of_ble_eq_true rfl) (cX10_begins hK.1 ⟨by omega, by omega⟩ 41) (fun rv9 S9 M13 h9 => ?_)
    obtain ⟨rfl, rfl, rfl⟩ := h9
    have hk13 := ztrR_s hK 41
    have hn13 := hk13.1.2.2.2
    change zW _ _ _ _ _ 16 [(0, .inr (.inr 56)), (1, .inl k), (2, .inl x)] [] (ztrR M 41)
    refine z_aload_n 0 (zdec DX10_wallsAs 9 rfl) rfl rfl (by decide) ?_
    refine z_iconst 2 (zdec DX10_wallsAs 10 rfl) (by decide) ?_
    refine z_iload_n 2 (zdec DX10_wallsAs 11 rfl) rfl rfl ?_
    refine z_iconst 1 (zdec DX10_wallsAs 12 rfl) (by decide) ?_
    refine z_iaddw (zdec DX10_wallsAs 13 rfl) ?_
    refine z_inv mX10_wallsAs 56 10 [.inl 2, .inl (zw (x + 1))] (zdec DX10_wallsAs 14 rfl) ml_SixWallsModel_339 okX10_wallsAs rfl shp56 rfl rfl rfl rfl (Nat.le_of_ble_eq_true rfl) (Nat.le_of_ble_eq_true rfl) (b' := (0, 0)) ⟨Nat.le_refl 0, Nat.le_refl 0⟩ (Nat.le_of_ble_eq_true rfl) (cX10_walls2 hk13.1 (by omega) (zw (x + 1))) (fun rv9 S9 M21 h9 => ?_)
    obtain ⟨rfl, rfl, rfl⟩ := h9
    have hk21 := zla_s (zal2T K) hk13.1
    have hn21 := hk21.1.2.2.2
    have hl21 := zal2T_l K
    change zW _ _ _ _ _ 24 [(0, .inr (.inr 56)), (1, .inl k), (2, .inl x)] [.inl (zal2 K self (zw (x + 1)))] (zla (zal2T K) (ztrR M 41))
    exact z_iret (zdec DX10_wallsAs 15 rfl) rfl (⟨rfl, zri (by unfold zal; first | (rw [if_pos (by omega)]; done) | (rw [if_neg (by omega), if_pos (by omega)]; first | done | rfl) | (rw [if_neg (by omega), if_neg (by omega), if_pos (by omega)]; done) | (rw [if_neg (by omega), if_neg (by omega), if_neg (by omega)]; first | done | rfl)), by unfold zalT; first | (rw [if_pos (by omega)]; rfl) | (rw [if_neg (by omega), if_pos (by omega)]; rfl) | (rw [if_neg (by omega), if_neg (by omega), if_pos (by omega)]; show _ = zla (zal0T K ++ zapT K K) (ztrR M 80); rw [zla_ap]) | (rw [if_neg (by omega), if_neg (by omega), if_neg (by omega)]; rfl)⟩)
  ·
    refine z_iload_n 1 (zdec DX10_wallsAs 3 rfl) rfl rfl ?_
    refine z_iconst 5 (zdec DX10_wallsAs 4 rfl) (by decide) ?_
    refine z_icmp_ne 25 (zdec DX10_wallsAs 5 rfl) rfl (fun h7 => ?_) (fun h7 => ?_)
    ·
      refine z_iload_n 1 (zdec DX10_wallsAs 16 rfl) rfl rfl ?_
      refine z_iconst 2 (zdec DX10_wallsAs 17 rfl) (by decide) ?_
      refine z_icmp_ne 44 (zdec DX10_wallsAs 18 rfl) rfl (fun h27 => ?_) (fun h27 => ?_)
      ·
        refine z_iload_n 1 (zdec DX10_wallsAs 28 rfl) rfl rfl ?_
        refine z_bipush 7 (zdec DX10_wallsAs 29 rfl) (by decide) ?_
        refine z_icmp_ne 75 (zdec DX10_wallsAs 30 rfl) rfl (fun h47 => ?_) (fun h47 => ?_)
        ·
          refine z_aload_n 0 (zdec DX10_wallsAs 47 rfl) rfl rfl (by decide) ?_
          refine z_bipush 10 (zdec DX10_wallsAs 48 rfl) (by decide) ?_
          refine z_inv mX10_begins 56 10 [.inl 10] (zdec DX10_wallsAs 49 rfl) ml_SixWallsModel_330 okX10_begins rfl shp56 rfl rfl rfl rfl (Nat.le_of_ble_eq_true rfl) (Nat.le_of_ble_eq_true rfl) (b' := (0, 0)) ⟨Nat.le_refl 0, Nat.le_refl 0⟩ (Nat.le_of_ble_eq_true rfl) (cX10_begins hK.1 ⟨by omega, by omega⟩ 10) (fun rv9 S9 M78 h9 => ?_)
          obtain ⟨rfl, rfl, rfl⟩ := h9
          have hk78 := ztrR_s hK 10
          have hn78 := hk78.1.2.2.2
          change zW _ _ _ _ _ 81 [(0, .inr (.inr 56)), (1, .inl k), (2, .inl x)] [] (ztrR M 10)
          refine z_aload_n 0 (zdec DX10_wallsAs 50 rfl) rfl rfl (by decide) ?_
          refine z_aload_n 0 (zdec DX10_wallsAs 51 rfl) rfl rfl (by decide) ?_
          refine z_geti (ki := 38) 56 10 (zdec DX10_wallsAs 52 rfl) rfl shp56 rfl (by decide) rfl rfl fl_SixWallsModel_342 ?_
          rw [show ztrR M 10 56 38 = K from hk78.1.2.1]
          refine z_iload_n 2 (zdec DX10_wallsAs 53 rfl) rfl rfl ?_
          refine z_inv mX10_warmsAs 56 10 [.inl K, .inl x] (zdec DX10_wallsAs 54 rfl) ml_SixWallsModel_333 okX10_warmsAs rfl shp56 rfl rfl rfl rfl (Nat.le_of_ble_eq_true rfl) (Nat.le_of_ble_eq_true rfl) (b' := (0, 0)) ⟨Nat.le_refl 0, Nat.le_refl 0⟩ (Nat.le_of_ble_eq_true rfl) (cX10_warmsAs hk78.1 (by omega) K x) (fun rv9 S9 M87 h9 => ?_)
          obtain ⟨rfl, rfl, rfl⟩ := h9
          have hk87 := zla_s (zawT K) hk78.1
          have hn87 := hk87.1.2.2.2
          have hl87 := zawT_l K
          change zW _ _ _ _ _ 90 [(0, .inr (.inr 56)), (1, .inl k), (2, .inl x)] [.inl (zaw self K x)] (zla (zawT K) (ztrR M 10))
          refine z_iconst 2 (zdec DX10_wallsAs 55 rfl) (by decide) ?_
          refine z_imulw (zdec DX10_wallsAs 56 rfl) ?_
          exact z_iret (zdec DX10_wallsAs 57 rfl) rfl (⟨rfl, zri (by unfold zal; first | (rw [if_pos (by omega)]; done) | (rw [if_neg (by omega), if_pos (by omega)]; first | done | rfl) | (rw [if_neg (by omega), if_neg (by omega), if_pos (by omega)]; done) | (rw [if_neg (by omega), if_neg (by omega), if_neg (by omega)]; first | done | rfl)), by unfold zalT; first | (rw [if_pos (by omega)]; rfl) | (rw [if_neg (by omega), if_pos (by omega)]; rfl) | (rw [if_neg (by omega), if_neg (by omega), if_pos (by omega)]; show _ = zla (zal0T K ++ zapT K K) (ztrR M 80); rw [zla_ap]) | (rw [if_neg (by omega), if_neg (by omega), if_neg (by omega)]; rfl)⟩)
        ·
          refine z_aload_n 0 (zdec DX10_wallsAs 31 rfl) rfl rfl (by decide) ?_
          refine z_bipush 80 (zdec DX10_wallsAs 32 rfl) (by decide) ?_
          refine z_inv mX10_begins 56 10 [.inl 80] (zdec DX10_wallsAs 33 rfl) ml_SixWallsModel_330 okX10_begins rfl shp56 rfl rfl rfl rfl (Nat.le_of_ble_eq_true rfl) (Nat.le_of_ble_eq_true rfl) (b' := (0, 0)) ⟨Nat.le_refl 0, Nat.le_refl 0⟩ (Nat.le_of_ble_eq_true rfl) (cX10_begins hK.1 ⟨by omega, by omega⟩ 80) (fun rv9 S9 M53 h9 => ?_)
          obtain ⟨rfl, rfl, rfl⟩ := h9
          have hk53 := ztrR_s hK 80
          have hn53 := hk53.1.2.2.2
          change zW _ _ _ _ _ 56 [(0, .inr (.inr 56)), (1, .inl k), (2, .inl x)] [] (ztrR M 80)
          refine z_aload_n 0 (zdec DX10_wallsAs 34 rfl) rfl rfl (by decide) ?_
          refine z_iconst 4 (zdec DX10_wallsAs 35 rfl) (by decide) ?_
          refine z_iload_n 2 (zdec DX10_wallsAs 36 rfl) rfl rfl ?_
          refine z_inv mX10_wallsAs 56 10 [.inl 4, .inl x] (zdec DX10_wallsAs 37 rfl) ml_SixWallsModel_339 okX10_wallsAs rfl shp56 rfl rfl rfl rfl (Nat.le_of_ble_eq_true rfl) (Nat.le_of_ble_eq_true rfl) (b' := (0, 0)) ⟨Nat.le_refl 0, Nat.le_refl 0⟩ (Nat.le_of_ble_eq_true rfl) (cX10_walls4 hk53.1 (by omega) x) (fun rv9 S9 M59 h9 => ?_)
          obtain ⟨rfl, rfl, rfl⟩ := h9
          have hk59 := zla_s (zal0T K) hk53.1
          have hn59 := hk59.1.2.2.2
          have hl59 := zal0T_l K
          change zW _ _ _ _ _ 62 [(0, .inr (.inr 56)), (1, .inl k), (2, .inl x)] [.inl (zal0 K self x)] (zla (zal0T K) (ztrR M 80))
          refine z_istore_n (L' := [(0, .inr (.inr 56)), (1, .inl k), (2, .inl x), (3, .inl (zal0 K self x))]) (zdec DX10_wallsAs 38 rfl) rfl rfl (by decide) ?_
          refine z_iload_n 3 (zdec DX10_wallsAs 39 rfl) rfl rfl ?_
          refine z_aload_n 0 (zdec DX10_wallsAs 40 rfl) rfl rfl (by decide) ?_
          refine z_aload_n 0 (zdec DX10_wallsAs 41 rfl) rfl rfl (by decide) ?_
          refine z_geti (ki := 38) 56 10 (zdec DX10_wallsAs 42 rfl) rfl shp56 rfl (by decide) rfl rfl fl_SixWallsModel_342 ?_
          rw [show zla (zal0T K) (ztrR M 80) 56 38 = K from hk59.1.2.1]
          refine z_iconst 2 (zdec DX10_wallsAs 43 rfl) (by decide) ?_
          refine z_inv mX10_pipesAs 56 10 [.inl K, .inl 2] (zdec DX10_wallsAs 44 rfl) ml_SixWallsModel_345 okX10_pipesAs rfl shp56 rfl rfl rfl rfl (Nat.le_of_ble_eq_true rfl) (Nat.le_of_ble_eq_true rfl) (b' := (0, 0)) ⟨Nat.le_refl 0, Nat.le_refl 0⟩ (Nat.le_of_ble_eq_true rfl) (cX10_pipesAs hk59.1 (by omega) K 2) (fun rv9 S9 M70 h9 => ?_)
          obtain ⟨rfl, rfl, rfl⟩ := h9
          have hk70 := zla_s (zapT K K) hk59.1
          have hn70 := hk70.1.2.2.2
          have hl70 := zapT_l K K
          change zW _ _ _ _ _ 73 [(0, .inr (.inr 56)), (1, .inl k), (2, .inl x), (3, .inl (zal0 K self x))] [.inl (zap K self K 2), .inl (zal0 K self x)] (zla (zapT K K) (zla (zal0T K) (ztrR M 80)))
          refine z_iaddw (zdec DX10_wallsAs 45 rfl) ?_
          exact z_iret (zdec DX10_wallsAs 46 rfl) rfl (⟨rfl, zri (by unfold zal; first | (rw [if_pos (by omega)]; done) | (rw [if_neg (by omega), if_pos (by omega)]; first | done | rfl) | (rw [if_neg (by omega), if_neg (by omega), if_pos (by omega)]; done) | (rw [if_neg (by omega), if_neg (by omega), if_neg (by omega)]; first | done | rfl)), by unfold zalT; first | (rw [if_pos (by omega)]; rfl) | (rw [if_neg (by omega), if_pos (by omega)]; rfl) | (rw [if_neg (by omega), if_neg (by omega), if_pos (by omega)]; show _ = zla (zal0T K ++ zapT K K) (ztrR M 80); rw [zla_ap]) | (rw [if_neg (by omega), if_neg (by omega), if_neg (by omega)]; rfl)⟩)
      ·
        refine z_aload_n 0 (zdec DX10_wallsAs 19 rfl) rfl rfl (by decide) ?_
        refine z_bipush 30 (zdec DX10_wallsAs 20 rfl) (by decide) ?_
        refine z_inv mX10_begins 56 10 [.inl 30] (zdec DX10_wallsAs 21 rfl) ml_SixWallsModel_330 okX10_begins rfl shp56 rfl rfl rfl rfl (Nat.le_of_ble_eq_true rfl) (Nat.le_of_ble_eq_true rfl) (b' := (0, 0)) ⟨Nat.le_refl 0, Nat.le_refl 0⟩ (Nat.le_of_ble_eq_true rfl) (cX10_begins hK.1 ⟨by omega, by omega⟩ 30) (fun rv9 S9 M33 h9 => ?_)
        obtain ⟨rfl, rfl, rfl⟩ := h9
        have hk33 := ztrR_s hK 30
        have hn33 := hk33.1.2.2.2
        change zW _ _ _ _ _ 36 [(0, .inr (.inr 56)), (1, .inl k), (2, .inl x)] [] (ztrR M 30)
        refine z_aload_n 0 (zdec DX10_wallsAs 22 rfl) rfl rfl (by decide) ?_
        refine z_iconst 0 (zdec DX10_wallsAs 23 rfl) (by decide) ?_
        refine z_iload_n 2 (zdec DX10_wallsAs 24 rfl) rfl rfl ?_
        refine z_inv mX10_wallsAs 56 10 [.inl 0, .inl x] (zdec DX10_wallsAs 25 rfl) ml_SixWallsModel_339 okX10_wallsAs rfl shp56 rfl rfl rfl rfl (Nat.le_of_ble_eq_true rfl) (Nat.le_of_ble_eq_true rfl) (b' := (0, 0)) ⟨Nat.le_refl 0, Nat.le_refl 0⟩ (Nat.le_of_ble_eq_true rfl) (cX10_walls0 hk33.1 (by omega) x) (fun rv9 S9 M39 h9 => ?_)
        obtain ⟨rfl, rfl, rfl⟩ := h9
        have hk39 := zla_s (zal0T K) hk33.1
        have hn39 := hk39.1.2.2.2
        have hl39 := zal0T_l K
        change zW _ _ _ _ _ 42 [(0, .inr (.inr 56)), (1, .inl k), (2, .inl x)] [.inl (zal0 K self x)] (zla (zal0T K) (ztrR M 30))
        refine z_inegw (zdec DX10_wallsAs 26 rfl) ?_
        exact z_iret (zdec DX10_wallsAs 27 rfl) rfl (⟨rfl, zri (by unfold zal; first | (rw [if_pos (by omega)]; done) | (rw [if_neg (by omega), if_pos (by omega)]; first | done | rfl) | (rw [if_neg (by omega), if_neg (by omega), if_pos (by omega)]; done) | (rw [if_neg (by omega), if_neg (by omega), if_neg (by omega)]; first | done | rfl)), by unfold zalT; first | (rw [if_pos (by omega)]; rfl) | (rw [if_neg (by omega), if_pos (by omega)]; rfl) | (rw [if_neg (by omega), if_neg (by omega), if_pos (by omega)]; show _ = zla (zal0T K ++ zapT K K) (ztrR M 80); rw [zla_ap]) | (rw [if_neg (by omega), if_neg (by omega), if_neg (by omega)]; rfl)⟩)
    ·
      refine z_aload_n 0 (zdec DX10_wallsAs 6 rfl) rfl rfl (by decide) ?_
      refine z_bipush 41 (zdec DX10_wallsAs 7 rfl) (by decide) ?_
      refine z_inv mX10_begins 56 10 [.inl 41] (zdec DX10_wallsAs 8 rfl) ml_SixWallsModel_330 okX10_begins rfl shp56 rfl rfl rfl rfl (Nat.le_of_ble_eq_true rfl) (Nat.le_of_ble_eq_true rfl) (b' := (0, 0)) ⟨Nat.le_refl 0, Nat.le_refl 0⟩ (Nat.le_of_ble_eq_true rfl) (cX10_begins hK.1 ⟨by omega, by omega⟩ 41) (fun rv9 S9 M13 h9 => ?_)
      obtain ⟨rfl, rfl, rfl⟩ := h9
      have hk13 := ztrR_s hK 41
      have hn13 := hk13.1.2.2.2
      change zW _ _ _ _ _ 16 [(0, .inr (.inr 56)), (1, .inl k), (2, .inl x)] [] (ztrR M 41)
      refine z_aload_n 0 (zdec DX10_wallsAs 9 rfl) rfl rfl (by decide) ?_
      refine z_iconst 2 (zdec DX10_wallsAs 10 rfl) (by decide) ?_
      refine z_iload_n 2 (zdec DX10_wallsAs 11 rfl) rfl rfl ?_
      refine z_iconst 1 (zdec DX10_wallsAs 12 rfl) (by decide) ?_
      refine z_iaddw (zdec DX10_wallsAs 13 rfl) ?_
      refine z_inv mX10_wallsAs 56 10 [.inl 2, .inl (zw (x + 1))] (zdec DX10_wallsAs 14 rfl) ml_SixWallsModel_339 okX10_wallsAs rfl shp56 rfl rfl rfl rfl (Nat.le_of_ble_eq_true rfl) (Nat.le_of_ble_eq_true rfl) (b' := (0, 0)) ⟨Nat.le_refl 0, Nat.le_refl 0⟩ (Nat.le_of_ble_eq_true rfl) (cX10_walls2 hk13.1 (by omega) (zw (x + 1))) (fun rv9 S9 M21 h9 => ?_)
      obtain ⟨rfl, rfl, rfl⟩ := h9
      have hk21 := zla_s (zal2T K) hk13.1
      have hn21 := hk21.1.2.2.2
      have hl21 := zal2T_l K
      change zW _ _ _ _ _ 24 [(0, .inr (.inr 56)), (1, .inl k), (2, .inl x)] [.inl (zal2 K self (zw (x + 1)))] (zla (zal2T K) (ztrR M 41))
      exact z_iret (zdec DX10_wallsAs 15 rfl) rfl (⟨rfl, zri (by unfold zal; first | (rw [if_pos (by omega)]; done) | (rw [if_neg (by omega), if_pos (by omega)]; first | done | rfl) | (rw [if_neg (by omega), if_neg (by omega), if_pos (by omega)]; done) | (rw [if_neg (by omega), if_neg (by omega), if_neg (by omega)]; first | done | rfl)), by unfold zalT; first | (rw [if_pos (by omega)]; rfl) | (rw [if_neg (by omega), if_pos (by omega)]; rfl) | (rw [if_neg (by omega), if_neg (by omega), if_pos (by omega)]; show _ = zla (zal0T K ++ zapT K K) (ztrR M 80); rw [zla_ap]) | (rw [if_neg (by omega), if_neg (by omega), if_neg (by omega)]; rfl)⟩)
set_option maxHeartbeats 4000000 in
theorem cX10_tells3 {M : zMm} {K self : Int} (hK : zKR M K self) (hb : M 56 37 ≤ 600) (x : Int) : zW mX10_tellsAs 7 (fun rv S' M' => S' = zS0 ∧ rv = some (.inl (zat0 K self x)) ∧ M' = zla (zat0T K) M) (0, 0) zS0 0 (zargs 0 [.inr (.inr 56), .inl 3, .inl x]) [] M := by
  change zW _ _ _ _ _ 0 [(0, .inr (.inr 56)), (1, .inl 3), (2, .inl x)] [] M
  have h0 := hK.2.2.2
  refine z_iload_n 1 (zdec DX10_tellsAs 0 rfl) rfl rfl ?_
  refine z_iconst 5 (zdec DX10_tellsAs 1 rfl) (by decide) ?_
  refine z_icmp_ne 20 (zdec DX10_tellsAs 2 rfl) rfl (fun _ => ?_) (fun h => absurd h (by decide))
  refine z_iload_n 1 (zdec DX10_tellsAs 13 rfl) rfl rfl ?_
  refine z_bipush 7 (zdec DX10_tellsAs 14 rfl) (by decide) ?_
  refine z_icmp_ne 41 (zdec DX10_tellsAs 15 rfl) rfl (fun _ => ?_) (fun h => absurd h (by decide))
  refine z_aload_n 0 (zdec DX10_tellsAs 26 rfl) rfl rfl (by decide) ?_
  refine z_iconst 2 (zdec DX10_tellsAs 27 rfl) (by decide) ?_
  refine z_inv mX10_begins 56 10 [.inl 2] (zdec DX10_tellsAs 28 rfl) ml_SixWallsModel_330 okX10_begins rfl shp56 rfl rfl rfl rfl (Nat.le_of_ble_eq_true rfl) (Nat.le_of_ble_eq_true rfl) (b' := (0, 0)) ⟨Nat.le_refl 0, Nat.le_refl 0⟩ (Nat.le_of_ble_eq_true rfl) (cX10_begins hK.1 ⟨by omega, by omega⟩ 2) (fun rv9 S9 M43 h9 => ?_)
  obtain ⟨rfl, rfl, rfl⟩ := h9
  have hk43 := ztrR_s hK 2
  have hn43 := hk43.1.2.2.2
  change zW _ _ _ _ _ 46 [(0, .inr (.inr 56)), (1, .inl 3), (2, .inl x)] [] (ztrR M 2)
  refine z_aload_n 0 (zdec DX10_tellsAs 29 rfl) rfl rfl (by decide) ?_
  refine z_aload_n 0 (zdec DX10_tellsAs 30 rfl) rfl rfl (by decide) ?_
  refine z_geti (ki := 38) 56 10 (zdec DX10_tellsAs 31 rfl) rfl shp56 rfl (by decide) rfl rfl fl_SixWallsModel_342 ?_
  rw [show ztrR M 2 56 38 = K from hk43.1.2.1]
  refine z_iload_n 2 (zdec DX10_tellsAs 32 rfl) rfl rfl ?_
  refine z_inv mX10_wallsAs 56 10 [.inl K, .inl x] (zdec DX10_tellsAs 33 rfl) ml_SixWallsModel_339 okX10_wallsAs rfl shp56 rfl rfl rfl rfl (Nat.le_of_ble_eq_true rfl) (Nat.le_of_ble_eq_true rfl) (b' := (0, 0)) ⟨Nat.le_refl 0, Nat.le_refl 0⟩ (Nat.le_of_ble_eq_true rfl) (cX10_wallsAs hk43.1 (by omega) K x) (fun rv9 S9 M52 h9 => ?_)
  obtain ⟨rfl, rfl, rfl⟩ := h9
  have hk52 := zla_s (zalT K K) hk43.1
  have hn52 := hk52.1.2.2.2
  have hl52 := zalT_l K K
  change zW _ _ _ _ _ 55 [(0, .inr (.inr 56)), (1, .inl 3), (2, .inl x)] [.inl (zal K self K x)] (zla (zalT K K) (ztrR M 2))
  refine z_istore_n (L' := [(0, .inr (.inr 56)), (1, .inl 3), (2, .inl x), (3, .inl (zal K self K x))]) (zdec DX10_tellsAs 34 rfl) rfl rfl (by decide) ?_
  refine z_iload_n 3 (zdec DX10_tellsAs 35 rfl) rfl rfl ?_
  refine z_aload_n 0 (zdec DX10_tellsAs 36 rfl) rfl rfl (by decide) ?_
  refine z_aload_n 0 (zdec DX10_tellsAs 37 rfl) rfl rfl (by decide) ?_
  refine z_geti (ki := 38) 56 10 (zdec DX10_tellsAs 38 rfl) rfl shp56 rfl (by decide) rfl rfl fl_SixWallsModel_342 ?_
  rw [show zla (zalT K K) (ztrR M 2) 56 38 = K from hk52.1.2.1]
  refine z_iconst 1 (zdec DX10_tellsAs 39 rfl) (by decide) ?_
  refine z_inv mX10_pipesAs 56 10 [.inl K, .inl 1] (zdec DX10_tellsAs 40 rfl) ml_SixWallsModel_345 okX10_pipesAs rfl shp56 rfl rfl rfl rfl (Nat.le_of_ble_eq_true rfl) (Nat.le_of_ble_eq_true rfl) (b' := (0, 0)) ⟨Nat.le_refl 0, Nat.le_refl 0⟩ (Nat.le_of_ble_eq_true rfl) (cX10_pipesAs hk52.1 (by omega) K 1) (fun rv9 S9 M63 h9 => ?_)
  obtain ⟨rfl, rfl, rfl⟩ := h9
  have hk63 := zla_s (zapT K K) hk52.1
  have hn63 := hk63.1.2.2.2
  have hl63 := zapT_l K K
  change zW _ _ _ _ _ 66 [(0, .inr (.inr 56)), (1, .inl 3), (2, .inl x), (3, .inl (zal K self K x))] [.inl (zap K self K 1), .inl (zal K self K x)] (zla (zapT K K) (zla (zalT K K) (ztrR M 2)))
  refine z_isubw (zdec DX10_tellsAs 41 rfl) ?_
  exact z_iret (zdec DX10_tellsAs 42 rfl) rfl (⟨rfl, rfl, by show _ = zla (zalT K K ++ zapT K K) (ztrR M 2); rw [zla_ap]⟩)
set_option maxHeartbeats 4000000 in
theorem cX10_tells4 {M : zMm} {K self : Int} (hK : zKR M K self) (hb : M 56 37 ≤ 600) (x : Int) : zW mX10_tellsAs 7 (fun rv S' M' => S' = zS0 ∧ rv = some (.inl (zat0 K self x)) ∧ M' = zla (zat0T K) M) (0, 0) zS0 0 (zargs 0 [.inr (.inr 56), .inl 4, .inl x]) [] M := by
  change zW _ _ _ _ _ 0 [(0, .inr (.inr 56)), (1, .inl 4), (2, .inl x)] [] M
  have h0 := hK.2.2.2
  refine z_iload_n 1 (zdec DX10_tellsAs 0 rfl) rfl rfl ?_
  refine z_iconst 5 (zdec DX10_tellsAs 1 rfl) (by decide) ?_
  refine z_icmp_ne 20 (zdec DX10_tellsAs 2 rfl) rfl (fun _ => ?_) (fun h => absurd h (by decide))
  refine z_iload_n 1 (zdec DX10_tellsAs 13 rfl) rfl rfl ?_
  refine z_bipush 7 (zdec DX10_tellsAs 14 rfl) (by decide) ?_
  refine z_icmp_ne 41 (zdec DX10_tellsAs 15 rfl) rfl (fun _ => ?_) (fun h => absurd h (by decide))
  refine z_aload_n 0 (zdec DX10_tellsAs 26 rfl) rfl rfl (by decide) ?_
  refine z_iconst 2 (zdec DX10_tellsAs 27 rfl) (by decide) ?_
  refine z_inv mX10_begins 56 10 [.inl 2] (zdec DX10_tellsAs 28 rfl) ml_SixWallsModel_330 okX10_begins rfl shp56 rfl rfl rfl rfl (Nat.le_of_ble_eq_true rfl) (Nat.le_of_ble_eq_true rfl) (b' := (0, 0)) ⟨Nat.le_refl 0, Nat.le_refl 0⟩ (Nat.le_of_ble_eq_true rfl) (cX10_begins hK.1 ⟨by omega, by omega⟩ 2) (fun rv9 S9 M43 h9 => ?_)
  obtain ⟨rfl, rfl, rfl⟩ := h9
  have hk43 := ztrR_s hK 2
  have hn43 := hk43.1.2.2.2
  change zW _ _ _ _ _ 46 [(0, .inr (.inr 56)), (1, .inl 4), (2, .inl x)] [] (ztrR M 2)
  refine z_aload_n 0 (zdec DX10_tellsAs 29 rfl) rfl rfl (by decide) ?_
  refine z_aload_n 0 (zdec DX10_tellsAs 30 rfl) rfl rfl (by decide) ?_
  refine z_geti (ki := 38) 56 10 (zdec DX10_tellsAs 31 rfl) rfl shp56 rfl (by decide) rfl rfl fl_SixWallsModel_342 ?_
  rw [show ztrR M 2 56 38 = K from hk43.1.2.1]
  refine z_iload_n 2 (zdec DX10_tellsAs 32 rfl) rfl rfl ?_
  refine z_inv mX10_wallsAs 56 10 [.inl K, .inl x] (zdec DX10_tellsAs 33 rfl) ml_SixWallsModel_339 okX10_wallsAs rfl shp56 rfl rfl rfl rfl (Nat.le_of_ble_eq_true rfl) (Nat.le_of_ble_eq_true rfl) (b' := (0, 0)) ⟨Nat.le_refl 0, Nat.le_refl 0⟩ (Nat.le_of_ble_eq_true rfl) (cX10_wallsAs hk43.1 (by omega) K x) (fun rv9 S9 M52 h9 => ?_)
  obtain ⟨rfl, rfl, rfl⟩ := h9
  have hk52 := zla_s (zalT K K) hk43.1
  have hn52 := hk52.1.2.2.2
  have hl52 := zalT_l K K
  change zW _ _ _ _ _ 55 [(0, .inr (.inr 56)), (1, .inl 4), (2, .inl x)] [.inl (zal K self K x)] (zla (zalT K K) (ztrR M 2))
  refine z_istore_n (L' := [(0, .inr (.inr 56)), (1, .inl 4), (2, .inl x), (3, .inl (zal K self K x))]) (zdec DX10_tellsAs 34 rfl) rfl rfl (by decide) ?_
  refine z_iload_n 3 (zdec DX10_tellsAs 35 rfl) rfl rfl ?_
  refine z_aload_n 0 (zdec DX10_tellsAs 36 rfl) rfl rfl (by decide) ?_
  refine z_aload_n 0 (zdec DX10_tellsAs 37 rfl) rfl rfl (by decide) ?_
  refine z_geti (ki := 38) 56 10 (zdec DX10_tellsAs 38 rfl) rfl shp56 rfl (by decide) rfl rfl fl_SixWallsModel_342 ?_
  rw [show zla (zalT K K) (ztrR M 2) 56 38 = K from hk52.1.2.1]
  refine z_iconst 1 (zdec DX10_tellsAs 39 rfl) (by decide) ?_
  refine z_inv mX10_pipesAs 56 10 [.inl K, .inl 1] (zdec DX10_tellsAs 40 rfl) ml_SixWallsModel_345 okX10_pipesAs rfl shp56 rfl rfl rfl rfl (Nat.le_of_ble_eq_true rfl) (Nat.le_of_ble_eq_true rfl) (b' := (0, 0)) ⟨Nat.le_refl 0, Nat.le_refl 0⟩ (Nat.le_of_ble_eq_true rfl) (cX10_pipesAs hk52.1 (by omega) K 1) (fun rv9 S9 M63 h9 => ?_)
  obtain ⟨rfl, rfl, rfl⟩ := h9
  have hk63 := zla_s (zapT K K) hk52.1
  have hn63 := hk63.1.2.2.2
  have hl63 := zapT_l K K
  change zW _ _ _ _ _ 66 [(0, .inr (.inr 56)), (1, .inl 4), (2, .inl x), (3, .inl (zal K self K x))] [.inl (zap K self K 1), .inl (zal K self K x)] (zla (zapT K K) (zla (zalT K K) (ztrR M 2)))
  refine z_isubw (zdec DX10_tellsAs 41 rfl) ?_
  exact z_iret (zdec DX10_tellsAs 42 rfl) rfl (⟨rfl, rfl, by show _ = zla (zalT K K ++ zapT K K) (ztrR M 2); rw [zla_ap]⟩)
set_option maxHeartbeats 4000000 in
theorem cX10_tellsAs {M : zMm} {K self : Int} (hK : zKR M K self) (hb : M 56 37 ≤ 500) (k x : Int) : zW mX10_tellsAs 8 (fun rv S' M' => S' = zS0 ∧ rv = some (.inl (ztl K self k x)) ∧ M' = zla (ztlT K k) M) (0, 0) zS0 0 (zargs 0 [.inr (.inr 56), .inl k, .inl x]) [] M := by
  change zW _ _ _ _ _ 0 [(0, .inr (.inr 56)), (1, .inl k), (2, .inl x)] [] M
  have h0 := hK.2.2.2
  refine z_iload_n 1 (zdec DX10_tellsAs 0 rfl) rfl rfl ?_
  refine z_iconst 5 (zdec DX10_tellsAs 1 rfl) (by decide) ?_
  refine z_icmp_ne 20 (zdec DX10_tellsAs 2 rfl) rfl (fun h2 => ?_) (fun h2 => ?_)
  ·
    refine z_iload_n 1 (zdec DX10_tellsAs 13 rfl) rfl rfl ?_
    refine z_bipush 7 (zdec DX10_tellsAs 14 rfl) (by decide) ?_
    refine z_icmp_ne 41 (zdec DX10_tellsAs 15 rfl) rfl (fun h23 => ?_) (fun h23 => ?_)
    ·
      refine z_aload_n 0 (zdec DX10_tellsAs 26 rfl) rfl rfl (by decide) ?_
      refine z_iconst 2 (zdec DX10_tellsAs 27 rfl) (by decide) ?_
      refine z_inv mX10_begins 56 10 [.inl 2] (zdec DX10_tellsAs 28 rfl) ml_SixWallsModel_330 okX10_begins rfl shp56 rfl rfl rfl rfl (Nat.le_of_ble_eq_true rfl) (Nat.le_of_ble_eq_true rfl) (b' := (0, 0)) ⟨Nat.le_refl 0, Nat.le_refl 0⟩ (Nat.le_of_ble_eq_true rfl) (cX10_begins hK.1 ⟨by omega, by omega⟩ 2) (fun rv9 S9 M43 h9 => ?_)
      obtain ⟨rfl, rfl, rfl⟩ := h9
      have hk43 := ztrR_s hK 2
      have hn43 := hk43.1.2.2.2
      change zW _ _ _ _ _ 46 [(0, .inr (.inr 56)), (1, .inl k), (2, .inl x)] [] (ztrR M 2)
      refine z_aload_n 0 (zdec DX10_tellsAs 29 rfl) rfl rfl (by decide) ?_
      refine z_aload_n 0 (zdec DX10_tellsAs 30 rfl) rfl rfl (by decide) ?_
      refine z_geti (ki := 38) 56 10 (zdec DX10_tellsAs 31 rfl) rfl shp56 rfl (by decide) rfl rfl fl_SixWallsModel_342 ?_
      rw [show ztrR M 2 56 38 = K from hk43.1.2.1]
      refine z_iload_n 2 (zdec DX10_tellsAs 32 rfl) rfl rfl ?_
      refine z_inv mX10_wallsAs 56 10 [.inl K, .inl x] (zdec DX10_tellsAs 33 rfl) ml_SixWallsModel_339 okX10_wallsAs rfl shp56 rfl rfl rfl rfl (Nat.le_of_ble_eq_true rfl) (Nat.le_of_ble_eq_true rfl) (b' := (0, 0)) ⟨Nat.le_refl 0, Nat.le_refl 0⟩ (Nat.le_of_ble_eq_true rfl) (cX10_wallsAs hk43.1 (by omega) K x) (fun rv9 S9 M52 h9 => ?_)
      obtain ⟨rfl, rfl, rfl⟩ := h9
      have hk52 := zla_s (zalT K K) hk43.1
      have hn52 := hk52.1.2.2.2
      have hl52 := zalT_l K K
      change zW _ _ _ _ _ 55 [(0, .inr (.inr 56)), (1, .inl k), (2, .inl x)] [.inl (zal K self K x)] (zla (zalT K K) (ztrR M 2))
      refine z_istore_n (L' := [(0, .inr (.inr 56)), (1, .inl k), (2, .inl x), (3, .inl (zal K self K x))]) (zdec DX10_tellsAs 34 rfl) rfl rfl (by decide) ?_
      refine z_iload_n 3 (zdec DX10_tellsAs 35 rfl) rfl rfl ?_
      refine z_aload_n 0 (zdec DX10_tellsAs 36 rfl) rfl rfl (by decide) ?_
      refine z_aload_n 0 (zdec DX10_tellsAs 37 rfl) rfl rfl (by decide) ?_
      refine z_geti (ki := 38) 56 10 (zdec DX10_tellsAs 38 rfl) rfl shp56 rfl (by decide) rfl rfl fl_SixWallsModel_342 ?_
      rw [show zla (zalT K K) (ztrR M 2) 56 38 = K from hk52.1.2.1]
      refine z_iconst 1 (zdec DX10_tellsAs 39 rfl) (by decide) ?_
      refine z_inv mX10_pipesAs 56 10 [.inl K, .inl 1] (zdec DX10_tellsAs 40 rfl) ml_SixWallsModel_345 okX10_pipesAs rfl shp56 rfl rfl rfl rfl (Nat.le_of_ble_eq_true rfl) (Nat.le_of_ble_eq_true rfl) (b' := (0, 0)) ⟨Nat.le_refl 0, Nat.le_refl 0⟩ (Nat.le_of_ble_eq_true rfl) (cX10_pipesAs hk52.1 (by omega) K 1) (fun rv9 S9 M63 h9 => ?_)
      obtain ⟨rfl, rfl, rfl⟩ := h9
      have hk63 := zla_s (zapT K K) hk52.1
      have hn63 := hk63.1.2.2.2
      have hl63 := zapT_l K K
      change zW _ _ _ _ _ 66 [(0, .inr (.inr 56)), (1, .inl k), (2, .inl x), (3, .inl (zal K self K x))] [.inl (zap K self K 1), .inl (zal K self K x)] (zla (zapT K K) (zla (zalT K K) (ztrR M 2)))
      refine z_isubw (zdec DX10_tellsAs 41 rfl) ?_
      exact z_iret (zdec DX10_tellsAs 42 rfl) rfl (⟨rfl, zri (by unfold ztl; first | (rw [if_pos (by omega)]; done) | (rw [if_neg (by omega), if_pos (by omega)]; done) | (rw [if_neg (by omega), if_neg (by omega)]; first | done | rfl)), by unfold ztlT; first | (rw [if_pos (by omega)]; rfl) | (rw [if_neg (by omega), if_pos (by omega)]; rfl) | (rw [if_neg (by omega), if_neg (by omega)]; show _ = zla (zalT K K ++ zapT K K) (ztrR M 2); rw [zla_ap])⟩)
    ·
      refine z_aload_n 0 (zdec DX10_tellsAs 16 rfl) rfl rfl (by decide) ?_
      refine z_bipush 81 (zdec DX10_tellsAs 17 rfl) (by decide) ?_
      refine z_inv mX10_begins 56 10 [.inl 81] (zdec DX10_tellsAs 18 rfl) ml_SixWallsModel_330 okX10_begins rfl shp56 rfl rfl rfl rfl (Nat.le_of_ble_eq_true rfl) (Nat.le_of_ble_eq_true rfl) (b' := (0, 0)) ⟨Nat.le_refl 0, Nat.le_refl 0⟩ (Nat.le_of_ble_eq_true rfl) (cX10_begins hK.1 ⟨by omega, by omega⟩ 81) (fun rv9 S9 M29 h9 => ?_)
      obtain ⟨rfl, rfl, rfl⟩ := h9
      have hk29 := ztrR_s hK 81
      have hn29 := hk29.1.2.2.2
      change zW _ _ _ _ _ 32 [(0, .inr (.inr 56)), (1, .inl k), (2, .inl x)] [] (ztrR M 81)
      refine z_aload_n 0 (zdec DX10_tellsAs 19 rfl) rfl rfl (by decide) ?_
      refine z_iconst 4 (zdec DX10_tellsAs 20 rfl) (by decide) ?_
      refine z_iload_n 2 (zdec DX10_tellsAs 21 rfl) rfl rfl ?_
      refine z_inv mX10_tellsAs 56 10 [.inl 4, .inl x] (zdec DX10_tellsAs 22 rfl) ml_SixWallsModel_348 okX10_tellsAs rfl shp56 rfl rfl rfl rfl (Nat.le_of_ble_eq_true rfl) (Nat.le_of_ble_eq_true rfl) (b' := (0, 0)) ⟨Nat.le_refl 0, Nat.le_refl 0⟩ (Nat.le_of_ble_eq_true rfl) (cX10_tells4 hk29.1 (by omega) x) (fun rv9 S9 M35 h9 => ?_)
      obtain ⟨rfl, rfl, rfl⟩ := h9
      have hk35 := zla_s (zat0T K) hk29.1
      have hn35 := hk35.1.2.2.2
      change zW _ _ _ _ _ 38 [(0, .inr (.inr 56)), (1, .inl k), (2, .inl x)] [.inl (zat0 K self x)] (zla (zat0T K) (ztrR M 81))
      refine z_iconst 1 (zdec DX10_tellsAs 23 rfl) (by decide) ?_
      refine z_isubw (zdec DX10_tellsAs 24 rfl) ?_
      exact z_iret (zdec DX10_tellsAs 25 rfl) rfl (⟨rfl, zri (by unfold ztl; first | (rw [if_pos (by omega)]; done) | (rw [if_neg (by omega), if_pos (by omega)]; done) | (rw [if_neg (by omega), if_neg (by omega)]; first | done | rfl)), by unfold ztlT; first | (rw [if_pos (by omega)]; rfl) | (rw [if_neg (by omega), if_pos (by omega)]; rfl) | (rw [if_neg (by omega), if_neg (by omega)]; show _ = zla (zalT K K ++ zapT K K) (ztrR M 2); rw [zla_ap])⟩)
  ·
    refine z_aload_n 0 (zdec DX10_tellsAs 3 rfl) rfl rfl (by decide) ?_
    refine z_bipush 60 (zdec DX10_tellsAs 4 rfl) (by decide) ?_
    refine z_inv mX10_begins 56 10 [.inl 60] (zdec DX10_tellsAs 5 rfl) ml_SixWallsModel_330 okX10_begins rfl shp56 rfl rfl rfl rfl (Nat.le_of_ble_eq_true rfl) (Nat.le_of_ble_eq_true rfl) (b' := (0, 0)) ⟨Nat.le_refl 0, Nat.le_refl 0⟩ (Nat.le_of_ble_eq_true rfl) (cX10_begins hK.1 ⟨by omega, by omega⟩ 60) (fun rv9 S9 M8 h9 => ?_)
    obtain ⟨rfl, rfl, rfl⟩ := h9
    have hk8 := ztrR_s hK 60
    have hn8 := hk8.1.2.2.2
    change zW _ _ _ _ _ 11 [(0, .inr (.inr 56)), (1, .inl k), (2, .inl x)] [] (ztrR M 60)
    refine z_aload_n 0 (zdec DX10_tellsAs 6 rfl) rfl rfl (by decide) ?_
    refine z_iconst 3 (zdec DX10_tellsAs 7 rfl) (by decide) ?_
    refine z_iload_n 2 (zdec DX10_tellsAs 8 rfl) rfl rfl ?_
    refine z_inv mX10_tellsAs 56 10 [.inl 3, .inl x] (zdec DX10_tellsAs 9 rfl) ml_SixWallsModel_348 okX10_tellsAs rfl shp56 rfl rfl rfl rfl (Nat.le_of_ble_eq_true rfl) (Nat.le_of_ble_eq_true rfl) (b' := (0, 0)) ⟨Nat.le_refl 0, Nat.le_refl 0⟩ (Nat.le_of_ble_eq_true rfl) (cX10_tells3 hk8.1 (by omega) x) (fun rv9 S9 M14 h9 => ?_)
    obtain ⟨rfl, rfl, rfl⟩ := h9
    have hk14 := zla_s (zat0T K) hk8.1
    have hn14 := hk14.1.2.2.2
    change zW _ _ _ _ _ 17 [(0, .inr (.inr 56)), (1, .inl k), (2, .inl x)] [.inl (zat0 K self x)] (zla (zat0T K) (ztrR M 60))
    refine z_iconst 5 (zdec DX10_tellsAs 10 rfl) (by decide) ?_
    refine z_ixor (zdec DX10_tellsAs 11 rfl) ?_
    exact z_iret (zdec DX10_tellsAs 12 rfl) rfl (⟨rfl, zri (by unfold ztl; first | (rw [if_pos (by omega)]; done) | (rw [if_neg (by omega), if_pos (by omega)]; done) | (rw [if_neg (by omega), if_neg (by omega)]; first | done | rfl)), by unfold ztlT; first | (rw [if_pos (by omega)]; rfl) | (rw [if_neg (by omega), if_pos (by omega)]; rfl) | (rw [if_neg (by omega), if_neg (by omega)]; show _ = zla (zalT K K ++ zapT K K) (ztrR M 2); rw [zla_ap])⟩)
def zact (K self a x : Int) : Int := if a = 0 then zaw self K x else if a = 1 then zal K self K x else if a = 2 then zap K self K x else ztl K self K x
def zactT (K a : Int) : List Int := if a = 0 then zawT K else if a = 1 then zalT K K else if a = 2 then zapT K K else ztlT K K
def zacM (M : zMm) (b : Int) : zMm := zup (zup (zup M 56 37 0) 56 38 (M 78 b)) 56 39 b
theorem zacM_K {M : zMm} (hP : zP M) (b : Int) : zKR (zacM M b) (M 78 b) b ∧ zacM M b 56 37 = 0 := by
  have e : zacM M b 56 37 = 0 := by unfold zacM; rw [zup_ne (by decide), zup_ne (by decide), zup_self]
  exact ⟨⟨zP_up (zP_up (zP_up hP (by decide)) (by decide)) (by decide), (by unfold zacM; rw [zup_ne (by decide), zup_self]), zup_self _ _ _ _, by omega⟩, e⟩
set_option maxHeartbeats 4000000 in
theorem cX10_act {M : zMm} (hP : zP M) (hC : zCr M) (b a x : Int) : zW mX10_act 9 (fun rv S' M' => S' = zS0 ∧ ((¬ (0 ≤ b ∧ b < M 56 34) ∧ rv = some (.inl 0) ∧ M' = zup M 56 37 0) ∨ ((0 ≤ b ∧ b < M 56 34) ∧ ¬ (0 ≤ a ∧ a < 4) ∧ rv = some (.inl 0) ∧ M' = zacM M b) ∨ (((0 ≤ b ∧ b < M 56 34) ∧ 0 ≤ a ∧ a < 4) ∧ rv = some (.inl (zact (M 78 b) b a x)) ∧ M' = zla (zactT (M 78 b) a) (zacM M b)))) (0, 0) zS0 0 (zargs 0 [.inr (.inr 56), .inl b, .inl a, .inl x]) [] M := by
  change zW _ _ _ _ _ 0 [(0, .inr (.inr 56)), (1, .inl b), (2, .inl a), (3, .inl x)] [] M
  have hC2 : zCr (zup M 56 37 0) := by
    obtain ⟨c1, c2, c3⟩ := hC
    exact ⟨by rw [zup_ne (by decide)]; exact c1, by rw [zup_self]; decide, by rw [zup_row (by decide)]; exact c3⟩
  have hcb := hC.1
  refine z_aload_n 0 (zdec DX10_act 0 rfl) rfl rfl (by decide) ?_
  refine z_iconst 0 (zdec DX10_act 1 rfl) (by decide) ?_
  refine z_puti (ki := 37) 56 10 (zdec DX10_act 2 rfl) rfl shp56 rfl (by decide) rfl rfl fl_SixWallsModel_327 (Or.inl rfl) ?_
  refine z_aload_n 0 (zdec DX10_act 3 rfl) rfl rfl (by decide) ?_
  refine z_iload_n 1 (zdec DX10_act 4 rfl) rfl rfl ?_
  refine z_inv mX10_isBody 56 10 [.inl b] (zdec DX10_act 5 rfl) ml_SixWallsModel_351 okX10_isBody rfl shp56 rfl rfl rfl rfl (Nat.le_of_ble_eq_true rfl) (Nat.le_of_ble_eq_true rfl) (b' := (0, 0)) ⟨Nat.le_refl 0, Nat.le_refl 0⟩ (Nat.le_of_ble_eq_true rfl) (cX10_isBody (zP_up hP (by decide)) hC2 b) (fun rv9 S9 M7 h9 => ?_)
  obtain ⟨rfl, rfl, rfl⟩ := h9
  rw [show zup M 56 37 0 56 34 = M 56 34 from zup_ne (by decide)]
  change zW _ _ _ _ _ 10 [(0, .inr (.inr 56)), (1, .inl b), (2, .inl a), (3, .inl x)] [.inl (zb (0 ≤ b ∧ b < M 56 34))] (zup M 56 37 0)
  refine z_if_ne 15 (zdec DX10_act 6 rfl) rfl (fun h10 => ?_) (fun h10 => ?_)
  ·
    have q10 := zb_ne0.mp h10
    refine z_aload_n 0 (zdec DX10_act 9 rfl) rfl rfl (by decide) ?_
    refine z_aload_n 0 (zdec DX10_act 10 rfl) rfl rfl (by decide) ?_
    refine z_getr (rw1 := -66) (ki := 35) (r' := 78) 56 10 (zdec DX10_act 11 rfl) rfl rfl shp56 rfl (by decide) rfl rfl fl_SixWallsModel_74 (zPa (zP_up hP (by decide)) 78 rfl) ?_
    refine z_iload_n 1 (zdec DX10_act 12 rfl) rfl rfl ?_
    refine z_iald 78 (zdec DX10_act 13 rfl) rfl shp78 ⟨by omega, by omega⟩ ?_
    rw [show (zup M 56 37 0) 78 b = M 78 b from by simp [zup, zcpy]]
    refine z_puti (ki := 38) 56 10 (zdec DX10_act 14 rfl) rfl shp56 rfl (by decide) rfl rfl fl_SixWallsModel_342 (Or.inl rfl) ?_
    refine z_aload_n 0 (zdec DX10_act 15 rfl) rfl rfl (by decide) ?_
    refine z_iload_n 1 (zdec DX10_act 16 rfl) rfl rfl ?_
    refine z_puti (ki := 39) 56 10 (zdec DX10_act 17 rfl) rfl shp56 rfl (by decide) rfl rfl fl_SixWallsModel_336 (Or.inl rfl) ?_
    refine z_iload_n 2 (zdec DX10_act 18 rfl) rfl rfl ?_
    refine z_tsw (zdec DX10_act 19 rfl) (by decide) (fun j off hj he => ?_) (fun hd => ?_)
    · match j, hj, he with
      | 0, hj, he =>
        cases hj
        refine ⟨60, rfl, ?_⟩
        have h31 : a = 0 := by simpa using he
        refine z_aload_n 0 (zdec DX10_act 20 rfl) rfl rfl (by decide) ?_
        refine z_aload_n 0 (zdec DX10_act 21 rfl) rfl rfl (by decide) ?_
        refine z_geti (ki := 38) 56 10 (zdec DX10_act 22 rfl) rfl shp56 rfl (by decide) rfl rfl fl_SixWallsModel_342 ?_
        rw [show (zup (zup (zup M 56 37 0) 56 38 (M 78 b)) 56 39 b) 56 38 = M 78 b from by simp [zup, zcpy]]
        refine z_iload_n 3 (zdec DX10_act 23 rfl) rfl rfl ?_
        refine z_inv mX10_warmsAs 56 10 [.inl (M 78 b), .inl x] (zdec DX10_act 24 rfl) ml_SixWallsModel_333 okX10_warmsAs rfl shp56 rfl rfl rfl rfl (Nat.le_of_ble_eq_true rfl) (Nat.le_of_ble_eq_true rfl) (b' := (0, 0)) ⟨Nat.le_refl 0, Nat.le_refl 0⟩ (Nat.le_of_ble_eq_true rfl) (cX10_warmsAs (zacM_K hP b).1 (by have := (zacM_K hP b).2; omega) (M 78 b) x) (fun rv9 S9 M66 h9 => ?_)
        obtain ⟨rfl, rfl, x1⟩ := h9
        change zW _ _ _ _ _ 69 [(0, .inr (.inr 56)), (1, .inl b), (2, .inl a), (3, .inl x)] [.inl (zaw b (M 78 b) x)] M66
        exact z_iret (zdec DX10_act 25 rfl) rfl (⟨rfl, Or.inr (Or.inr ⟨⟨q10, by omega⟩, (by unfold zact; first | (rw [if_pos (by omega)]; done) | (rw [if_neg (by omega), if_pos (by omega)]; done) | (rw [if_neg (by omega), if_neg (by omega), if_pos (by omega)]; done) | (rw [if_neg (by omega), if_neg (by omega), if_neg (by omega)]; done)), (by rw [x1]; unfold zactT; first | (rw [if_pos (by omega)]; done) | (rw [if_neg (by omega), if_pos (by omega)]; done) | (rw [if_neg (by omega), if_neg (by omega), if_pos (by omega)]; done) | (rw [if_neg (by omega), if_neg (by omega), if_neg (by omega)]; done))⟩)⟩)
      | 1, hj, he =>
        cases hj
        refine ⟨70, rfl, ?_⟩
        have h31 : a = 1 := by simpa using he
        refine z_aload_n 0 (zdec DX10_act 26 rfl) rfl rfl (by decide) ?_
        refine z_aload_n 0 (zdec DX10_act 27 rfl) rfl rfl (by decide) ?_
        refine z_geti (ki := 38) 56 10 (zdec DX10_act 28 rfl) rfl shp56 rfl (by decide) rfl rfl fl_SixWallsModel_342 ?_
        rw [show (zup (zup (zup M 56 37 0) 56 38 (M 78 b)) 56 39 b) 56 38 = M 78 b from by simp [zup, zcpy]]
        refine z_iload_n 3 (zdec DX10_act 29 rfl) rfl rfl ?_
        refine z_inv mX10_wallsAs 56 10 [.inl (M 78 b), .inl x] (zdec DX10_act 30 rfl) ml_SixWallsModel_339 okX10_wallsAs rfl shp56 rfl rfl rfl rfl (Nat.le_of_ble_eq_true rfl) (Nat.le_of_ble_eq_true rfl) (b' := (0, 0)) ⟨Nat.le_refl 0, Nat.le_refl 0⟩ (Nat.le_of_ble_eq_true rfl) (cX10_wallsAs (zacM_K hP b).1 (by have := (zacM_K hP b).2; omega) (M 78 b) x) (fun rv9 S9 M76 h9 => ?_)
        obtain ⟨rfl, rfl, x1⟩ := h9
        change zW _ _ _ _ _ 79 [(0, .inr (.inr 56)), (1, .inl b), (2, .inl a), (3, .inl x)] [.inl (zal (M 78 b) b (M 78 b) x)] M76
        exact z_iret (zdec DX10_act 31 rfl) rfl (⟨rfl, Or.inr (Or.inr ⟨⟨q10, by omega⟩, (by unfold zact; first | (rw [if_pos (by omega)]; done) | (rw [if_neg (by omega), if_pos (by omega)]; done) | (rw [if_neg (by omega), if_neg (by omega), if_pos (by omega)]; done) | (rw [if_neg (by omega), if_neg (by omega), if_neg (by omega)]; done)), (by rw [x1]; unfold zactT; first | (rw [if_pos (by omega)]; done) | (rw [if_neg (by omega), if_pos (by omega)]; done) | (rw [if_neg (by omega), if_neg (by omega), if_pos (by omega)]; done) | (rw [if_neg (by omega), if_neg (by omega), if_neg (by omega)]; done))⟩)⟩)
      | 2, hj, he =>
        cases hj
        refine ⟨80, rfl, ?_⟩
        have h31 : a = 2 := by simpa using he
        refine z_aload_n 0 (zdec DX10_act 32 rfl) rfl rfl (by decide) ?_
        refine z_aload_n 0 (zdec DX10_act 33 rfl) rfl rfl (by decide) ?_
        refine z_geti (ki := 38) 56 10 (zdec DX10_act 34 rfl) rfl shp56 rfl (by decide) rfl rfl fl_SixWallsModel_342 ?_
        rw [show (zup (zup (zup M 56 37 0) 56 38 (M 78 b)) 56 39 b) 56 38 = M 78 b from by simp [zup, zcpy]]
        refine z_iload_n 3 (zdec DX10_act 35 rfl) rfl rfl ?_
        refine z_inv mX10_pipesAs 56 10 [.inl (M 78 b), .inl x] (zdec DX10_act 36 rfl) ml_SixWallsModel_345 okX10_pipesAs rfl shp56 rfl rfl rfl rfl (Nat.le_of_ble_eq_true rfl) (Nat.le_of_ble_eq_true rfl) (b' := (0, 0)) ⟨Nat.le_refl 0, Nat.le_refl 0⟩ (Nat.le_of_ble_eq_true rfl) (cX10_pipesAs (zacM_K hP b).1 (by have := (zacM_K hP b).2; omega) (M 78 b) x) (fun rv9 S9 M86 h9 => ?_)
        obtain ⟨rfl, rfl, x1⟩ := h9
        change zW _ _ _ _ _ 89 [(0, .inr (.inr 56)), (1, .inl b), (2, .inl a), (3, .inl x)] [.inl (zap (M 78 b) b (M 78 b) x)] M86
        exact z_iret (zdec DX10_act 37 rfl) rfl (⟨rfl, Or.inr (Or.inr ⟨⟨q10, by omega⟩, (by unfold zact; first | (rw [if_pos (by omega)]; done) | (rw [if_neg (by omega), if_pos (by omega)]; done) | (rw [if_neg (by omega), if_neg (by omega), if_pos (by omega)]; done) | (rw [if_neg (by omega), if_neg (by omega), if_neg (by omega)]; done)), (by rw [x1]; unfold zactT; first | (rw [if_pos (by omega)]; done) | (rw [if_neg (by omega), if_pos (by omega)]; done) | (rw [if_neg (by omega), if_neg (by omega), if_pos (by omega)]; done) | (rw [if_neg (by omega), if_neg (by omega), if_neg (by omega)]; done))⟩)⟩)
      | 3, hj, he =>
        cases hj
        refine ⟨90, rfl, ?_⟩
        have h31 : a = 3 := by simpa using he
        refine z_aload_n 0 (zdec DX10_act 38 rfl) rfl rfl (by decide) ?_
        refine z_aload_n 0 (zdec DX10_act 39 rfl) rfl rfl (by decide) ?_
        refine z_geti (ki := 38) 56 10 (zdec DX10_act 40 rfl) rfl shp56 rfl (by decide) rfl rfl fl_SixWallsModel_342 ?_
        rw [show (zup (zup (zup M 56 37 0) 56 38 (M 78 b)) 56 39 b) 56 38 = M 78 b from by simp [zup, zcpy]]
        refine z_iload_n 3 (zdec DX10_act 41 rfl) rfl rfl ?_
        refine z_inv mX10_tellsAs 56 10 [.inl (M 78 b), .inl x] (zdec DX10_act 42 rfl) ml_SixWallsModel_348 okX10_tellsAs rfl shp56 rfl rfl rfl rfl (Nat.le_of_ble_eq_true rfl) (Nat.le_of_ble_eq_true rfl) (b' := (0, 0)) ⟨Nat.le_refl 0, Nat.le_refl 0⟩ (Nat.le_of_ble_eq_true rfl) (cX10_tellsAs (zacM_K hP b).1 (by have := (zacM_K hP b).2; omega) (M 78 b) x) (fun rv9 S9 M96 h9 => ?_)
        obtain ⟨rfl, rfl, x1⟩ := h9
        change zW _ _ _ _ _ 99 [(0, .inr (.inr 56)), (1, .inl b), (2, .inl a), (3, .inl x)] [.inl (ztl (M 78 b) b (M 78 b) x)] M96
        exact z_iret (zdec DX10_act 43 rfl) rfl (⟨rfl, Or.inr (Or.inr ⟨⟨q10, by omega⟩, (by unfold zact; first | (rw [if_pos (by omega)]; done) | (rw [if_neg (by omega), if_pos (by omega)]; done) | (rw [if_neg (by omega), if_neg (by omega), if_pos (by omega)]; done) | (rw [if_neg (by omega), if_neg (by omega), if_neg (by omega)]; done)), (by rw [x1]; unfold zactT; first | (rw [if_pos (by omega)]; done) | (rw [if_neg (by omega), if_pos (by omega)]; done) | (rw [if_neg (by omega), if_neg (by omega), if_pos (by omega)]; done) | (rw [if_neg (by omega), if_neg (by omega), if_neg (by omega)]; done))⟩)⟩)
      | j + 4, hj, he => exact absurd (List.getElem?_eq_some_iff.mp hj).1 (by simp)
    · refine ⟨100, rfl, ?_⟩
      refine z_iconst 0 (zdec DX10_act 44 rfl) (by decide) ?_
      exact z_iret (zdec DX10_act 45 rfl) rfl (⟨rfl, Or.inr (Or.inl ⟨q10, by omega, rfl, rfl⟩)⟩)
  ·
    have q10 : ¬ (0 ≤ b ∧ b < M 56 34) := fun e => h10 (zb_ne0.mpr e)
    refine z_iconst 0 (zdec DX10_act 7 rfl) (by decide) ?_
    exact z_iret (zdec DX10_act 8 rfl) rfl (⟨rfl, Or.inl ⟨q10, rfl, rfl⟩⟩)
