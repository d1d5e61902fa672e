/-! contracts of the reference: small ones -/
set_option maxHeartbeats 4000000 in
theorem cX10_within {M : zMm} (v a b : Int) : zW mX10_within 1 (fun rv S' M' => S' = zS0 ∧ M = M' ∧ rv = some (.inl (zb (a ≤ v ∧ v ≤ b)))) (0, 0) zS0 0 (zargs 0 [.inr (.inl v), .inr (.inl a), .inr (.inl b)]) [] M := by
  change zW _ _ _ _ _ 0 [(0, .inr (.inl v)), (2, .inr (.inl a)), (4, .inr (.inl b))] [] M
  refine z_lload_n 0 (zdec DX10_within 0 rfl) rfl rfl ?_
  refine z_lload_n 1 (zdec DX10_within 1 rfl) rfl rfl ?_
  refine z_lcmp (zdec DX10_within 2 rfl) ?_
  refine z_if_lt 17 (zdec DX10_within 3 rfl) rfl (fun h3 => ?_) (fun h3 => ?_)
  ·
    have c3 : v < a := by unfold zcmp at h3; (repeat split at h3) <;> omega
    refine z_iconst 0 (zdec DX10_within 10 rfl) (by decide) ?_
    exact z_zret (zdec DX10_within 11 rfl) rfl (by omega) (⟨rfl, rfl, zri (by unfold zb; first | rw [if_pos (by omega)] | rw [if_neg (by omega)])⟩)
  ·
    have c3 : a ≤ v := by unfold zcmp at h3; (repeat split at h3) <;> omega
    refine z_lload_n 0 (zdec DX10_within 4 rfl) rfl rfl ?_
    refine z_lload 2 (zdec DX10_within 5 rfl) rfl ?_
    refine z_lcmp (zdec DX10_within 6 rfl) ?_
    refine z_if_gt 17 (zdec DX10_within 7 rfl) rfl (fun h10 => ?_) (fun h10 => ?_)
    ·
      have c10 : b < v := by unfold zcmp at h10; (repeat split at h10) <;> omega
      refine z_iconst 0 (zdec DX10_within 10 rfl) (by decide) ?_
      exact z_zret (zdec DX10_within 11 rfl) rfl (by omega) (⟨rfl, rfl, zri (by unfold zb; first | rw [if_pos (by omega)] | rw [if_neg (by omega)])⟩)
    ·
      have c10 : v ≤ b := by unfold zcmp at h10; (repeat split at h10) <;> omega
      refine z_iconst 1 (zdec DX10_within 8 rfl) (by decide) ?_
      refine z_goto 18 (zdec DX10_within 9 rfl) rfl ?_
      exact z_zret (zdec DX10_within 11 rfl) rfl (by omega) (⟨rfl, rfl, zri (by unfold zb; first | rw [if_pos (by omega)] | rw [if_neg (by omega)])⟩)
set_option maxHeartbeats 4000000 in
theorem cX10_isHouse {M : zMm} (v : Int) : zW mX10_isHouse 2 (fun rv S' M' => S' = zS0 ∧ M = M' ∧ rv = some (.inl (zb (0 ≤ v ∧ v < 16)))) (0, 0) zS0 0 (zargs 0 [.inl v]) [] M := by
  change zW _ _ _ _ _ 0 [(0, .inl v)] [] M
  refine z_iload_n 0 (zdec DX10_isHouse 0 rfl) rfl rfl ?_
  refine z_i2l (zdec DX10_isHouse 1 rfl) ?_
  refine z_lconst 0 (zdec DX10_isHouse 2 rfl) rfl ?_
  refine z_ldc2 15 (zdec DX10_isHouse 3 rfl) kl_SixWallsModel_110 rfl ⟨by decide, by decide⟩ ?_
  refine z_invs mX10_within [.inr (.inl v), .inr (.inl 0), .inr (.inl 15)] (zdec DX10_isHouse 4 rfl) (Or.inl ml_SixWallsModel_112) okX10_within rfl rfl (Nat.le_of_ble_eq_true rfl) (Nat.le_of_ble_eq_true rfl) (b' := (0, 0)) ⟨Nat.le_refl 0, Nat.le_refl 0⟩ (Nat.le_of_ble_eq_true rfl) (cX10_within v 0 15) (fun rv9 S9 M6 h9 => ?_)
  obtain ⟨rfl, rfl, rfl⟩ := h9
  change zW _ _ _ _ _ 9 [(0, .inl v)] [.inl (zb (0 ≤ v ∧ v ≤ 15))] M
  exact z_zret (zdec DX10_isHouse 5 rfl) rfl (by unfold zb; split <;> omega) (⟨rfl, rfl, zri (by unfold zb; split <;> split <;> omega)⟩)
set_option maxHeartbeats 4000000 in
theorem cX10_isWall {M : zMm} (v : Int) : zW mX10_isWall 2 (fun rv S' M' => S' = zS0 ∧ M = M' ∧ rv = some (.inl (zb (0 ≤ v ∧ v < 33)))) (0, 0) zS0 0 (zargs 0 [.inl v]) [] M := by
  change zW _ _ _ _ _ 0 [(0, .inl v)] [] M
  refine z_iload_n 0 (zdec DX10_isWall 0 rfl) rfl rfl ?_
  refine z_i2l (zdec DX10_isWall 1 rfl) ?_
  refine z_lconst 0 (zdec DX10_isWall 2 rfl) rfl ?_
  refine z_ldc2 32 (zdec DX10_isWall 3 rfl) kl_SixWallsModel_116 rfl ⟨by decide, by decide⟩ ?_
  refine z_invs mX10_within [.inr (.inl v), .inr (.inl 0), .inr (.inl 32)] (zdec DX10_isWall 4 rfl) (Or.inl ml_SixWallsModel_112) okX10_within rfl rfl (Nat.le_of_ble_eq_true rfl) (Nat.le_of_ble_eq_true rfl) (b' := (0, 0)) ⟨Nat.le_refl 0, Nat.le_refl 0⟩ (Nat.le_of_ble_eq_true rfl) (cX10_within v 0 32) (fun rv9 S9 M6 h9 => ?_)
  obtain ⟨rfl, rfl, rfl⟩ := h9
  change zW _ _ _ _ _ 9 [(0, .inl v)] [.inl (zb (0 ≤ v ∧ v ≤ 32))] M
  exact z_zret (zdec DX10_isWall 5 rfl) rfl (by unfold zb; split <;> omega) (⟨rfl, rfl, zri (by unfold zb; split <;> split <;> omega)⟩)
/-- the reference's walls -/
def zGr (M : zMm) : Prop := ∀ w : Int, 0 ≤ w → w < 33 → M 61 w = zlow w ∧ M 62 w = zhigh w
def zwoP (a b w : Int) : Prop := (zlow w = a ∧ zhigh w = b) ∨ (zlow w = b ∧ zhigh w = a)
def zwo (a b : Int) : Int := zff (fun w => w) (fun w => (zlow w = a ∧ zhigh w = b) ∨ (zlow w = b ∧ zhigh w = a)) 33
set_option maxHeartbeats 4000000 in
theorem lp_X10_wallOf_2 {M : zMm} (hP : zP M) (hg : zGr M) (a b : Int) (hx56 : (zwo a b = -1) → zW mX10_wallOf 1 (fun rv S' M' => S' = zS0 ∧ M = M' ∧ rv = some (.inl (if zwo a b < 0 then -2 else zwo a b))) (0, 0) zS0 56 [] [] M) : ∀ (n : Nat) (w : Int), (33 - w).toNat < n → (0 ≤ w ∧ w ≤ 33 ∧ ∀ j : Int, 0 ≤ j → j < w → ¬ zwoP a b j) → zW mX10_wallOf 1 (fun rv S' M' => S' = zS0 ∧ M = M' ∧ rv = some (.inl (if zwo a b < 0 then -2 else zwo a b))) (0, 0) zS0 2 [(0, .inr (.inr 56)), (1, .inl a), (2, .inl b), (3, .inl w)] [] M := by
  intro n
  induction n with
  | zero => intro w hn; exact absurd hn (Nat.not_lt_zero _)
  | succ n ih =>
    intro w hn hI
    refine z_iload_n 3 (zdec DX10_wallOf 2 rfl) rfl rfl ?_
    refine z_bipush 33 (zdec DX10_wallOf 3 rfl) (by decide) ?_
    refine z_icmp_ge 56 (zdec DX10_wallOf 4 rfl) rfl (fun h5 => ?_) (fun h5 => ?_)
    ·
      refine z_weak (L' := []) (by simp) ?_
      exact hx56  (zff_no (g := fun w => w) (p := fun w => (zlow w = a ∧ zhigh w = b) ∨ (zlow w = b ∧ zhigh w = a)) fun j h0 h1 => hI.2.2 j h0 (by omega))
    ·
      refine z_aload_n 0 (zdec DX10_wallOf 5 rfl) rfl rfl (by decide) ?_
      refine z_getr (rw1 := -66) (ki := 7) (r' := 61) 56 10 (zdec DX10_wallOf 6 rfl) rfl rfl shp56 rfl (by decide) rfl rfl fl_SixWallsModel_22 (zPa hP 61 rfl) ?_
      refine z_iload_n 3 (zdec DX10_wallOf 7 rfl) rfl rfl ?_
      refine z_iald 61 (zdec DX10_wallOf 8 rfl) rfl shp61 ⟨by omega, by omega⟩ ?_
      refine z_iload_n 1 (zdec DX10_wallOf 9 rfl) rfl rfl ?_
      refine z_icmp_ne 28 (zdec DX10_wallOf 10 rfl) rfl (fun h15 => ?_) (fun h15 => ?_)
      ·
        refine z_aload_n 0 (zdec DX10_wallOf 17 rfl) rfl rfl (by decide) ?_
        refine z_getr (rw1 := -66) (ki := 7) (r' := 61) 56 10 (zdec DX10_wallOf 18 rfl) rfl rfl shp56 rfl (by decide) rfl rfl fl_SixWallsModel_22 (zPa hP 61 rfl) ?_
        refine z_iload_n 3 (zdec DX10_wallOf 19 rfl) rfl rfl ?_
        refine z_iald 61 (zdec DX10_wallOf 20 rfl) rfl shp61 ⟨by omega, by omega⟩ ?_
        refine z_iload_n 2 (zdec DX10_wallOf 21 rfl) rfl rfl ?_
        refine z_icmp_ne 50 (zdec DX10_wallOf 22 rfl) rfl (fun h35 => ?_) (fun h35 => ?_)
        ·
          refine z_iinc (L' := [(0, .inr (.inr 56)), (1, .inl a), (2, .inl b), (3, .inl (w + 1))]) 3 (zdec DX10_wallOf 31 rfl) rfl (by unfold z32; omega) rfl (by decide) ?_
          refine z_goto 2 (zdec DX10_wallOf 32 rfl) rfl ?_
          exact ih (w + 1) (by omega) ⟨by omega, by omega, fun j h0 h1 => (by by_cases hj : j = w; (subst hj; have := hg j hI.1 (by omega); unfold zwoP; omega); (exact hI.2.2 j h0 (by omega)))⟩
        ·
          refine z_aload_n 0 (zdec DX10_wallOf 23 rfl) rfl rfl (by decide) ?_
          refine z_getr (rw1 := -66) (ki := 8) (r' := 62) 56 10 (zdec DX10_wallOf 24 rfl) rfl rfl shp56 rfl (by decide) rfl rfl fl_SixWallsModel_25 (zPa hP 62 rfl) ?_
          refine z_iload_n 3 (zdec DX10_wallOf 25 rfl) rfl rfl ?_
          refine z_iald 62 (zdec DX10_wallOf 26 rfl) rfl shp62 ⟨by omega, by omega⟩ ?_
          refine z_iload_n 1 (zdec DX10_wallOf 27 rfl) rfl rfl ?_
          refine z_icmp_ne 50 (zdec DX10_wallOf 28 rfl) rfl (fun h45 => ?_) (fun h45 => ?_)
          ·
            refine z_iinc (L' := [(0, .inr (.inr 56)), (1, .inl a), (2, .inl b), (3, .inl (w + 1))]) 3 (zdec DX10_wallOf 31 rfl) rfl (by unfold z32; omega) rfl (by decide) ?_
            refine z_goto 2 (zdec DX10_wallOf 32 rfl) rfl ?_
            exact ih (w + 1) (by omega) ⟨by omega, by omega, fun j h0 h1 => (by by_cases hj : j = w; (subst hj; have := hg j hI.1 (by omega); unfold zwoP; omega); (exact hI.2.2 j h0 (by omega)))⟩
          ·
            refine z_iload_n 3 (zdec DX10_wallOf 29 rfl) rfl rfl ?_
            exact z_iret (zdec DX10_wallOf 30 rfl) rfl (by have e : zwo a b = w := zff_hit (g := fun w => w) (p := fun w => (zlow w = a ∧ zhigh w = b) ∨ (zlow w = b ∧ zhigh w = a)) ⟨hI.1, by omega⟩ (by show w ≠ -1; omega) hI.2.2 (by have := hg w hI.1 (by omega); show (zlow w = a ∧ zhigh w = b) ∨ (zlow w = b ∧ zhigh w = a); omega); exact ⟨rfl, rfl, zri (by rw [e, if_neg (by omega)])⟩)
      ·
        refine z_aload_n 0 (zdec DX10_wallOf 11 rfl) rfl rfl (by decide) ?_
        refine z_getr (rw1 := -66) (ki := 8) (r' := 62) 56 10 (zdec DX10_wallOf 12 rfl) rfl rfl shp56 rfl (by decide) rfl rfl fl_SixWallsModel_25 (zPa hP 62 rfl) ?_
        refine z_iload_n 3 (zdec DX10_wallOf 13 rfl) rfl rfl ?_
        refine z_iald 62 (zdec DX10_wallOf 14 rfl) rfl shp62 ⟨by omega, by omega⟩ ?_
        refine z_iload_n 2 (zdec DX10_wallOf 15 rfl) rfl rfl ?_
        refine z_icmp_eq 48 (zdec DX10_wallOf 16 rfl) rfl (fun h25 => ?_) (fun h25 => ?_)
        ·
          refine z_iload_n 3 (zdec DX10_wallOf 29 rfl) rfl rfl ?_
          exact z_iret (zdec DX10_wallOf 30 rfl) rfl (by have e : zwo a b = w := zff_hit (g := fun w => w) (p := fun w => (zlow w = a ∧ zhigh w = b) ∨ (zlow w = b ∧ zhigh w = a)) ⟨hI.1, by omega⟩ (by show w ≠ -1; omega) hI.2.2 (by have := hg w hI.1 (by omega); show (zlow w = a ∧ zhigh w = b) ∨ (zlow w = b ∧ zhigh w = a); omega); exact ⟨rfl, rfl, zri (by rw [e, if_neg (by omega)])⟩)
        ·
          refine z_aload_n 0 (zdec DX10_wallOf 17 rfl) rfl rfl (by decide) ?_
          refine z_getr (rw1 := -66) (ki := 7) (r' := 61) 56 10 (zdec DX10_wallOf 18 rfl) rfl rfl shp56 rfl (by decide) rfl rfl fl_SixWallsModel_22 (zPa hP 61 rfl) ?_
          refine z_iload_n 3 (zdec DX10_wallOf 19 rfl) rfl rfl ?_
          refine z_iald 61 (zdec DX10_wallOf 20 rfl) rfl shp61 ⟨by omega, by omega⟩ ?_
          refine z_iload_n 2 (zdec DX10_wallOf 21 rfl) rfl rfl ?_
          refine z_icmp_ne 50 (zdec DX10_wallOf 22 rfl) rfl (fun h35 => ?_) (fun h35 => ?_)
          ·
            refine z_iinc (L' := [(0, .inr (.inr 56)), (1, .inl a), (2, .inl b), (3, .inl (w + 1))]) 3 (zdec DX10_wallOf 31 rfl) rfl (by unfold z32; omega) rfl (by decide) ?_
            refine z_goto 2 (zdec DX10_wallOf 32 rfl) rfl ?_
            exact ih (w + 1) (by omega) ⟨by omega, by omega, fun j h0 h1 => (by by_cases hj : j = w; (subst hj; have := hg j hI.1 (by omega); unfold zwoP; omega); (exact hI.2.2 j h0 (by omega)))⟩
          ·
            refine z_aload_n 0 (zdec DX10_wallOf 23 rfl) rfl rfl (by decide) ?_
            refine z_getr (rw1 := -66) (ki := 8) (r' := 62) 56 10 (zdec DX10_wallOf 24 rfl) rfl rfl shp56 rfl (by decide) rfl rfl fl_SixWallsModel_25 (zPa hP 62 rfl) ?_
            refine z_iload_n 3 (zdec DX10_wallOf 25 rfl) rfl rfl ?_
            refine z_iald 62 (zdec DX10_wallOf 26 rfl) rfl shp62 ⟨by omega, by omega⟩ ?_
            refine z_iload_n 1 (zdec DX10_wallOf 27 rfl) rfl rfl ?_
            refine z_icmp_ne 50 (zdec DX10_wallOf 28 rfl) rfl (fun h45 => ?_) (fun h45 => ?_)
            ·
              refine z_iinc (L' := [(0, .inr (.inr 56)), (1, .inl a), (2, .inl b), (3, .inl (w + 1))]) 3 (zdec DX10_wallOf 31 rfl) rfl (by unfold z32; omega) rfl (by decide) ?_
              refine z_goto 2 (zdec DX10_wallOf 32 rfl) rfl ?_
              exact ih (w + 1) (by omega) ⟨by omega, by omega, fun j h0 h1 => (by by_cases hj : j = w; (subst hj; have := hg j hI.1 (by omega); unfold zwoP; omega); (exact hI.2.2 j h0 (by omega)))⟩
            ·
              refine z_iload_n 3 (zdec DX10_wallOf 29 rfl) rfl rfl ?_
              exact z_iret (zdec DX10_wallOf 30 rfl) rfl (by have e : zwo a b = w := zff_hit (g := fun w => w) (p := fun w => (zlow w = a ∧ zhigh w = b) ∨ (zlow w = b ∧ zhigh w = a)) ⟨hI.1, by omega⟩ (by show w ≠ -1; omega) hI.2.2 (by have := hg w hI.1 (by omega); show (zlow w = a ∧ zhigh w = b) ∨ (zlow w = b ∧ zhigh w = a); omega); exact ⟨rfl, rfl, zri (by rw [e, if_neg (by omega)])⟩)
set_option maxHeartbeats 4000000 in
theorem cX10_wallOf {M : zMm} (hP : zP M) (hg : zGr M) (a b : Int) : zW mX10_wallOf 1 (fun rv S' M' => S' = zS0 ∧ M = M' ∧ rv = some (.inl (if zwo a b < 0 then -2 else zwo a b))) (0, 0) zS0 0 (zargs 0 [.inr (.inr 56), .inl a, .inl b]) [] M := by
  change zW _ _ _ _ _ 0 [(0, .inr (.inr 56)), (1, .inl a), (2, .inl b)] [] M
  refine z_iconst 0 (zdec DX10_wallOf 0 rfl) (by decide) ?_
  refine z_istore_n (L' := [(0, .inr (.inr 56)), (1, .inl a), (2, .inl b), (3, .inl 0)]) (zdec DX10_wallOf 1 rfl) rfl rfl (by decide) ?_
  refine lp_X10_wallOf_2 hP hg a b (hx56 := fun hx => ?_) _ 0 (Nat.lt_succ_self _) ⟨by omega, by omega, fun j h0 h1 => by omega⟩
  refine z_bipush (-2) (zdec DX10_wallOf 33 rfl) (by decide) ?_
  exact z_iret (zdec DX10_wallOf 34 rfl) rfl (⟨rfl, rfl, zri (by rw [hx, if_pos (by decide)])⟩)
