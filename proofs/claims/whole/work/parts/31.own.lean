/-! contracts of Cells: the acts -/
def zfk (act : Int) : Nat → Int → Int
  | 0, k => k
  | n + 1, k => if 0 ≤ k ∧ zbod (k * 4 + act) = 0 then zfk act n (zabv k) else k
theorem zfk_s {act : Int} {n : Nat} {k : Int} : zfk act (n + 1) k = if 0 ≤ k ∧ zbod (k * 4 + act) = 0 then zfk act n (zabv k) else k := rfl
def ztr (M : zMm) (b : Int) : zMm := zup (if M 42 3 < 24 then zup M 44 (M 42 3) b else M) 42 3 (M 42 3 + 1)
def zcP (R : Int → Int → Int → zMm → Int × zMm) (K self b ab x : Int) (M : zMm) : Int × zMm :=
  if b = 1 then (zw (x + self), M)
  else if b = 2 then (zw ((R K 1 x M).1 - (R K 2 1 (R K 1 x M).2).1), (R K 2 1 (R K 1 x M).2).2)
  else if b = 10 then (zw ((R K 0 x M).1 * 2), (R K 0 x M).2)
  else if b = 11 then (zxor x self, M)
  else if b = 20 then (zw ((R ab 0 x M).1 + 3), (R ab 0 x M).2)
  else if b = 30 then (zw (-(R ab 1 x M).1), (R ab 1 x M).2)
  else if b = 40 then (zw ((R ab 2 x M).1 * 3), (R ab 2 x M).2)
  else if b = 41 then R ab 1 (zw (x + 1)) M
  else if b = 50 then (zw ((R ab 2 x M).1 - (R K 0 2 (R ab 2 x M).2).1), (R K 0 2 (R ab 2 x M).2).2)
  else if b = 60 then (zxor (R ab 3 x M).1 5, (R ab 3 x M).2)
  else if b = 70 then (zw ((R ab 0 x M).1 * 2), (R ab 0 x M).2)
  else if b = 80 then (zw ((R ab 1 x M).1 + (R K 2 2 (R ab 1 x M).2).1), (R K 2 2 (R ab 1 x M).2).2)
  else if b = 81 then (zw ((R ab 3 x M).1 - 1), (R ab 3 x M).2)
  else (0, M)
def zcF (K self : Int) : Nat → Int → Int → Int → zMm → Int × zMm
  | 0, _, _, _, M => (0, M)
  | f + 1, kind, act, x, M => if zfk act 8 kind < 0 then (0, M) else zcP (zcF K self f) K self (zbod (zfk act 8 kind * 4 + act)) (zabv (zfk act 8 kind)) x (ztr M (zbod (zfk act 8 kind * 4 + act)))
/-- the acts come to an end -/
def zcOP (R : Int → Int → Bool) (K b ab : Int) : Bool :=
  if b = 2 then R K 1 && R K 2 else if b = 10 then R K 0 else if b = 20 then R ab 0 else if b = 70 then R ab 0 else if b = 30 then R ab 1 else if b = 41 then R ab 1 else if b = 40 then R ab 2 else if b = 50 then R ab 2 && R K 0 else if b = 60 then R ab 3 else if b = 81 then R ab 3 else if b = 80 then R ab 1 && R K 2 else true
def zcO (K : Int) : Nat → Int → Int → Bool
  | 0, _, _ => false
  | f + 1, kind, act => if zfk act 8 kind < 0 then true else zcOP (zcO K f) K (zbod (zfk act 8 kind * 4 + act)) (zabv (zfk act 8 kind))
theorem zcO_all : ∀ K : Fin 8, ∀ kind : Fin 8, ∀ act : Fin 4, zcO (K.val : Int) 10 (kind.val : Int) (act.val : Int) = true := by decide +kernel
def zpw : Nat → Int
  | 0 => 0
  | n + 1 => 1 + 2 * zpw n
theorem zpw_s {n : Nat} : zpw (n + 1) = 1 + 2 * zpw n := rfl
theorem zpw_0 : ∀ n : Nat, 0 ≤ zpw n := by
  intro n
  induction n with
  | zero => exact Int.le_refl 0
  | succ n ih => rw [zpw_s]; omega
def zKK (M : zMm) (K self : Int) : Prop := zP M ∧ zSx M ∧ M 42 4 = self ∧ M 43 self = K ∧ (0 ≤ self ∧ self < 50) ∧ 0 ≤ M 42 3 ∧ 0 ≤ K ∧ K < 8
theorem zup_42 {M : zMm} {k k' v : Int} (h : k' ≠ k) : zup M 42 k v 42 k' = M 42 k' := by
  unfold zup
  rw [if_neg (fun e => h e.2)]
theorem zKK.tr {M : zMm} {K self : Int} (h : zKK M K self) (b : Int) : zKK (ztr M b) K self ∧ ztr M b 42 3 = M 42 3 + 1 := by
  obtain ⟨h1, ⟨s1, s2, s3, s4⟩, h3, h4, h5, h6, h7⟩ := h
  have hr : ∀ c : Int, c ≠ 42 → c ≠ 44 → ztr M b c = M c := by
    intro c c1 c2
    unfold ztr
    rw [zup_row c1]
    split
    · exact zup_row c2
    · rfl
  have h3b : ztr M b 42 3 = M 42 3 + 1 := by unfold ztr; rw [zup_self]
  refine ⟨⟨zP_of h1 fun r hr2 => hr r (by omega) (by omega), ⟨?_, ?_, ?_, ?_⟩, ?_, ?_, h5, by omega, h7⟩, h3b⟩
  · rw [hr _ (by decide) (by decide)]; exact s1
  · rw [hr _ (by decide) (by decide)]; exact s2
  · rw [hr _ (by decide) (by decide)]; exact s3
  · rw [hr _ (by decide) (by decide)]; exact s4
  · unfold ztr
    rw [zup_42 (by decide)]
    split
    · rw [zup_row (by decide)]; exact h3
    · exact h3
  · rw [hr _ (by decide) (by decide)]; exact h4
def zGo (K self : Int) (B : Int) (M M' : zMm) : Prop := zKK M' K self ∧ M' 42 3 ≤ M 42 3 + B
theorem zGo.tr {K self B C : Int} {M M1 M2 : zMm} (h : zGo K self B M M1) (h2 : zGo K self C M1 M2) : zGo K self (B + C) M M2 := ⟨h2.1, by have := h.2; have := h2.2; omega⟩
theorem zGo.le {K self B C : Int} {M M1 : zMm} (h : zGo K self B M M1) (h2 : B ≤ C) : zGo K self C M M1 := ⟨h.1, by have := h.2; omega⟩
theorem zite {P : Int × zMm → Prop} {c : Prop} [Decidable c] {a b : Int × zMm} (h1 : P a) (h2 : P b) : P (if c then a else b) := by
  split
  · exact h1
  · exact h2
theorem zcP_E {R : Int → Int → Int → zMm → Int × zMm} {K self B : Int} (hB : 0 ≤ B) (hR : ∀ kind act x M, zKK M K self → zGo K self B M (R kind act x M).2) (b ab x : Int) {M : zMm} (h : zKK M K self) : zGo K self (2 * B) M (zcP R K self b ab x M).2 := by
  have h0 : zGo K self (2 * B) M M := ⟨h, by omega⟩
  have h1 : ∀ kind act x, zGo K self (2 * B) M (R kind act x M).2 := fun kind act x => (hR kind act x M h).le (by omega)
  have h2 : ∀ kind act x kind' act' x', zGo K self (2 * B) M (R kind' act' x' (R kind act x M).2).2 := fun kind act x kind' act' x' => ((hR kind act x M h).tr (hR kind' act' x' _ (hR kind act x M h).1)).le (by omega)
  unfold zcP
  repeat' (first | exact h0 | exact h1 _ _ _ | exact h2 _ _ _ _ _ _ | refine zite (P := fun z : Int × zMm => zGo K self (2 * B) M z.2) ?_ ?_)
theorem zcF_E {K self : Int} : ∀ (f : Nat) (kind act x : Int) (M : zMm), zKK M K self → zGo K self (zpw f) M (zcF K self f kind act x M).2 := by
  intro f
  induction f with
  | zero => intro kind act x M h; exact ⟨h, by show M 42 3 ≤ M 42 3 + 0; omega⟩
  | succ f ih =>
    intro kind act x M h
    have hp := zpw_0 f
    unfold zcF
    split
    · exact ⟨h, by show M 42 3 ≤ _; rw [zpw_s]; omega⟩
    · have ht := h.tr (zbod (zfk act 8 kind * 4 + act))
      have h1 := zcP_E hp ih (zbod (zfk act 8 kind * 4 + act)) (zabv (zfk act 8 kind)) x ht.1
      exact ⟨h1.1, by have := h1.2; rw [ht.2] at this; rw [zpw_s]; omega⟩
set_option maxHeartbeats 4000000 in
theorem cX0_own {K self : Int} (f : Nat) (hF : ∀ (M : zMm) (kind act x dep : Int), zKK M K self → M 42 3 + zpw f ≤ 1000000 → -1 ≤ kind → kind < 8 → 0 ≤ act → act < 4 → 0 ≤ dep → dep + f ≤ 40 → zcO K f kind act = true → zW mX0_from (3 * f + 1) (fun rv S' M' => S' = zS0 ∧ rv = some (.inl (zcF K self f kind act x M).1) ∧ M' = (zcF K self f kind act x M).2) (0, 0) zS0 0 (zargs 0 [.inr (.inr 42), .inl kind, .inl act, .inl x, .inl dep]) [] M) {M : zMm} (act x dep : Int) (hK : zKK M K self) (hb : M 42 3 + zpw f ≤ 1000000) (ha : 0 ≤ act ∧ act < 4) (hd : 0 ≤ dep) (hdf : dep + f ≤ 40) (hok : zcO K f K act = true) : zW mX0_own (3 * f + 2) (fun rv S' M' => S' = zS0 ∧ rv = some (.inl (zcF K self f K act x M).1) ∧ M' = (zcF K self f K act x M).2) (0, 0) zS0 0 (zargs 0 [.inr (.inr 42), .inl act, .inl x, .inl dep]) [] M := by
  change zW _ _ _ _ _ 0 [(0, .inr (.inr 42)), (1, .inl act), (2, .inl x), (3, .inl dep)] [] M
  obtain ⟨k1, k2, k3, k4, k5, k6, k7⟩ := id hK
  refine z_aload_n 0 (zdec DX0_own 0 rfl) rfl rfl (by decide) ?_
  refine z_aload_n 0 (zdec DX0_own 1 rfl) rfl rfl (by decide) ?_
  refine z_getr (rw1 := -52) (ki := 0) (r' := 43) 42 0 (zdec DX0_own 2 rfl) rfl rfl shp42 rfl (by decide) rfl rfl fl_SixWalls_Cells_11 (zPa hK.1 45 rfl) ?_
  refine z_aload_n 0 (zdec DX0_own 3 rfl) rfl rfl (by decide) ?_
  refine z_geti (ki := 4) 42 0 (zdec DX0_own 4 rfl) rfl shp42 rfl (by decide) rfl rfl fl_SixWalls_Cells_25 ?_
  rw [k3]
  refine z_iald 43 (zdec DX0_own 5 rfl) rfl shp43 ⟨by omega, by omega⟩ ?_
  rw [k4]
  refine z_iload_n 1 (zdec DX0_own 6 rfl) rfl rfl ?_
  refine z_iload_n 2 (zdec DX0_own 7 rfl) rfl rfl ?_
  refine z_iload_n 3 (zdec DX0_own 8 rfl) rfl rfl ?_
  refine z_inv mX0_from 42 0 [.inl K, .inl act, .inl x, .inl dep] (zdec DX0_own 9 rfl) ml_SixWalls_Cells_45 okX0_from rfl shp42 rfl rfl rfl rfl (Nat.le_of_ble_eq_true rfl) (by omega) (b' := (0, 0)) ⟨Nat.le_refl 0, Nat.le_refl 0⟩ (Nat.le_of_ble_eq_true rfl) (hF M K act x dep hK hb (by omega) (by omega) ha.1 ha.2 hd hdf hok) (fun rv9 S9 M13 h9 => ?_)
  obtain ⟨rfl, rfl, e13⟩ := h9
  change zW _ _ _ _ _ 16 [(0, .inr (.inr 42)), (1, .inl act), (2, .inl x), (3, .inl dep)] [.inl ((zcF K self f K act x M).1)] M13
  exact z_iret (zdec DX0_own 10 rfl) rfl (⟨rfl, rfl, e13⟩)
set_option maxHeartbeats 4000000 in
theorem cX0_perform {K self : Int} (f : Nat) (hF : ∀ (M : zMm) (kind act x dep : Int), zKK M K self → M 42 3 + zpw f ≤ 1000000 → -1 ≤ kind → kind < 8 → 0 ≤ act → act < 4 → 0 ≤ dep → dep + f ≤ 40 → zcO K f kind act = true → zW mX0_from (3 * f + 1) (fun rv S' M' => S' = zS0 ∧ rv = some (.inl (zcF K self f kind act x M).1) ∧ M' = (zcF K self f kind act x M).2) (0, 0) zS0 0 (zargs 0 [.inr (.inr 42), .inl kind, .inl act, .inl x, .inl dep]) [] M) (hO : ∀ (M : zMm) (act x dep : Int), zKK M K self → M 42 3 + zpw f ≤ 1000000 → 0 ≤ act → act < 4 → 0 ≤ dep → dep + f ≤ 40 → zcO K f K act = true → zW mX0_own (3 * f + 2) (fun rv S' M' => S' = zS0 ∧ rv = some (.inl (zcF K self f K act x M).1) ∧ M' = (zcF K self f K act x M).2) (0, 0) zS0 0 (zargs 0 [.inr (.inr 42), .inl act, .inl x, .inl dep]) [] M) {M : zMm} (b ab x dep : Int) (hK : zKK M K self) (hb : M 42 3 + 2 * zpw f ≤ 1000000) (hab : -1 ≤ ab ∧ ab < 8) (hd : 0 ≤ dep) (hdf : dep + f ≤ 40) (hok : zcOP (zcO K f) K b ab = true) : zW mX0_perform (3 * f + 3) (fun rv S' M' => S' = zS0 ∧ rv = some (.inl (zcP (zcF K self f) K self b ab x M).1) ∧ M' = (zcP (zcF K self f) K self b ab x M).2) (0, 0) zS0 0 (zargs 0 [.inr (.inr 42), .inl b, .inl ab, .inl x, .inl dep]) [] M := by
  change zW _ _ _ _ _ 0 [(0, .inr (.inr 42)), (1, .inl b), (2, .inl ab), (3, .inl x), (4, .inl dep)] [] M
  obtain ⟨k1, k2, k3, k4, k5, k6, k7⟩ := id hK
  have hpw := zpw_0 f
  refine z_iload_n 1 (zdec DX0_perform 0 rfl) rfl rfl ?_
  by_cases h1_1 : b = 1
  · refine z_lsw 116 (zdec DX0_perform 1 rfl) (by decide) (by first | (rw [h1_1]; done) | (rw [h1_1]; rfl)) rfl ?_
    refine z_iload_n 3 (zdec DX0_perform 2 rfl) rfl rfl ?_
    refine z_aload_n 0 (zdec DX0_perform 3 rfl) rfl rfl (by decide) ?_
    refine z_geti (ki := 4) 42 0 (zdec DX0_perform 4 rfl) rfl shp42 rfl (by decide) rfl rfl fl_SixWalls_Cells_25 ?_
    rw [k3]
    refine z_iaddw (zdec DX0_perform 5 rfl) ?_
    exact z_iret (zdec DX0_perform 6 rfl) rfl (⟨rfl, (by unfold zcP; (repeat (first | rw [if_pos (by omega)] | rw [if_neg (by omega)])); first | done | rfl), (by unfold zcP; (repeat (first | rw [if_pos (by omega)] | rw [if_neg (by omega)])); first | done | rfl | assumption)⟩)
  by_cases h1_2 : b = 2
  · refine z_lsw 123 (zdec DX0_perform 1 rfl) (by decide) (by first | (rw [h1_2]; done) | (rw [h1_2]; rfl)) rfl ?_
    have hb9 : b = 2 := by assumption
    refine z_aload_n 0 (zdec DX0_perform 7 rfl) rfl rfl (by decide) ?_
    refine z_iconst 1 (zdec DX0_perform 8 rfl) (by decide) ?_
    refine z_iload_n 3 (zdec DX0_perform 9 rfl) rfl rfl ?_
    refine z_iload 4 (zdec DX0_perform 10 rfl) rfl ?_
    refine z_inv mX0_own 42 0 [.inl 1, .inl x, .inl dep] (zdec DX0_perform 11 rfl) ml_SixWalls_Cells_55 okX0_own rfl shp42 rfl rfl rfl rfl (Nat.le_of_ble_eq_true rfl) (by omega) (b' := (0, 0)) ⟨Nat.le_refl 0, Nat.le_refl 0⟩ (Nat.le_of_ble_eq_true rfl) (hO M 1 x dep hK (by omega) (by omega) (by omega) hd hdf (by have h := hok; simp only [hb9] at h; simp [zcOP] at h; exact h.1)) (fun rv9 S9 M128 h9 => ?_)
    obtain ⟨rfl, rfl, e128⟩ := h9
    have g128 : zGo K self (zpw f) M M128 := by rw [e128]; exact zcF_E f _ _ _ _ hK
    have g1282 := g128.2
    change zW _ _ _ _ _ 131 [(0, .inr (.inr 42)), (1, .inl b), (2, .inl ab), (3, .inl x), (4, .inl dep)] [.inl ((zcF K self f K 1 x M).1)] M128
    refine z_aload_n 0 (zdec DX0_perform 12 rfl) rfl rfl (by decide) ?_
    refine z_iconst 2 (zdec DX0_perform 13 rfl) (by decide) ?_
    refine z_iconst 1 (zdec DX0_perform 14 rfl) (by decide) ?_
    refine z_iload 4 (zdec DX0_perform 15 rfl) rfl ?_
    refine z_inv mX0_own 42 0 [.inl 2, .inl 1, .inl dep] (zdec DX0_perform 16 rfl) ml_SixWalls_Cells_55 okX0_own rfl shp42 rfl rfl rfl rfl (Nat.le_of_ble_eq_true rfl) (by omega) (b' := (0, 0)) ⟨Nat.le_refl 0, Nat.le_refl 0⟩ (Nat.le_of_ble_eq_true rfl) (hO M128 2 1 dep g128.1 (by omega) (by omega) (by omega) hd hdf (by have h := hok; simp only [hb9] at h; simp [zcOP] at h; exact h.2)) (fun rv9 S9 M136 h9 => ?_)
    obtain ⟨rfl, rfl, e136⟩ := h9
    have g136 : zGo K self (zpw f) M128 M136 := by rw [e136]; exact zcF_E f _ _ _ _ g128.1
    have g1362 := g136.2
    change zW _ _ _ _ _ 139 [(0, .inr (.inr 42)), (1, .inl b), (2, .inl ab), (3, .inl x), (4, .inl dep)] [.inl ((zcF K self f K 2 1 M128).1), .inl ((zcF K self f K 1 x M).1)] M136
    refine z_isubw (zdec DX0_perform 17 rfl) ?_
    exact z_iret (zdec DX0_perform 18 rfl) rfl (⟨rfl, (by unfold zcP; (repeat (first | rw [if_pos (by omega)] | rw [if_neg (by omega)])); (try rw [← e128]); (try rw [← e136]); first | done | rfl), (by unfold zcP; (repeat (first | rw [if_pos (by omega)] | rw [if_neg (by omega)])); (try rw [← e128]); (try rw [← e136]); first | done | rfl | assumption)⟩)
  by_cases h1_10 : b = 10
  · refine z_lsw 141 (zdec DX0_perform 1 rfl) (by decide) (by first | (rw [h1_10]; done) | (rw [h1_10]; rfl)) rfl ?_
    have hb9 : b = 10 := by assumption
    refine z_aload_n 0 (zdec DX0_perform 19 rfl) rfl rfl (by decide) ?_
    refine z_iconst 0 (zdec DX0_perform 20 rfl) (by decide) ?_
    refine z_iload_n 3 (zdec DX0_perform 21 rfl) rfl rfl ?_
    refine z_iload 4 (zdec DX0_perform 22 rfl) rfl ?_
    refine z_inv mX0_own 42 0 [.inl 0, .inl x, .inl dep] (zdec DX0_perform 23 rfl) ml_SixWalls_Cells_55 okX0_own rfl shp42 rfl rfl rfl rfl (Nat.le_of_ble_eq_true rfl) (by omega) (b' := (0, 0)) ⟨Nat.le_refl 0, Nat.le_refl 0⟩ (Nat.le_of_ble_eq_true rfl) (hO M 0 x dep hK (by omega) (by omega) (by omega) hd hdf (by have h := hok; simp only [hb9] at h; simp [zcOP] at h; exact h)) (fun rv9 S9 M146 h9 => ?_)
    obtain ⟨rfl, rfl, e146⟩ := h9
    have g146 : zGo K self (zpw f) M M146 := by rw [e146]; exact zcF_E f _ _ _ _ hK
    have g1462 := g146.2
    change zW _ _ _ _ _ 149 [(0, .inr (.inr 42)), (1, .inl b), (2, .inl ab), (3, .inl x), (4, .inl dep)] [.inl ((zcF K self f K 0 x M).1)] M146
    refine z_iconst 2 (zdec DX0_perform 24 rfl) (by decide) ?_
    refine z_imulw (zdec DX0_perform 25 rfl) ?_
    exact z_iret (zdec DX0_perform 26 rfl) rfl (⟨rfl, (by unfold zcP; (repeat (first | rw [if_pos (by omega)] | rw [if_neg (by omega)])); (try rw [← e146]); first | done | rfl), (by unfold zcP; (repeat (first | rw [if_pos (by omega)] | rw [if_neg (by omega)])); (try rw [← e146]); first | done | rfl | assumption)⟩)
  by_cases h1_11 : b = 11
  · refine z_lsw 152 (zdec DX0_perform 1 rfl) (by decide) (by first | (rw [h1_11]; done) | (rw [h1_11]; rfl)) rfl ?_
    refine z_iload_n 3 (zdec DX0_perform 27 rfl) rfl rfl ?_
    refine z_aload_n 0 (zdec DX0_perform 28 rfl) rfl rfl (by decide) ?_
    refine z_geti (ki := 4) 42 0 (zdec DX0_perform 29 rfl) rfl shp42 rfl (by decide) rfl rfl fl_SixWalls_Cells_25 ?_
    rw [k3]
    refine z_ixor (zdec DX0_perform 30 rfl) ?_
    exact z_iret (zdec DX0_perform 31 rfl) rfl (⟨rfl, (by unfold zcP; (repeat (first | rw [if_pos (by omega)] | rw [if_neg (by omega)])); first | done | rfl), (by unfold zcP; (repeat (first | rw [if_pos (by omega)] | rw [if_neg (by omega)])); first | done | rfl | assumption)⟩)
  by_cases h1_20 : b = 20
  · refine z_lsw 159 (zdec DX0_perform 1 rfl) (by decide) (by first | (rw [h1_20]; done) | (rw [h1_20]; rfl)) rfl ?_
    have hb9 : b = 20 := by assumption
    refine z_aload_n 0 (zdec DX0_perform 32 rfl) rfl rfl (by decide) ?_
    refine z_iload_n 2 (zdec DX0_perform 33 rfl) rfl rfl ?_
    refine z_iconst 0 (zdec DX0_perform 34 rfl) (by decide) ?_
    refine z_iload_n 3 (zdec DX0_perform 35 rfl) rfl rfl ?_
    refine z_iload 4 (zdec DX0_perform 36 rfl) rfl ?_
    refine z_inv mX0_from 42 0 [.inl ab, .inl 0, .inl x, .inl dep] (zdec DX0_perform 37 rfl) ml_SixWalls_Cells_45 okX0_from rfl shp42 rfl rfl rfl rfl (Nat.le_of_ble_eq_true rfl) (by omega) (b' := (0, 0)) ⟨Nat.le_refl 0, Nat.le_refl 0⟩ (Nat.le_of_ble_eq_true rfl) (hF M ab 0 x dep hK (by omega) (by omega) (by omega) (by omega) (by omega) hd hdf (by have h := hok; simp only [hb9] at h; simp [zcOP] at h; exact h)) (fun rv9 S9 M165 h9 => ?_)
    obtain ⟨rfl, rfl, e165⟩ := h9
    have g165 : zGo K self (zpw f) M M165 := by rw [e165]; exact zcF_E f _ _ _ _ hK
    have g1652 := g165.2
    change zW _ _ _ _ _ 168 [(0, .inr (.inr 42)), (1, .inl b), (2, .inl ab), (3, .inl x), (4, .inl dep)] [.inl ((zcF K self f ab 0 x M).1)] M165
    refine z_iconst 3 (zdec DX0_perform 38 rfl) (by decide) ?_
    refine z_iaddw (zdec DX0_perform 39 rfl) ?_
    exact z_iret (zdec DX0_perform 40 rfl) rfl (⟨rfl, (by unfold zcP; (repeat (first | rw [if_pos (by omega)] | rw [if_neg (by omega)])); (try rw [← e165]); first | done | rfl), (by unfold zcP; (repeat (first | rw [if_pos (by omega)] | rw [if_neg (by omega)])); (try rw [← e165]); first | done | rfl | assumption)⟩)
  by_cases h1_30 : b = 30
  · refine z_lsw 171 (zdec DX0_perform 1 rfl) (by decide) (by first | (rw [h1_30]; done) | (rw [h1_30]; rfl)) rfl ?_
    have hb9 : b = 30 := by assumption
    refine z_aload_n 0 (zdec DX0_perform 41 rfl) rfl rfl (by decide) ?_
    refine z_iload_n 2 (zdec DX0_perform 42 rfl) rfl rfl ?_
    refine z_iconst 1 (zdec DX0_perform 43 rfl) (by decide) ?_
    refine z_iload_n 3 (zdec DX0_perform 44 rfl) rfl rfl ?_
    refine z_iload 4 (zdec DX0_perform 45 rfl) rfl ?_
    refine z_inv mX0_from 42 0 [.inl ab, .inl 1, .inl x, .inl dep] (zdec DX0_perform 46 rfl) ml_SixWalls_Cells_45 okX0_from rfl shp42 rfl rfl rfl rfl (Nat.le_of_ble_eq_true rfl) (by omega) (b' := (0, 0)) ⟨Nat.le_refl 0, Nat.le_refl 0⟩ (Nat.le_of_ble_eq_true rfl) (hF M ab 1 x dep hK (by omega) (by omega) (by omega) (by omega) (by omega) hd hdf (by have h := hok; simp only [hb9] at h; simp [zcOP] at h; exact h)) (fun rv9 S9 M177 h9 => ?_)
    obtain ⟨rfl, rfl, e177⟩ := h9
    have g177 : zGo K self (zpw f) M M177 := by rw [e177]; exact zcF_E f _ _ _ _ hK
    have g1772 := g177.2
    change zW _ _ _ _ _ 180 [(0, .inr (.inr 42)), (1, .inl b), (2, .inl ab), (3, .inl x), (4, .inl dep)] [.inl ((zcF K self f ab 1 x M).1)] M177
    refine z_inegw (zdec DX0_perform 47 rfl) ?_
    exact z_iret (zdec DX0_perform 48 rfl) rfl (⟨rfl, (by unfold zcP; (repeat (first | rw [if_pos (by omega)] | rw [if_neg (by omega)])); (try rw [← e177]); first | done | rfl), (by unfold zcP; (repeat (first | rw [if_pos (by omega)] | rw [if_neg (by omega)])); (try rw [← e177]); first | done | rfl | assumption)⟩)
  by_cases h1_40 : b = 40
  · refine z_lsw 182 (zdec DX0_perform 1 rfl) (by decide) (by first | (rw [h1_40]; done) | (rw [h1_40]; rfl)) rfl ?_
    have hb9 : b = 40 := by assumption
    refine z_aload_n 0 (zdec DX0_perform 49 rfl) rfl rfl (by decide) ?_
    refine z_iload_n 2 (zdec DX0_perform 50 rfl) rfl rfl ?_
    refine z_iconst 2 (zdec DX0_perform 51 rfl) (by decide) ?_
    refine z_iload_n 3 (zdec DX0_perform 52 rfl) rfl rfl ?_
    refine z_iload 4 (zdec DX0_perform 53 rfl) rfl ?_
    refine z_inv mX0_from 42 0 [.inl ab, .inl 2, .inl x, .inl dep] (zdec DX0_perform 54 rfl) ml_SixWalls_Cells_45 okX0_from rfl shp42 rfl rfl rfl rfl (Nat.le_of_ble_eq_true rfl) (by omega) (b' := (0, 0)) ⟨Nat.le_refl 0, Nat.le_refl 0⟩ (Nat.le_of_ble_eq_true rfl) (hF M ab 2 x dep hK (by omega) (by omega) (by omega) (by omega) (by omega) hd hdf (by have h := hok; simp only [hb9] at h; simp [zcOP] at h; exact h)) (fun rv9 S9 M188 h9 => ?_)
    obtain ⟨rfl, rfl, e188⟩ := h9
    have g188 : zGo K self (zpw f) M M188 := by rw [e188]; exact zcF_E f _ _ _ _ hK
    have g1882 := g188.2
    change zW _ _ _ _ _ 191 [(0, .inr (.inr 42)), (1, .inl b), (2, .inl ab), (3, .inl x), (4, .inl dep)] [.inl ((zcF K self f ab 2 x M).1)] M188
    refine z_iconst 3 (zdec DX0_perform 55 rfl) (by decide) ?_
    refine z_imulw (zdec DX0_perform 56 rfl) ?_
    exact z_iret (zdec DX0_perform 57 rfl) rfl (⟨rfl, (by unfold zcP; (repeat (first | rw [if_pos (by omega)] | rw [if_neg (by omega)])); (try rw [← e188]); first | done | rfl), (by unfold zcP; (repeat (first | rw [if_pos (by omega)] | rw [if_neg (by omega)])); (try rw [← e188]); first | done | rfl | assumption)⟩)
  by_cases h1_41 : b = 41
  · refine z_lsw 194 (zdec DX0_perform 1 rfl) (by decide) (by first | (rw [h1_41]; done) | (rw [h1_41]; rfl)) rfl ?_
    have hb9 : b = 41 := by assumption
    refine z_aload_n 0 (zdec DX0_perform 58 rfl) rfl rfl (by decide) ?_
    refine z_iload_n 2 (zdec DX0_perform 59 rfl) rfl rfl ?_
    refine z_iconst 1 (zdec DX0_perform 60 rfl) (by decide) ?_
    refine z_iload_n 3 (zdec DX0_perform 61 rfl) rfl rfl ?_
    refine z_iconst 1 (zdec DX0_perform 62 rfl) (by decide) ?_
    refine z_iaddw (zdec DX0_perform 63 rfl) ?_
    refine z_iload 4 (zdec DX0_perform 64 rfl) rfl ?_
    refine z_inv mX0_from 42 0 [.inl ab, .inl 1, .inl (zw (x + 1)), .inl dep] (zdec DX0_perform 65 rfl) ml_SixWalls_Cells_45 okX0_from rfl shp42 rfl rfl rfl rfl (Nat.le_of_ble_eq_true rfl) (by omega) (b' := (0, 0)) ⟨Nat.le_refl 0, Nat.le_refl 0⟩ (Nat.le_of_ble_eq_true rfl) (hF M ab 1 (zw (x + 1)) dep hK (by omega) (by omega) (by omega) (by omega) (by omega) hd hdf (by have h := hok; simp only [hb9] at h; simp [zcOP] at h; exact h)) (fun rv9 S9 M202 h9 => ?_)
    obtain ⟨rfl, rfl, e202⟩ := h9
    have g202 : zGo K self (zpw f) M M202 := by rw [e202]; exact zcF_E f _ _ _ _ hK
    have g2022 := g202.2
    change zW _ _ _ _ _ 205 [(0, .inr (.inr 42)), (1, .inl b), (2, .inl ab), (3, .inl x), (4, .inl dep)] [.inl ((zcF K self f ab 1 (zw (x + 1)) M).1)] M202
    exact z_iret (zdec DX0_perform 66 rfl) rfl (⟨rfl, (by unfold zcP; (repeat (first | rw [if_pos (by omega)] | rw [if_neg (by omega)])); (try rw [← e202]); first | done | rfl), (by unfold zcP; (repeat (first | rw [if_pos (by omega)] | rw [if_neg (by omega)])); (try rw [← e202]); first | done | rfl | assumption)⟩)
  by_cases h1_50 : b = 50
  · refine z_lsw 206 (zdec DX0_perform 1 rfl) (by decide) (by first | (rw [h1_50]; done) | (rw [h1_50]; rfl)) rfl ?_
    have hb9 : b = 50 := by assumption
    refine z_aload_n 0 (zdec DX0_perform 67 rfl) rfl rfl (by decide) ?_
    refine z_iload_n 2 (zdec DX0_perform 68 rfl) rfl rfl ?_
    refine z_iconst 2 (zdec DX0_perform 69 rfl) (by decide) ?_
    refine z_iload_n 3 (zdec DX0_perform 70 rfl) rfl rfl ?_
    refine z_iload 4 (zdec DX0_perform 71 rfl) rfl ?_
    refine z_inv mX0_from 42 0 [.inl ab, .inl 2, .inl x, .inl dep] (zdec DX0_perform 72 rfl) ml_SixWalls_Cells_45 okX0_from rfl shp42 rfl rfl rfl rfl (Nat.le_of_ble_eq_true rfl) (by omega) (b' := (0, 0)) ⟨Nat.le_refl 0, Nat.le_refl 0⟩ (Nat.le_of_ble_eq_true rfl) (hF M ab 2 x dep hK (by omega) (by omega) (by omega) (by omega) (by omega) hd hdf (by have h := hok; simp only [hb9] at h; simp [zcOP] at h; exact h.1)) (fun rv9 S9 M212 h9 => ?_)
    obtain ⟨rfl, rfl, e212⟩ := h9
    have g212 : zGo K self (zpw f) M M212 := by rw [e212]; exact zcF_E f _ _ _ _ hK
    have g2122 := g212.2
    change zW _ _ _ _ _ 215 [(0, .inr (.inr 42)), (1, .inl b), (2, .inl ab), (3, .inl x), (4, .inl dep)] [.inl ((zcF K self f ab 2 x M).1)] M212
    refine z_aload_n 0 (zdec DX0_perform 73 rfl) rfl rfl (by decide) ?_
    refine z_iconst 0 (zdec DX0_perform 74 rfl) (by decide) ?_
    refine z_iconst 2 (zdec DX0_perform 75 rfl) (by decide) ?_
    refine z_iload 4 (zdec DX0_perform 76 rfl) rfl ?_
    refine z_inv mX0_own 42 0 [.inl 0, .inl 2, .inl dep] (zdec DX0_perform 77 rfl) ml_SixWalls_Cells_55 okX0_own rfl shp42 rfl rfl rfl rfl (Nat.le_of_ble_eq_true rfl) (by omega) (b' := (0, 0)) ⟨Nat.le_refl 0, Nat.le_refl 0⟩ (Nat.le_of_ble_eq_true rfl) (hO M212 0 2 dep g212.1 (by omega) (by omega) (by omega) hd hdf (by have h := hok; simp only [hb9] at h; simp [zcOP] at h; exact h.2)) (fun rv9 S9 M220 h9 => ?_)
    obtain ⟨rfl, rfl, e220⟩ := h9
    have g220 : zGo K self (zpw f) M212 M220 := by rw [e220]; exact zcF_E f _ _ _ _ g212.1
    have g2202 := g220.2
    change zW _ _ _ _ _ 223 [(0, .inr (.inr 42)), (1, .inl b), (2, .inl ab), (3, .inl x), (4, .inl dep)] [.inl ((zcF K self f K 0 2 M212).1), .inl ((zcF K self f ab 2 x M).1)] M220
    refine z_isubw (zdec DX0_perform 78 rfl) ?_
    exact z_iret (zdec DX0_perform 79 rfl) rfl (⟨rfl, (by unfold zcP; (repeat (first | rw [if_pos (by omega)] | rw [if_neg (by omega)])); (try rw [← e212]); (try rw [← e220]); first | done | rfl), (by unfold zcP; (repeat (first | rw [if_pos (by omega)] | rw [if_neg (by omega)])); (try rw [← e212]); (try rw [← e220]); first | done | rfl | assumption)⟩)
  by_cases h1_60 : b = 60
  · refine z_lsw 225 (zdec DX0_perform 1 rfl) (by decide) (by first | (rw [h1_60]; done) | (rw [h1_60]; rfl)) rfl ?_
    have hb9 : b = 60 := by assumption
    refine z_aload_n 0 (zdec DX0_perform 80 rfl) rfl rfl (by decide) ?_
    refine z_iload_n 2 (zdec DX0_perform 81 rfl) rfl rfl ?_
    refine z_iconst 3 (zdec DX0_perform 82 rfl) (by decide) ?_
    refine z_iload_n 3 (zdec DX0_perform 83 rfl) rfl rfl ?_
    refine z_iload 4 (zdec DX0_perform 84 rfl) rfl ?_
    refine z_inv mX0_from 42 0 [.inl ab, .inl 3, .inl x, .inl dep] (zdec DX0_perform 85 rfl) ml_SixWalls_Cells_45 okX0_from rfl shp42 rfl rfl rfl rfl (Nat.le_of_ble_eq_true rfl) (by omega) (b' := (0, 0)) ⟨Nat.le_refl 0, Nat.le_refl 0⟩ (Nat.le_of_ble_eq_true rfl) (hF M ab 3 x dep hK (by omega) (by omega) (by omega) (by omega) (by omega) hd hdf (by have h := hok; simp only [hb9] at h; simp [zcOP] at h; exact h)) (fun rv9 S9 M231 h9 => ?_)
    obtain ⟨rfl, rfl, e231⟩ := h9
    have g231 : zGo K self (zpw f) M M231 := by rw [e231]; exact zcF_E f _ _ _ _ hK
    have g2312 := g231.2
    change zW _ _ _ _ _ 234 [(0, .inr (.inr 42)), (1, .inl b), (2, .inl ab), (3, .inl x), (4, .inl dep)] [.inl ((zcF K self f ab 3 x M).1)] M231
    refine z_iconst 5 (zdec DX0_perform 86 rfl) (by decide) ?_
    refine z_ixor (zdec DX0_perform 87 rfl) ?_
    exact z_iret (zdec DX0_perform 88 rfl) rfl (⟨rfl, (by unfold zcP; (repeat (first | rw [if_pos (by omega)] | rw [if_neg (by omega)])); (try rw [← e231]); first | done | rfl), (by unfold zcP; (repeat (first | rw [if_pos (by omega)] | rw [if_neg (by omega)])); (try rw [← e231]); first | done | rfl | assumption)⟩)
  by_cases h1_70 : b = 70
  · refine z_lsw 237 (zdec DX0_perform 1 rfl) (by decide) (by first | (rw [h1_70]; done) | (rw [h1_70]; rfl)) rfl ?_
    have hb9 : b = 70 := by assumption
    refine z_aload_n 0 (zdec DX0_perform 89 rfl) rfl rfl (by decide) ?_
    refine z_iload_n 2 (zdec DX0_perform 90 rfl) rfl rfl ?_
    refine z_iconst 0 (zdec DX0_perform 91 rfl) (by decide) ?_
    refine z_iload_n 3 (zdec DX0_perform 92 rfl) rfl rfl ?_
    refine z_iload 4 (zdec DX0_perform 93 rfl) rfl ?_
    refine z_inv mX0_from 42 0 [.inl ab, .inl 0, .inl x, .inl dep] (zdec DX0_perform 94 rfl) ml_SixWalls_Cells_45 okX0_from rfl shp42 rfl rfl rfl rfl (Nat.le_of_ble_eq_true rfl) (by omega) (b' := (0, 0)) ⟨Nat.le_refl 0, Nat.le_refl 0⟩ (Nat.le_of_ble_eq_true rfl) (hF M ab 0 x dep hK (by omega) (by omega) (by omega) (by omega) (by omega) hd hdf (by have h := hok; simp only [hb9] at h; simp [zcOP] at h; exact h)) (fun rv9 S9 M243 h9 => ?_)
    obtain ⟨rfl, rfl, e243⟩ := h9
    have g243 : zGo K self (zpw f) M M243 := by rw [e243]; exact zcF_E f _ _ _ _ hK
    have g2432 := g243.2
    change zW _ _ _ _ _ 246 [(0, .inr (.inr 42)), (1, .inl b), (2, .inl ab), (3, .inl x), (4, .inl dep)] [.inl ((zcF K self f ab 0 x M).1)] M243
    refine z_iconst 2 (zdec DX0_perform 95 rfl) (by decide) ?_
    refine z_imulw (zdec DX0_perform 96 rfl) ?_
    exact z_iret (zdec DX0_perform 97 rfl) rfl (⟨rfl, (by unfold zcP; (repeat (first | rw [if_pos (by omega)] | rw [if_neg (by omega)])); (try rw [← e243]); first | done | rfl), (by unfold zcP; (repeat (first | rw [if_pos (by omega)] | rw [if_neg (by omega)])); (try rw [← e243]); first | done | rfl | assumption)⟩)
  by_cases h1_80 : b = 80
  · refine z_lsw 249 (zdec DX0_perform 1 rfl) (by decide) (by first | (rw [h1_80]; done) | (rw [h1_80]; rfl)) rfl ?_
    have hb9 : b = 80 := by assumption
    refine z_aload_n 0 (zdec DX0_perform 98 rfl) rfl rfl (by decide) ?_
    refine z_iload_n 2 (zdec DX0_perform 99 rfl) rfl rfl ?_
    refine z_iconst 1 (zdec DX0_perform 100 rfl) (by decide) ?_
    refine z_iload_n 3 (zdec DX0_perform 101 rfl) rfl rfl ?_
    refine z_iload 4 (zdec DX0_perform 102 rfl) rfl ?_
    refine z_inv mX0_from 42 0 [.inl ab, .inl 1, .inl x, .inl dep] (zdec DX0_perform 103 rfl) ml_SixWalls_Cells_45 okX0_from rfl shp42 rfl rfl rfl rfl (Nat.le_of_ble_eq_true rfl) (by omega) (b' := (0, 0)) ⟨Nat.le_refl 0, Nat.le_refl 0⟩ (Nat.le_of_ble_eq_true rfl) (hF M ab 1 x dep hK (by omega) (by omega) (by omega) (by omega) (by omega) hd hdf (by have h := hok; simp only [hb9] at h; simp [zcOP] at h; exact h.1)) (fun rv9 S9 M255 h9 => ?_)
    obtain ⟨rfl, rfl, e255⟩ := h9
    have g255 : zGo K self (zpw f) M M255 := by rw [e255]; exact zcF_E f _ _ _ _ hK
    have g2552 := g255.2
    change zW _ _ _ _ _ 258 [(0, .inr (.inr 42)), (1, .inl b), (2, .inl ab), (3, .inl x), (4, .inl dep)] [.inl ((zcF K self f ab 1 x M).1)] M255
    refine z_aload_n 0 (zdec DX0_perform 104 rfl) rfl rfl (by decide) ?_
    refine z_iconst 2 (zdec DX0_perform 105 rfl) (by decide) ?_
    refine z_iconst 2 (zdec DX0_perform 106 rfl) (by decide) ?_
    refine z_iload 4 (zdec DX0_perform 107 rfl) rfl ?_
    refine z_inv mX0_own 42 0 [.inl 2, .inl 2, .inl dep] (zdec DX0_perform 108 rfl) ml_SixWalls_Cells_55 okX0_own rfl shp42 rfl rfl rfl rfl (Nat.le_of_ble_eq_true rfl) (by omega) (b' := (0, 0)) ⟨Nat.le_refl 0, Nat.le_refl 0⟩ (Nat.le_of_ble_eq_true rfl) (hO M255 2 2 dep g255.1 (by omega) (by omega) (by omega) hd hdf (by have h := hok; simp only [hb9] at h; simp [zcOP] at h; exact h.2)) (fun rv9 S9 M263 h9 => ?_)
    obtain ⟨rfl, rfl, e263⟩ := h9
    have g263 : zGo K self (zpw f) M255 M263 := by rw [e263]; exact zcF_E f _ _ _ _ g255.1
    have g2632 := g263.2
    change zW _ _ _ _ _ 266 [(0, .inr (.inr 42)), (1, .inl b), (2, .inl ab), (3, .inl x), (4, .inl dep)] [.inl ((zcF K self f K 2 2 M255).1), .inl ((zcF K self f ab 1 x M).1)] M263
    refine z_iaddw (zdec DX0_perform 109 rfl) ?_
    exact z_iret (zdec DX0_perform 110 rfl) rfl (⟨rfl, (by unfold zcP; (repeat (first | rw [if_pos (by omega)] | rw [if_neg (by omega)])); (try rw [← e255]); (try rw [← e263]); first | done | rfl), (by unfold zcP; (repeat (first | rw [if_pos (by omega)] | rw [if_neg (by omega)])); (try rw [← e255]); (try rw [← e263]); first | done | rfl | assumption)⟩)
  by_cases h1_81 : b = 81
  · refine z_lsw 268 (zdec DX0_perform 1 rfl) (by decide) (by first | (rw [h1_81]; done) | (rw [h1_81]; rfl)) rfl ?_
    have hb9 : b = 81 := by assumption
    refine z_aload_n 0 (zdec DX0_perform 111 rfl) rfl rfl (by decide) ?_
    refine z_iload_n 2 (zdec DX0_perform 112 rfl) rfl rfl ?_
    refine z_iconst 3 (zdec DX0_perform 113 rfl) (by decide) ?_
    refine z_iload_n 3 (zdec DX0_perform 114 rfl) rfl rfl ?_
    refine z_iload 4 (zdec DX0_perform 115 rfl) rfl ?_
    refine z_inv mX0_from 42 0 [.inl ab, .inl 3, .inl x, .inl dep] (zdec DX0_perform 116 rfl) ml_SixWalls_Cells_45 okX0_from rfl shp42 rfl rfl rfl rfl (Nat.le_of_ble_eq_true rfl) (by omega) (b' := (0, 0)) ⟨Nat.le_refl 0, Nat.le_refl 0⟩ (Nat.le_of_ble_eq_true rfl) (hF M ab 3 x dep hK (by omega) (by omega) (by omega) (by omega) (by omega) hd hdf (by have h := hok; simp only [hb9] at h; simp [zcOP] at h; exact h)) (fun rv9 S9 M274 h9 => ?_)
    obtain ⟨rfl, rfl, e274⟩ := h9
    have g274 : zGo K self (zpw f) M M274 := by rw [e274]; exact zcF_E f _ _ _ _ hK
    have g2742 := g274.2
    change zW _ _ _ _ _ 277 [(0, .inr (.inr 42)), (1, .inl b), (2, .inl ab), (3, .inl x), (4, .inl dep)] [.inl ((zcF K self f ab 3 x M).1)] M274
    refine z_iconst 1 (zdec DX0_perform 117 rfl) (by decide) ?_
    refine z_isubw (zdec DX0_perform 118 rfl) ?_
    exact z_iret (zdec DX0_perform 119 rfl) rfl (⟨rfl, (by unfold zcP; (repeat (first | rw [if_pos (by omega)] | rw [if_neg (by omega)])); (try rw [← e274]); first | done | rfl), (by unfold zcP; (repeat (first | rw [if_pos (by omega)] | rw [if_neg (by omega)])); (try rw [← e274]); first | done | rfl | assumption)⟩)
  refine z_lsw (off := 279) 280 (zdec DX0_perform 1 rfl) (by decide) (by simp [Op.lookupswitch.offset, h1_1, Ne.symm h1_1, h1_2, Ne.symm h1_2, h1_10, Ne.symm h1_10, h1_11, Ne.symm h1_11, h1_20, Ne.symm h1_20, h1_30, Ne.symm h1_30, h1_40, Ne.symm h1_40, h1_41, Ne.symm h1_41, h1_50, Ne.symm h1_50, h1_60, Ne.symm h1_60, h1_70, Ne.symm h1_70, h1_80, Ne.symm h1_80, h1_81, Ne.symm h1_81]) rfl ?_
  refine z_iconst 0 (zdec DX0_perform 120 rfl) (by decide) ?_
  exact z_iret (zdec DX0_perform 121 rfl) rfl (⟨rfl, (by unfold zcP; (repeat (first | rw [if_pos (by omega)] | rw [if_neg (by omega)])); first | done | rfl), (by unfold zcP; (repeat (first | rw [if_pos (by omega)] | rw [if_neg (by omega)])); first | done | rfl | assumption)⟩)
