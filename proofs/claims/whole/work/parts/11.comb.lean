/-! contracts of Comb: walls of houses, what is told of them -/
/-- the wall of two houses; -1: none -/
def zwb (a b : Int) : Int := match (List.range 33).find? (fun (w : Nat) => (decide (zlow w = a) && decide (zhigh w = b)) || (decide (zlow w = b) && decide (zhigh w = a))) with
  | some w => (w : Int)
  | none => -1
theorem zwb_side : ∀ a : Nat, a < 16 → ∀ s : Nat, s < 6 → (s : Int) < zsid a → zwb a (znat (a * 6 + s : Nat)) = zwat (a * 6 + s : Nat) := by decide +kernel
theorem zwb_none : ∀ a : Nat, a < 16 → ∀ b : Nat, b < 16 → (∀ s : Nat, s < 6 → (s : Int) < zsid a → znat (a * 6 + s : Nat) ≠ b) → zwb a b = -1 := by decide +kernel
theorem zwb_sideI {a s : Int} (ha : 0 ≤ a ∧ a < 16) (hs : 0 ≤ s ∧ s < zsid a) : zwb a (znat (a * 6 + s)) = zwat (a * 6 + s) := by
  obtain ⟨n, rfl⟩ := Int.eq_ofNat_of_zero_le ha.1
  obtain ⟨k, rfl⟩ := Int.eq_ofNat_of_zero_le hs.1
  have h6 := (zsid_b n).2
  have h := zwb_side n (by omega) k (by omega) hs.2
  rw [show ((n * 6 + k : Nat) : Int) = (n : Int) * 6 + k by omega] at h
  exact h
theorem zwb_noneI {a b : Int} (ha : 0 ≤ a ∧ a < 16) (hb : 0 ≤ b ∧ b < 16) (h : ∀ s : Int, 0 ≤ s → s < zsid a → znat (a * 6 + s) ≠ b) : zwb a b = -1 := by
  obtain ⟨n, rfl⟩ := Int.eq_ofNat_of_zero_le ha.1
  obtain ⟨k, rfl⟩ := Int.eq_ofNat_of_zero_le hb.1
  refine zwb_none n (by omega) k (by omega) fun s hs h1 => ?_
  have h2 := h s (by omega) h1
  rw [show ((n * 6 + s : Nat) : Int) = (n : Int) * 6 + s by omega]
  exact h2
def ztold (M : zMm) (n what : Int) : Int := if what = 0 then M 8 n else if what = 1 then M 10 n else if what = 2 then M 11 n else if what = 3 then M 12 n else if what = 4 then M 13 n else if what = 5 then M 1 12 else M 1 13
def ztell (M : zMm) (n what v : Int) : zMm := if what = 0 then zup M 8 n v else if what = 1 then zup M 10 n v else if what = 2 then zup M 11 n v else if what = 3 then zup M 12 n v else if what = 4 then zup M 13 n v else if what = 5 then zup M 1 12 v else zup M 1 13 v
/-- a number and a thing that may be told of it -/
def zknown (n what : Int) : Prop := (what = 0 ∧ 0 ≤ n ∧ n < 16) ∨ (what = 1 ∧ 0 ≤ n ∧ n < 16) ∨ (what = 2 ∧ 0 ≤ n ∧ n < 33) ∨ (what = 3 ∧ 0 ≤ n ∧ n < 33) ∨ (what = 4 ∧ 0 ≤ n ∧ n < 33) ∨ (what = 5 ∧ n = 0) ∨ (what = 6 ∧ n = 0)
def zmay (what v : Int) : Prop := 0 ≤ v ∧ ((what = 0 ∧ v ≤ 9) ∨ (what = 1 ∧ v ≤ 9) ∨ (what = 2 ∧ v ≤ 9) ∨ (what = 3 ∧ v ≤ 1) ∨ (what = 4 ∧ v ≤ 5) ∨ (what = 5 ∧ v ≤ 9) ∨ (what = 6 ∧ 6 ≤ v ∧ v ≤ 54))
def zfit (n what v : Int) : Prop := zknown n what ∧ zmay what v
def zload (row : Int → Int) (h : Int) : Int := zfo (fun a s => a + row (zwat (h * 6 + s))) 0 (zsid h)
set_option maxHeartbeats 4000000 in
theorem lp_X1_wallBetween_2 {M : zMm} (hP : zP M) (hG : zG M) (a b : Int) (ha : 0 ≤ a ∧ a < 16) (hb : 0 ≤ b ∧ b < 16) (hx45 : (zwb a b = -1) → zW mX1_wallBetween 1 (fun rv S' M' => S' = zS0 ∧ M = M' ∧ rv = some (.inl (zwb a b))) (0, 0) zS0 45 [] [] M) : ∀ (n : Nat) (s : Int), (6 - s).toNat < n → (0 ≤ s ∧ s ≤ zsid a ∧ ∀ j : Int, 0 ≤ j → j < s → znat (a * 6 + j) ≠ b) → zW mX1_wallBetween 1 (fun rv S' M' => S' = zS0 ∧ M = M' ∧ rv = some (.inl (zwb a b))) (0, 0) zS0 2 [(0, .inr (.inr 1)), (1, .inl a), (2, .inl b), (3, .inl s)] [] M := by
  intro n
  induction n with
  | zero => intro s hn; exact absurd hn (Nat.not_lt_zero _)
  | succ n ih =>
    intro s hn hI
    have hs6 := zsid_b a
    have hsd := hG.sid ha.1 ha.2
    refine z_iload_n 3 (zdec DX1_wallBetween 2 rfl) rfl rfl ?_
    refine z_aload_n 0 (zdec DX1_wallBetween 3 rfl) rfl rfl (by decide) ?_
    refine z_getr (rw1 := -11) (ki := 2) (r' := 4) 1 1 (zdec DX1_wallBetween 4 rfl) rfl rfl shp1 rfl (by decide) rfl rfl fl_SixWalls_Comb_18 (zPa hP 11 rfl) ?_
    refine z_iload_n 1 (zdec DX1_wallBetween 5 rfl) rfl rfl ?_
    refine z_iald 4 (zdec DX1_wallBetween 6 rfl) rfl shp4 ⟨by omega, by omega⟩ ?_
    refine z_icmp_ge 45 (zdec DX1_wallBetween 7 rfl) rfl (fun h9 => ?_) (fun h9 => ?_)
    ·
      refine z_weak (L' := []) (by simp) ?_
      exact hx45  (zwb_noneI ha hb fun j h0 h1 => hI.2.2 j h0 (by omega))
    ·
      refine z_aload_n 0 (zdec DX1_wallBetween 8 rfl) rfl rfl (by decide) ?_
      refine z_getr (rw1 := -11) (ki := 4) (r' := 6) 1 1 (zdec DX1_wallBetween 9 rfl) rfl rfl shp1 rfl (by decide) rfl rfl fl_SixWalls_Comb_24 (zPa hP 13 rfl) ?_
      refine z_iload_n 1 (zdec DX1_wallBetween 10 rfl) rfl rfl ?_
      refine z_bipush 6 (zdec DX1_wallBetween 11 rfl) (by decide) ?_
      refine z_imul (zdec DX1_wallBetween 12 rfl) (by unfold z32; omega) ?_
      refine z_iload_n 3 (zdec DX1_wallBetween 13 rfl) rfl rfl ?_
      refine z_iadd (zdec DX1_wallBetween 14 rfl) (by unfold z32; omega) ?_
      refine z_iald 6 (zdec DX1_wallBetween 15 rfl) rfl shp6 ⟨by omega, by omega⟩ ?_
      refine z_iload_n 2 (zdec DX1_wallBetween 16 rfl) rfl rfl ?_
      refine z_icmp_ne 39 (zdec DX1_wallBetween 17 rfl) rfl (fun h24 => ?_) (fun h24 => ?_)
      ·
        refine z_iinc (L' := [(0, .inr (.inr 1)), (1, .inl a), (2, .inl b), (3, .inl (s + 1))]) 3 (zdec DX1_wallBetween 27 rfl) rfl (by unfold z32; omega) rfl (by decide) ?_
        refine z_goto 2 (zdec DX1_wallBetween 28 rfl) rfl ?_
        exact ih (s + 1) (by omega) ⟨by omega, by omega, fun j h0 h1 => (by by_cases hj : j = s; (subst hj; rw [← hG.nat (by omega) (by omega)]; exact h24); (exact hI.2.2 j h0 (by omega)))⟩
      ·
        refine z_aload_n 0 (zdec DX1_wallBetween 18 rfl) rfl rfl (by decide) ?_
        refine z_getr (rw1 := -11) (ki := 3) (r' := 5) 1 1 (zdec DX1_wallBetween 19 rfl) rfl rfl shp1 rfl (by decide) rfl rfl fl_SixWalls_Comb_21 (zPa hP 12 rfl) ?_
        refine z_iload_n 1 (zdec DX1_wallBetween 20 rfl) rfl rfl ?_
        refine z_bipush 6 (zdec DX1_wallBetween 21 rfl) (by decide) ?_
        refine z_imul (zdec DX1_wallBetween 22 rfl) (by unfold z32; omega) ?_
        refine z_iload_n 3 (zdec DX1_wallBetween 23 rfl) rfl rfl ?_
        refine z_iadd (zdec DX1_wallBetween 24 rfl) (by unfold z32; omega) ?_
        refine z_iald 5 (zdec DX1_wallBetween 25 rfl) rfl shp5 ⟨by omega, by omega⟩ ?_
        exact z_iret (zdec DX1_wallBetween 26 rfl) rfl (⟨rfl, rfl, zri (by rw [hG.wat (by omega) (by omega)]; have e := hG.nat (w := a * 6 + s) (by omega) (by omega); have e2 : znat (a * 6 + s) = b := (by omega); rw [← zwb_sideI ha ⟨hI.1, by omega⟩, e2])⟩)
set_option maxHeartbeats 4000000 in
theorem cX1_wallBetween {M : zMm} (hP : zP M) (hG : zG M) (a b : Int) (ha : 0 ≤ a ∧ a < 16) (hb : 0 ≤ b ∧ b < 16) : zW mX1_wallBetween 1 (fun rv S' M' => S' = zS0 ∧ M = M' ∧ rv = some (.inl (zwb a b))) (0, 0) zS0 0 (zargs 0 [.inr (.inr 1), .inl a, .inl b]) [] M := by
  change zW _ _ _ _ _ 0 [(0, .inr (.inr 1)), (1, .inl a), (2, .inl b)] [] M
  refine z_iconst 0 (zdec DX1_wallBetween 0 rfl) (by decide) ?_
  refine z_istore_n (L' := [(0, .inr (.inr 1)), (1, .inl a), (2, .inl b), (3, .inl 0)]) (zdec DX1_wallBetween 1 rfl) rfl rfl (by decide) ?_
  refine lp_X1_wallBetween_2 hP hG a b ha hb (hx45 := fun hx => ?_) _ 0 (Nat.lt_succ_self _) ⟨by omega, (zsid_b a).1, fun j h0 h1 => by omega⟩
  refine z_iconst (-1) (zdec DX1_wallBetween 29 rfl) (by decide) ?_
  exact z_iret (zdec DX1_wallBetween 30 rfl) rfl (⟨rfl, rfl, zri hx.symm⟩)
set_option maxHeartbeats 4000000 in
theorem cX1_atEdge {M : zMm} (hP : zP M) (hG : zG M) (h : Int) (hh : 0 ≤ h ∧ h < 16) : zW mX1_atEdge 1 (fun rv S' M' => S' = zS0 ∧ M = M' ∧ rv = some (.inl (zb (zsid h < 6)))) (0, 0) zS0 0 (zargs 0 [.inr (.inr 1), .inl h]) [] M := by
  change zW _ _ _ _ _ 0 [(0, .inr (.inr 1)), (1, .inl h)] [] M
  have hs := hG.sid hh.1 hh.2
  refine z_aload_n 0 (zdec DX1_atEdge 0 rfl) rfl rfl (by decide) ?_
  refine z_getr (rw1 := -11) (ki := 2) (r' := 4) 1 1 (zdec DX1_atEdge 1 rfl) rfl rfl shp1 rfl (by decide) rfl rfl fl_SixWalls_Comb_18 (zPa hP 11 rfl) ?_
  refine z_iload_n 1 (zdec DX1_atEdge 2 rfl) rfl rfl ?_
  refine z_iald 4 (zdec DX1_atEdge 3 rfl) rfl shp4 ⟨by omega, by omega⟩ ?_
  refine z_bipush 6 (zdec DX1_atEdge 4 rfl) (by decide) ?_
  refine z_icmp_ge 15 (zdec DX1_atEdge 5 rfl) rfl (fun h8 => ?_) (fun h8 => ?_)
  ·
    refine z_iconst 0 (zdec DX1_atEdge 8 rfl) (by decide) ?_
    exact z_zret (zdec DX1_atEdge 9 rfl) rfl (by omega) (⟨rfl, rfl, zri (by unfold zb; split <;> omega)⟩)
  ·
    refine z_iconst 1 (zdec DX1_atEdge 6 rfl) (by decide) ?_
    refine z_goto 16 (zdec DX1_atEdge 7 rfl) rfl ?_
    exact z_zret (zdec DX1_atEdge 9 rfl) rfl (by omega) (⟨rfl, rfl, zri (by unfold zb; split <;> omega)⟩)
set_option maxHeartbeats 4000000 in
theorem lp_X1_load_11_5 {Q : zPost} {M : zMm} (hP : zP M) (hG : zG M) (hb : ∀ w : Int, 0 ≤ w → w < 33 → 0 ≤ M 11 w ∧ M 11 w ≤ 9) (h : Int) (hh : 0 ≤ h ∧ h < 16) (hx39 : ∀ (a : Int), (a = zload (M 11) h) → zW mX1_load 1 Q (0, 0) zS0 39 [(3, .inl a)] [] M) : ∀ (n : Nat) (a : Int) (s : Int), (6 - s).toNat < n → (0 ≤ s ∧ s ≤ zsid h ∧ 0 ≤ a ∧ a ≤ 9 * s ∧ a = zfo (fun a s => a + M 11 (zwat (h * 6 + s))) 0 s) → zW mX1_load 1 Q (0, 0) zS0 5 [(0, .inr (.inr 1)), (1, .inl h), (2, .inr (.inr 11)), (3, .inl a), (4, .inl s)] [] M := by
  intro n
  induction n with
  | zero => intro a s hn; exact absurd hn (Nat.not_lt_zero _)
  | succ n ih =>
    intro a s hn hI
    have hs6 := zsid_b h
    have hsd := hG.sid hh.1 hh.2
    have hwb := zwat_b (h * 6 + s)
    have hb1 := hb _ hwb.1 hwb.2
    refine z_iload 4 (zdec DX1_load 4 rfl) rfl ?_
    refine z_aload_n 0 (zdec DX1_load 5 rfl) rfl rfl (by decide) ?_
    refine z_getr (rw1 := -11) (ki := 2) (r' := 4) 1 1 (zdec DX1_load 6 rfl) rfl rfl shp1 rfl (by decide) rfl rfl fl_SixWalls_Comb_18 (zPa hP 11 rfl) ?_
    refine z_iload_n 1 (zdec DX1_load 7 rfl) rfl rfl ?_
    refine z_iald 4 (zdec DX1_load 8 rfl) rfl shp4 ⟨by omega, by omega⟩ ?_
    refine z_icmp_ge 39 (zdec DX1_load 9 rfl) rfl (fun h13 => ?_) (fun h13 => ?_)
    ·
      refine z_weak (L' := [(3, .inl a)]) (by simp) ?_
      exact hx39 a (by have e : s = zsid h := (by omega); rw [hI.2.2.2.2, e]; rfl)
    ·
      refine z_iload_n 3 (zdec DX1_load 10 rfl) rfl rfl ?_
      refine z_aload_n 2 (zdec DX1_load 11 rfl) rfl rfl (by decide) ?_
      refine z_aload_n 0 (zdec DX1_load 12 rfl) rfl rfl (by decide) ?_
      refine z_getr (rw1 := -11) (ki := 3) (r' := 5) 1 1 (zdec DX1_load 13 rfl) rfl rfl shp1 rfl (by decide) rfl rfl fl_SixWalls_Comb_21 (zPa hP 12 rfl) ?_
      refine z_iload_n 1 (zdec DX1_load 14 rfl) rfl rfl ?_
      refine z_bipush 6 (zdec DX1_load 15 rfl) (by decide) ?_
      refine z_imul (zdec DX1_load 16 rfl) (by unfold z32; omega) ?_
      refine z_iload 4 (zdec DX1_load 17 rfl) rfl ?_
      refine z_iadd (zdec DX1_load 18 rfl) (by unfold z32; omega) ?_
      refine z_iald 5 (zdec DX1_load 19 rfl) rfl shp5 ⟨by omega, by omega⟩ ?_
      have ew := hG.wat (w := h * 6 + s) (by omega) (by omega)
      rw [ew]
      refine z_iald 11 (zdec DX1_load 20 rfl) rfl shp11 ⟨by omega, by omega⟩ ?_
      refine z_iadd (zdec DX1_load 21 rfl) (by unfold z32; omega) ?_
      refine z_istore_n (L' := [(0, .inr (.inr 1)), (1, .inl h), (2, .inr (.inr 11)), (3, .inl (a + (M 11 (zwat (h * 6 + s))))), (4, .inl s)]) (zdec DX1_load 22 rfl) rfl rfl (by decide) ?_
      refine z_iinc (L' := [(0, .inr (.inr 1)), (1, .inl h), (2, .inr (.inr 11)), (3, .inl (a + (M 11 (zwat (h * 6 + s))))), (4, .inl (s + 1))]) 4 (zdec DX1_load 23 rfl) rfl (by unfold z32; omega) rfl (by decide) ?_
      refine z_goto 5 (zdec DX1_load 24 rfl) rfl ?_
      exact ih (a + (M 11 (zwat (h * 6 + s)))) (s + 1) (by omega) ⟨by omega, by omega, by omega, by omega, by rw [zfo_s _ _ (by omega), ← hI.2.2.2.2]⟩
set_option maxHeartbeats 4000000 in
theorem cX1_load_11 {M : zMm} (hP : zP M) (hG : zG M) (hb : ∀ w : Int, 0 ≤ w → w < 33 → 0 ≤ M 11 w ∧ M 11 w ≤ 9) (h : Int) (hh : 0 ≤ h ∧ h < 16) : zW mX1_load 1 (fun rv S' M' => S' = zS0 ∧ M = M' ∧ rv = some (.inl (zload (M 11) h))) (0, 0) zS0 0 (zargs 0 [.inr (.inr 1), .inl h, .inr (.inr 11)]) [] M := by
  change zW _ _ _ _ _ 0 [(0, .inr (.inr 1)), (1, .inl h), (2, .inr (.inr 11))] [] M
  refine z_iconst 0 (zdec DX1_load 0 rfl) (by decide) ?_
  refine z_istore_n (L' := [(0, .inr (.inr 1)), (1, .inl h), (2, .inr (.inr 11)), (3, .inl 0)]) (zdec DX1_load 1 rfl) rfl rfl (by decide) ?_
  refine z_iconst 0 (zdec DX1_load 2 rfl) (by decide) ?_
  refine z_istore (L' := [(0, .inr (.inr 1)), (1, .inl h), (2, .inr (.inr 11)), (3, .inl 0), (4, .inl 0)]) (zdec DX1_load 3 rfl) rfl (by decide) ?_
  refine lp_X1_load_11_5 hP hG hb h hh (hx39 := fun a hx => ?_) _ 0 0 (Nat.lt_succ_self _) ⟨by omega, (zsid_b h).1, by omega, by omega, rfl⟩
  refine z_iload_n 0 (zdec DX1_load 25 rfl) rfl rfl ?_
  exact z_iret (zdec DX1_load 26 rfl) rfl (⟨rfl, rfl, zri hx⟩)
set_option maxHeartbeats 4000000 in
theorem lp_X1_load_28_5 {Q : zPost} {M : zMm} (hP : zP M) (hG : zG M) (hb : ∀ w : Int, 0 ≤ w → w < 33 → 0 ≤ M 28 w ∧ M 28 w ≤ 9) (h : Int) (hh : 0 ≤ h ∧ h < 16) (hx39 : ∀ (a : Int), (a = zload (M 28) h) → zW mX1_load 1 Q (0, 0) zS0 39 [(3, .inl a)] [] M) : ∀ (n : Nat) (a : Int) (s : Int), (6 - s).toNat < n → (0 ≤ s ∧ s ≤ zsid h ∧ 0 ≤ a ∧ a ≤ 9 * s ∧ a = zfo (fun a s => a + M 28 (zwat (h * 6 + s))) 0 s) → zW mX1_load 1 Q (0, 0) zS0 5 [(0, .inr (.inr 1)), (1, .inl h), (2, .inr (.inr 28)), (3, .inl a), (4, .inl s)] [] M := by
  intro n
  induction n with
  | zero => intro a s hn; exact absurd hn (Nat.not_lt_zero _)
  | succ n ih =>
    intro a s hn hI
    have hs6 := zsid_b h
    have hsd := hG.sid hh.1 hh.2
    have hwb := zwat_b (h * 6 + s)
    have hb1 := hb _ hwb.1 hwb.2
    refine z_iload 4 (zdec DX1_load 4 rfl) rfl ?_
    refine z_aload_n 0 (zdec DX1_load 5 rfl) rfl rfl (by decide) ?_
    refine z_getr (rw1 := -11) (ki := 2) (r' := 4) 1 1 (zdec DX1_load 6 rfl) rfl rfl shp1 rfl (by decide) rfl rfl fl_SixWalls_Comb_18 (zPa hP 11 rfl) ?_
    refine z_iload_n 1 (zdec DX1_load 7 rfl) rfl rfl ?_
    refine z_iald 4 (zdec DX1_load 8 rfl) rfl shp4 ⟨by omega, by omega⟩ ?_
    refine z_icmp_ge 39 (zdec DX1_load 9 rfl) rfl (fun h13 => ?_) (fun h13 => ?_)
    ·
      refine z_weak (L' := [(3, .inl a)]) (by simp) ?_
      exact hx39 a (by have e : s = zsid h := (by omega); rw [hI.2.2.2.2, e]; rfl)
    ·
      refine z_iload_n 3 (zdec DX1_load 10 rfl) rfl rfl ?_
      refine z_aload_n 2 (zdec DX1_load 11 rfl) rfl rfl (by decide) ?_
      refine z_aload_n 0 (zdec DX1_load 12 rfl) rfl rfl (by decide) ?_
      refine z_getr (rw1 := -11) (ki := 3) (r' := 5) 1 1 (zdec DX1_load 13 rfl) rfl rfl shp1 rfl (by decide) rfl rfl fl_SixWalls_Comb_21 (zPa hP 12 rfl) ?_
      refine z_iload_n 1 (zdec DX1_load 14 rfl) rfl rfl ?_
      refine z_bipush 6 (zdec DX1_load 15 rfl) (by decide) ?_
      refine z_imul (zdec DX1_load 16 rfl) (by unfold z32; omega) ?_
      refine z_iload 4 (zdec DX1_load 17 rfl) rfl ?_
      refine z_iadd (zdec DX1_load 18 rfl) (by unfold z32; omega) ?_
      refine z_iald 5 (zdec DX1_load 19 rfl) rfl shp5 ⟨by omega, by omega⟩ ?_
      have ew := hG.wat (w := h * 6 + s) (by omega) (by omega)
      rw [ew]
      refine z_iald 28 (zdec DX1_load 20 rfl) rfl shp28 ⟨by omega, by omega⟩ ?_
      refine z_iadd (zdec DX1_load 21 rfl) (by unfold z32; omega) ?_
      refine z_istore_n (L' := [(0, .inr (.inr 1)), (1, .inl h), (2, .inr (.inr 28)), (3, .inl (a + (M 28 (zwat (h * 6 + s))))), (4, .inl s)]) (zdec DX1_load 22 rfl) rfl rfl (by decide) ?_
      refine z_iinc (L' := [(0, .inr (.inr 1)), (1, .inl h), (2, .inr (.inr 28)), (3, .inl (a + (M 28 (zwat (h * 6 + s))))), (4, .inl (s + 1))]) 4 (zdec DX1_load 23 rfl) rfl (by unfold z32; omega) rfl (by decide) ?_
      refine z_goto 5 (zdec DX1_load 24 rfl) rfl ?_
      exact ih (a + (M 28 (zwat (h * 6 + s)))) (s + 1) (by omega) ⟨by omega, by omega, by omega, by omega, by rw [zfo_s _ _ (by omega), ← hI.2.2.2.2]⟩
set_option maxHeartbeats 4000000 in
theorem cX1_load_28 {M : zMm} (hP : zP M) (hG : zG M) (hb : ∀ w : Int, 0 ≤ w → w < 33 → 0 ≤ M 28 w ∧ M 28 w ≤ 9) (h : Int) (hh : 0 ≤ h ∧ h < 16) : zW mX1_load 1 (fun rv S' M' => S' = zS0 ∧ M = M' ∧ rv = some (.inl (zload (M 28) h))) (0, 0) zS0 0 (zargs 0 [.inr (.inr 1), .inl h, .inr (.inr 28)]) [] M := by
  change zW _ _ _ _ _ 0 [(0, .inr (.inr 1)), (1, .inl h), (2, .inr (.inr 28))] [] M
  refine z_iconst 0 (zdec DX1_load 0 rfl) (by decide) ?_
  refine z_istore_n (L' := [(0, .inr (.inr 1)), (1, .inl h), (2, .inr (.inr 28)), (3, .inl 0)]) (zdec DX1_load 1 rfl) rfl rfl (by decide) ?_
  refine z_iconst 0 (zdec DX1_load 2 rfl) (by decide) ?_
  refine z_istore (L' := [(0, .inr (.inr 1)), (1, .inl h), (2, .inr (.inr 28)), (3, .inl 0), (4, .inl 0)]) (zdec DX1_load 3 rfl) rfl (by decide) ?_
  refine lp_X1_load_28_5 hP hG hb h hh (hx39 := fun a hx => ?_) _ 0 0 (Nat.lt_succ_self _) ⟨by omega, (zsid_b h).1, by omega, by omega, rfl⟩
  refine z_iload_n 0 (zdec DX1_load 25 rfl) rfl rfl ?_
  exact z_iret (zdec DX1_load 26 rfl) rfl (⟨rfl, rfl, zri hx⟩)
theorem zfit_iff {n what v : Int} : zfit n what v ↔ (zknown n what ∧ zmay what v) := Iff.rfl
set_option maxHeartbeats 4000000 in
theorem cX1_fits {M : zMm} (n what v : Int) : zW mX1_fits 3 (fun rv S' M' => S' = zS0 ∧ M = M' ∧ ∃ r, rv = some (.inl r) ∧ ((r = 1 ∧ zfit n what v) ∨ (r = 0 ∧ ¬ zfit n what v))) (0, 0) zS0 0 (zargs 0 [.inr (.inr 1), .inl n, .inl what, .inl v]) [] M := by
  change zW _ _ _ _ _ 0 [(0, .inr (.inr 1)), (1, .inl n), (2, .inl what), (3, .inl v)] [] M
  refine z_iload_n 2 (zdec DX1_fits 0 rfl) rfl rfl ?_
  refine z_tsw (zdec DX1_fits 1 rfl) (by decide) (fun j off hj he => ?_) (fun hd => ?_)
  · match j, hj, he with
    | 0, hj, he =>
      cases hj
      refine ⟨44, rfl, ?_⟩
      have h1 : what = 0 := by simpa using he
      refine z_iload_n 1 (zdec DX1_fits 2 rfl) rfl rfl ?_
      refine z_invs mX9_isHouse [.inl n] (zdec DX1_fits 3 rfl) (Or.inr mn_SixWalls_Comb_72) okX9_isHouse rfl rfl (Nat.le_of_ble_eq_true rfl) (Nat.le_of_ble_eq_true rfl) (b' := (0, 0)) ⟨Nat.le_refl 0, Nat.le_refl 0⟩ (Nat.le_of_ble_eq_true rfl) (cX9_isHouse n) (fun rv9 S9 M45 h9 => ?_)
      obtain ⟨rfl, rfl, rfl⟩ := h9
      change zW _ _ _ _ _ 48 [(0, .inr (.inr 1)), (1, .inl n), (2, .inl what), (3, .inl v)] [.inl (zb (0 ≤ n ∧ n < 16))] M
      refine z_if_eq 65 (zdec DX1_fits 4 rfl) rfl (fun h48 => ?_) (fun h48 => ?_)
      ·
        refine z_iconst 0 (zdec DX1_fits 12 rfl) (by decide) ?_
        exact z_zret (zdec DX1_fits 13 rfl) rfl (by omega) (⟨rfl, rfl, _, rfl, by (try simp only [zb_ne0, zb_eq0] at *); first | exact Or.inl ⟨by trivial, by unfold zfit zknown zmay; subst h1; simp; omega⟩ | exact Or.inr ⟨by trivial, fun hf => by unfold zfit zknown zmay at hf; subst h1; simp at hf; omega⟩ | exact Or.inr ⟨by trivial, fun hf => by unfold zfit zknown zmay at hf; omega⟩⟩)
      ·
        refine z_iload_n 3 (zdec DX1_fits 5 rfl) rfl rfl ?_
        refine z_iconst 0 (zdec DX1_fits 6 rfl) (by decide) ?_
        refine z_bipush 9 (zdec DX1_fits 7 rfl) (by decide) ?_
        refine z_invs mX9_within [.inl v, .inl 0, .inl 9] (zdec DX1_fits 8 rfl) (Or.inr mn_SixWalls_Comb_76) okX9_within rfl rfl (Nat.le_of_ble_eq_true rfl) (Nat.le_of_ble_eq_true rfl) (b' := (0, 0)) ⟨Nat.le_refl 0, Nat.le_refl 0⟩ (Nat.le_of_ble_eq_true rfl) (cX9_within v 0 9) (fun rv9 S9 M55 h9 => ?_)
        obtain ⟨rfl, rfl, rfl⟩ := h9
        change zW _ _ _ _ _ 58 [(0, .inr (.inr 1)), (1, .inl n), (2, .inl what), (3, .inl v)] [.inl (zb (0 ≤ v ∧ v ≤ 9))] M
        refine z_if_eq 65 (zdec DX1_fits 9 rfl) rfl (fun h58 => ?_) (fun h58 => ?_)
        ·
          refine z_iconst 0 (zdec DX1_fits 12 rfl) (by decide) ?_
          exact z_zret (zdec DX1_fits 13 rfl) rfl (by omega) (⟨rfl, rfl, _, rfl, by (try simp only [zb_ne0, zb_eq0] at *); first | exact Or.inl ⟨by trivial, by unfold zfit zknown zmay; subst h1; simp; omega⟩ | exact Or.inr ⟨by trivial, fun hf => by unfold zfit zknown zmay at hf; subst h1; simp at hf; omega⟩ | exact Or.inr ⟨by trivial, fun hf => by unfold zfit zknown zmay at hf; omega⟩⟩)
        ·
          refine z_iconst 1 (zdec DX1_fits 10 rfl) (by decide) ?_
          refine z_goto 66 (zdec DX1_fits 11 rfl) rfl ?_
          exact z_zret (zdec DX1_fits 13 rfl) rfl (by omega) (⟨rfl, rfl, _, rfl, by (try simp only [zb_ne0, zb_eq0] at *); first | exact Or.inl ⟨by trivial, by unfold zfit zknown zmay; subst h1; simp; omega⟩ | exact Or.inr ⟨by trivial, fun hf => by unfold zfit zknown zmay at hf; subst h1; simp at hf; omega⟩ | exact Or.inr ⟨by trivial, fun hf => by unfold zfit zknown zmay at hf; omega⟩⟩)
    | 1, hj, he =>
      cases hj
      refine ⟨67, rfl, ?_⟩
      have h1 : what = 1 := by simpa using he
      refine z_iload_n 1 (zdec DX1_fits 14 rfl) rfl rfl ?_
      refine z_invs mX9_isHouse [.inl n] (zdec DX1_fits 15 rfl) (Or.inr mn_SixWalls_Comb_72) okX9_isHouse rfl rfl (Nat.le_of_ble_eq_true rfl) (Nat.le_of_ble_eq_true rfl) (b' := (0, 0)) ⟨Nat.le_refl 0, Nat.le_refl 0⟩ (Nat.le_of_ble_eq_true rfl) (cX9_isHouse n) (fun rv9 S9 M68 h9 => ?_)
      obtain ⟨rfl, rfl, rfl⟩ := h9
      change zW _ _ _ _ _ 71 [(0, .inr (.inr 1)), (1, .inl n), (2, .inl what), (3, .inl v)] [.inl (zb (0 ≤ n ∧ n < 16))] M
      refine z_if_eq 88 (zdec DX1_fits 16 rfl) rfl (fun h71 => ?_) (fun h71 => ?_)
      ·
        refine z_iconst 0 (zdec DX1_fits 24 rfl) (by decide) ?_
        exact z_zret (zdec DX1_fits 25 rfl) rfl (by omega) (⟨rfl, rfl, _, rfl, by (try simp only [zb_ne0, zb_eq0] at *); first | exact Or.inl ⟨by trivial, by unfold zfit zknown zmay; subst h1; simp; omega⟩ | exact Or.inr ⟨by trivial, fun hf => by unfold zfit zknown zmay at hf; subst h1; simp at hf; omega⟩ | exact Or.inr ⟨by trivial, fun hf => by unfold zfit zknown zmay at hf; omega⟩⟩)
      ·
        refine z_iload_n 3 (zdec DX1_fits 17 rfl) rfl rfl ?_
        refine z_iconst 0 (zdec DX1_fits 18 rfl) (by decide) ?_
        refine z_bipush 9 (zdec DX1_fits 19 rfl) (by decide) ?_
        refine z_invs mX9_within [.inl v, .inl 0, .inl 9] (zdec DX1_fits 20 rfl) (Or.inr mn_SixWalls_Comb_76) okX9_within rfl rfl (Nat.le_of_ble_eq_true rfl) (Nat.le_of_ble_eq_true rfl) (b' := (0, 0)) ⟨Nat.le_refl 0, Nat.le_refl 0⟩ (Nat.le_of_ble_eq_true rfl) (cX9_within v 0 9) (fun rv9 S9 M78 h9 => ?_)
        obtain ⟨rfl, rfl, rfl⟩ := h9
        change zW _ _ _ _ _ 81 [(0, .inr (.inr 1)), (1, .inl n), (2, .inl what), (3, .inl v)] [.inl (zb (0 ≤ v ∧ v ≤ 9))] M
        refine z_if_eq 88 (zdec DX1_fits 21 rfl) rfl (fun h81 => ?_) (fun h81 => ?_)
        ·
          refine z_iconst 0 (zdec DX1_fits 24 rfl) (by decide) ?_
          exact z_zret (zdec DX1_fits 25 rfl) rfl (by omega) (⟨rfl, rfl, _, rfl, by (try simp only [zb_ne0, zb_eq0] at *); first | exact Or.inl ⟨by trivial, by unfold zfit zknown zmay; subst h1; simp; omega⟩ | exact Or.inr ⟨by trivial, fun hf => by unfold zfit zknown zmay at hf; subst h1; simp at hf; omega⟩ | exact Or.inr ⟨by trivial, fun hf => by unfold zfit zknown zmay at hf; omega⟩⟩)
        ·
          refine z_iconst 1 (zdec DX1_fits 22 rfl) (by decide) ?_
          refine z_goto 89 (zdec DX1_fits 23 rfl) rfl ?_
          exact z_zret (zdec DX1_fits 25 rfl) rfl (by omega) (⟨rfl, rfl, _, rfl, by (try simp only [zb_ne0, zb_eq0] at *); first | exact Or.inl ⟨by trivial, by unfold zfit zknown zmay; subst h1; simp; omega⟩ | exact Or.inr ⟨by trivial, fun hf => by unfold zfit zknown zmay at hf; subst h1; simp at hf; omega⟩ | exact Or.inr ⟨by trivial, fun hf => by unfold zfit zknown zmay at hf; omega⟩⟩)
    | 2, hj, he =>
      cases hj
      refine ⟨90, rfl, ?_⟩
      have h1 : what = 2 := by simpa using he
      refine z_iload_n 1 (zdec DX1_fits 26 rfl) rfl rfl ?_
      refine z_invs mX9_isWall [.inl n] (zdec DX1_fits 27 rfl) (Or.inr mn_SixWalls_Comb_80) okX9_isWall rfl rfl (Nat.le_of_ble_eq_true rfl) (Nat.le_of_ble_eq_true rfl) (b' := (0, 0)) ⟨Nat.le_refl 0, Nat.le_refl 0⟩ (Nat.le_of_ble_eq_true rfl) (cX9_isWall n) (fun rv9 S9 M91 h9 => ?_)
      obtain ⟨rfl, rfl, rfl⟩ := h9
      change zW _ _ _ _ _ 94 [(0, .inr (.inr 1)), (1, .inl n), (2, .inl what), (3, .inl v)] [.inl (zb (0 ≤ n ∧ n < 33))] M
      refine z_if_eq 111 (zdec DX1_fits 28 rfl) rfl (fun h94 => ?_) (fun h94 => ?_)
      ·
        refine z_iconst 0 (zdec DX1_fits 36 rfl) (by decide) ?_
        exact z_zret (zdec DX1_fits 37 rfl) rfl (by omega) (⟨rfl, rfl, _, rfl, by (try simp only [zb_ne0, zb_eq0] at *); first | exact Or.inl ⟨by trivial, by unfold zfit zknown zmay; subst h1; simp; omega⟩ | exact Or.inr ⟨by trivial, fun hf => by unfold zfit zknown zmay at hf; subst h1; simp at hf; omega⟩ | exact Or.inr ⟨by trivial, fun hf => by unfold zfit zknown zmay at hf; omega⟩⟩)
      ·
        refine z_iload_n 3 (zdec DX1_fits 29 rfl) rfl rfl ?_
        refine z_iconst 0 (zdec DX1_fits 30 rfl) (by decide) ?_
        refine z_bipush 9 (zdec DX1_fits 31 rfl) (by decide) ?_
        refine z_invs mX9_within [.inl v, .inl 0, .inl 9] (zdec DX1_fits 32 rfl) (Or.inr mn_SixWalls_Comb_76) okX9_within rfl rfl (Nat.le_of_ble_eq_true rfl) (Nat.le_of_ble_eq_true rfl) (b' := (0, 0)) ⟨Nat.le_refl 0, Nat.le_refl 0⟩ (Nat.le_of_ble_eq_true rfl) (cX9_within v 0 9) (fun rv9 S9 M101 h9 => ?_)
        obtain ⟨rfl, rfl, rfl⟩ := h9
        change zW _ _ _ _ _ 104 [(0, .inr (.inr 1)), (1, .inl n), (2, .inl what), (3, .inl v)] [.inl (zb (0 ≤ v ∧ v ≤ 9))] M
        refine z_if_eq 111 (zdec DX1_fits 33 rfl) rfl (fun h104 => ?_) (fun h104 => ?_)
        ·
          refine z_iconst 0 (zdec DX1_fits 36 rfl) (by decide) ?_
          exact z_zret (zdec DX1_fits 37 rfl) rfl (by omega) (⟨rfl, rfl, _, rfl, by (try simp only [zb_ne0, zb_eq0] at *); first | exact Or.inl ⟨by trivial, by unfold zfit zknown zmay; subst h1; simp; omega⟩ | exact Or.inr ⟨by trivial, fun hf => by unfold zfit zknown zmay at hf; subst h1; simp at hf; omega⟩ | exact Or.inr ⟨by trivial, fun hf => by unfold zfit zknown zmay at hf; omega⟩⟩)
        ·
          refine z_iconst 1 (zdec DX1_fits 34 rfl) (by decide) ?_
          refine z_goto 112 (zdec DX1_fits 35 rfl) rfl ?_
          exact z_zret (zdec DX1_fits 37 rfl) rfl (by omega) (⟨rfl, rfl, _, rfl, by (try simp only [zb_ne0, zb_eq0] at *); first | exact Or.inl ⟨by trivial, by unfold zfit zknown zmay; subst h1; simp; omega⟩ | exact Or.inr ⟨by trivial, fun hf => by unfold zfit zknown zmay at hf; subst h1; simp at hf; omega⟩ | exact Or.inr ⟨by trivial, fun hf => by unfold zfit zknown zmay at hf; omega⟩⟩)
    | 3, hj, he =>
      cases hj
      refine ⟨113, rfl, ?_⟩
      have h1 : what = 3 := by simpa using he
      refine z_iload_n 1 (zdec DX1_fits 38 rfl) rfl rfl ?_
      refine z_invs mX9_isWall [.inl n] (zdec DX1_fits 39 rfl) (Or.inr mn_SixWalls_Comb_80) okX9_isWall rfl rfl (Nat.le_of_ble_eq_true rfl) (Nat.le_of_ble_eq_true rfl) (b' := (0, 0)) ⟨Nat.le_refl 0, Nat.le_refl 0⟩ (Nat.le_of_ble_eq_true rfl) (cX9_isWall n) (fun rv9 S9 M114 h9 => ?_)
      obtain ⟨rfl, rfl, rfl⟩ := h9
      change zW _ _ _ _ _ 117 [(0, .inr (.inr 1)), (1, .inl n), (2, .inl what), (3, .inl v)] [.inl (zb (0 ≤ n ∧ n < 33))] M
      refine z_if_eq 133 (zdec DX1_fits 40 rfl) rfl (fun h117 => ?_) (fun h117 => ?_)
      ·
        refine z_iconst 0 (zdec DX1_fits 48 rfl) (by decide) ?_
        exact z_zret (zdec DX1_fits 49 rfl) rfl (by omega) (⟨rfl, rfl, _, rfl, by (try simp only [zb_ne0, zb_eq0] at *); first | exact Or.inl ⟨by trivial, by unfold zfit zknown zmay; subst h1; simp; omega⟩ | exact Or.inr ⟨by trivial, fun hf => by unfold zfit zknown zmay at hf; subst h1; simp at hf; omega⟩ | exact Or.inr ⟨by trivial, fun hf => by unfold zfit zknown zmay at hf; omega⟩⟩)
      ·
        refine z_iload_n 3 (zdec DX1_fits 41 rfl) rfl rfl ?_
        refine z_iconst 0 (zdec DX1_fits 42 rfl) (by decide) ?_
        refine z_iconst 1 (zdec DX1_fits 43 rfl) (by decide) ?_
        refine z_invs mX9_within [.inl v, .inl 0, .inl 1] (zdec DX1_fits 44 rfl) (Or.inr mn_SixWalls_Comb_76) okX9_within rfl rfl (Nat.le_of_ble_eq_true rfl) (Nat.le_of_ble_eq_true rfl) (b' := (0, 0)) ⟨Nat.le_refl 0, Nat.le_refl 0⟩ (Nat.le_of_ble_eq_true rfl) (cX9_within v 0 1) (fun rv9 S9 M123 h9 => ?_)
        obtain ⟨rfl, rfl, rfl⟩ := h9
        change zW _ _ _ _ _ 126 [(0, .inr (.inr 1)), (1, .inl n), (2, .inl what), (3, .inl v)] [.inl (zb (0 ≤ v ∧ v ≤ 1))] M
        refine z_if_eq 133 (zdec DX1_fits 45 rfl) rfl (fun h126 => ?_) (fun h126 => ?_)
        ·
          refine z_iconst 0 (zdec DX1_fits 48 rfl) (by decide) ?_
          exact z_zret (zdec DX1_fits 49 rfl) rfl (by omega) (⟨rfl, rfl, _, rfl, by (try simp only [zb_ne0, zb_eq0] at *); first | exact Or.inl ⟨by trivial, by unfold zfit zknown zmay; subst h1; simp; omega⟩ | exact Or.inr ⟨by trivial, fun hf => by unfold zfit zknown zmay at hf; subst h1; simp at hf; omega⟩ | exact Or.inr ⟨by trivial, fun hf => by unfold zfit zknown zmay at hf; omega⟩⟩)
        ·
          refine z_iconst 1 (zdec DX1_fits 46 rfl) (by decide) ?_
          refine z_goto 134 (zdec DX1_fits 47 rfl) rfl ?_
          exact z_zret (zdec DX1_fits 49 rfl) rfl (by omega) (⟨rfl, rfl, _, rfl, by (try simp only [zb_ne0, zb_eq0] at *); first | exact Or.inl ⟨by trivial, by unfold zfit zknown zmay; subst h1; simp; omega⟩ | exact Or.inr ⟨by trivial, fun hf => by unfold zfit zknown zmay at hf; subst h1; simp at hf; omega⟩ | exact Or.inr ⟨by trivial, fun hf => by unfold zfit zknown zmay at hf; omega⟩⟩)
    | 4, hj, he =>
      cases hj
      refine ⟨135, rfl, ?_⟩
      have h1 : what = 4 := by simpa using he
      refine z_iload_n 1 (zdec DX1_fits 50 rfl) rfl rfl ?_
      refine z_invs mX9_isWall [.inl n] (zdec DX1_fits 51 rfl) (Or.inr mn_SixWalls_Comb_80) okX9_isWall rfl rfl (Nat.le_of_ble_eq_true rfl) (Nat.le_of_ble_eq_true rfl) (b' := (0, 0)) ⟨Nat.le_refl 0, Nat.le_refl 0⟩ (Nat.le_of_ble_eq_true rfl) (cX9_isWall n) (fun rv9 S9 M136 h9 => ?_)
      obtain ⟨rfl, rfl, rfl⟩ := h9
      change zW _ _ _ _ _ 139 [(0, .inr (.inr 1)), (1, .inl n), (2, .inl what), (3, .inl v)] [.inl (zb (0 ≤ n ∧ n < 33))] M
      refine z_if_eq 155 (zdec DX1_fits 52 rfl) rfl (fun h139 => ?_) (fun h139 => ?_)
      ·
        refine z_iconst 0 (zdec DX1_fits 60 rfl) (by decide) ?_
        exact z_zret (zdec DX1_fits 61 rfl) rfl (by omega) (⟨rfl, rfl, _, rfl, by (try simp only [zb_ne0, zb_eq0] at *); first | exact Or.inl ⟨by trivial, by unfold zfit zknown zmay; subst h1; simp; omega⟩ | exact Or.inr ⟨by trivial, fun hf => by unfold zfit zknown zmay at hf; subst h1; simp at hf; omega⟩ | exact Or.inr ⟨by trivial, fun hf => by unfold zfit zknown zmay at hf; omega⟩⟩)
      ·
        refine z_iload_n 3 (zdec DX1_fits 53 rfl) rfl rfl ?_
        refine z_iconst 0 (zdec DX1_fits 54 rfl) (by decide) ?_
        refine z_iconst 5 (zdec DX1_fits 55 rfl) (by decide) ?_
        refine z_invs mX9_within [.inl v, .inl 0, .inl 5] (zdec DX1_fits 56 rfl) (Or.inr mn_SixWalls_Comb_76) okX9_within rfl rfl (Nat.le_of_ble_eq_true rfl) (Nat.le_of_ble_eq_true rfl) (b' := (0, 0)) ⟨Nat.le_refl 0, Nat.le_refl 0⟩ (Nat.le_of_ble_eq_true rfl) (cX9_within v 0 5) (fun rv9 S9 M145 h9 => ?_)
        obtain ⟨rfl, rfl, rfl⟩ := h9
        change zW _ _ _ _ _ 148 [(0, .inr (.inr 1)), (1, .inl n), (2, .inl what), (3, .inl v)] [.inl (zb (0 ≤ v ∧ v ≤ 5))] M
        refine z_if_eq 155 (zdec DX1_fits 57 rfl) rfl (fun h148 => ?_) (fun h148 => ?_)
        ·
          refine z_iconst 0 (zdec DX1_fits 60 rfl) (by decide) ?_
          exact z_zret (zdec DX1_fits 61 rfl) rfl (by omega) (⟨rfl, rfl, _, rfl, by (try simp only [zb_ne0, zb_eq0] at *); first | exact Or.inl ⟨by trivial, by unfold zfit zknown zmay; subst h1; simp; omega⟩ | exact Or.inr ⟨by trivial, fun hf => by unfold zfit zknown zmay at hf; subst h1; simp at hf; omega⟩ | exact Or.inr ⟨by trivial, fun hf => by unfold zfit zknown zmay at hf; omega⟩⟩)
        ·
          refine z_iconst 1 (zdec DX1_fits 58 rfl) (by decide) ?_
          refine z_goto 156 (zdec DX1_fits 59 rfl) rfl ?_
          exact z_zret (zdec DX1_fits 61 rfl) rfl (by omega) (⟨rfl, rfl, _, rfl, by (try simp only [zb_ne0, zb_eq0] at *); first | exact Or.inl ⟨by trivial, by unfold zfit zknown zmay; subst h1; simp; omega⟩ | exact Or.inr ⟨by trivial, fun hf => by unfold zfit zknown zmay at hf; subst h1; simp at hf; omega⟩ | exact Or.inr ⟨by trivial, fun hf => by unfold zfit zknown zmay at hf; omega⟩⟩)
    | 5, hj, he =>
      cases hj
      refine ⟨157, rfl, ?_⟩
      have h1 : what = 5 := by simpa using he
      refine z_iload_n 1 (zdec DX1_fits 62 rfl) rfl rfl ?_
      refine z_if_ne 175 (zdec DX1_fits 63 rfl) rfl (fun h158 => ?_) (fun h158 => ?_)
      ·
        refine z_iconst 0 (zdec DX1_fits 71 rfl) (by decide) ?_
        exact z_zret (zdec DX1_fits 72 rfl) rfl (by omega) (⟨rfl, rfl, _, rfl, by (try simp only [zb_ne0, zb_eq0] at *); first | exact Or.inl ⟨by trivial, by unfold zfit zknown zmay; subst h1; simp; omega⟩ | exact Or.inr ⟨by trivial, fun hf => by unfold zfit zknown zmay at hf; subst h1; simp at hf; omega⟩ | exact Or.inr ⟨by trivial, fun hf => by unfold zfit zknown zmay at hf; omega⟩⟩)
      ·
        refine z_iload_n 3 (zdec DX1_fits 64 rfl) rfl rfl ?_
        refine z_iconst 0 (zdec DX1_fits 65 rfl) (by decide) ?_
        refine z_bipush 9 (zdec DX1_fits 66 rfl) (by decide) ?_
        refine z_invs mX9_within [.inl v, .inl 0, .inl 9] (zdec DX1_fits 67 rfl) (Or.inr mn_SixWalls_Comb_76) okX9_within rfl rfl (Nat.le_of_ble_eq_true rfl) (Nat.le_of_ble_eq_true rfl) (b' := (0, 0)) ⟨Nat.le_refl 0, Nat.le_refl 0⟩ (Nat.le_of_ble_eq_true rfl) (cX9_within v 0 9) (fun rv9 S9 M165 h9 => ?_)
        obtain ⟨rfl, rfl, rfl⟩ := h9
        change zW _ _ _ _ _ 168 [(0, .inr (.inr 1)), (1, .inl n), (2, .inl what), (3, .inl v)] [.inl (zb (0 ≤ v ∧ v ≤ 9))] M
        refine z_if_eq 175 (zdec DX1_fits 68 rfl) rfl (fun h168 => ?_) (fun h168 => ?_)
        ·
          refine z_iconst 0 (zdec DX1_fits 71 rfl) (by decide) ?_
          exact z_zret (zdec DX1_fits 72 rfl) rfl (by omega) (⟨rfl, rfl, _, rfl, by (try simp only [zb_ne0, zb_eq0] at *); first | exact Or.inl ⟨by trivial, by unfold zfit zknown zmay; subst h1; simp; omega⟩ | exact Or.inr ⟨by trivial, fun hf => by unfold zfit zknown zmay at hf; subst h1; simp at hf; omega⟩ | exact Or.inr ⟨by trivial, fun hf => by unfold zfit zknown zmay at hf; omega⟩⟩)
        ·
          refine z_iconst 1 (zdec DX1_fits 69 rfl) (by decide) ?_
          refine z_goto 176 (zdec DX1_fits 70 rfl) rfl ?_
          exact z_zret (zdec DX1_fits 72 rfl) rfl (by omega) (⟨rfl, rfl, _, rfl, by (try simp only [zb_ne0, zb_eq0] at *); first | exact Or.inl ⟨by trivial, by unfold zfit zknown zmay; subst h1; simp; omega⟩ | exact Or.inr ⟨by trivial, fun hf => by unfold zfit zknown zmay at hf; subst h1; simp at hf; omega⟩ | exact Or.inr ⟨by trivial, fun hf => by unfold zfit zknown zmay at hf; omega⟩⟩)
    | 6, hj, he =>
      cases hj
      refine ⟨177, rfl, ?_⟩
      have h1 : what = 6 := by simpa using he
      refine z_iload_n 1 (zdec DX1_fits 73 rfl) rfl rfl ?_
      refine z_if_ne 196 (zdec DX1_fits 74 rfl) rfl (fun h178 => ?_) (fun h178 => ?_)
      ·
        refine z_iconst 0 (zdec DX1_fits 82 rfl) (by decide) ?_
        exact z_zret (zdec DX1_fits 83 rfl) rfl (by omega) (⟨rfl, rfl, _, rfl, by (try simp only [zb_ne0, zb_eq0] at *); first | exact Or.inl ⟨by trivial, by unfold zfit zknown zmay; subst h1; simp; omega⟩ | exact Or.inr ⟨by trivial, fun hf => by unfold zfit zknown zmay at hf; subst h1; simp at hf; omega⟩ | exact Or.inr ⟨by trivial, fun hf => by unfold zfit zknown zmay at hf; omega⟩⟩)
      ·
        refine z_iload_n 3 (zdec DX1_fits 75 rfl) rfl rfl ?_
        refine z_bipush 6 (zdec DX1_fits 76 rfl) (by decide) ?_
        refine z_bipush 54 (zdec DX1_fits 77 rfl) (by decide) ?_
        refine z_invs mX9_within [.inl v, .inl 6, .inl 54] (zdec DX1_fits 78 rfl) (Or.inr mn_SixWalls_Comb_76) okX9_within rfl rfl (Nat.le_of_ble_eq_true rfl) (Nat.le_of_ble_eq_true rfl) (b' := (0, 0)) ⟨Nat.le_refl 0, Nat.le_refl 0⟩ (Nat.le_of_ble_eq_true rfl) (cX9_within v 6 54) (fun rv9 S9 M186 h9 => ?_)
        obtain ⟨rfl, rfl, rfl⟩ := h9
        change zW _ _ _ _ _ 189 [(0, .inr (.inr 1)), (1, .inl n), (2, .inl what), (3, .inl v)] [.inl (zb (6 ≤ v ∧ v ≤ 54))] M
        refine z_if_eq 196 (zdec DX1_fits 79 rfl) rfl (fun h189 => ?_) (fun h189 => ?_)
        ·
          refine z_iconst 0 (zdec DX1_fits 82 rfl) (by decide) ?_
          exact z_zret (zdec DX1_fits 83 rfl) rfl (by omega) (⟨rfl, rfl, _, rfl, by (try simp only [zb_ne0, zb_eq0] at *); first | exact Or.inl ⟨by trivial, by unfold zfit zknown zmay; subst h1; simp; omega⟩ | exact Or.inr ⟨by trivial, fun hf => by unfold zfit zknown zmay at hf; subst h1; simp at hf; omega⟩ | exact Or.inr ⟨by trivial, fun hf => by unfold zfit zknown zmay at hf; omega⟩⟩)
        ·
          refine z_iconst 1 (zdec DX1_fits 80 rfl) (by decide) ?_
          refine z_goto 197 (zdec DX1_fits 81 rfl) rfl ?_
          exact z_zret (zdec DX1_fits 83 rfl) rfl (by omega) (⟨rfl, rfl, _, rfl, by (try simp only [zb_ne0, zb_eq0] at *); first | exact Or.inl ⟨by trivial, by unfold zfit zknown zmay; subst h1; simp; omega⟩ | exact Or.inr ⟨by trivial, fun hf => by unfold zfit zknown zmay at hf; subst h1; simp at hf; omega⟩ | exact Or.inr ⟨by trivial, fun hf => by unfold zfit zknown zmay at hf; omega⟩⟩)
    | j + 7, hj, he => exact absurd (List.getElem?_eq_some_iff.mp hj).1 (by simp)
  · refine ⟨198, rfl, ?_⟩
    refine z_iconst 0 (zdec DX1_fits 84 rfl) (by decide) ?_
    exact z_zret (zdec DX1_fits 85 rfl) rfl (by omega) (⟨rfl, rfl, _, rfl, by (try simp only [zb_ne0, zb_eq0] at *); first | exact Or.inl ⟨by trivial, by unfold zfit zknown zmay; subst h1; simp; omega⟩ | exact Or.inr ⟨by trivial, fun hf => by unfold zfit zknown zmay at hf; subst h1; simp at hf; omega⟩ | exact Or.inr ⟨by trivial, fun hf => by unfold zfit zknown zmay at hf; omega⟩⟩)
set_option maxHeartbeats 4000000 in
theorem cX1_told {M : zMm} (hP : zP M) (n what : Int) (hk : zknown n what) : zW mX1_told 1 (fun rv S' M' => S' = zS0 ∧ M = M' ∧ rv = some (.inl (ztold M n what))) (0, 0) zS0 0 (zargs 0 [.inr (.inr 1), .inl n, .inl what]) [] M := by
  change zW _ _ _ _ _ 0 [(0, .inr (.inr 1)), (1, .inl n), (2, .inl what)] [] M
  unfold zknown at hk
  refine z_iload_n 2 (zdec DX1_told 0 rfl) rfl rfl ?_
  refine z_tsw (zdec DX1_told 1 rfl) (by decide) (fun j off hj he => ?_) (fun hd => ?_)
  · match j, hj, he with
    | 0, hj, he =>
      cases hj
      refine ⟨40, rfl, ?_⟩
      have h1 : what = 0 := by simpa using he
      refine z_aload_n 0 (zdec DX1_told 2 rfl) rfl rfl (by decide) ?_
      refine z_getr (rw1 := -11) (ki := 6) (r' := 8) 1 1 (zdec DX1_told 3 rfl) rfl rfl shp1 rfl (by decide) rfl rfl fl_SixWalls_Comb_30 (zPa hP 15 rfl) ?_
      refine z_iload_n 1 (zdec DX1_told 4 rfl) rfl rfl ?_
      refine z_iald 8 (zdec DX1_told 5 rfl) rfl shp8 ⟨by omega, by omega⟩ ?_
      exact z_iret (zdec DX1_told 6 rfl) rfl (⟨rfl, rfl, zri (by unfold ztold; (repeat (first | rw [if_pos (by omega)] | rw [if_neg (by omega)])))⟩)
    | 1, hj, he =>
      cases hj
      refine ⟨47, rfl, ?_⟩
      have h1 : what = 1 := by simpa using he
      refine z_aload_n 0 (zdec DX1_told 7 rfl) rfl rfl (by decide) ?_
      refine z_getr (rw1 := -11) (ki := 8) (r' := 10) 1 1 (zdec DX1_told 8 rfl) rfl rfl shp1 rfl (by decide) rfl rfl fl_SixWalls_Comb_36 (zPa hP 17 rfl) ?_
      refine z_iload_n 1 (zdec DX1_told 9 rfl) rfl rfl ?_
      refine z_iald 10 (zdec DX1_told 10 rfl) rfl shp10 ⟨by omega, by omega⟩ ?_
      exact z_iret (zdec DX1_told 11 rfl) rfl (⟨rfl, rfl, zri (by unfold ztold; (repeat (first | rw [if_pos (by omega)] | rw [if_neg (by omega)])))⟩)
    | 2, hj, he =>
      cases hj
      refine ⟨54, rfl, ?_⟩
      have h1 : what = 2 := by simpa using he
      refine z_aload_n 0 (zdec DX1_told 12 rfl) rfl rfl (by decide) ?_
      refine z_getr (rw1 := -11) (ki := 9) (r' := 11) 1 1 (zdec DX1_told 13 rfl) rfl rfl shp1 rfl (by decide) rfl rfl fl_SixWalls_Comb_39 (zPa hP 18 rfl) ?_
      refine z_iload_n 1 (zdec DX1_told 14 rfl) rfl rfl ?_
      refine z_iald 11 (zdec DX1_told 15 rfl) rfl shp11 ⟨by omega, by omega⟩ ?_
      exact z_iret (zdec DX1_told 16 rfl) rfl (⟨rfl, rfl, zri (by unfold ztold; (repeat (first | rw [if_pos (by omega)] | rw [if_neg (by omega)])))⟩)
    | 3, hj, he =>
      cases hj
      refine ⟨61, rfl, ?_⟩
      have h1 : what = 3 := by simpa using he
      refine z_aload_n 0 (zdec DX1_told 17 rfl) rfl rfl (by decide) ?_
      refine z_getr (rw1 := -11) (ki := 10) (r' := 12) 1 1 (zdec DX1_told 18 rfl) rfl rfl shp1 rfl (by decide) rfl rfl fl_SixWalls_Comb_42 (zPa hP 19 rfl) ?_
      refine z_iload_n 1 (zdec DX1_told 19 rfl) rfl rfl ?_
      refine z_iald 12 (zdec DX1_told 20 rfl) rfl shp12 ⟨by omega, by omega⟩ ?_
      exact z_iret (zdec DX1_told 21 rfl) rfl (⟨rfl, rfl, zri (by unfold ztold; (repeat (first | rw [if_pos (by omega)] | rw [if_neg (by omega)])))⟩)
    | 4, hj, he =>
      cases hj
      refine ⟨68, rfl, ?_⟩
      have h1 : what = 4 := by simpa using he
      refine z_aload_n 0 (zdec DX1_told 22 rfl) rfl rfl (by decide) ?_
      refine z_getr (rw1 := -11) (ki := 11) (r' := 13) 1 1 (zdec DX1_told 23 rfl) rfl rfl shp1 rfl (by decide) rfl rfl fl_SixWalls_Comb_45 (zPa hP 20 rfl) ?_
      refine z_iload_n 1 (zdec DX1_told 24 rfl) rfl rfl ?_
      refine z_iald 13 (zdec DX1_told 25 rfl) rfl shp13 ⟨by omega, by omega⟩ ?_
      exact z_iret (zdec DX1_told 26 rfl) rfl (⟨rfl, rfl, zri (by unfold ztold; (repeat (first | rw [if_pos (by omega)] | rw [if_neg (by omega)])))⟩)
    | 5, hj, he =>
      cases hj
      refine ⟨75, rfl, ?_⟩
      have h1 : what = 5 := by simpa using he
      refine z_aload_n 0 (zdec DX1_told 27 rfl) rfl rfl (by decide) ?_
      refine z_geti (ki := 12) 1 1 (zdec DX1_told 28 rfl) rfl shp1 rfl (by decide) rfl rfl fl_SixWalls_Comb_48 ?_
      exact z_iret (zdec DX1_told 29 rfl) rfl (⟨rfl, rfl, zri (by unfold ztold; (repeat (first | rw [if_pos (by omega)] | rw [if_neg (by omega)])))⟩)
    | j + 6, hj, he => exact absurd (List.getElem?_eq_some_iff.mp hj).1 (by simp)
  · refine ⟨80, rfl, ?_⟩
    refine z_aload_n 0 (zdec DX1_told 30 rfl) rfl rfl (by decide) ?_
    refine z_geti (ki := 13) 1 1 (zdec DX1_told 31 rfl) rfl shp1 rfl (by decide) rfl rfl fl_SixWalls_Comb_52 ?_
    exact z_iret (zdec DX1_told 32 rfl) rfl (⟨rfl, rfl, zri (by unfold ztold; (repeat (first | rw [if_pos (by omega)] | rw [if_neg (by omega)])))⟩)
set_option maxHeartbeats 4000000 in
theorem cX1_tell {M : zMm} (hP : zP M) (n what v : Int) (hk : zknown n what) : zW mX1_tell 1 (fun rv S' M' => S' = zS0 ∧ rv = none ∧ M' = ztell M n what v) (0, 0) zS0 0 (zargs 0 [.inr (.inr 1), .inl n, .inl what, .inl v]) [] M := by
  change zW _ _ _ _ _ 0 [(0, .inr (.inr 1)), (1, .inl n), (2, .inl what), (3, .inl v)] [] M
  unfold zknown at hk
  refine z_iload_n 2 (zdec DX1_tell 0 rfl) rfl rfl ?_
  refine z_tsw (zdec DX1_tell 1 rfl) (by decide) (fun j off hj he => ?_) (fun hd => ?_)
  · match j, hj, he with
    | 0, hj, he =>
      cases hj
      refine ⟨40, rfl, ?_⟩
      have h1 : what = 0 := by simpa using he
      refine z_aload_n 0 (zdec DX1_tell 2 rfl) rfl rfl (by decide) ?_
      refine z_getr (rw1 := -11) (ki := 6) (r' := 8) 1 1 (zdec DX1_tell 3 rfl) rfl rfl shp1 rfl (by decide) rfl rfl fl_SixWalls_Comb_30 (zPa hP 15 rfl) ?_
      refine z_iload_n 1 (zdec DX1_tell 4 rfl) rfl rfl ?_
      refine z_iload_n 3 (zdec DX1_tell 5 rfl) rfl rfl ?_
      refine z_iast 8 (zdec DX1_tell 6 rfl) rfl shp8 ⟨by omega, by omega⟩ ?_
      refine z_goto 103 (zdec DX1_tell 7 rfl) rfl ?_
      exact z_vret (zdec DX1_tell 39 rfl) rfl (⟨rfl, rfl, by unfold ztell; (repeat (first | rw [if_pos (by omega)] | rw [if_neg (by omega)]))⟩)
    | 1, hj, he =>
      cases hj
      refine ⟨50, rfl, ?_⟩
      have h1 : what = 1 := by simpa using he
      refine z_aload_n 0 (zdec DX1_tell 8 rfl) rfl rfl (by decide) ?_
      refine z_getr (rw1 := -11) (ki := 8) (r' := 10) 1 1 (zdec DX1_tell 9 rfl) rfl rfl shp1 rfl (by decide) rfl rfl fl_SixWalls_Comb_36 (zPa hP 17 rfl) ?_
      refine z_iload_n 1 (zdec DX1_tell 10 rfl) rfl rfl ?_
      refine z_iload_n 3 (zdec DX1_tell 11 rfl) rfl rfl ?_
      refine z_iast 10 (zdec DX1_tell 12 rfl) rfl shp10 ⟨by omega, by omega⟩ ?_
      refine z_goto 103 (zdec DX1_tell 13 rfl) rfl ?_
      exact z_vret (zdec DX1_tell 39 rfl) rfl (⟨rfl, rfl, by unfold ztell; (repeat (first | rw [if_pos (by omega)] | rw [if_neg (by omega)]))⟩)
    | 2, hj, he =>
      cases hj
      refine ⟨60, rfl, ?_⟩
      have h1 : what = 2 := by simpa using he
      refine z_aload_n 0 (zdec DX1_tell 14 rfl) rfl rfl (by decide) ?_
      refine z_getr (rw1 := -11) (ki := 9) (r' := 11) 1 1 (zdec DX1_tell 15 rfl) rfl rfl shp1 rfl (by decide) rfl rfl fl_SixWalls_Comb_39 (zPa hP 18 rfl) ?_
      refine z_iload_n 1 (zdec DX1_tell 16 rfl) rfl rfl ?_
      refine z_iload_n 3 (zdec DX1_tell 17 rfl) rfl rfl ?_
      refine z_iast 11 (zdec DX1_tell 18 rfl) rfl shp11 ⟨by omega, by omega⟩ ?_
      refine z_goto 103 (zdec DX1_tell 19 rfl) rfl ?_
      exact z_vret (zdec DX1_tell 39 rfl) rfl (⟨rfl, rfl, by unfold ztell; (repeat (first | rw [if_pos (by omega)] | rw [if_neg (by omega)]))⟩)
    | 3, hj, he =>
      cases hj
      refine ⟨70, rfl, ?_⟩
      have h1 : what = 3 := by simpa using he
      refine z_aload_n 0 (zdec DX1_tell 20 rfl) rfl rfl (by decide) ?_
      refine z_getr (rw1 := -11) (ki := 10) (r' := 12) 1 1 (zdec DX1_tell 21 rfl) rfl rfl shp1 rfl (by decide) rfl rfl fl_SixWalls_Comb_42 (zPa hP 19 rfl) ?_
      refine z_iload_n 1 (zdec DX1_tell 22 rfl) rfl rfl ?_
      refine z_iload_n 3 (zdec DX1_tell 23 rfl) rfl rfl ?_
      refine z_iast 12 (zdec DX1_tell 24 rfl) rfl shp12 ⟨by omega, by omega⟩ ?_
      refine z_goto 103 (zdec DX1_tell 25 rfl) rfl ?_
      exact z_vret (zdec DX1_tell 39 rfl) rfl (⟨rfl, rfl, by unfold ztell; (repeat (first | rw [if_pos (by omega)] | rw [if_neg (by omega)]))⟩)
    | 4, hj, he =>
      cases hj
      refine ⟨80, rfl, ?_⟩
      have h1 : what = 4 := by simpa using he
      refine z_aload_n 0 (zdec DX1_tell 26 rfl) rfl rfl (by decide) ?_
      refine z_getr (rw1 := -11) (ki := 11) (r' := 13) 1 1 (zdec DX1_tell 27 rfl) rfl rfl shp1 rfl (by decide) rfl rfl fl_SixWalls_Comb_45 (zPa hP 20 rfl) ?_
      refine z_iload_n 1 (zdec DX1_tell 28 rfl) rfl rfl ?_
      refine z_iload_n 3 (zdec DX1_tell 29 rfl) rfl rfl ?_
      refine z_iast 13 (zdec DX1_tell 30 rfl) rfl shp13 ⟨by omega, by omega⟩ ?_
      refine z_goto 103 (zdec DX1_tell 31 rfl) rfl ?_
      exact z_vret (zdec DX1_tell 39 rfl) rfl (⟨rfl, rfl, by unfold ztell; (repeat (first | rw [if_pos (by omega)] | rw [if_neg (by omega)]))⟩)
    | 5, hj, he =>
      cases hj
      refine ⟨90, rfl, ?_⟩
      have h1 : what = 5 := by simpa using he
      refine z_aload_n 0 (zdec DX1_tell 32 rfl) rfl rfl (by decide) ?_
      refine z_iload_n 3 (zdec DX1_tell 33 rfl) rfl rfl ?_
      refine z_puti (ki := 12) 1 1 (zdec DX1_tell 34 rfl) rfl shp1 rfl (by decide) rfl rfl fl_SixWalls_Comb_48 (Or.inl rfl) ?_
      refine z_goto 103 (zdec DX1_tell 35 rfl) rfl ?_
      exact z_vret (zdec DX1_tell 39 rfl) rfl (⟨rfl, rfl, by unfold ztell; (repeat (first | rw [if_pos (by omega)] | rw [if_neg (by omega)]))⟩)
    | j + 6, hj, he => exact absurd (List.getElem?_eq_some_iff.mp hj).1 (by simp)
  · refine ⟨98, rfl, ?_⟩
    refine z_aload_n 0 (zdec DX1_tell 36 rfl) rfl rfl (by decide) ?_
    refine z_iload_n 3 (zdec DX1_tell 37 rfl) rfl rfl ?_
    refine z_puti (ki := 13) 1 1 (zdec DX1_tell 38 rfl) rfl shp1 rfl (by decide) rfl rfl fl_SixWalls_Comb_52 (Or.inl rfl) ?_
    exact z_vret (zdec DX1_tell 39 rfl) rfl (⟨rfl, rfl, by unfold ztell; (repeat (first | rw [if_pos (by omega)] | rw [if_neg (by omega)]))⟩)
