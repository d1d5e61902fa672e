/-! contracts of Winter: what goes through a wall, a day -/
def zwv (s : zMm) (q d t o a b : Int) : Int := zwor s q (fun g => znmd g d t o a b) 123 (0, 0, fun _ => 0)
theorem zwor_stk {s : zMm} {q : Int} {v : Int → Int} : ∀ (f : Nat) (i tp : Int) (k k' : Int → Int), (∀ j : Int, 0 ≤ j → j < tp → k j = k' j) → zwor s q v f (i, tp, k) = zwor s q v f (i, tp, k') := by
  intro f
  induction f with
  | zero => intro i tp k k' _; rfl
  | succ f ih =>
    intro i tp k k' h
    show (if s 14 6 ≤ i then 0 else if s q i = 59 then (if 0 < tp then k (tp - 1) else 0) else zwor s q v f (zwst s q v (i, tp, k))) = (if s 14 6 ≤ i then 0 else if s q i = 59 then (if 0 < tp then k' (tp - 1) else 0) else zwor s q v f (zwst s q v (i, tp, k')))
    have e1 : 0 < tp → k (tp - 1) = k' (tp - 1) := fun h0 => h _ (by omega) (by omega)
    have e2 : 1 < tp → k (tp - 1 - 1) = k' (tp - 1 - 1) := fun h0 => h _ (by omega) (by omega)
    have hp : ∀ (tp2 j v1 : Int), tp2 ≤ tp → ∀ i : Int, 0 ≤ i → i < tp2 → zpu k j v1 i = zpu k' j v1 i := by
      intro tp2 j v1 ht i h0 h1
      by_cases hj : i = j
      · subst hj; rw [zpu_s, zpu_s]
      · rw [zpu_n hj, zpu_n hj]; exact h i h0 (by omega)
    have hp1 : ∀ (v1 : Int), ∀ i : Int, 0 ≤ i → i < tp + 1 → zpu k tp v1 i = zpu k' tp v1 i := by
      intro v1 i h0 h1
      by_cases hj : i = tp
      · subst hj; rw [zpu_s, zpu_s]
      · rw [zpu_n hj, zpu_n hj]; exact h i h0 (by omega)
    split
    · rfl
    · split
      · split
        · next h0 => exact e1 h0
        · rfl
      · unfold zwst
        dsimp only
        split
        · have e3 : (0 < tp ∧ k (tp - 1) ≠ 0) = (0 < tp ∧ k' (tp - 1) ≠ 0) := by
            by_cases h0 : 0 < tp
            · rw [e1 h0]
            · simp [h0]
          simp only [e3]
          exact ih _ _ _ _ (fun j h0 h1 => by omega)
        · split
          · by_cases h0 : 0 < tp
            · rw [if_pos h0, if_pos h0]
              have e : (if s q i = 33 then zb (k (tp - 1) = 0) else zw (-(k (tp - 1)))) = (if s q i = 33 then zb (k' (tp - 1) = 0) else zw (-(k' (tp - 1)))) := by simp only [e1 h0]
              rw [e]
              exact ih _ _ _ _ (hp _ _ _ (Int.le_refl _))
            · rw [if_neg h0, if_neg h0]
              exact ih _ _ _ _ h
          · split
            · split
              · next h1 =>
                rw [e1 (by omega), e2 h1]
                exact ih _ _ _ _ (hp _ _ _ (by omega))
              · exact ih _ _ _ _ h
            · split
              · exact ih _ _ _ _ (hp1 _)
              · exact ih _ _ _ _ h
theorem zworth_v {s : zMm} {q d t o a b : Int} : zworth s q d t o a b = zwv s q d t o a b := zwor_stk _ _ _ _ _ fun j h0 h1 => by omega
theorem zwor_of {s s' : zMm} {q : Int} {v : Int → Int} (e1 : s' 14 6 = s 14 6) (e2 : s' q = s q) (e3 : s' (q + 1) = s (q + 1)) : ∀ (f : Nat) (p : Int × Int × (Int → Int)), zwor s' q v f p = zwor s q v f p := by
  intro f
  induction f with
  | zero => intro p; rfl
  | succ f ih =>
    intro p
    unfold zwor
    rw [ih, e1, e2]
    unfold zwst
    rw [e2, e3]
def zab (z : Int) : Int := if 0 ≤ z then z else -z
def zcap (d l : Int) : Int := zmax 0 (zmin (d / 2) l)
def zlaw (s : zMm) (q w d a b : Int) : Int := if d < 2 then 0 else if 0 < s 14 6 then zwv s q d (s 11 w) (s 12 w) a b else d / (s 11 w + 1) / 6 + s 12 w
def zflowd (s : zMm) (q x y w : Int) : Int := if x < y then -(zcap (zab (x - y)) (zlaw s q w (zab (x - y)) (zmax x y) (zmin x y))) else zcap (zab (x - y)) (zlaw s q w (zab (x - y)) (zmax x y) (zmin x y))
def zflow (s : zMm) (q : Int) (T : Int → Int) (w : Int) : Int := zflowd s q (T (zlow w)) (T (zhigh w)) w
theorem zlaw_of {s s' : zMm} {q : Int} (e1 : s' 14 6 = s 14 6) (e2 : s' q = s q) (e3 : s' (q + 1) = s (q + 1)) (e11 : s' 11 = s 11) (e12 : s' 12 = s 12) (w d a b : Int) : zlaw s' q w d a b = zlaw s q w d a b := by
  unfold zlaw zwv
  rw [e1, e11, e12, zwor_of e1 e2 e3]
theorem zcap_b {d l : Int} (h : 0 ≤ d ∧ d ≤ 99) : 0 ≤ zcap d l ∧ zcap d l ≤ 49 := by
  unfold zcap zmax zmin
  split <;> split <;> omega
theorem zcap0 {d : Int} (h : 0 ≤ d) : zcap d 0 = 0 := by
  unfold zcap zmax zmin
  (repeat' split) <;> omega
theorem zab_b {x y : Int} (hx : 0 ≤ x ∧ x ≤ 99) (hy : 0 ≤ y ∧ y ≤ 99) : 0 ≤ zab (x - y) ∧ zab (x - y) ≤ 99 := by
  unfold zab
  split <;> omega
theorem zflowd_b {s : zMm} {q x y w : Int} (hx : 0 ≤ x ∧ x ≤ 99) (hy : 0 ≤ y ∧ y ≤ 99) : -49 ≤ zflowd s q x y w ∧ zflowd s q x y w ≤ 49 := by
  have := zcap_b (l := zlaw s q w (zab (x - y)) (zmax x y) (zmin x y)) (zab_b hx hy)
  unfold zflowd
  split <;> omega
set_option maxHeartbeats 4000000 in
theorem cX8_flow {M : zMm} (hP : zP M) {q : Int} (hT : zTx M q) (hR : zRg M) (hG : zG M) (w c : Int) (hw : 0 ≤ w ∧ w < 33) (hc : 0 ≤ c ∧ zS0[c.toNat]? = some (0, 16)) (hb : ∀ h : Int, 0 ≤ h → h < 16 → 0 ≤ M c h ∧ M c h ≤ 99) : zW mX8_flow 5 (fun rv S' M' => S' = zS0 ∧ rv = some (.inl (zflow M q (M c) w)) ∧ zonly 20 M M') (0, 0) zS0 0 (zargs 0 [.inr (.inr 21), .inl w, .inr (.inr c)]) [] M := by
  change zW _ _ _ _ _ 0 [(0, .inr (.inr 21)), (1, .inl w), (2, .inr (.inr c))] [] M
  have hw1 := hR.2.1 w hw.1 hw.2
  have lb := zlow_b w
  have lh := zhigh_b w
  have bx := hb (zlow w) lb.1 lb.2
  have byy := hb (zhigh w) lh.1 lh.2
  obtain ⟨x, ex⟩ : ∃ x, x = M c (zlow w) := ⟨_, rfl⟩
  obtain ⟨y, ey⟩ : ∃ y, y = M c (zhigh w) := ⟨_, rfl⟩
  rw [← ex] at bx
  rw [← ey] at byy
  obtain ⟨d, ed⟩ : ∃ d, d = zab (x - y) := ⟨_, rfl⟩
  have hd := zab_b bx byy
  rw [← ed] at hd
  refine z_aload_n 2 (zdec DX8_flow 0 rfl) rfl rfl (by omega) ?_
  refine z_aload_n 0 (zdec DX8_flow 1 rfl) rfl rfl (by decide) ?_
  refine z_getr (rw1 := -31) (ki := 0) (r' := 1) 21 8 (zdec DX8_flow 2 rfl) rfl rfl shp21 rfl (by decide) rfl rfl fl_SixWalls_Winter_31 (zPa hP 23 rfl) ?_
  refine z_getr (rw1 := -11) (ki := 0) (r' := 2) 1 1 (zdec DX8_flow 3 rfl) rfl rfl shp1 rfl (by decide) rfl rfl fl_SixWalls_Winter_39 (zPa hP 9 rfl) ?_
  refine z_iload_n 1 (zdec DX8_flow 4 rfl) rfl rfl ?_
  refine z_iald 2 (zdec DX8_flow 5 rfl) rfl shp2 ⟨by omega, by omega⟩ ?_
  rw [hG.low (by omega) (by omega)]
  refine z_iald (c).toNat (zdec DX8_flow 6 rfl) (by omega) hc.2 ⟨by omega, by omega⟩ ?_
  rw [← ex]
  refine z_istore_n (L' := [(0, .inr (.inr 21)), (1, .inl w), (2, .inr (.inr c)), (3, .inl x)]) (zdec DX8_flow 7 rfl) rfl rfl (by decide) ?_
  refine z_aload_n 2 (zdec DX8_flow 8 rfl) rfl rfl (by omega) ?_
  refine z_aload_n 0 (zdec DX8_flow 9 rfl) rfl rfl (by decide) ?_
  refine z_getr (rw1 := -31) (ki := 0) (r' := 1) 21 8 (zdec DX8_flow 10 rfl) rfl rfl shp21 rfl (by decide) rfl rfl fl_SixWalls_Winter_31 (zPa hP 23 rfl) ?_
  refine z_getr (rw1 := -11) (ki := 1) (r' := 3) 1 1 (zdec DX8_flow 11 rfl) rfl rfl shp1 rfl (by decide) rfl rfl fl_SixWalls_Winter_44 (zPa hP 10 rfl) ?_
  refine z_iload_n 1 (zdec DX8_flow 12 rfl) rfl rfl ?_
  refine z_iald 3 (zdec DX8_flow 13 rfl) rfl shp3 ⟨by omega, by omega⟩ ?_
  rw [hG.high (by omega) (by omega)]
  refine z_iald (c).toNat (zdec DX8_flow 14 rfl) (by omega) hc.2 ⟨by omega, by omega⟩ ?_
  rw [← ey]
  refine z_istore (L' := [(0, .inr (.inr 21)), (1, .inl w), (2, .inr (.inr c)), (3, .inl x), (4, .inl y)]) (zdec DX8_flow 15 rfl) rfl (by decide) ?_
  refine z_iload_n 3 (zdec DX8_flow 16 rfl) rfl rfl ?_
  refine z_iload 4 (zdec DX8_flow 17 rfl) rfl ?_
  refine z_isub (zdec DX8_flow 18 rfl) (by unfold z32; omega) ?_
  refine z_mabs (zdec DX8_flow 19 rfl) ml_SixWalls_Winter_47 (by decide) (Nat.le_of_ble_eq_true rfl) (by omega) ?_
  rw [show (if 0 ≤ x - y then x - y else -(x - y)) = d from ed.symm]
  refine z_istore (L' := [(0, .inr (.inr 21)), (1, .inl w), (2, .inr (.inr c)), (3, .inl x), (4, .inl y), (5, .inl d)]) (zdec DX8_flow 20 rfl) rfl (by decide) ?_
  refine z_iload 5 (zdec DX8_flow 21 rfl) rfl ?_
  refine z_iconst 2 (zdec DX8_flow 22 rfl) (by decide) ?_
  refine z_icmp_ge 42 (zdec DX8_flow 23 rfl) rfl (fun h37 => ?_) (fun h37 => ?_)
  ·
    refine z_aload_n 0 (zdec DX8_flow 26 rfl) rfl rfl (by decide) ?_
    refine z_getr (rw1 := -31) (ki := 0) (r' := 1) 21 8 (zdec DX8_flow 27 rfl) rfl rfl shp21 rfl (by decide) rfl rfl fl_SixWalls_Winter_31 (zPa hP 23 rfl) ?_
    refine z_getr (rw1 := -11) (ki := 9) (r' := 11) 1 1 (zdec DX8_flow 28 rfl) rfl rfl shp1 rfl (by decide) rfl rfl fl_SixWalls_Winter_53 (zPa hP 18 rfl) ?_
    refine z_iload_n 1 (zdec DX8_flow 29 rfl) rfl rfl ?_
    refine z_iald 11 (zdec DX8_flow 30 rfl) rfl shp11 ⟨by omega, by omega⟩ ?_
    refine z_istore (L' := [(0, .inr (.inr 21)), (1, .inl w), (2, .inr (.inr c)), (3, .inl x), (4, .inl y), (5, .inl d), (6, .inl (M 11 w))]) (zdec DX8_flow 31 rfl) rfl (by decide) ?_
    refine z_aload_n 0 (zdec DX8_flow 32 rfl) rfl rfl (by decide) ?_
    refine z_getr (rw1 := -31) (ki := 0) (r' := 1) 21 8 (zdec DX8_flow 33 rfl) rfl rfl shp21 rfl (by decide) rfl rfl fl_SixWalls_Winter_31 (zPa hP 23 rfl) ?_
    refine z_getr (rw1 := -11) (ki := 10) (r' := 12) 1 1 (zdec DX8_flow 34 rfl) rfl rfl shp1 rfl (by decide) rfl rfl fl_SixWalls_Winter_56 (zPa hP 19 rfl) ?_
    refine z_iload_n 1 (zdec DX8_flow 35 rfl) rfl rfl ?_
    refine z_iald 12 (zdec DX8_flow 36 rfl) rfl shp12 ⟨by omega, by omega⟩ ?_
    refine z_istore (L' := [(0, .inr (.inr 21)), (1, .inl w), (2, .inr (.inr c)), (3, .inl x), (4, .inl y), (5, .inl d), (6, .inl (M 11 w)), (7, .inl (M 12 w))]) (zdec DX8_flow 37 rfl) rfl (by decide) ?_
    refine z_aload_n 0 (zdec DX8_flow 38 rfl) rfl rfl (by decide) ?_
    refine z_getr (rw1 := -31) (ki := 1) (r' := 14) 21 8 (zdec DX8_flow 39 rfl) rfl rfl shp21 rfl (by decide) rfl rfl fl_SixWalls_Winter_35 (zPa hP 24 rfl) ?_
    refine z_inv mX4_isTold 14 4 [] (zdec DX8_flow 40 rfl) ml_SixWalls_Winter_59 okX4_isTold rfl shp14 rfl rfl rfl rfl (Nat.le_of_ble_eq_true rfl) (Nat.le_of_ble_eq_true rfl) (b' := (0, 0)) ⟨Nat.le_refl 0, Nat.le_refl 0⟩ (Nat.le_of_ble_eq_true rfl) (cX4_isTold hP) (fun rv9 S9 M68 h9 => ?_)
    obtain ⟨rfl, rfl, rfl⟩ := h9
    change zW _ _ _ _ _ 71 [(0, .inr (.inr 21)), (1, .inl w), (2, .inr (.inr c)), (3, .inl x), (4, .inl y), (5, .inl d), (6, .inl (M 11 w)), (7, .inl (M 12 w))] [.inl (zb (0 < M 14 6))] M
    refine z_if_eq 102 (zdec DX8_flow 41 rfl) rfl (fun h71 => ?_) (fun h71 => ?_)
    ·
      refine z_iload 5 (zdec DX8_flow 55 rfl) rfl ?_
      refine z_iload 6 (zdec DX8_flow 56 rfl) rfl ?_
      refine z_iconst 1 (zdec DX8_flow 57 rfl) (by decide) ?_
      refine z_iadd (zdec DX8_flow 58 rfl) (by unfold z32; omega) ?_
      refine z_idivp (zdec DX8_flow 59 rfl) (by omega) (by omega) ?_
      refine z_bipush 6 (zdec DX8_flow 60 rfl) (by decide) ?_
      have hd1 : 0 ≤ d / (M 11 w + 1) := Int.ediv_nonneg hd.1 (by omega)
      have hd2 : d / (M 11 w + 1) ≤ d := Int.ediv_le_self _ hd.1
      refine z_idivp (zdec DX8_flow 61 rfl) (by omega) (by omega) ?_
      refine z_iload 7 (zdec DX8_flow 62 rfl) rfl ?_
      refine z_iadd (zdec DX8_flow 63 rfl) (by unfold z32; omega) ?_
      obtain ⟨l, el⟩ : ∃ l, l = (((d / ((M 11 w) + 1)) / 6) + (M 12 w)) := ⟨_, rfl⟩
      rw [← el]
      have el2 : l = zlaw M q w d (zmax x y) (zmin x y) := by rw [el]; unfold zlaw; first | rw [if_neg (by omega), if_pos (zb_ne0.mp h71), zworth_v] | rw [if_neg (by omega), if_neg (zb_eq0.mp h71)]
      refine z_istore (L' := [(0, .inr (.inr 21)), (1, .inl w), (2, .inr (.inr c)), (3, .inl x), (4, .inl y), (5, .inl d), (6, .inl (M 11 w)), (7, .inl (M 12 w)), (8, .inl l)]) (zdec DX8_flow 64 rfl) rfl (by decide) ?_
      refine z_iconst 0 (zdec DX8_flow 65 rfl) (by decide) ?_
      refine z_iload 5 (zdec DX8_flow 66 rfl) rfl ?_
      refine z_iconst 2 (zdec DX8_flow 67 rfl) (by decide) ?_
      refine z_idivp (zdec DX8_flow 68 rfl) (by omega) (by omega) ?_
      refine z_iload 8 (zdec DX8_flow 69 rfl) rfl ?_
      refine z_mmin (zdec DX8_flow 70 rfl) ml_SixWalls_Winter_69 (by decide) (Nat.le_of_ble_eq_true rfl) ?_
      refine z_mmax (zdec DX8_flow 71 rfl) ml_SixWalls_Winter_65 (by decide) (Nat.le_of_ble_eq_true rfl) ?_
      obtain ⟨m, em⟩ : ∃ m, m = (if 0 < (if l < d / 2 then l else d / 2) then (if l < d / 2 then l else d / 2) else 0) := ⟨_, rfl⟩
      rw [← em]
      have em2 : m = zcap d (zlaw M q w d (zmax x y) (zmin x y)) := by rw [← el2]; exact em
      have hm := zcap_b (l := zlaw M q w d (zmax x y) (zmin x y)) hd
      rw [← em2] at hm
      refine z_istore (L' := [(0, .inr (.inr 21)), (1, .inl w), (2, .inr (.inr c)), (3, .inl x), (4, .inl y), (5, .inl d), (6, .inl (M 11 w)), (7, .inl (M 12 w)), (8, .inl l), (9, .inl m)]) (zdec DX8_flow 72 rfl) rfl (by decide) ?_
      refine z_iload_n 3 (zdec DX8_flow 73 rfl) rfl rfl ?_
      refine z_iload 4 (zdec DX8_flow 74 rfl) rfl ?_
      refine z_icmp_ge 144 (zdec DX8_flow 75 rfl) rfl (fun h135 => ?_) (fun h135 => ?_)
      ·
        refine z_iload 9 (zdec DX8_flow 79 rfl) rfl ?_
        exact z_iret (zdec DX8_flow 80 rfl) rfl (⟨rfl, zri (by unfold zflow zflowd; rw [← ex, ← ey, ← ed, ← em2]; first | rw [if_pos (by omega)] | rw [if_neg (by omega)]), (by first | exact ho | exact zonly.rf)⟩)
      ·
        refine z_iload 9 (zdec DX8_flow 76 rfl) rfl ?_
        refine z_ineg (zdec DX8_flow 77 rfl) (by unfold z32; omega) ?_
        refine z_goto 146 (zdec DX8_flow 78 rfl) rfl ?_
        exact z_iret (zdec DX8_flow 80 rfl) rfl (⟨rfl, zri (by unfold zflow zflowd; rw [← ex, ← ey, ← ed, ← em2]; first | rw [if_pos (by omega)] | rw [if_neg (by omega)]), (by first | exact ho | exact zonly.rf)⟩)
    ·
      refine z_aload_n 0 (zdec DX8_flow 42 rfl) rfl rfl (by decide) ?_
      refine z_getr (rw1 := -31) (ki := 1) (r' := 14) 21 8 (zdec DX8_flow 43 rfl) rfl rfl shp21 rfl (by decide) rfl rfl fl_SixWalls_Winter_35 (zPa hP 24 rfl) ?_
      refine z_iload 5 (zdec DX8_flow 44 rfl) rfl ?_
      refine z_iload 6 (zdec DX8_flow 45 rfl) rfl ?_
      refine z_iload 7 (zdec DX8_flow 46 rfl) rfl ?_
      refine z_iload_n 3 (zdec DX8_flow 47 rfl) rfl rfl ?_
      refine z_iload 4 (zdec DX8_flow 48 rfl) rfl ?_
      refine z_mmax (zdec DX8_flow 49 rfl) ml_SixWalls_Winter_65 (by decide) (Nat.le_of_ble_eq_true rfl) ?_
      refine z_iload_n 3 (zdec DX8_flow 50 rfl) rfl rfl ?_
      refine z_iload 4 (zdec DX8_flow 51 rfl) rfl ?_
      refine z_mmin (zdec DX8_flow 52 rfl) ml_SixWalls_Winter_69 (by decide) (Nat.le_of_ble_eq_true rfl) ?_
      refine z_inv mX4_worth 14 4 [.inl d, .inl (M 11 w), .inl (M 12 w), .inl (if x < y then y else x), .inl (if y < x then y else x)] (zdec DX8_flow 53 rfl) ml_SixWalls_Winter_72 okX4_worth rfl shp14 rfl rfl rfl rfl (Nat.le_of_ble_eq_true rfl) (Nat.le_of_ble_eq_true rfl) (b' := (0, 0)) ⟨Nat.le_refl 0, Nat.le_refl 0⟩ (Nat.le_of_ble_eq_true rfl) (cX4_worth hP hT d (M 11 w) (M 12 w) (if x < y then y else x) (if y < x then y else x)) (fun rv9 S9 M96 h9 => ?_)
      obtain ⟨rfl, rfl, ho⟩ := h9
      change zW _ _ _ _ _ 99 [(0, .inr (.inr 21)), (1, .inl w), (2, .inr (.inr c)), (3, .inl x), (4, .inl y), (5, .inl d), (6, .inl (M 11 w)), (7, .inl (M 12 w))] [.inl (zworth M q d (M 11 w) (M 12 w) (zmax x y) (zmin x y))] M96
      refine z_goto 115 (zdec DX8_flow 54 rfl) rfl ?_
      obtain ⟨l, el⟩ : ∃ l, l = (zworth M q d (M 11 w) (M 12 w) (zmax x y) (zmin x y)) := ⟨_, rfl⟩
      rw [← el]
      have el2 : l = zlaw M q w d (zmax x y) (zmin x y) := by rw [el]; unfold zlaw; first | rw [if_neg (by omega), if_pos (zb_ne0.mp h71), zworth_v] | rw [if_neg (by omega), if_neg (zb_eq0.mp h71)]
      refine z_istore (L' := [(0, .inr (.inr 21)), (1, .inl w), (2, .inr (.inr c)), (3, .inl x), (4, .inl y), (5, .inl d), (6, .inl (M 11 w)), (7, .inl (M 12 w)), (8, .inl l)]) (zdec DX8_flow 64 rfl) rfl (by decide) ?_
      refine z_iconst 0 (zdec DX8_flow 65 rfl) (by decide) ?_
      refine z_iload 5 (zdec DX8_flow 66 rfl) rfl ?_
      refine z_iconst 2 (zdec DX8_flow 67 rfl) (by decide) ?_
      refine z_idivp (zdec DX8_flow 68 rfl) (by omega) (by omega) ?_
      refine z_iload 8 (zdec DX8_flow 69 rfl) rfl ?_
      refine z_mmin (zdec DX8_flow 70 rfl) ml_SixWalls_Winter_69 (by decide) (Nat.le_of_ble_eq_true rfl) ?_
      refine z_mmax (zdec DX8_flow 71 rfl) ml_SixWalls_Winter_65 (by decide) (Nat.le_of_ble_eq_true rfl) ?_
      obtain ⟨m, em⟩ : ∃ m, m = (if 0 < (if l < d / 2 then l else d / 2) then (if l < d / 2 then l else d / 2) else 0) := ⟨_, rfl⟩
      rw [← em]
      have em2 : m = zcap d (zlaw M q w d (zmax x y) (zmin x y)) := by rw [← el2]; exact em
      have hm := zcap_b (l := zlaw M q w d (zmax x y) (zmin x y)) hd
      rw [← em2] at hm
      refine z_istore (L' := [(0, .inr (.inr 21)), (1, .inl w), (2, .inr (.inr c)), (3, .inl x), (4, .inl y), (5, .inl d), (6, .inl (M 11 w)), (7, .inl (M 12 w)), (8, .inl l), (9, .inl m)]) (zdec DX8_flow 72 rfl) rfl (by decide) ?_
      refine z_iload_n 3 (zdec DX8_flow 73 rfl) rfl rfl ?_
      refine z_iload 4 (zdec DX8_flow 74 rfl) rfl ?_
      refine z_icmp_ge 144 (zdec DX8_flow 75 rfl) rfl (fun h135 => ?_) (fun h135 => ?_)
      ·
        refine z_iload 9 (zdec DX8_flow 79 rfl) rfl ?_
        exact z_iret (zdec DX8_flow 80 rfl) rfl (⟨rfl, zri (by unfold zflow zflowd; rw [← ex, ← ey, ← ed, ← em2]; first | rw [if_pos (by omega)] | rw [if_neg (by omega)]), (by first | exact ho | exact zonly.rf)⟩)
      ·
        refine z_iload 9 (zdec DX8_flow 76 rfl) rfl ?_
        refine z_ineg (zdec DX8_flow 77 rfl) (by unfold z32; omega) ?_
        refine z_goto 146 (zdec DX8_flow 78 rfl) rfl ?_
        exact z_iret (zdec DX8_flow 80 rfl) rfl (⟨rfl, zri (by unfold zflow zflowd; rw [← ex, ← ey, ← ed, ← em2]; first | rw [if_pos (by omega)] | rw [if_neg (by omega)]), (by first | exact ho | exact zonly.rf)⟩)
  ·
    refine z_iconst 0 (zdec DX8_flow 24 rfl) (by decide) ?_
    exact z_iret (zdec DX8_flow 25 rfl) rfl (⟨rfl, zri (by unfold zflow zflowd; rw [← ex, ← ey, ← ed, show zlaw M q w d (zmax x y) (zmin x y) = 0 from if_pos (by omega), zcap0 hd.1]; split <;> omega), zonly.rf⟩)
