/-! contracts of Ways and SixWalls: noises heard, ways, doors -/
theorem zwl_of {M M2 : zMm} (h : zonly 33 M M2) : zwl M2 = zwl M := by
  funext w
  unfold zwl
  rw [h 12 (by decide), h 11 (by decide)]
theorem zlis1_of {M M2 : zMm} (h : zonly 33 M M2) : zlis1 M2 = zlis1 M := by
  funext p w
  unfold zlis1
  rw [zwl_of h]
theorem zlisN_of {M M2 : zMm} (h : zonly 33 M M2) : ∀ (f : Nat) (L : Int → Int), zlisN M2 f L = zlisN M f L := by
  intro f
  induction f with
  | zero => intro L; rfl
  | succ f ih =>
    intro L
    unfold zlisN zlisR
    rw [zlis1_of h, ih]
theorem zlis_of {M M2 : zMm} (h : zonly 33 M M2) (a : Int) : zlis M2 a = zlis M a := zlisN_of h 16 _
theorem zhear_of {M M2 : zMm} (h : zonly 33 M M2) (a loud n : Int) : zhear M2 a loud n = zhear M a loud n := by
  unfold zhear
  rw [zlis_of h]
theorem zonly.R {c : Int} {M M2 : zMm} (h : zonly c M M2) (hc : 13 < c) (hR : zRg M) : zRg M2 := zRg_of hR (h 1 (by omega)) fun k h0 h1 => h k (by omega)

set_option maxHeartbeats 4000000 in
theorem cX7_loudness {M : zMm} (hP : zP M) (hG : zG M) (hR : zRg M) (a b loud : Int) (hb : 0 ≤ b ∧ b < 16) (hl : 0 ≤ loud ∧ loud ≤ 999) : zW mX7_loudness 3 (fun rv S' M' => S' = zS0 ∧ rv = some (.inl (if 0 < loud - zlis M a b then loud - zlis M a b else 0)) ∧ zonly 33 M M') (0, 0) zS0 0 (zargs 0 [.inr (.inr 31), .inl a, .inl b, .inl loud]) [] M := by
  change zW _ _ _ _ _ 0 [(0, .inr (.inr 31)), (1, .inl a), (2, .inl b), (3, .inl loud)] [] M
  refine z_aload_n 0 (zdec DX7_loudness 0 rfl) rfl rfl (by decide) ?_
  refine z_iload_n 1 (zdec DX7_loudness 1 rfl) rfl rfl ?_
  refine z_inv mX7_listen 31 7 [.inl a] (zdec DX7_loudness 2 rfl) ml_SixWalls_Ways_66 okX7_listen rfl shp31 rfl rfl rfl rfl (Nat.le_of_ble_eq_true rfl) (Nat.le_of_ble_eq_true rfl) (b' := (0, 0)) ⟨Nat.le_refl 0, Nat.le_refl 0⟩ (Nat.le_of_ble_eq_true rfl) (cX7_listen hP hG hR a) (fun rv9 S9 M1 h9 => ?_)
  obtain ⟨rfl, rfl, hl1, hl2⟩ := h9
  change zW _ _ _ _ _ 5 [(0, .inr (.inr 31)), (1, .inl a), (2, .inl b), (3, .inl loud)] [] M1
  refine z_iconst 0 (zdec DX7_loudness 3 rfl) (by decide) ?_
  refine z_iload_n 3 (zdec DX7_loudness 4 rfl) rfl rfl ?_
  refine z_aload_n 0 (zdec DX7_loudness 5 rfl) rfl rfl (by decide) ?_
  refine z_getr (rw1 := -41) (ki := 2) (r' := 33) 31 7 (zdec DX7_loudness 6 rfl) rfl rfl shp31 rfl (by decide) rfl rfl fl_SixWalls_Ways_15 (zPa (hl2.P (by decide) hP) 36 rfl) ?_
  refine z_iload_n 2 (zdec DX7_loudness 7 rfl) rfl rfl ?_
  refine z_iald 33 (zdec DX7_loudness 8 rfl) rfl shp33 ⟨by omega, by omega⟩ ?_
  have hlb := zlis_B hR a b hb.1 hb.2
  have hle := hl1 b hb.1 hb.2
  refine z_isub (zdec DX7_loudness 9 rfl) (by unfold z32; omega) ?_
  refine z_mmax (zdec DX7_loudness 10 rfl) ml_SixWalls_Ways_45 (by decide) (Nat.le_of_ble_eq_true rfl) ?_
  exact z_iret (zdec DX7_loudness 11 rfl) rfl (⟨rfl, zri (by rw [hle]), hl2⟩)
set_option maxHeartbeats 4000000 in
theorem lp_X7_hearers_10 {Q : zPost} {M M1 : zMm} (hP : zP M) (a loud : Int) (hl1 : zH (M1 33) (zlis M a)) (hl2 : zonly 33 M M1) (hx41 : ∀ (f : Int), (f = zhear M a loud 16) → zW mX7_hearers 3 Q (0, 0) zS0 41 [(3, .inl f)] [] M1) : ∀ (n : Nat) (f : Int) (h : Int), (16 - h).toNat < n → (0 ≤ h ∧ h ≤ 16 ∧ f = zhear M a loud h) → zW mX7_hearers 3 Q (0, 0) zS0 10 [(0, .inr (.inr 31)), (2, .inl loud), (3, .inl f), (4, .inl h)] [] M1 := by
  intro n
  induction n with
  | zero => intro f h hn; exact absurd hn (Nat.not_lt_zero _)
  | succ n ih =>
    intro f h hn hI
    have el := hl1 h hI.1
    refine z_iload 3 (zdec DX7_hearers 7 rfl) rfl ?_
    refine z_bipush 16 (zdec DX7_hearers 8 rfl) (by decide) ?_
    refine z_icmp_ge 41 (zdec DX7_hearers 9 rfl) rfl (fun h14 => ?_) (fun h14 => ?_)
    ·
      refine z_weak (L' := [(3, .inl f)]) (by simp) ?_
      exact hx41 f (by rw [hI.2.2, show h = 16 by omega])
    ·
      refine z_iload_n 1 (zdec DX7_hearers 10 rfl) rfl rfl ?_
      refine z_aload_n 0 (zdec DX7_hearers 11 rfl) rfl rfl (by decide) ?_
      refine z_getr (rw1 := -41) (ki := 2) (r' := 33) 31 7 (zdec DX7_hearers 12 rfl) rfl rfl shp31 rfl (by decide) rfl rfl fl_SixWalls_Ways_15 (zPa (hl2.P (by decide) hP) 36 rfl) ?_
      refine z_iload 3 (zdec DX7_hearers 13 rfl) rfl ?_
      refine z_iald 33 (zdec DX7_hearers 14 rfl) rfl shp33 ⟨by omega, by omega⟩ ?_
      refine z_icmp_le 35 (zdec DX7_hearers 15 rfl) rfl (fun h25 => ?_) (fun h25 => ?_)
      ·
        refine z_iinc (L' := [(0, .inr (.inr 31)), (2, .inl loud), (3, .inl f), (4, .inl (h + 1))]) 3 (zdec DX7_hearers 22 rfl) rfl (by unfold z32; omega) rfl (by decide) ?_
        refine z_goto 10 (zdec DX7_hearers 23 rfl) rfl ?_
        exact ih f (h + 1) (by omega) ⟨by omega, by omega, by unfold zhear; rw [zfo_s _ _ hI.1, if_neg (by rw [← el (by omega)]; omega), hI.2.2]; rfl⟩
      ·
        refine z_iload_n 2 (zdec DX7_hearers 16 rfl) rfl rfl ?_
        refine z_iconst 1 (zdec DX7_hearers 17 rfl) (by decide) ?_
        refine z_iload 3 (zdec DX7_hearers 18 rfl) rfl ?_
        refine z_ishl (zdec DX7_hearers 19 rfl) ?_
        refine z_ior (zdec DX7_hearers 20 rfl) ?_
        refine z_istore_n (L' := [(0, .inr (.inr 31)), (2, .inl loud), (3, .inl (zor f (zshl 1 h))), (4, .inl h)]) (zdec DX7_hearers 21 rfl) rfl rfl (by decide) ?_
        refine z_iinc (L' := [(0, .inr (.inr 31)), (2, .inl loud), (3, .inl (zor f (zshl 1 h))), (4, .inl (h + 1))]) 3 (zdec DX7_hearers 22 rfl) rfl (by unfold z32; omega) rfl (by decide) ?_
        refine z_goto 10 (zdec DX7_hearers 23 rfl) rfl ?_
        exact ih (zor f (zshl 1 h)) (h + 1) (by omega) ⟨by omega, by omega, by unfold zhear; rw [zfo_s _ _ hI.1, if_pos (by rw [← el (by omega)]; omega), hI.2.2]; rfl⟩
set_option maxHeartbeats 4000000 in
theorem cX7_hearers {M : zMm} (hP : zP M) (hG : zG M) (hR : zRg M) (a loud : Int) : zW mX7_hearers 3 (fun rv S' M' => S' = zS0 ∧ rv = some (.inl (zhear M a loud 16)) ∧ zonly 33 M M') (0, 0) zS0 0 (zargs 0 [.inr (.inr 31), .inl a, .inl loud]) [] M := by
  change zW _ _ _ _ _ 0 [(0, .inr (.inr 31)), (1, .inl a), (2, .inl loud)] [] M
  refine z_aload_n 0 (zdec DX7_hearers 0 rfl) rfl rfl (by decide) ?_
  refine z_iload_n 1 (zdec DX7_hearers 1 rfl) rfl rfl ?_
  refine z_inv mX7_listen 31 7 [.inl a] (zdec DX7_hearers 2 rfl) ml_SixWalls_Ways_66 okX7_listen rfl shp31 rfl rfl rfl rfl (Nat.le_of_ble_eq_true rfl) (Nat.le_of_ble_eq_true rfl) (b' := (0, 0)) ⟨Nat.le_refl 0, Nat.le_refl 0⟩ (Nat.le_of_ble_eq_true rfl) (cX7_listen hP hG hR a) (fun rv9 S9 M1 h9 => ?_)
  obtain ⟨rfl, rfl, hl1, hl2⟩ := h9
  change zW _ _ _ _ _ 5 [(0, .inr (.inr 31)), (1, .inl a), (2, .inl loud)] [] M1
  refine z_iconst 0 (zdec DX7_hearers 3 rfl) (by decide) ?_
  refine z_istore_n (L' := [(0, .inr (.inr 31)), (1, .inl a), (2, .inl loud), (3, .inl 0)]) (zdec DX7_hearers 4 rfl) rfl rfl (by decide) ?_
  refine z_iconst 0 (zdec DX7_hearers 5 rfl) (by decide) ?_
  refine z_istore (L' := [(0, .inr (.inr 31)), (1, .inl a), (2, .inl loud), (3, .inl 0), (4, .inl 0)]) (zdec DX7_hearers 6 rfl) rfl (by decide) ?_
  refine z_weak (L' := [(0, .inr (.inr 31)), (2, .inl loud), (3, .inl 0), (4, .inl 0)]) (by simp) ?_
  refine lp_X7_hearers_10 hP a loud hl1 hl2 (hx41 := fun f hx => ?_) _ 0 0 (Nat.lt_succ_self _) ⟨by omega, by omega, rfl⟩
  refine z_iload_n 0 (zdec DX7_hearers 24 rfl) rfl rfl ?_
  exact z_iret (zdec DX7_hearers 25 rfl) rfl (⟨rfl, zri hx, hl2⟩)
set_option maxHeartbeats 4000000 in
theorem lp_X7_sources_5 {Q : zPost} {M : zMm} (hP : zP M) (hG : zG M) (hR : zRg M) (loud told : Int) (hx60 : ∀ (f : Int) (M2 : zMm), (f = zsrc M loud told 16 ∧ zonly 33 M M2) → zW mX7_sources 4 Q (0, 0) zS0 60 [(3, .inl f)] [] M2) : ∀ (n : Nat) (f : Int) (h : Int) (M2 : zMm), (16 - h).toNat < n → (0 ≤ h ∧ h ≤ 16 ∧ f = zsrc M loud told h ∧ zonly 33 M M2) → zW mX7_sources 4 Q (0, 0) zS0 5 [(0, .inr (.inr 31)), (1, .inl loud), (2, .inl told), (3, .inl f), (4, .inl h)] [] M2 := by
  intro n
  induction n with
  | zero => intro f h M2 hn; exact absurd hn (Nat.not_lt_zero _)
  | succ n ih =>
    intro f h M2 hn hI
    have hG2 : zG M2 := hI.2.2.2.G (by decide) hG
    have hR2 : zRg M2 := hI.2.2.2.R (by decide) hR
    have el : M2 7 = M 7 := hI.2.2.2 7 (by decide)
    have eh := zhear_of hI.2.2.2 h loud 16
    refine z_iload 4 (zdec DX7_sources 4 rfl) rfl ?_
    refine z_bipush 16 (zdec DX7_sources 5 rfl) (by decide) ?_
    refine z_icmp_ge 60 (zdec DX7_sources 6 rfl) rfl (fun h9 => ?_) (fun h9 => ?_)
    ·
      refine z_weak (L' := [(3, .inl f)]) (by simp) ?_
      exact hx60 f M2 (by have e : h = 16 := (by omega); subst e; exact hI.2.2)
    ·
      refine z_aload_n 0 (zdec DX7_sources 7 rfl) rfl rfl (by decide) ?_
      refine z_getr (rw1 := -41) (ki := 0) (r' := 1) 31 7 (zdec DX7_sources 8 rfl) rfl rfl shp31 rfl (by decide) rfl rfl fl_SixWalls_Ways_18 (zPa (hI.2.2.2.P (by decide) hP) 34 rfl) ?_
      refine z_getr (rw1 := -11) (ki := 5) (r' := 7) 1 1 (zdec DX7_sources 9 rfl) rfl rfl shp1 rfl (by decide) rfl rfl fl_SixWalls_Ways_54 (zPa (hI.2.2.2.P (by decide) hP) 14 rfl) ?_
      refine z_iload 4 (zdec DX7_sources 10 rfl) rfl ?_
      refine z_iald 7 (zdec DX7_sources 11 rfl) rfl shp7 ⟨by omega, by omega⟩ ?_
      refine z_iconst 1 (zdec DX7_sources 12 rfl) (by decide) ?_
      refine z_icmp_ne 54 (zdec DX7_sources 13 rfl) rfl (fun h23 => ?_) (fun h23 => ?_)
      ·
        refine z_iinc (L' := [(0, .inr (.inr 31)), (1, .inl loud), (2, .inl told), (3, .inl f), (4, .inl (h + 1))]) 4 (zdec DX7_sources 34 rfl) rfl (by unfold z32; omega) rfl (by decide) ?_
        refine z_goto 5 (zdec DX7_sources 35 rfl) rfl ?_
        exact ih f (h + 1) M2 (by omega) ⟨by omega, by omega, by unfold zsrc; rw [zfo_s _ _ hI.1, if_neg (by rw [← el]; omega), hI.2.2.1]; rfl, hI.2.2.2⟩
      ·
        refine z_aload_n 0 (zdec DX7_sources 14 rfl) rfl rfl (by decide) ?_
        refine z_iload 4 (zdec DX7_sources 15 rfl) rfl ?_
        refine z_iload_n 1 (zdec DX7_sources 16 rfl) rfl rfl ?_
        refine z_inv mX7_hearers 31 7 [.inl h, .inl loud] (zdec DX7_sources 17 rfl) ml_SixWalls_Ways_70 okX7_hearers rfl shp31 rfl rfl rfl rfl (Nat.le_of_ble_eq_true rfl) (Nat.le_of_ble_eq_true rfl) (b' := (0, 0)) ⟨Nat.le_refl 0, Nat.le_refl 0⟩ (Nat.le_of_ble_eq_true rfl) (cX7_hearers (hI.2.2.2.P (by decide) hP) hG2 hR2 h loud) (fun rv9 S9 M3 h9 => ?_)
        obtain ⟨rfl, rfl, ho⟩ := h9
        change zW _ _ _ _ _ 33 [(0, .inr (.inr 31)), (1, .inl loud), (2, .inl told), (3, .inl f), (4, .inl h)] [.inl (zhear M2 h loud 16)] M3
        refine z_iconst 1 (zdec DX7_sources 18 rfl) (by decide) ?_
        refine z_iload 4 (zdec DX7_sources 19 rfl) rfl ?_
        refine z_ishl (zdec DX7_sources 20 rfl) ?_
        refine z_ior (zdec DX7_sources 21 rfl) ?_
        refine z_iload_n 2 (zdec DX7_sources 22 rfl) rfl rfl ?_
        refine z_iconst 1 (zdec DX7_sources 23 rfl) (by decide) ?_
        refine z_iload 4 (zdec DX7_sources 24 rfl) rfl ?_
        refine z_ishl (zdec DX7_sources 25 rfl) ?_
        refine z_ior (zdec DX7_sources 26 rfl) ?_
        refine z_icmp_ne 54 (zdec DX7_sources 27 rfl) rfl (fun h44 => ?_) (fun h44 => ?_)
        ·
          refine z_iinc (L' := [(0, .inr (.inr 31)), (1, .inl loud), (2, .inl told), (3, .inl f), (4, .inl (h + 1))]) 4 (zdec DX7_sources 34 rfl) rfl (by unfold z32; omega) rfl (by decide) ?_
          refine z_goto 5 (zdec DX7_sources 35 rfl) rfl ?_
          exact ih f (h + 1) M3 (by omega) ⟨by omega, by omega, by unfold zsrc; rw [zfo_s _ _ hI.1, if_neg (by rw [← el, ← eh]; omega), hI.2.2.1]; rfl, hI.2.2.2.tr ho⟩
        ·
          refine z_iload_n 3 (zdec DX7_sources 28 rfl) rfl rfl ?_
          refine z_iconst 1 (zdec DX7_sources 29 rfl) (by decide) ?_
          refine z_iload 4 (zdec DX7_sources 30 rfl) rfl ?_
          refine z_ishl (zdec DX7_sources 31 rfl) ?_
          refine z_ior (zdec DX7_sources 32 rfl) ?_
          refine z_istore_n (L' := [(0, .inr (.inr 31)), (1, .inl loud), (2, .inl told), (3, .inl (zor f (zshl 1 h))), (4, .inl h)]) (zdec DX7_sources 33 rfl) rfl rfl (by decide) ?_
          refine z_iinc (L' := [(0, .inr (.inr 31)), (1, .inl loud), (2, .inl told), (3, .inl (zor f (zshl 1 h))), (4, .inl (h + 1))]) 4 (zdec DX7_sources 34 rfl) rfl (by unfold z32; omega) rfl (by decide) ?_
          refine z_goto 5 (zdec DX7_sources 35 rfl) rfl ?_
          exact ih (zor f (zshl 1 h)) (h + 1) M3 (by omega) ⟨by omega, by omega, by unfold zsrc; rw [zfo_s _ _ hI.1, if_pos (by rw [← el, ← eh]; omega), hI.2.2.1]; rfl, hI.2.2.2.tr ho⟩
set_option maxHeartbeats 4000000 in
theorem cX7_sources {M : zMm} (hP : zP M) (hG : zG M) (hR : zRg M) (loud told : Int) : zW mX7_sources 4 (fun rv S' M' => S' = zS0 ∧ rv = some (.inl (zsrc M loud told 16)) ∧ zonly 33 M M') (0, 0) zS0 0 (zargs 0 [.inr (.inr 31), .inl loud, .inl told]) [] M := by
  change zW _ _ _ _ _ 0 [(0, .inr (.inr 31)), (1, .inl loud), (2, .inl told)] [] M
  refine z_iconst 0 (zdec DX7_sources 0 rfl) (by decide) ?_
  refine z_istore_n (L' := [(0, .inr (.inr 31)), (1, .inl loud), (2, .inl told), (3, .inl 0)]) (zdec DX7_sources 1 rfl) rfl rfl (by decide) ?_
  refine z_iconst 0 (zdec DX7_sources 2 rfl) (by decide) ?_
  refine z_istore (L' := [(0, .inr (.inr 31)), (1, .inl loud), (2, .inl told), (3, .inl 0), (4, .inl 0)]) (zdec DX7_sources 3 rfl) rfl (by decide) ?_
  refine lp_X7_sources_5 hP hG hR loud told (hx60 := fun f M2 hx => ?_) _ 0 0 M (Nat.lt_succ_self _) ⟨by omega, by omega, rfl, zonly.rf⟩
  refine z_iload_n 0 (zdec DX7_sources 36 rfl) rfl rfl ?_
  exact z_iret (zdec DX7_sources 37 rfl) rfl (⟨rfl, zri hx.1, hx.2⟩)
set_option maxHeartbeats 4000000 in
theorem cX9_way {M : zMm} (hP : zP M) (hG : zG M) (v : Int) : zW mX9_way 4 (fun rv S' M' => S' = zS0 ∧ M = M' ∧ rv = some (.inl (if 0 ≤ v ∧ v / 100 < 16 ∧ v % 100 < 16 then (if zstepsF M (v / 100) (v % 100) < 0 then -2 else zstepsF M (v / 100) (v % 100)) else -1))) (0, 0) zS0 0 (zargs 0 [.inr (.inr 0), .inl v]) [] M := by
  change zW _ _ _ _ _ 0 [(0, .inr (.inr 0)), (1, .inl v)] [] M
  refine z_iload_n 1 (zdec DX9_way 0 rfl) rfl rfl ?_
  refine z_invs mX9_isPair [.inl v] (zdec DX9_way 1 rfl) (Or.inl ml_SixWalls_84) okX9_isPair rfl rfl (Nat.le_of_ble_eq_true rfl) (Nat.le_of_ble_eq_true rfl) (b' := (0, 0)) ⟨Nat.le_refl 0, Nat.le_refl 0⟩ (Nat.le_of_ble_eq_true rfl) (cX9_isPair v) (fun rv9 S9 M1 h9 => ?_)
  obtain ⟨rfl, rfl, rfl⟩ := h9
  change zW _ _ _ _ _ 4 [(0, .inr (.inr 0)), (1, .inl v)] [.inl (zb (0 ≤ v ∧ v / 100 < 16 ∧ v % 100 < 16))] M
  refine z_if_eq 25 (zdec DX9_way 2 rfl) rfl (fun h4 => ?_) (fun h4 => ?_)
  ·
    have hq4 : ¬ (0 ≤ v ∧ v / 100 < 16 ∧ v % 100 < 16) := zb_eq0.mp h4
    refine z_iconst (-1) (zdec DX9_way 13 rfl) (by decide) ?_
    exact z_iret (zdec DX9_way 14 rfl) rfl (⟨rfl, rfl, zri (by first | rw [if_pos hq4] | rw [if_neg hq4])⟩)
  ·
    have hq4 : 0 ≤ v ∧ v / 100 < 16 ∧ v % 100 < 16 := zb_ne0.mp h4
    have hq0 := hq4.1
    refine z_aload_n 0 (zdec DX9_way 3 rfl) rfl rfl (by decide) ?_
    refine z_getr (rw1 := -10) (ki := 4) (r' := 31) 0 9 (zdec DX9_way 4 rfl) rfl rfl shp0 rfl (by decide) rfl rfl fl_SixWalls_44 (zPa hP 4 rfl) ?_
    refine z_iload_n 1 (zdec DX9_way 5 rfl) rfl rfl ?_
    refine z_bipush 100 (zdec DX9_way 6 rfl) (by decide) ?_
    refine z_idivp (zdec DX9_way 7 rfl) (by omega) (by omega) ?_
    refine z_iload_n 1 (zdec DX9_way 8 rfl) rfl rfl ?_
    refine z_bipush 100 (zdec DX9_way 9 rfl) (by decide) ?_
    refine z_iremp (zdec DX9_way 10 rfl) (by omega) (by omega) ?_
    refine z_inv mX7_steps 31 7 [.inl (v / 100), .inl (v % 100)] (zdec DX9_way 11 rfl) ml_SixWalls_234 okX7_steps rfl shp31 rfl rfl rfl rfl (Nat.le_of_ble_eq_true rfl) (Nat.le_of_ble_eq_true rfl) (b' := (0, 0)) ⟨Nat.le_refl 0, Nat.le_refl 0⟩ (Nat.le_of_ble_eq_true rfl) (cX7_steps hP hG (v / 100) (v % 100)) (fun rv9 S9 M19 h9 => ?_)
    obtain ⟨rfl, rfl, rfl⟩ := h9
    change zW _ _ _ _ _ 22 [(0, .inr (.inr 0)), (1, .inl v)] [.inl (if zstepsF M (v / 100) (v % 100) < 0 then -2 else zstepsF M (v / 100) (v % 100))] M
    refine z_goto 26 (zdec DX9_way 12 rfl) rfl ?_
    exact z_iret (zdec DX9_way 14 rfl) rfl (⟨rfl, rfl, zri (by first | rw [if_pos hq4] | rw [if_neg hq4])⟩)
set_option maxHeartbeats 4000000 in
theorem cX9_doors {M : zMm} (hP : zP M) (hG : zG M) (hR : zRg M) (v : Int) : zW mX9_doors 4 (fun rv S' M' => S' = zS0 ∧ rv = some (.inl (if v = 0 then zshut M 16 else if v = 1 then zfri M 33 else -1)) ∧ zonly 32 M M') (0, 0) zS0 0 (zargs 0 [.inr (.inr 0), .inl v]) [] M := by
  change zW _ _ _ _ _ 0 [(0, .inr (.inr 0)), (1, .inl v)] [] M
  refine z_iload_n 1 (zdec DX9_doors 0 rfl) rfl rfl ?_
  refine z_if_ne 12 (zdec DX9_doors 1 rfl) rfl (fun h1 => ?_) (fun h1 => ?_)
  ·
    refine z_iload_n 1 (zdec DX9_doors 6 rfl) rfl rfl ?_
    refine z_iconst 1 (zdec DX9_doors 7 rfl) (by decide) ?_
    refine z_icmp_ne 27 (zdec DX9_doors 8 rfl) rfl (fun h14 => ?_) (fun h14 => ?_)
    ·
      refine z_iconst (-1) (zdec DX9_doors 13 rfl) (by decide) ?_
      exact z_iret (zdec DX9_doors 14 rfl) rfl (⟨rfl, zri (by first | rw [if_neg (show ¬ v = 0 by omega), if_pos (show v = 1 by omega)] | rw [if_neg (show ¬ v = 0 by omega), if_neg (show ¬ v = 1 by omega)]), zonly.rf⟩)
    ·
      refine z_aload_n 0 (zdec DX9_doors 9 rfl) rfl rfl (by decide) ?_
      refine z_getr (rw1 := -10) (ki := 4) (r' := 31) 0 9 (zdec DX9_doors 10 rfl) rfl rfl shp0 rfl (by decide) rfl rfl fl_SixWalls_44 (zPa hP 4 rfl) ?_
      refine z_inv mX7_friends 31 7 [] (zdec DX9_doors 11 rfl) ml_SixWalls_240 okX7_friends rfl shp31 rfl rfl rfl rfl (Nat.le_of_ble_eq_true rfl) (Nat.le_of_ble_eq_true rfl) (b' := (0, 0)) ⟨Nat.le_refl 0, Nat.le_refl 0⟩ (Nat.le_of_ble_eq_true rfl) (cX7_friends hP hG hR) (fun rv9 S9 M21 h9 => ?_)
      obtain ⟨rfl, rfl, rfl⟩ := h9
      change zW _ _ _ _ _ 24 [(0, .inr (.inr 0)), (1, .inl v)] [.inl (zfri M 33)] M
      refine z_goto 28 (zdec DX9_doors 12 rfl) rfl ?_
      exact z_iret (zdec DX9_doors 14 rfl) rfl (⟨rfl, zri (by first | rw [if_neg (show ¬ v = 0 by omega), if_pos (show v = 1 by omega)] | rw [if_neg (show ¬ v = 0 by omega), if_neg (show ¬ v = 1 by omega)]), zonly.rf⟩)
  ·
    refine z_aload_n 0 (zdec DX9_doors 2 rfl) rfl rfl (by decide) ?_
    refine z_getr (rw1 := -10) (ki := 4) (r' := 31) 0 9 (zdec DX9_doors 3 rfl) rfl rfl shp0 rfl (by decide) rfl rfl fl_SixWalls_44 (zPa hP 4 rfl) ?_
    refine z_inv mX7_shutIn 31 7 [] (zdec DX9_doors 4 rfl) ml_SixWalls_237 okX7_shutIn rfl shp31 rfl rfl rfl rfl (Nat.le_of_ble_eq_true rfl) (Nat.le_of_ble_eq_true rfl) (b' := (0, 0)) ⟨Nat.le_refl 0, Nat.le_refl 0⟩ (Nat.le_of_ble_eq_true rfl) (cX7_shutIn hP hG hR) (fun rv9 S9 M3 h9 => ?_)
    obtain ⟨rfl, rfl, ho⟩ := h9
    change zW _ _ _ _ _ 11 [(0, .inr (.inr 0)), (1, .inl v)] [.inl (zshut M 16)] M3
    exact z_iret (zdec DX9_doors 5 rfl) rfl (⟨rfl, zri (by rw [if_pos (by omega)]), ho⟩)
set_option maxHeartbeats 4000000 in
theorem cX9_heard {M : zMm} (hP : zP M) (hG : zG M) (hR : zRg M) (v l : Int) : zW mX9_heard 4 (fun rv S' M' => S' = zS0 ∧ rv = some (.inl (if (0 ≤ v ∧ v / 100 < 16 ∧ v % 100 < 16) ∧ 0 ≤ l ∧ l ≤ 99 then (if 0 < l - zlis M (v / 100) (v % 100) then l - zlis M (v / 100) (v % 100) else 0) else -1)) ∧ zonly 33 M M') (0, 0) zS0 0 (zargs 0 [.inr (.inr 0), .inl v, .inl l]) [] M := by
  change zW _ _ _ _ _ 0 [(0, .inr (.inr 0)), (1, .inl v), (2, .inl l)] [] M
  refine z_iload_n 1 (zdec DX9_heard 0 rfl) rfl rfl ?_
  refine z_invs mX9_isPair [.inl v] (zdec DX9_heard 1 rfl) (Or.inl ml_SixWalls_84) okX9_isPair rfl rfl (Nat.le_of_ble_eq_true rfl) (Nat.le_of_ble_eq_true rfl) (b' := (0, 0)) ⟨Nat.le_refl 0, Nat.le_refl 0⟩ (Nat.le_of_ble_eq_true rfl) (cX9_isPair v) (fun rv9 S9 M1 h9 => ?_)
  obtain ⟨rfl, rfl, rfl⟩ := h9
  change zW _ _ _ _ _ 4 [(0, .inr (.inr 0)), (1, .inl v), (2, .inl l)] [.inl (zb (0 ≤ v ∧ v / 100 < 16 ∧ v % 100 < 16))] M
  refine z_if_eq 17 (zdec DX9_heard 2 rfl) rfl (fun h4 => ?_) (fun h4 => ?_)
  ·
    refine z_iconst (-1) (zdec DX9_heard 8 rfl) (by decide) ?_
    exact z_iret (zdec DX9_heard 9 rfl) rfl (⟨rfl, zri (by rw [if_neg (by first | exact fun h => zb_eq0.mp h4 h.1 | exact fun h => h14 (zb_ne0.mpr h.2))]), zonly.rf⟩)
  ·
    have hq4 : 0 ≤ v ∧ v / 100 < 16 ∧ v % 100 < 16 := zb_ne0.mp h4
    have hq0 := hq4.1
    refine z_iload_n 2 (zdec DX9_heard 3 rfl) rfl rfl ?_
    refine z_iconst 0 (zdec DX9_heard 4 rfl) (by decide) ?_
    refine z_bipush 99 (zdec DX9_heard 5 rfl) (by decide) ?_
    refine z_invs mX9_within [.inl l, .inl 0, .inl 99] (zdec DX9_heard 6 rfl) (Or.inl ml_SixWalls_76) okX9_within rfl rfl (Nat.le_of_ble_eq_true rfl) (Nat.le_of_ble_eq_true rfl) (b' := (0, 0)) ⟨Nat.le_refl 0, Nat.le_refl 0⟩ (Nat.le_of_ble_eq_true rfl) (cX9_within l 0 99) (fun rv9 S9 M11 h9 => ?_)
    obtain ⟨rfl, rfl, rfl⟩ := h9
    change zW _ _ _ _ _ 14 [(0, .inr (.inr 0)), (1, .inl v), (2, .inl l)] [.inl (zb (0 ≤ l ∧ l ≤ 99))] M
    refine z_if_ne 19 (zdec DX9_heard 7 rfl) rfl (fun h14 => ?_) (fun h14 => ?_)
    ·
      have hq14 : 0 ≤ l ∧ l ≤ 99 := zb_ne0.mp h14
      refine z_aload_n 0 (zdec DX9_heard 10 rfl) rfl rfl (by decide) ?_
      refine z_getr (rw1 := -10) (ki := 4) (r' := 31) 0 9 (zdec DX9_heard 11 rfl) rfl rfl shp0 rfl (by decide) rfl rfl fl_SixWalls_44 (zPa hP 4 rfl) ?_
      refine z_iload_n 1 (zdec DX9_heard 12 rfl) rfl rfl ?_
      refine z_bipush 100 (zdec DX9_heard 13 rfl) (by decide) ?_
      refine z_idivp (zdec DX9_heard 14 rfl) (by omega) (by omega) ?_
      refine z_iload_n 1 (zdec DX9_heard 15 rfl) rfl rfl ?_
      refine z_bipush 100 (zdec DX9_heard 16 rfl) (by decide) ?_
      refine z_iremp (zdec DX9_heard 17 rfl) (by omega) (by omega) ?_
      refine z_iload_n 2 (zdec DX9_heard 18 rfl) rfl rfl ?_
      refine z_inv mX7_loudness 31 7 [.inl (v / 100), .inl (v % 100), .inl l] (zdec DX9_heard 19 rfl) ml_SixWalls_255 okX7_loudness rfl shp31 rfl rfl rfl rfl (Nat.le_of_ble_eq_true rfl) (Nat.le_of_ble_eq_true rfl) (b' := (0, 0)) ⟨Nat.le_refl 0, Nat.le_refl 0⟩ (Nat.le_of_ble_eq_true rfl) (cX7_loudness hP hG hR (v / 100) (v % 100) l ⟨by omega, by omega⟩ ⟨by omega, by omega⟩) (fun rv9 S9 M3 h9 => ?_)
      obtain ⟨rfl, rfl, ho⟩ := h9
      change zW _ _ _ _ _ 35 [(0, .inr (.inr 0)), (1, .inl v), (2, .inl l)] [.inl (if 0 < l - zlis M ((v / 100)) ((v % 100)) then l - zlis M ((v / 100)) ((v % 100)) else 0)] M3
      exact z_iret (zdec DX9_heard 20 rfl) rfl (⟨rfl, zri ((if_pos (show (0 ≤ v ∧ v / 100 < 16 ∧ v % 100 < 16) ∧ 0 ≤ l ∧ l ≤ 99 from ⟨hq4, hq14⟩)).symm), ho⟩)
    ·
      refine z_iconst (-1) (zdec DX9_heard 8 rfl) (by decide) ?_
      exact z_iret (zdec DX9_heard 9 rfl) rfl (⟨rfl, zri (by rw [if_neg (by first | exact fun h => zb_eq0.mp h4 h.1 | exact fun h => h14 (zb_ne0.mpr h.2))]), zonly.rf⟩)
set_option maxHeartbeats 4000000 in
theorem cX9_whose {M : zMm} (hP : zP M) (hG : zG M) (hR : zRg M) (l t : Int) : zW mX9_whose 5 (fun rv S' M' => S' = zS0 ∧ rv = some (.inl (if (0 ≤ l ∧ l ≤ 99) ∧ 0 ≤ t ∧ t ≤ 65535 then zsrc M l t 16 else -1)) ∧ zonly 33 M M') (0, 0) zS0 0 (zargs 0 [.inr (.inr 0), .inl l, .inl t]) [] M := by
  change zW _ _ _ _ _ 0 [(0, .inr (.inr 0)), (1, .inl l), (2, .inl t)] [] M
  refine z_iload_n 1 (zdec DX9_whose 0 rfl) rfl rfl ?_
  refine z_iconst 0 (zdec DX9_whose 1 rfl) (by decide) ?_
  refine z_bipush 99 (zdec DX9_whose 2 rfl) (by decide) ?_
  refine z_invs mX9_within [.inl l, .inl 0, .inl 99] (zdec DX9_whose 3 rfl) (Or.inl ml_SixWalls_76) okX9_within rfl rfl (Nat.le_of_ble_eq_true rfl) (Nat.le_of_ble_eq_true rfl) (b' := (0, 0)) ⟨Nat.le_refl 0, Nat.le_refl 0⟩ (Nat.le_of_ble_eq_true rfl) (cX9_within l 0 99) (fun rv9 S9 M4 h9 => ?_)
  obtain ⟨rfl, rfl, rfl⟩ := h9
  change zW _ _ _ _ _ 7 [(0, .inr (.inr 0)), (1, .inl l), (2, .inl t)] [.inl (zb (0 ≤ l ∧ l ≤ 99))] M
  refine z_if_eq 21 (zdec DX9_whose 4 rfl) rfl (fun h7 => ?_) (fun h7 => ?_)
  ·
    refine z_iconst (-1) (zdec DX9_whose 10 rfl) (by decide) ?_
    exact z_iret (zdec DX9_whose 11 rfl) rfl (⟨rfl, zri (by rw [if_neg (by first | exact fun h => zb_eq0.mp h7 h.1 | exact fun h => h18 (zb_ne0.mpr h.2))]), zonly.rf⟩)
  ·
    have hq7 := zb_ne0.mp h7
    refine z_iload_n 2 (zdec DX9_whose 5 rfl) rfl rfl ?_
    refine z_iconst 0 (zdec DX9_whose 6 rfl) (by decide) ?_
    refine z_ldcw 65535 (zdec DX9_whose 7 rfl) kc_SixWalls_258 rfl ⟨by decide, by decide⟩ ?_
    refine z_invs mX9_within [.inl t, .inl 0, .inl 65535] (zdec DX9_whose 8 rfl) (Or.inl ml_SixWalls_76) okX9_within rfl rfl (Nat.le_of_ble_eq_true rfl) (Nat.le_of_ble_eq_true rfl) (b' := (0, 0)) ⟨Nat.le_refl 0, Nat.le_refl 0⟩ (Nat.le_of_ble_eq_true rfl) (cX9_within t 0 65535) (fun rv9 S9 M15 h9 => ?_)
    obtain ⟨rfl, rfl, rfl⟩ := h9
    change zW _ _ _ _ _ 18 [(0, .inr (.inr 0)), (1, .inl l), (2, .inl t)] [.inl (zb (0 ≤ t ∧ t ≤ 65535))] M
    refine z_if_ne 23 (zdec DX9_whose 9 rfl) rfl (fun h18 => ?_) (fun h18 => ?_)
    ·
      have hq18 := zb_ne0.mp h18
      refine z_aload_n 0 (zdec DX9_whose 12 rfl) rfl rfl (by decide) ?_
      refine z_getr (rw1 := -10) (ki := 4) (r' := 31) 0 9 (zdec DX9_whose 13 rfl) rfl rfl shp0 rfl (by decide) rfl rfl fl_SixWalls_44 (zPa hP 4 rfl) ?_
      refine z_iload_n 1 (zdec DX9_whose 14 rfl) rfl rfl ?_
      refine z_iload_n 2 (zdec DX9_whose 15 rfl) rfl rfl ?_
      refine z_inv mX7_sources 31 7 [.inl l, .inl t] (zdec DX9_whose 16 rfl) ml_SixWalls_259 okX7_sources rfl shp31 rfl rfl rfl rfl (Nat.le_of_ble_eq_true rfl) (Nat.le_of_ble_eq_true rfl) (b' := (0, 0)) ⟨Nat.le_refl 0, Nat.le_refl 0⟩ (Nat.le_of_ble_eq_true rfl) (cX7_sources hP hG hR l t) (fun rv9 S9 M3 h9 => ?_)
      obtain ⟨rfl, rfl, ho⟩ := h9
      change zW _ _ _ _ _ 32 [(0, .inr (.inr 0)), (1, .inl l), (2, .inl t)] [.inl (zsrc M l t 16)] M3
      exact z_iret (zdec DX9_whose 17 rfl) rfl (⟨rfl, zri (by rw [if_pos ⟨hq7, hq18⟩]), ho⟩)
    ·
      refine z_iconst (-1) (zdec DX9_whose 10 rfl) (by decide) ?_
      exact z_iret (zdec DX9_whose 11 rfl) rfl (⟨rfl, zri (by rw [if_neg (by first | exact fun h => zb_eq0.mp h7 h.1 | exact fun h => h18 (zb_ne0.mpr h.2))]), zonly.rf⟩)
def zlbc (i : Int) : Int :=
  let a := zlw (i - zland (zlushr i 1) 6148914691236517205)
  let b := zlw (zland a 3689348814741910323 + zland (zlushr a 2) 3689348814741910323)
  let c := zland (zlw (b + zlushr b 4)) 1085102592571150095
  let d := zlw (c + zlushr c 8)
  let e := zlw (d + zlushr d 16)
  let f := zlw (e + zlushr e 32)
  zand (zw f) 127
set_option maxHeartbeats 4000000 in
theorem cJ13_bitCount {M : zMm} (i : Int) : zW mJ13_bitCount_95d88 1 (fun rv S' M' => S' = zS0 ∧ M = M' ∧ rv = some (.inl (zlbc i))) (0, 0) zS0 0 (zargs 0 [.inr (.inl i)]) [] M := by
  change zW _ _ _ _ _ 0 [(0, .inr (.inl i))] [] M
  refine z_lload_n 0 (zdec DJ13_bitCount_95d88 0 rfl) rfl rfl ?_
  refine z_lload_n 0 (zdec DJ13_bitCount_95d88 1 rfl) rfl rfl ?_
  refine z_iconst 1 (zdec DJ13_bitCount_95d88 2 rfl) (by decide) ?_
  refine z_lushr (zdec DJ13_bitCount_95d88 3 rfl) ?_
  refine z_ldc2 6148914691236517205 (zdec DJ13_bitCount_95d88 4 rfl) kl_JLong_314 rfl ⟨by decide, by decide⟩ ?_
  refine z_land (zdec DJ13_bitCount_95d88 5 rfl) ?_
  refine z_lsubw (zdec DJ13_bitCount_95d88 6 rfl) ?_
  refine z_lstore_n (L' := [(0, .inr (.inl (zlw (i - (zland (zlushr i 1) 6148914691236517205)))))]) (zdec DJ13_bitCount_95d88 7 rfl) rfl rfl (by decide) ?_
  refine z_lload_n 0 (zdec DJ13_bitCount_95d88 8 rfl) rfl rfl ?_
  refine z_ldc2 3689348814741910323 (zdec DJ13_bitCount_95d88 9 rfl) kl_JLong_316 rfl ⟨by decide, by decide⟩ ?_
  refine z_land (zdec DJ13_bitCount_95d88 10 rfl) ?_
  refine z_lload_n 0 (zdec DJ13_bitCount_95d88 11 rfl) rfl rfl ?_
  refine z_iconst 2 (zdec DJ13_bitCount_95d88 12 rfl) (by decide) ?_
  refine z_lushr (zdec DJ13_bitCount_95d88 13 rfl) ?_
  refine z_ldc2 3689348814741910323 (zdec DJ13_bitCount_95d88 14 rfl) kl_JLong_316 rfl ⟨by decide, by decide⟩ ?_
  refine z_land (zdec DJ13_bitCount_95d88 15 rfl) ?_
  refine z_laddw (zdec DJ13_bitCount_95d88 16 rfl) ?_
  refine z_lstore_n (L' := [(0, .inr (.inl (zlw ((zland (zlw (i - (zland (zlushr i 1) 6148914691236517205))) 3689348814741910323) + (zland (zlushr (zlw (i - (zland (zlushr i 1) 6148914691236517205))) 2) 3689348814741910323)))))]) (zdec DJ13_bitCount_95d88 17 rfl) rfl rfl (by decide) ?_
  refine z_lload_n 0 (zdec DJ13_bitCount_95d88 18 rfl) rfl rfl ?_
  refine z_lload_n 0 (zdec DJ13_bitCount_95d88 19 rfl) rfl rfl ?_
  refine z_iconst 4 (zdec DJ13_bitCount_95d88 20 rfl) (by decide) ?_
  refine z_lushr (zdec DJ13_bitCount_95d88 21 rfl) ?_
  refine z_laddw (zdec DJ13_bitCount_95d88 22 rfl) ?_
  refine z_ldc2 1085102592571150095 (zdec DJ13_bitCount_95d88 23 rfl) kl_JLong_318 rfl ⟨by decide, by decide⟩ ?_
  refine z_land (zdec DJ13_bitCount_95d88 24 rfl) ?_
  refine z_lstore_n (L' := [(0, .inr (.inl (zland (zlw ((zlw ((zland (zlw (i - (zland (zlushr i 1) 6148914691236517205))) 3689348814741910323) + (zland (zlushr (zlw (i - (zland (zlushr i 1) 6148914691236517205))) 2) 3689348814741910323))) + (zlushr (zlw ((zland (zlw (i - (zland (zlushr i 1) 6148914691236517205))) 3689348814741910323) + (zland (zlushr (zlw (i - (zland (zlushr i 1) 6148914691236517205))) 2) 3689348814741910323))) 4))) 1085102592571150095)))]) (zdec DJ13_bitCount_95d88 25 rfl) rfl rfl (by decide) ?_
  refine z_lload_n 0 (zdec DJ13_bitCount_95d88 26 rfl) rfl rfl ?_
  refine z_lload_n 0 (zdec DJ13_bitCount_95d88 27 rfl) rfl rfl ?_
  refine z_bipush 8 (zdec DJ13_bitCount_95d88 28 rfl) (by decide) ?_
  refine z_lushr (zdec DJ13_bitCount_95d88 29 rfl) ?_
  refine z_laddw (zdec DJ13_bitCount_95d88 30 rfl) ?_
  refine z_lstore_n (L' := [(0, .inr (.inl (zlw ((zland (zlw ((zlw ((zland (zlw (i - (zland (zlushr i 1) 6148914691236517205))) 3689348814741910323) + (zland (zlushr (zlw (i - (zland (zlushr i 1) 6148914691236517205))) 2) 3689348814741910323))) + (zlushr (zlw ((zland (zlw (i - (zland (zlushr i 1) 6148914691236517205))) 3689348814741910323) + (zland (zlushr (zlw (i - (zland (zlushr i 1) 6148914691236517205))) 2) 3689348814741910323))) 4))) 1085102592571150095) + (zlushr (zland (zlw ((zlw ((zland (zlw (i - (zland (zlushr i 1) 6148914691236517205))) 3689348814741910323) + (zland (zlushr (zlw (i - (zland (zlushr i 1) 6148914691236517205))) 2) 3689348814741910323))) + (zlushr (zlw ((zland (zlw (i - (zland (zlushr i 1) 6148914691236517205))) 3689348814741910323) + (zland (zlushr (zlw (i - (zland (zlushr i 1) 6148914691236517205))) 2) 3689348814741910323))) 4))) 1085102592571150095) 8)))))]) (zdec DJ13_bitCount_95d88 31 rfl) rfl rfl (by decide) ?_
  refine z_lload_n 0 (zdec DJ13_bitCount_95d88 32 rfl) rfl rfl ?_
  refine z_lload_n 0 (zdec DJ13_bitCount_95d88 33 rfl) rfl rfl ?_
  refine z_bipush 16 (zdec DJ13_bitCount_95d88 34 rfl) (by decide) ?_
  refine z_lushr (zdec DJ13_bitCount_95d88 35 rfl) ?_
  refine z_laddw (zdec DJ13_bitCount_95d88 36 rfl) ?_
  refine z_lstore_n (L' := [(0, .inr (.inl (zlw ((zlw ((zland (zlw ((zlw ((zland (zlw (i - (zland (zlushr i 1) 6148914691236517205))) 3689348814741910323) + (zland (zlushr (zlw (i - (zland (zlushr i 1) 6148914691236517205))) 2) 3689348814741910323))) + (zlushr (zlw ((zland (zlw (i - (zland (zlushr i 1) 6148914691236517205))) 3689348814741910323) + (zland (zlushr (zlw (i - (zland (zlushr i 1) 6148914691236517205))) 2) 3689348814741910323))) 4))) 1085102592571150095) + (zlushr (zland (zlw ((zlw ((zland (zlw (i - (zland (zlushr i 1) 6148914691236517205))) 3689348814741910323) + (zland (zlushr (zlw (i - (zland (zlushr i 1) 6148914691236517205))) 2) 3689348814741910323))) + (zlushr (zlw ((zland (zlw (i - (zland (zlushr i 1) 6148914691236517205))) 3689348814741910323) + (zland (zlushr (zlw (i - (zland (zlushr i 1) 6148914691236517205))) 2) 3689348814741910323))) 4))) 1085102592571150095) 8))) + (zlushr (zlw ((zland (zlw ((zlw ((zland (zlw (i - (zland (zlushr i 1) 6148914691236517205))) 3689348814741910323) + (zland (zlushr (zlw (i - (zland (zlushr i 1) 6148914691236517205))) 2) 3689348814741910323))) + (zlushr (zlw ((zland (zlw (i - (zland (zlushr i 1) 6148914691236517205))) 3689348814741910323) + (zland (zlushr (zlw (i - (zland (zlushr i 1) 6148914691236517205))) 2) 3689348814741910323))) 4))) 1085102592571150095) + (zlushr (zland (zlw ((zlw ((zland (zlw (i - (zland (zlushr i 1) 6148914691236517205))) 3689348814741910323) + (zland (zlushr (zlw (i - (zland (zlushr i 1) 6148914691236517205))) 2) 3689348814741910323))) + (zlushr (zlw ((zland (zlw (i - (zland (zlushr i 1) 6148914691236517205))) 3689348814741910323) + (zland (zlushr (zlw (i - (zland (zlushr i 1) 6148914691236517205))) 2) 3689348814741910323))) 4))) 1085102592571150095) 8))) 16)))))]) (zdec DJ13_bitCount_95d88 37 rfl) rfl rfl (by decide) ?_
  refine z_lload_n 0 (zdec DJ13_bitCount_95d88 38 rfl) rfl rfl ?_
  refine z_lload_n 0 (zdec DJ13_bitCount_95d88 39 rfl) rfl rfl ?_
  refine z_bipush 32 (zdec DJ13_bitCount_95d88 40 rfl) (by decide) ?_
  refine z_lushr (zdec DJ13_bitCount_95d88 41 rfl) ?_
  refine z_laddw (zdec DJ13_bitCount_95d88 42 rfl) ?_
  refine z_lstore_n (L' := [(0, .inr (.inl (zlw ((zlw ((zlw ((zland (zlw ((zlw ((zland (zlw (i - (zland (zlushr i 1) 6148914691236517205))) 3689348814741910323) + (zland (zlushr (zlw (i - (zland (zlushr i 1) 6148914691236517205))) 2) 3689348814741910323))) + (zlushr (zlw ((zland (zlw (i - (zland (zlushr i 1) 6148914691236517205))) 3689348814741910323) + (zland (zlushr (zlw (i - (zland (zlushr i 1) 6148914691236517205))) 2) 3689348814741910323))) 4))) 1085102592571150095) + (zlushr (zland (zlw ((zlw ((zland (zlw (i - (zland (zlushr i 1) 6148914691236517205))) 3689348814741910323) + (zland (zlushr (zlw (i - (zland (zlushr i 1) 6148914691236517205))) 2) 3689348814741910323))) + (zlushr (zlw ((zland (zlw (i - (zland (zlushr i 1) 6148914691236517205))) 3689348814741910323) + (zland (zlushr (zlw (i - (zland (zlushr i 1) 6148914691236517205))) 2) 3689348814741910323))) 4))) 1085102592571150095) 8))) + (zlushr (zlw ((zland (zlw ((zlw ((zland (zlw (i - (zland (zlushr i 1) 6148914691236517205))) 3689348814741910323) + (zland (zlushr (zlw (i - (zland (zlushr i 1) 6148914691236517205))) 2) 3689348814741910323))) + (zlushr (zlw ((zland (zlw (i - (zland (zlushr i 1) 6148914691236517205))) 3689348814741910323) + (zland (zlushr (zlw (i - (zland (zlushr i 1) 6148914691236517205))) 2) 3689348814741910323))) 4))) 1085102592571150095) + (zlushr (zland (zlw ((zlw ((zland (zlw (i - (zland (zlushr i 1) 6148914691236517205))) 3689348814741910323) + (zland (zlushr (zlw (i - (zland (zlushr i 1) 6148914691236517205))) 2) 3689348814741910323))) + (zlushr (zlw ((zland (zlw (i - (zland (zlushr i 1) 6148914691236517205))) 3689348814741910323) + (zland (zlushr (zlw (i - (zland (zlushr i 1) 6148914691236517205))) 2) 3689348814741910323))) 4))) 1085102592571150095) 8))) 16))) + (zlushr (zlw ((zlw ((zland (zlw ((zlw ((zland (zlw (i - (zland (zlushr i 1) 6148914691236517205))) 3689348814741910323) + (zland (zlushr (zlw (i - (zland (zlushr i 1) 6148914691236517205))) 2) 3689348814741910323))) + (zlushr (zlw ((zland (zlw (i - (zland (zlushr i 1) 6148914691236517205))) 3689348814741910323) + (zland (zlushr (zlw (i - (zland (zlushr i 1) 6148914691236517205))) 2) 3689348814741910323))) 4))) 1085102592571150095) + (zlushr (zland (zlw ((zlw ((zland (zlw (i - (zland (zlushr i 1) 6148914691236517205))) 3689348814741910323) + (zland (zlushr (zlw (i - (zland (zlushr i 1) 6148914691236517205))) 2) 3689348814741910323))) + (zlushr (zlw ((zland (zlw (i - (zland (zlushr i 1) 6148914691236517205))) 3689348814741910323) + (zland (zlushr (zlw (i - (zland (zlushr i 1) 6148914691236517205))) 2) 3689348814741910323))) 4))) 1085102592571150095) 8))) + (zlushr (zlw ((zland (zlw ((zlw ((zland (zlw (i - (zland (zlushr i 1) 6148914691236517205))) 3689348814741910323) + (zland (zlushr (zlw (i - (zland (zlushr i 1) 6148914691236517205))) 2) 3689348814741910323))) + (zlushr (zlw ((zland (zlw (i - (zland (zlushr i 1) 6148914691236517205))) 3689348814741910323) + (zland (zlushr (zlw (i - (zland (zlushr i 1) 6148914691236517205))) 2) 3689348814741910323))) 4))) 1085102592571150095) + (zlushr (zland (zlw ((zlw ((zland (zlw (i - (zland (zlushr i 1) 6148914691236517205))) 3689348814741910323) + (zland (zlushr (zlw (i - (zland (zlushr i 1) 6148914691236517205))) 2) 3689348814741910323))) + (zlushr (zlw ((zland (zlw (i - (zland (zlushr i 1) 6148914691236517205))) 3689348814741910323) + (zland (zlushr (zlw (i - (zland (zlushr i 1) 6148914691236517205))) 2) 3689348814741910323))) 4))) 1085102592571150095) 8))) 16))) 32)))))]) (zdec DJ13_bitCount_95d88 43 rfl) rfl rfl (by decide) ?_
  refine z_lload_n 0 (zdec DJ13_bitCount_95d88 44 rfl) rfl rfl ?_
  refine z_l2i (zdec DJ13_bitCount_95d88 45 rfl) ?_
  refine z_bipush 127 (zdec DJ13_bitCount_95d88 46 rfl) (by decide) ?_
  refine z_iand (zdec DJ13_bitCount_95d88 47 rfl) ?_
  exact z_iret (zdec DJ13_bitCount_95d88 48 rfl) rfl (⟨rfl, rfl, rfl⟩)
set_option maxHeartbeats 4000000 in
theorem cX9_opened {M : zMm} (hP : zP M) (hG : zG M) (v : Int) : zW mX9_opened 5 (fun rv S' M' => S' = zS0 ∧ rv = some (.inr (.inl (if v = 0 then zlbc (zfewN M 33).2 else if v = 1 then (zfewN M 33).2 else -9223372036854775808))) ∧ zonly 32 M M') (0, 0) zS0 0 (zargs 0 [.inr (.inr 0), .inl v]) [] M := by
  change zW _ _ _ _ _ 0 [(0, .inr (.inr 0)), (1, .inl v)] [] M
  refine z_iload_n 1 (zdec DX9_opened 0 rfl) rfl rfl ?_
  refine z_iconst 0 (zdec DX9_opened 1 rfl) (by decide) ?_
  refine z_iconst 1 (zdec DX9_opened 2 rfl) (by decide) ?_
  refine z_invs mX9_within [.inl v, .inl 0, .inl 1] (zdec DX9_opened 3 rfl) (Or.inl ml_SixWalls_76) okX9_within rfl rfl (Nat.le_of_ble_eq_true rfl) (Nat.le_of_ble_eq_true rfl) (b' := (0, 0)) ⟨Nat.le_refl 0, Nat.le_refl 0⟩ (Nat.le_of_ble_eq_true rfl) (cX9_within v 0 1) (fun rv9 S9 M3 h9 => ?_)
  obtain ⟨rfl, rfl, rfl⟩ := h9
  change zW _ _ _ _ _ 6 [(0, .inr (.inr 0)), (1, .inl v)] [.inl (zb (0 ≤ v ∧ v ≤ 1))] M
  refine z_if_ne 13 (zdec DX9_opened 4 rfl) rfl (fun h6 => ?_) (fun h6 => ?_)
  ·
    have hq6 : 0 ≤ v ∧ v ≤ 1 := zb_ne0.mp h6
    refine z_aload_n 0 (zdec DX9_opened 7 rfl) rfl rfl (by decide) ?_
    refine z_getr (rw1 := -10) (ki := 4) (r' := 31) 0 9 (zdec DX9_opened 8 rfl) rfl rfl shp0 rfl (by decide) rfl rfl fl_SixWalls_44 (zPa hP 4 rfl) ?_
    refine z_inv mX7_fewestMore 31 7 [] (zdec DX9_opened 9 rfl) ml_SixWalls_247 okX7_fewestMore rfl shp31 rfl rfl rfl rfl (Nat.le_of_ble_eq_true rfl) (Nat.le_of_ble_eq_true rfl) (b' := (0, 0)) ⟨Nat.le_refl 0, Nat.le_refl 0⟩ (Nat.le_of_ble_eq_true rfl) (cX7_fewestMore hP hG) (fun rv9 S9 M3 h9 => ?_)
    obtain ⟨rfl, rfl, ho⟩ := h9
    change zW _ _ _ _ _ 20 [(0, .inr (.inr 0)), (1, .inl v)] [.inr (.inl ((zfewN M 33).2))] M3
    refine z_lstore_n (L' := [(0, .inr (.inr 0)), (1, .inl v), (2, .inr (.inl ((zfewN M 33).2)))]) (zdec DX9_opened 10 rfl) rfl rfl (by decide) ?_
    refine z_iload_n 1 (zdec DX9_opened 11 rfl) rfl rfl ?_
    refine z_if_ne 33 (zdec DX9_opened 12 rfl) rfl (fun h22 => ?_) (fun h22 => ?_)
    ·
      refine z_lload_n 2 (zdec DX9_opened 17 rfl) rfl rfl ?_
      exact z_lret (zdec DX9_opened 18 rfl) rfl (⟨rfl, (by first | rw [if_pos (show v = 0 by omega)] | rw [if_neg (show ¬ v = 0 by omega), if_pos (show v = 1 by omega)]), ho⟩)
    ·
      refine z_lload_n 2 (zdec DX9_opened 13 rfl) rfl rfl ?_
      refine z_invs mJ13_bitCount_95d88 [.inr (.inl ((zfewN M 33).2))] (zdec DX9_opened 14 rfl) (Or.inl ml_SixWalls_251) okJ13_bitCount_95d88 rfl rfl (Nat.le_of_ble_eq_true rfl) (Nat.le_of_ble_eq_true rfl) (b' := (0, 0)) ⟨Nat.le_refl 0, Nat.le_refl 0⟩ (Nat.le_of_ble_eq_true rfl) (cJ13_bitCount ((zfewN M 33).2)) (fun rv9 S9 M26 h9 => ?_)
      obtain ⟨rfl, rfl, rfl⟩ := h9
      change zW _ _ _ _ _ 29 [(0, .inr (.inr 0)), (1, .inl v), (2, .inr (.inl ((zfewN M 33).2)))] [.inl (zlbc ((zfewN M 33).2))] M3
      refine z_i2l (zdec DX9_opened 15 rfl) ?_
      refine z_goto 34 (zdec DX9_opened 16 rfl) rfl ?_
      exact z_lret (zdec DX9_opened 18 rfl) rfl (⟨rfl, (by first | rw [if_pos (show v = 0 by omega)] | rw [if_neg (show ¬ v = 0 by omega), if_pos (show v = 1 by omega)]), ho⟩)
  ·
    refine z_ldc2 (-9223372036854775808) (zdec DX9_opened 5 rfl) kl_SixWalls_245 rfl ⟨by decide, by decide⟩ ?_
    exact z_lret (zdec DX9_opened 6 rfl) rfl (⟨rfl, (by rw [if_neg (show ¬ v = 0 from fun h => h6 (zb_ne0.mpr (by omega))), if_neg (show ¬ v = 1 from fun h => h6 (zb_ne0.mpr (by omega)))]), zonly.rf⟩)
