/-! contracts of Ways: the fewest doors more, noises; way, doors, opened, heard, whose of SixWalls -/
theorem zlow_low {M M2 : zMm} (h : zonly 32 M M2) (hG : zG M) : zG M2 := h.G (by decide) hG
def zhear (s : zMm) (a loud n : Int) : Int := zfo (fun f h => if zlis s a h < loud then zor f (zshl 1 h) else f) 0 n
def zsrc (s : zMm) (loud told n : Int) : Int := zfo (fun f h => if s 7 h = 1 ∧ zor (zhear s h loud 16) (zshl 1 h) = zor told (zshl 1 h) then zor f (zshl 1 h) else f) 0 n
theorem zlisN_B {s : zMm} (hR : zRg s) : ∀ (f : Nat) (L : Int → Int), zLB L → zLB (zlisN s f L) := by
  have hr : ∀ (L : Int → Int), zLB L → ∀ n : Nat, n ≤ 33 → zLB (zfold (zlis1 s) (L, 0) n).1 := by
    intro L hL n
    induction n with
    | zero => intro _; exact hL
    | succ n ih => intro hn; exact zlis1_B hR (ih (by omega)) (by omega) (by omega)
  intro f
  induction f with
  | zero => intro L hL; exact hL
  | succ f ih =>
    intro L hL
    unfold zlisN
    split
    · exact hr L hL 33 (Nat.le_refl _)
    · exact ih _ (hr L hL 33 (Nat.le_refl _))
theorem zlis_B {s : zMm} (hR : zRg s) (a : Int) : zLB (zlis s a) := zlisN_B hR 16 _ fun h _ _ => by unfold zlis0; split <;> omega
set_option maxHeartbeats 4000000 in
theorem lp_X7_fewestMore_50 {Q : zPost} {M : zMm} (hP : zP M) (hG : zG M) (q : Int) (hq : q = zwant M (zgat M 33) 16) (hx136 : ∀ (q2 : Int) (M2 : zMm), (q2 = (zfewN M 33).2 ∧ zonly 32 M M2) → zW mX7_fewestMore 3 Q (0, 0) zS0 136 [(2, .inr (.inl q2))] [] M2) : ∀ (n : Nat) (q2 : Int) (w : Int) (M2 : zMm), (33 - w).toNat < n → (0 ≤ w ∧ w ≤ 33 ∧ zH (M2 32) (zfewN M w).1 ∧ zCB (zfewN M w).1 ∧ zonly 32 M M2 ∧ q2 = (zfewN M w).2) → zW mX7_fewestMore 3 Q (0, 0) zS0 50 [(0, .inr (.inr 31)), (1, .inl q), (2, .inr (.inl q2)), (4, .inl w)] [] M2 := by
  intro n
  induction n with
  | zero => intro q2 w M2 hn; exact absurd hn (Nat.not_lt_zero _)
  | succ n ih =>
    intro q2 w M2 hn hI
    have hP2 : zP M2 := hI.2.2.2.2.1.P (by decide) hP
    have hG2 : zG M2 := hI.2.2.2.2.1.G (by decide) hG
    have lb := zlow_b w
    have lh := zhigh_b w
    have el := hI.2.2.1 (zlow w) lb.1 lb.2
    have eh := hI.2.2.1 (zhigh w) lh.1 lh.2
    have bl := hI.2.2.2.1 (zlow w) lb.1 lb.2
    have bh := hI.2.2.2.1 (zhigh w) lh.1 lh.2
    have es : 0 ≤ w → zfewN M (w + 1) = zfew1 q (zfewN M w) w := fun h => by unfold zfewN; rw [zfo_s _ _ h, hq]
    refine z_iload 3 (zdec DX7_fewestMore 31 rfl) rfl ?_
    refine z_bipush 33 (zdec DX7_fewestMore 32 rfl) (by decide) ?_
    refine z_icmp_ge 136 (zdec DX7_fewestMore 33 rfl) rfl (fun h54 => ?_) (fun h54 => ?_)
    ·
      refine z_weak (L' := [(2, .inr (.inl q2))]) (by simp) ?_
      exact hx136 q2 M2 (by have e : w = 33 := (by omega); subst e; exact ⟨hI.2.2.2.2.2, hI.2.2.2.2.1⟩)
    ·
      refine z_aload_n 0 (zdec DX7_fewestMore 34 rfl) rfl rfl (by decide) ?_
      refine z_getr (rw1 := -41) (ki := 1) (r' := 32) 31 7 (zdec DX7_fewestMore 35 rfl) rfl rfl shp31 rfl (by decide) rfl rfl fl_SixWalls_Ways_9 (zPa hP2 35 rfl) ?_
      refine z_aload_n 0 (zdec DX7_fewestMore 36 rfl) rfl rfl (by decide) ?_
      refine z_getr (rw1 := -41) (ki := 0) (r' := 1) 31 7 (zdec DX7_fewestMore 37 rfl) rfl rfl shp31 rfl (by decide) rfl rfl fl_SixWalls_Ways_18 (zPa hP2 34 rfl) ?_
      refine z_getr (rw1 := -11) (ki := 0) (r' := 2) 1 1 (zdec DX7_fewestMore 38 rfl) rfl rfl shp1 rfl (by decide) rfl rfl fl_SixWalls_Ways_31 (zPa hP2 9 rfl) ?_
      refine z_iload 3 (zdec DX7_fewestMore 39 rfl) rfl ?_
      refine z_iald 2 (zdec DX7_fewestMore 40 rfl) rfl shp2 ⟨by omega, by omega⟩ ?_
      rw [hG2.low (by omega) (by omega)]
      refine z_iald 32 (zdec DX7_fewestMore 41 rfl) rfl shp32 ⟨by omega, by omega⟩ ?_
      refine z_istore (L' := [(0, .inr (.inr 31)), (1, .inl q), (2, .inr (.inl q2)), (4, .inl w), (5, .inl (M2 32 (zlow w)))]) (zdec DX7_fewestMore 42 rfl) rfl (by decide) ?_
      refine z_aload_n 0 (zdec DX7_fewestMore 43 rfl) rfl rfl (by decide) ?_
      refine z_getr (rw1 := -41) (ki := 1) (r' := 32) 31 7 (zdec DX7_fewestMore 44 rfl) rfl rfl shp31 rfl (by decide) rfl rfl fl_SixWalls_Ways_9 (zPa hP2 35 rfl) ?_
      refine z_aload_n 0 (zdec DX7_fewestMore 45 rfl) rfl rfl (by decide) ?_
      refine z_getr (rw1 := -41) (ki := 0) (r' := 1) 31 7 (zdec DX7_fewestMore 46 rfl) rfl rfl shp31 rfl (by decide) rfl rfl fl_SixWalls_Ways_18 (zPa hP2 34 rfl) ?_
      refine z_getr (rw1 := -11) (ki := 1) (r' := 3) 1 1 (zdec DX7_fewestMore 47 rfl) rfl rfl shp1 rfl (by decide) rfl rfl fl_SixWalls_Ways_34 (zPa hP2 10 rfl) ?_
      refine z_iload 3 (zdec DX7_fewestMore 48 rfl) rfl ?_
      refine z_iald 3 (zdec DX7_fewestMore 49 rfl) rfl shp3 ⟨by omega, by omega⟩ ?_
      rw [hG2.high (by omega) (by omega)]
      refine z_iald 32 (zdec DX7_fewestMore 50 rfl) rfl shp32 ⟨by omega, by omega⟩ ?_
      refine z_istore (L' := [(0, .inr (.inr 31)), (1, .inl q), (2, .inr (.inl q2)), (4, .inl w), (5, .inl (M2 32 (zlow w))), (6, .inl (M2 32 (zhigh w)))]) (zdec DX7_fewestMore 51 rfl) rfl (by decide) ?_
      refine z_iload 4 (zdec DX7_fewestMore 52 rfl) rfl ?_
      refine z_iload 5 (zdec DX7_fewestMore 53 rfl) rfl ?_
      refine z_icmp_eq 130 (zdec DX7_fewestMore 54 rfl) rfl (fun h95 => ?_) (fun h95 => ?_)
      ·
        refine z_iinc (L' := [(0, .inr (.inr 31)), (1, .inl q), (2, .inr (.inl q2)), (4, .inl (w + 1)), (5, .inl (M2 32 (zlow w))), (6, .inl (M2 32 (zhigh w)))]) 3 (zdec DX7_fewestMore 76 rfl) rfl (by unfold z32; omega) rfl (by decide) ?_
        refine z_goto 50 (zdec DX7_fewestMore 77 rfl) rfl ?_
        refine z_weak (L' := [(0, .inr (.inr 31)), (1, .inl q), (2, .inr (.inl q2)), (4, .inl (w + 1))]) (by simp) ?_
        exact ih q2 (w + 1) M2 (by omega) (by have e9 : zfewN M (w + 1) = zfewN M w := (by rw [es hI.1]; unfold zfew1; rw [if_pos (Or.inl (by omega))]); exact ⟨by omega, by omega, by rw [e9]; exact hI.2.2.1, by rw [e9]; exact hI.2.2.2.1, hI.2.2.2.2.1, by rw [e9]; exact hI.2.2.2.2.2⟩)
      ·
        refine z_iload_n 1 (zdec DX7_fewestMore 55 rfl) rfl rfl ?_
        refine z_iload 4 (zdec DX7_fewestMore 56 rfl) rfl ?_
        refine z_ishr (zdec DX7_fewestMore 57 rfl) ?_
        refine z_iload_n 1 (zdec DX7_fewestMore 58 rfl) rfl rfl ?_
        refine z_iload 5 (zdec DX7_fewestMore 59 rfl) rfl ?_
        refine z_ishr (zdec DX7_fewestMore 60 rfl) ?_
        refine z_iand (zdec DX7_fewestMore 61 rfl) ?_
        refine z_iconst 1 (zdec DX7_fewestMore 62 rfl) (by decide) ?_
        refine z_iand (zdec DX7_fewestMore 63 rfl) ?_
        refine z_if_ne 115 (zdec DX7_fewestMore 64 rfl) rfl (fun h109 => ?_) (fun h109 => ?_)
        ·
          refine z_lload_n 2 (zdec DX7_fewestMore 66 rfl) rfl rfl ?_
          refine z_lconst 1 (zdec DX7_fewestMore 67 rfl) rfl ?_
          refine z_iload 3 (zdec DX7_fewestMore 68 rfl) rfl ?_
          refine z_lshl (zdec DX7_fewestMore 69 rfl) ?_
          refine z_lor (zdec DX7_fewestMore 70 rfl) ?_
          refine z_lstore_n (L' := [(0, .inr (.inr 31)), (1, .inl q), (2, .inr (.inl (zlor q2 (zlshl 1 w)))), (4, .inl w), (5, .inl (M2 32 (zlow w))), (6, .inl (M2 32 (zhigh w)))]) (zdec DX7_fewestMore 71 rfl) rfl rfl (by decide) ?_
          refine z_aload_n 0 (zdec DX7_fewestMore 72 rfl) rfl rfl (by decide) ?_
          refine z_iload 4 (zdec DX7_fewestMore 73 rfl) rfl ?_
          refine z_iload 5 (zdec DX7_fewestMore 74 rfl) rfl ?_
          refine z_inv mX7_join 31 7 [.inl (M2 32 (zlow w)), .inl (M2 32 (zhigh w))] (zdec DX7_fewestMore 75 rfl) ml_SixWalls_Ways_41 okX7_join rfl shp31 rfl rfl rfl rfl (Nat.le_of_ble_eq_true rfl) (Nat.le_of_ble_eq_true rfl) (b' := (0, 0)) ⟨Nat.le_refl 0, Nat.le_refl 0⟩ (Nat.le_of_ble_eq_true rfl) (cX7_join hP2 (M2 32 (zlow w)) (M2 32 (zhigh w)) (by rw [el]; exact bl) (by rw [eh]; exact bh) (zfewN M w).1 hI.2.2.1) (fun rv9 S9 M127 h9 => ?_)
          obtain ⟨rfl, rfl, hj1, hj2⟩ := h9
          change zW _ _ _ _ _ 130 [(0, .inr (.inr 31)), (1, .inl q), (2, .inr (.inl (zlor q2 (zlshl 1 w)))), (4, .inl w), (5, .inl (M2 32 (zlow w))), (6, .inl (M2 32 (zhigh w)))] [] M127
          refine z_iinc (L' := [(0, .inr (.inr 31)), (1, .inl q), (2, .inr (.inl (zlor q2 (zlshl 1 w)))), (4, .inl (w + 1)), (5, .inl (M2 32 (zlow w))), (6, .inl (M2 32 (zhigh w)))]) 3 (zdec DX7_fewestMore 76 rfl) rfl (by unfold z32; omega) rfl (by decide) ?_
          refine z_goto 50 (zdec DX7_fewestMore 77 rfl) rfl ?_
          refine z_weak (L' := [(0, .inr (.inr 31)), (1, .inl q), (2, .inr (.inl (zlor q2 (zlshl 1 w)))), (4, .inl (w + 1))]) (by simp) ?_
          exact ih (zlor q2 (zlshl 1 w)) (w + 1) M127 (by omega) (by have e9 : zfewN M (w + 1) = (zjoin (zfewN M w).1 ((zfewN M w).1 (zlow w)) ((zfewN M w).1 (zhigh w)), zlor (zfewN M w).2 (zlshl 1 w)) := (by rw [es hI.1]; unfold zfew1; rw [if_neg (by rw [← el, ← eh]; omega)]); rw [el, eh] at hj1; exact ⟨by omega, by omega, by rw [e9]; exact hj1, by rw [e9]; exact zCB_join hI.2.2.2.1 bl bh, hI.2.2.2.2.1.tr hj2, by rw [e9, hI.2.2.2.2.2]⟩)
        ·
          refine z_goto 130 (zdec DX7_fewestMore 65 rfl) rfl ?_
          refine z_iinc (L' := [(0, .inr (.inr 31)), (1, .inl q), (2, .inr (.inl q2)), (4, .inl (w + 1)), (5, .inl (M2 32 (zlow w))), (6, .inl (M2 32 (zhigh w)))]) 3 (zdec DX7_fewestMore 76 rfl) rfl (by unfold z32; omega) rfl (by decide) ?_
          refine z_goto 50 (zdec DX7_fewestMore 77 rfl) rfl ?_
          refine z_weak (L' := [(0, .inr (.inr 31)), (1, .inl q), (2, .inr (.inl q2)), (4, .inl (w + 1))]) (by simp) ?_
          exact ih q2 (w + 1) M2 (by omega) (by have e9 : zfewN M (w + 1) = zfewN M w := (by rw [es hI.1]; unfold zfew1; rw [if_pos (Or.inr (by rw [← el, ← eh]; omega))]); exact ⟨by omega, by omega, by rw [e9]; exact hI.2.2.1, by rw [e9]; exact hI.2.2.2.1, hI.2.2.2.2.1, by rw [e9]; exact hI.2.2.2.2.2⟩)
set_option maxHeartbeats 4000000 in
theorem lp_X7_fewestMore_9 {Q : zPost} {M M1 : zMm} (hP : zP M) (hG : zG M) (hg1 : zH (M1 32) (zgat M 33)) (hg2 : zCB (zgat M 33)) (hg3 : zonly 32 M M1) (hx45 : ∀ (q : Int), (q = zwant M (zgat M 33) 16) → zW mX7_fewestMore 3 Q (0, 0) zS0 45 [(0, .inr (.inr 31)), (1, .inl q)] [] M1) : ∀ (n : Nat) (q : Int) (h : Int), (16 - h).toNat < n → (0 ≤ h ∧ h ≤ 16 ∧ q = zwant M (zgat M 33) h) → zW mX7_fewestMore 3 Q (0, 0) zS0 9 [(0, .inr (.inr 31)), (1, .inl q), (2, .inl h)] [] M1 := by
  intro n
  induction n with
  | zero => intro q h hn; exact absurd hn (Nat.not_lt_zero _)
  | succ n ih =>
    intro q h hn hI
    have el := hg3 7 (by decide)
    have ec := hg1 h hI.1
    refine z_iload_n 2 (zdec DX7_fewestMore 6 rfl) rfl rfl ?_
    refine z_bipush 16 (zdec DX7_fewestMore 7 rfl) (by decide) ?_
    refine z_icmp_ge 45 (zdec DX7_fewestMore 8 rfl) rfl (fun h12 => ?_) (fun h12 => ?_)
    ·
      refine z_weak (L' := [(0, .inr (.inr 31)), (1, .inl q)]) (by simp) ?_
      exact hx45 q (by rw [hI.2.2, show h = 16 by omega])
    ·
      refine z_aload_n 0 (zdec DX7_fewestMore 9 rfl) rfl rfl (by decide) ?_
      refine z_getr (rw1 := -41) (ki := 0) (r' := 1) 31 7 (zdec DX7_fewestMore 10 rfl) rfl rfl shp31 rfl (by decide) rfl rfl fl_SixWalls_Ways_18 (zPa (hg3.P (by decide) hP) 34 rfl) ?_
      refine z_getr (rw1 := -11) (ki := 5) (r' := 7) 1 1 (zdec DX7_fewestMore 11 rfl) rfl rfl shp1 rfl (by decide) rfl rfl fl_SixWalls_Ways_54 (zPa (hg3.P (by decide) hP) 14 rfl) ?_
      refine z_iload_n 2 (zdec DX7_fewestMore 12 rfl) rfl rfl ?_
      refine z_iald 7 (zdec DX7_fewestMore 13 rfl) rfl shp7 ⟨by omega, by omega⟩ ?_
      refine z_iconst 1 (zdec DX7_fewestMore 14 rfl) (by decide) ?_
      refine z_icmp_ne 39 (zdec DX7_fewestMore 15 rfl) rfl (fun h25 => ?_) (fun h25 => ?_)
      ·
        refine z_iinc (L' := [(0, .inr (.inr 31)), (1, .inl q), (2, .inl (h + 1))]) 2 (zdec DX7_fewestMore 25 rfl) rfl (by unfold z32; omega) rfl (by decide) ?_
        refine z_goto 9 (zdec DX7_fewestMore 26 rfl) rfl ?_
        exact ih q (h + 1) (by omega) ⟨by omega, by omega, by unfold zwant; rw [zfo_s _ _ hI.1, if_neg (by rw [el] at h25; omega), hI.2.2]; rfl⟩
      ·
        refine z_iload_n 1 (zdec DX7_fewestMore 16 rfl) rfl rfl ?_
        refine z_iconst 1 (zdec DX7_fewestMore 17 rfl) (by decide) ?_
        refine z_aload_n 0 (zdec DX7_fewestMore 18 rfl) rfl rfl (by decide) ?_
        refine z_getr (rw1 := -41) (ki := 1) (r' := 32) 31 7 (zdec DX7_fewestMore 19 rfl) rfl rfl shp31 rfl (by decide) rfl rfl fl_SixWalls_Ways_9 (zPa (hg3.P (by decide) hP) 35 rfl) ?_
        refine z_iload_n 2 (zdec DX7_fewestMore 20 rfl) rfl rfl ?_
        refine z_iald 32 (zdec DX7_fewestMore 21 rfl) rfl shp32 ⟨by omega, by omega⟩ ?_
        refine z_ishl (zdec DX7_fewestMore 22 rfl) ?_
        refine z_ior (zdec DX7_fewestMore 23 rfl) ?_
        refine z_istore_n (L' := [(0, .inr (.inr 31)), (1, .inl (zor q (zshl 1 (M1 32 h)))), (2, .inl h)]) (zdec DX7_fewestMore 24 rfl) rfl rfl (by decide) ?_
        refine z_iinc (L' := [(0, .inr (.inr 31)), (1, .inl (zor q (zshl 1 (M1 32 h)))), (2, .inl (h + 1))]) 2 (zdec DX7_fewestMore 25 rfl) rfl (by unfold z32; omega) rfl (by decide) ?_
        refine z_goto 9 (zdec DX7_fewestMore 26 rfl) rfl ?_
        exact ih (zor q (zshl 1 (M1 32 h))) (h + 1) (by omega) ⟨by omega, by omega, by unfold zwant; rw [zfo_s _ _ hI.1, if_pos (by rw [el] at h25; omega), hI.2.2, ec (by omega)]; rfl⟩
set_option maxHeartbeats 4000000 in
theorem cX7_fewestMore {M : zMm} (hP : zP M) (hG : zG M) : zW mX7_fewestMore 3 (fun rv S' M' => S' = zS0 ∧ rv = some (.inr (.inl (zfewN M 33).2)) ∧ zonly 32 M M') (0, 0) zS0 0 (zargs 0 [.inr (.inr 31)]) [] M := by
  change zW _ _ _ _ _ 0 [(0, .inr (.inr 31))] [] M
  refine z_aload_n 0 (zdec DX7_fewestMore 0 rfl) rfl rfl (by decide) ?_
  refine z_inv mX7_gather 31 7 [] (zdec DX7_fewestMore 1 rfl) ml_SixWalls_Ways_51 okX7_gather rfl shp31 rfl rfl rfl rfl (Nat.le_of_ble_eq_true rfl) (Nat.le_of_ble_eq_true rfl) (b' := (0, 0)) ⟨Nat.le_refl 0, Nat.le_refl 0⟩ (Nat.le_of_ble_eq_true rfl) (cX7_gather hP hG) (fun rv9 S9 M1 h9 => ?_)
  obtain ⟨rfl, rfl, hg1, hg2, hg3⟩ := h9
  change zW _ _ _ _ _ 4 [(0, .inr (.inr 31))] [] M1
  refine z_ldc 65536 (zdec DX7_fewestMore 2 rfl) kc_SixWalls_Ways_57 rfl ⟨by decide, by decide⟩ ?_
  refine z_istore_n (L' := [(0, .inr (.inr 31)), (1, .inl 65536)]) (zdec DX7_fewestMore 3 rfl) rfl rfl (by decide) ?_
  refine z_iconst 0 (zdec DX7_fewestMore 4 rfl) (by decide) ?_
  refine z_istore_n (L' := [(0, .inr (.inr 31)), (1, .inl 65536), (2, .inl 0)]) (zdec DX7_fewestMore 5 rfl) rfl rfl (by decide) ?_
  refine lp_X7_fewestMore_9 hP hG hg1 hg2 hg3 (hx45 := fun q hq => ?_) _ 65536 0 (Nat.lt_succ_self _) ⟨by omega, by omega, rfl⟩
  refine z_lconst 0 (zdec DX7_fewestMore 27 rfl) rfl ?_
  refine z_lstore_n (L' := [(0, .inr (.inr 31)), (1, .inl q), (2, .inr (.inl 0))]) (zdec DX7_fewestMore 28 rfl) rfl rfl (by decide) ?_
  refine z_iconst 0 (zdec DX7_fewestMore 29 rfl) (by decide) ?_
  refine z_istore (L' := [(0, .inr (.inr 31)), (1, .inl q), (2, .inr (.inl 0)), (4, .inl 0)]) (zdec DX7_fewestMore 30 rfl) rfl (by decide) ?_
  refine lp_X7_fewestMore_50 hP hG q hq (hx136 := fun q2 M2 hy => ?_) _ 0 0 M1 (Nat.lt_succ_self _) ⟨by omega, by omega, hg1, hg2, hg3, rfl⟩
  refine z_lload_n 0 (zdec DX7_fewestMore 78 rfl) rfl rfl ?_
  exact z_lret (zdec DX7_fewestMore 79 rfl) rfl (⟨rfl, by rw [hy.1], hy.2⟩)
set_option maxHeartbeats 4000000 in
theorem cX7_pass {M : zMm} (hP : zP M) (hL : zLB (M 33)) (f t c : Int) (hf : 0 ≤ f ∧ f < 16) (ht : 0 ≤ t ∧ t < 16) (hc : 0 ≤ c ∧ c ≤ 1000) : zW mX7_pass 1 (fun rv S' M' => S' = zS0 ∧ ((M 33 f + c < M 33 t ∧ rv = some (.inl 1) ∧ M' = zup M 33 t (M 33 f + c)) ∨ (¬ M 33 f + c < M 33 t ∧ rv = some (.inl 0) ∧ M = M'))) (0, 0) zS0 0 (zargs 0 [.inr (.inr 31), .inl f, .inl t, .inl c]) [] M := by
  change zW _ _ _ _ _ 0 [(0, .inr (.inr 31)), (1, .inl f), (2, .inl t), (3, .inl c)] [] M
  have h1 := hL f hf.1 hf.2
  refine z_aload_n 0 (zdec DX7_pass 0 rfl) rfl rfl (by decide) ?_
  refine z_getr (rw1 := -41) (ki := 2) (r' := 33) 31 7 (zdec DX7_pass 1 rfl) rfl rfl shp31 rfl (by decide) rfl rfl fl_SixWalls_Ways_15 (zPa hP 36 rfl) ?_
  refine z_iload_n 1 (zdec DX7_pass 2 rfl) rfl rfl ?_
  refine z_iald 33 (zdec DX7_pass 3 rfl) rfl shp33 ⟨by omega, by omega⟩ ?_
  refine z_iload_n 3 (zdec DX7_pass 4 rfl) rfl rfl ?_
  refine z_iadd (zdec DX7_pass 5 rfl) (by unfold z32; omega) ?_
  refine z_aload_n 0 (zdec DX7_pass 6 rfl) rfl rfl (by decide) ?_
  refine z_getr (rw1 := -41) (ki := 2) (r' := 33) 31 7 (zdec DX7_pass 7 rfl) rfl rfl shp31 rfl (by decide) rfl rfl fl_SixWalls_Ways_15 (zPa hP 36 rfl) ?_
  refine z_iload_n 2 (zdec DX7_pass 8 rfl) rfl rfl ?_
  refine z_iald 33 (zdec DX7_pass 9 rfl) rfl shp33 ⟨by omega, by omega⟩ ?_
  refine z_icmp_lt 19 (zdec DX7_pass 10 rfl) rfl (fun h14 => ?_) (fun h14 => ?_)
  ·
    refine z_aload_n 0 (zdec DX7_pass 13 rfl) rfl rfl (by decide) ?_
    refine z_getr (rw1 := -41) (ki := 2) (r' := 33) 31 7 (zdec DX7_pass 14 rfl) rfl rfl shp31 rfl (by decide) rfl rfl fl_SixWalls_Ways_15 (zPa hP 36 rfl) ?_
    refine z_iload_n 2 (zdec DX7_pass 15 rfl) rfl rfl ?_
    refine z_aload_n 0 (zdec DX7_pass 16 rfl) rfl rfl (by decide) ?_
    refine z_getr (rw1 := -41) (ki := 2) (r' := 33) 31 7 (zdec DX7_pass 17 rfl) rfl rfl shp31 rfl (by decide) rfl rfl fl_SixWalls_Ways_15 (zPa hP 36 rfl) ?_
    refine z_iload_n 1 (zdec DX7_pass 18 rfl) rfl rfl ?_
    refine z_iald 33 (zdec DX7_pass 19 rfl) rfl shp33 ⟨by omega, by omega⟩ ?_
    refine z_iload_n 3 (zdec DX7_pass 20 rfl) rfl rfl ?_
    refine z_iadd (zdec DX7_pass 21 rfl) (by unfold z32; omega) ?_
    refine z_iast 33 (zdec DX7_pass 22 rfl) rfl shp33 ⟨by omega, by omega⟩ ?_
    refine z_iconst 1 (zdec DX7_pass 23 rfl) (by decide) ?_
    exact z_zret (zdec DX7_pass 24 rfl) rfl (by omega) (⟨rfl, Or.inl ⟨h14, rfl, rfl⟩⟩)
  ·
    refine z_iconst 0 (zdec DX7_pass 11 rfl) (by decide) ?_
    exact z_zret (zdec DX7_pass 12 rfl) rfl (by omega) (⟨rfl, Or.inr ⟨h14, rfl, rfl⟩⟩)
/-- what a pass does to a row that is as L says -/
theorem zrel_hit {M : zMm} {L : Int → Int} {f t c : Int} (h : zH (M 33) L) (hf : 0 ≤ f ∧ f < 16) (ht : 0 ≤ t ∧ t < 16) (hc : M 33 f + c < M 33 t) : zrel L f t c = (zpu L t (L f + c), 1) ∧ zH (zup M 33 t (M 33 f + c) 33) (zpu L t (L f + c)) := by
  have e1 := h f hf.1 hf.2
  have e2 := h t ht.1 ht.2
  refine ⟨by unfold zrel; rw [if_pos (by omega)], fun k h0 h1 => ?_⟩
  by_cases hk : k = t
  · subst hk
    rw [zup_self, zpu_s, e1]
  · rw [zup_ne hk, zpu_n hk]
    exact h k h0 h1
theorem zrel_miss {M : zMm} {L : Int → Int} {f t c : Int} (h : zH (M 33) L) (hf : 0 ≤ f ∧ f < 16) (ht : 0 ≤ t ∧ t < 16) (hc : ¬ M 33 f + c < M 33 t) : zrel L f t c = (L, 0) := by
  have e1 := h f hf.1 hf.2
  have e2 := h t ht.1 ht.2
  unfold zrel
  rw [if_neg (by omega)]
theorem zLB_c {f g : Int → Int} (h : zH f g) (hg : zLB g) : zLB f := fun k h0 h1 => by rw [h k h0 h1]; exact hg k h0 h1
theorem zls_a {M M2 M3 : zMm} {L : Int → Int} {w c nr : Int} (hR : zRg M) (hI : 0 ≤ w ∧ w ≤ 33 ∧ zH (M2 33) (zlisR M L w).1 ∧ zLB (zlisR M L w).1 ∧ zonly 33 M M2 ∧ nr = (zlisR M L w).2) (es : zlisR M L (w + 1) = zlis1 M (zlisR M L w) w) (lb : 0 ≤ zlow w ∧ zlow w < 16) (lh : 0 ≤ zhigh w ∧ zhigh w < 16) (hwl : zwl M w = c) (h1 : M2 33 (zlow w) + c < M2 33 (zhigh w)) (h2 : M3 = zup M2 33 (zhigh w) (M2 33 (zlow w) + c)) (hw : w < 33) : 0 ≤ w + 1 ∧ w + 1 ≤ 33 ∧ zH (M3 33) (zlisR M L (w + 1)).1 ∧ zLB (zlisR M L (w + 1)).1 ∧ zonly 33 M M3 ∧ 1 = (zlisR M L (w + 1)).2 := by
  have hb : zLB (zlisR M L (w + 1)).1 := by rw [es]; exact zlis1_B hR hI.2.2.2.1 hI.1 hw
  obtain ⟨e1, e2⟩ := zrel_hit hI.2.2.1 lb lh h1
  have e3 : zlisR M L (w + 1) = (zpu (zlisR M L w).1 (zhigh w) ((zlisR M L w).1 (zlow w) + c), 1) := by
    rw [es]
    unfold zlis1
    rw [hwl, e1, if_pos rfl]
  refine ⟨by omega, by omega, ?_, hb, by rw [h2]; exact hI.2.2.2.2.1.up, by rw [e3]⟩
  rw [e3, h2]
  exact e2
theorem zls_b {M M2 M1 M3 : zMm} {L : Int → Int} {w c nr r : Int} (hR : zRg M) (hI : 0 ≤ w ∧ w ≤ 33 ∧ zH (M2 33) (zlisR M L w).1 ∧ zLB (zlisR M L w).1 ∧ zonly 33 M M2 ∧ nr = (zlisR M L w).2) (es : zlisR M L (w + 1) = zlis1 M (zlisR M L w) w) (lb : 0 ≤ zlow w ∧ zlow w < 16) (lh : 0 ≤ zhigh w ∧ zhigh w < 16) (hwl : zwl M w = c) (h1 : ¬ M2 33 (zlow w) + c < M2 33 (zhigh w)) (h2 : M2 = M1)
    (hp : (M1 33 (zhigh w) + c < M1 33 (zlow w) ∧ some (Sum.inl r : zV) = some (.inl 1) ∧ M3 = zup M1 33 (zlow w) (M1 33 (zhigh w) + c)) ∨ (¬ M1 33 (zhigh w) + c < M1 33 (zlow w) ∧ some (Sum.inl r : zV) = some (.inl 0) ∧ M1 = M3)) (hr : r ≠ 0 ∧ w < 33) : 0 ≤ w + 1 ∧ w + 1 ≤ 33 ∧ zH (M3 33) (zlisR M L (w + 1)).1 ∧ zLB (zlisR M L (w + 1)).1 ∧ zonly 33 M M3 ∧ 1 = (zlisR M L (w + 1)).2 := by
  have hb : zLB (zlisR M L (w + 1)).1 := by rw [es]; exact zlis1_B hR hI.2.2.2.1 hI.1 hr.2
  subst h2
  rcases hp with ⟨h3, _, h4⟩ | ⟨_, h3, _⟩
  · obtain ⟨e1, e2⟩ := zrel_hit hI.2.2.1 lh lb h3
    have e3 : zlisR M L (w + 1) = (zpu (zlisR M L w).1 (zlow w) ((zlisR M L w).1 (zhigh w) + c), 1) := by
      rw [es]
      unfold zlis1
      rw [hwl, zrel_miss hI.2.2.1 lb lh h1, if_neg (show ¬ (0 : Int) = 1 by decide), e1, if_pos rfl]
    refine ⟨by omega, by omega, ?_, hb, by rw [h4]; exact hI.2.2.2.2.1.up, by rw [e3]⟩
    rw [e3, h4]
    exact e2
  · have : r = 0 := by simpa using h3
    omega
theorem zls_c {M M2 M1 M3 : zMm} {L : Int → Int} {w c nr r : Int} (hR : zRg M) (hI : 0 ≤ w ∧ w ≤ 33 ∧ zH (M2 33) (zlisR M L w).1 ∧ zLB (zlisR M L w).1 ∧ zonly 33 M M2 ∧ nr = (zlisR M L w).2) (es : zlisR M L (w + 1) = zlis1 M (zlisR M L w) w) (lb : 0 ≤ zlow w ∧ zlow w < 16) (lh : 0 ≤ zhigh w ∧ zhigh w < 16) (hwl : zwl M w = c) (h1 : ¬ M2 33 (zlow w) + c < M2 33 (zhigh w)) (h2 : M2 = M1)
    (hp : (M1 33 (zhigh w) + c < M1 33 (zlow w) ∧ some (Sum.inl r : zV) = some (.inl 1) ∧ M3 = zup M1 33 (zlow w) (M1 33 (zhigh w) + c)) ∨ (¬ M1 33 (zhigh w) + c < M1 33 (zlow w) ∧ some (Sum.inl r : zV) = some (.inl 0) ∧ M1 = M3)) (hr : r = 0 ∧ w < 33) : 0 ≤ w + 1 ∧ w + 1 ≤ 33 ∧ zH (M3 33) (zlisR M L (w + 1)).1 ∧ zLB (zlisR M L (w + 1)).1 ∧ zonly 33 M M3 ∧ nr = (zlisR M L (w + 1)).2 := by
  have hb : zLB (zlisR M L (w + 1)).1 := by rw [es]; exact zlis1_B hR hI.2.2.2.1 hI.1 hr.2
  subst h2
  rcases hp with ⟨_, h3, _⟩ | ⟨h3, _, h4⟩
  · have : r = 1 := by simpa using h3
    omega
  · have e3 : zlisR M L (w + 1) = ((zlisR M L w).1, (zlisR M L w).2) := by
      rw [es]
      unfold zlis1
      rw [hwl, zrel_miss hI.2.2.1 lb lh h1, if_neg (show ¬ (0 : Int) = 1 by decide), zrel_miss hI.2.2.1 lh lb h3, if_neg (show ¬ (0 : Int) = 1 by decide)]
    refine ⟨by omega, by omega, ?_, hb, by rw [← h4]; exact hI.2.2.2.2.1, by rw [e3]; exact hI.2.2.2.2.2⟩
    rw [e3, ← h4]
    exact hI.2.2.1
set_option maxHeartbeats 4000000 in
theorem lp_X7_listen_50 {Q : zPost} {M M0 : zMm} (hP : zP M) (hG : zG M) (hR : zRg M) (r : Int) (L : Int → Int) (hx157 : ∀ (nr : Int) (M3 : zMm), (zH (M3 33) (zlisR M L 33).1 ∧ zLB (zlisR M L 33).1 ∧ nr = (zlisR M L 33).2 ∧ zonly 33 M M3) → zW mX7_listen 2 Q (0, 0) zS0 157 [(0, .inr (.inr 31)), (2, .inl nr), (3, .inl r)] [] M3) : ∀ (n : Nat) (nr : Int) (w : Int) (M2 : zMm), (33 - w).toNat < n → (0 ≤ w ∧ w ≤ 33 ∧ zH (M2 33) (zlisR M L w).1 ∧ zLB (zlisR M L w).1 ∧ zonly 33 M M2 ∧ nr = (zlisR M L w).2) → zW mX7_listen 2 Q (0, 0) zS0 50 [(0, .inr (.inr 31)), (2, .inl nr), (3, .inl r), (4, .inl w)] [] M2 := by
  intro n
  induction n with
  | zero => intro nr w M2 hn; exact absurd hn (Nat.not_lt_zero _)
  | succ n ih =>
    intro nr w M2 hn hI
    have hP2 : zP M2 := hI.2.2.2.2.1.P (by decide) hP
    have hG2 : zG M2 := hI.2.2.2.2.1.G (by decide) hG
    have lb := zlow_b w
    have lh := zhigh_b w
    have ed : M2 12 = M 12 := hI.2.2.2.2.1 12 (by decide)
    have et : M2 11 = M 11 := hI.2.2.2.2.1 11 (by decide)
    have hLB := zLB_c hI.2.2.1 hI.2.2.2.1
    have es : zlisR M L (w + 1) = zlis1 M (zlisR M L w) w := by unfold zlisR; exact zfo_s _ _ hI.1
    refine z_iload 3 (zdec DX7_listen 30 rfl) rfl ?_
    refine z_bipush 33 (zdec DX7_listen 31 rfl) (by decide) ?_
    refine z_icmp_ge 157 (zdec DX7_listen 32 rfl) rfl (fun h54 => ?_) (fun h54 => ?_)
    ·
      refine z_weak (L' := [(0, .inr (.inr 31)), (2, .inl nr), (3, .inl r)]) (by simp) ?_
      exact hx157 nr M2 (by have e : w = 33 := (by omega); subst e; exact ⟨hI.2.2.1, hI.2.2.2.1, hI.2.2.2.2.2, hI.2.2.2.2.1⟩)
    ·
      refine z_aload_n 0 (zdec DX7_listen 33 rfl) rfl rfl (by decide) ?_
      refine z_getr (rw1 := -41) (ki := 0) (r' := 1) 31 7 (zdec DX7_listen 34 rfl) rfl rfl shp31 rfl (by decide) rfl rfl fl_SixWalls_Ways_18 (zPa hP2 34 rfl) ?_
      refine z_getr (rw1 := -11) (ki := 10) (r' := 12) 1 1 (zdec DX7_listen 35 rfl) rfl rfl shp1 rfl (by decide) rfl rfl fl_SixWalls_Ways_26 (zPa hP2 19 rfl) ?_
      refine z_iload 3 (zdec DX7_listen 36 rfl) rfl ?_
      refine z_iald 12 (zdec DX7_listen 37 rfl) rfl shp12 ⟨by omega, by omega⟩ ?_
      refine z_iconst 1 (zdec DX7_listen 38 rfl) (by decide) ?_
      refine z_icmp_ne 75 (zdec DX7_listen 39 rfl) rfl (fun h68 => ?_) (fun h68 => ?_)
      ·
        refine z_iconst 3 (zdec DX7_listen 42 rfl) (by decide) ?_
        refine z_iconst 2 (zdec DX7_listen 43 rfl) (by decide) ?_
        refine z_aload_n 0 (zdec DX7_listen 44 rfl) rfl rfl (by decide) ?_
        refine z_getr (rw1 := -41) (ki := 0) (r' := 1) 31 7 (zdec DX7_listen 45 rfl) rfl rfl shp31 rfl (by decide) rfl rfl fl_SixWalls_Ways_18 (zPa hP2 34 rfl) ?_
        refine z_getr (rw1 := -11) (ki := 9) (r' := 11) 1 1 (zdec DX7_listen 46 rfl) rfl rfl shp1 rfl (by decide) rfl rfl fl_SixWalls_Ways_59 (zPa hP2 18 rfl) ?_
        refine z_iload 3 (zdec DX7_listen 47 rfl) rfl ?_
        refine z_iald 11 (zdec DX7_listen 48 rfl) rfl shp11 ⟨by omega, by omega⟩ ?_
        refine z_imul (zdec DX7_listen 49 rfl) (by have := (hR.2.1 w (by omega) (by omega)).1; rw [et]; unfold z32; omega) ?_
        refine z_iadd (zdec DX7_listen 50 rfl) (by have := (hR.2.1 w (by omega) (by omega)).1; rw [et]; unfold z32; omega) ?_
        refine z_istore (L' := [(0, .inr (.inr 31)), (2, .inl nr), (3, .inl r), (4, .inl w), (5, .inl (3 + (2 * (M2 11 w))))]) (zdec DX7_listen 51 rfl) rfl (by decide) ?_
        have hwl : zwl M w = (3 + (2 * (M2 11 w))) := by unfold zwl; first | rw [if_pos (by rw [ed] at h68; omega)] | (rw [if_neg (by rw [ed] at h68; omega), et])
        have hwb := zwl_b hR hI.1 (by omega)
        refine z_aload_n 0 (zdec DX7_listen 52 rfl) rfl rfl (by decide) ?_
        refine z_aload_n 0 (zdec DX7_listen 53 rfl) rfl rfl (by decide) ?_
        refine z_getr (rw1 := -41) (ki := 0) (r' := 1) 31 7 (zdec DX7_listen 54 rfl) rfl rfl shp31 rfl (by decide) rfl rfl fl_SixWalls_Ways_18 (zPa hP2 34 rfl) ?_
        refine z_getr (rw1 := -11) (ki := 0) (r' := 2) 1 1 (zdec DX7_listen 55 rfl) rfl rfl shp1 rfl (by decide) rfl rfl fl_SixWalls_Ways_31 (zPa hP2 9 rfl) ?_
        refine z_iload 3 (zdec DX7_listen 56 rfl) rfl ?_
        refine z_iald 2 (zdec DX7_listen 57 rfl) rfl shp2 ⟨by omega, by omega⟩ ?_
        rw [hG2.low (by omega) (by omega)]
        refine z_aload_n 0 (zdec DX7_listen 58 rfl) rfl rfl (by decide) ?_
        refine z_getr (rw1 := -41) (ki := 0) (r' := 1) 31 7 (zdec DX7_listen 59 rfl) rfl rfl shp31 rfl (by decide) rfl rfl fl_SixWalls_Ways_18 (zPa hP2 34 rfl) ?_
        refine z_getr (rw1 := -11) (ki := 1) (r' := 3) 1 1 (zdec DX7_listen 60 rfl) rfl rfl shp1 rfl (by decide) rfl rfl fl_SixWalls_Ways_34 (zPa hP2 10 rfl) ?_
        refine z_iload 3 (zdec DX7_listen 61 rfl) rfl ?_
        refine z_iald 3 (zdec DX7_listen 62 rfl) rfl shp3 ⟨by omega, by omega⟩ ?_
        rw [hG2.high (by omega) (by omega)]
        refine z_iload 4 (zdec DX7_listen 63 rfl) rfl ?_
        refine z_inv mX7_pass 31 7 [.inl (zlow w), .inl (zhigh w), .inl (3 + (2 * (M2 11 w)))] (zdec DX7_listen 64 rfl) ml_SixWalls_Ways_62 okX7_pass rfl shp31 rfl rfl rfl rfl (Nat.le_of_ble_eq_true rfl) (Nat.le_of_ble_eq_true rfl) (b' := (0, 0)) ⟨Nat.le_refl 0, Nat.le_refl 0⟩ (Nat.le_of_ble_eq_true rfl) (cX7_pass hP2 hLB (zlow w) (zhigh w) (3 + (2 * (M2 11 w))) lb lh (by omega)) (fun rv9 S9 M114 h9 => ?_)
        obtain ⟨rfl, hp114⟩ := h9
        obtain ⟨r114, rfl⟩ : ∃ r, rv9 = some (.inl r) := by rcases hp114 with h | h <;> exact ⟨_, h.2.1⟩
        have ho114 : zonly 33 M2 M114 := by rcases hp114 with ⟨_, _, e⟩ | ⟨_, _, e⟩; (rw [e]; exact zonly.rf.up); (rw [← e]; exact zonly.rf)
        have hPM114 : zP M114 := ho114.P (by decide) hP2
        change zW _ _ _ _ _ 117 [(0, .inr (.inr 31)), (2, .inl nr), (3, .inl r), (4, .inl w), (5, .inl (3 + (2 * (M2 11 w))))] [.inl r114] M114
        refine z_if_ne 149 (zdec DX7_listen 65 rfl) rfl (fun h117 => ?_) (fun h117 => ?_)
        ·
          have hm114 : M2 33 (zlow w) + (3 + (2 * (M2 11 w))) < M2 33 (zhigh w) ∧ M114 = zup M2 33 (zhigh w) (M2 33 (zlow w) + (3 + (2 * (M2 11 w)))) := by rcases hp114 with ⟨h, _, e⟩ | ⟨_, h, _⟩; exact ⟨h, e⟩; (exfalso; have h3 : r114 = 0 := by simpa using h); omega
          refine z_iconst 1 (zdec DX7_listen 80 rfl) (by decide) ?_
          refine z_istore_n (L' := [(0, .inr (.inr 31)), (2, .inl 1), (3, .inl r), (4, .inl w), (5, .inl (3 + (2 * (M2 11 w))))]) (zdec DX7_listen 81 rfl) rfl rfl (by decide) ?_
          refine z_iinc (L' := [(0, .inr (.inr 31)), (2, .inl 1), (3, .inl r), (4, .inl (w + 1)), (5, .inl (3 + (2 * (M2 11 w))))]) 3 (zdec DX7_listen 82 rfl) rfl (by unfold z32; omega) rfl (by decide) ?_
          refine z_goto 50 (zdec DX7_listen 83 rfl) rfl ?_
          refine z_weak (L' := [(0, .inr (.inr 31)), (2, .inl 1), (3, .inl r), (4, .inl (w + 1))]) (by simp) ?_
          exact ih 1 (w + 1) M114 (by omega) (zls_a hR hI es lb lh hwl hm114.1 hm114.2 (by omega))
        ·
          have hm114 : ¬ M2 33 (zlow w) + (3 + (2 * (M2 11 w))) < M2 33 (zhigh w) ∧ M2 = M114 := by rcases hp114 with ⟨_, h, _⟩ | ⟨h, _, e⟩; (exfalso; have h3 : r114 = 1 := by simpa using h); omega; exact ⟨h, e⟩
          refine z_aload_n 0 (zdec DX7_listen 66 rfl) rfl rfl (by decide) ?_
          refine z_aload_n 0 (zdec DX7_listen 67 rfl) rfl rfl (by decide) ?_
          refine z_getr (rw1 := -41) (ki := 0) (r' := 1) 31 7 (zdec DX7_listen 68 rfl) rfl rfl shp31 rfl (by decide) rfl rfl fl_SixWalls_Ways_18 (zPa hPM114 34 rfl) ?_
          refine z_getr (rw1 := -11) (ki := 1) (r' := 3) 1 1 (zdec DX7_listen 69 rfl) rfl rfl shp1 rfl (by decide) rfl rfl fl_SixWalls_Ways_34 (zPa hPM114 10 rfl) ?_
          refine z_iload 3 (zdec DX7_listen 70 rfl) rfl ?_
          refine z_iald 3 (zdec DX7_listen 71 rfl) rfl shp3 ⟨by omega, by omega⟩ ?_
          rw [(ho114.G (by decide) hG2).high (by omega) (by omega)]
          refine z_aload_n 0 (zdec DX7_listen 72 rfl) rfl rfl (by decide) ?_
          refine z_getr (rw1 := -41) (ki := 0) (r' := 1) 31 7 (zdec DX7_listen 73 rfl) rfl rfl shp31 rfl (by decide) rfl rfl fl_SixWalls_Ways_18 (zPa hPM114 34 rfl) ?_
          refine z_getr (rw1 := -11) (ki := 0) (r' := 2) 1 1 (zdec DX7_listen 74 rfl) rfl rfl shp1 rfl (by decide) rfl rfl fl_SixWalls_Ways_31 (zPa hPM114 9 rfl) ?_
          refine z_iload 3 (zdec DX7_listen 75 rfl) rfl ?_
          refine z_iald 2 (zdec DX7_listen 76 rfl) rfl shp2 ⟨by omega, by omega⟩ ?_
          rw [(ho114.G (by decide) hG2).low (by omega) (by omega)]
          refine z_iload 4 (zdec DX7_listen 77 rfl) rfl ?_
          refine z_inv mX7_pass 31 7 [.inl (zhigh w), .inl (zlow w), .inl (3 + (2 * (M2 11 w)))] (zdec DX7_listen 78 rfl) ml_SixWalls_Ways_62 okX7_pass rfl shp31 rfl rfl rfl rfl (Nat.le_of_ble_eq_true rfl) (Nat.le_of_ble_eq_true rfl) (b' := (0, 0)) ⟨Nat.le_refl 0, Nat.le_refl 0⟩ (Nat.le_of_ble_eq_true rfl) (cX7_pass hPM114 (by rw [← hm114.2]; exact hLB) (zhigh w) (zlow w) (3 + (2 * (M2 11 w))) lh lb (by omega)) (fun rv9 S9 M143 h9 => ?_)
          obtain ⟨rfl, hp143⟩ := h9
          obtain ⟨r143, rfl⟩ : ∃ r, rv9 = some (.inl r) := by rcases hp143 with h | h <;> exact ⟨_, h.2.1⟩
          have ho143 : zonly 33 M114 M143 := by rcases hp143 with ⟨_, _, e⟩ | ⟨_, _, e⟩; (rw [e]; exact zonly.rf.up); (rw [← e]; exact zonly.rf)
          have hPM143 : zP M143 := ho143.P (by decide) hPM114
          change zW _ _ _ _ _ 146 [(0, .inr (.inr 31)), (2, .inl nr), (3, .inl r), (4, .inl w), (5, .inl (3 + (2 * (M2 11 w))))] [.inl r143] M143
          refine z_if_eq 151 (zdec DX7_listen 79 rfl) rfl (fun h146 => ?_) (fun h146 => ?_)
          ·
            refine z_iinc (L' := [(0, .inr (.inr 31)), (2, .inl nr), (3, .inl r), (4, .inl (w + 1)), (5, .inl (3 + (2 * (M2 11 w))))]) 3 (zdec DX7_listen 82 rfl) rfl (by unfold z32; omega) rfl (by decide) ?_
            refine z_goto 50 (zdec DX7_listen 83 rfl) rfl ?_
            refine z_weak (L' := [(0, .inr (.inr 31)), (2, .inl nr), (3, .inl r), (4, .inl (w + 1))]) (by simp) ?_
            exact ih nr (w + 1) M143 (by omega) (zls_c hR hI es lb lh hwl hm114.1 hm114.2 hp143 (by omega))
          ·
            refine z_iconst 1 (zdec DX7_listen 80 rfl) (by decide) ?_
            refine z_istore_n (L' := [(0, .inr (.inr 31)), (2, .inl 1), (3, .inl r), (4, .inl w), (5, .inl (3 + (2 * (M2 11 w))))]) (zdec DX7_listen 81 rfl) rfl rfl (by decide) ?_
            refine z_iinc (L' := [(0, .inr (.inr 31)), (2, .inl 1), (3, .inl r), (4, .inl (w + 1)), (5, .inl (3 + (2 * (M2 11 w))))]) 3 (zdec DX7_listen 82 rfl) rfl (by unfold z32; omega) rfl (by decide) ?_
            refine z_goto 50 (zdec DX7_listen 83 rfl) rfl ?_
            refine z_weak (L' := [(0, .inr (.inr 31)), (2, .inl 1), (3, .inl r), (4, .inl (w + 1))]) (by simp) ?_
            exact ih 1 (w + 1) M143 (by omega) (zls_b hR hI es lb lh hwl hm114.1 hm114.2 hp143 (by omega))
      ·
        refine z_iconst 3 (zdec DX7_listen 40 rfl) (by decide) ?_
        refine z_goto 89 (zdec DX7_listen 41 rfl) rfl ?_
        refine z_istore (L' := [(0, .inr (.inr 31)), (2, .inl nr), (3, .inl r), (4, .inl w), (5, .inl 3)]) (zdec DX7_listen 51 rfl) rfl (by decide) ?_
        have hwl : zwl M w = 3 := by unfold zwl; first | rw [if_pos (by rw [ed] at h68; omega)] | (rw [if_neg (by rw [ed] at h68; omega), et])
        have hwb := zwl_b hR hI.1 (by omega)
        refine z_aload_n 0 (zdec DX7_listen 52 rfl) rfl rfl (by decide) ?_
        refine z_aload_n 0 (zdec DX7_listen 53 rfl) rfl rfl (by decide) ?_
        refine z_getr (rw1 := -41) (ki := 0) (r' := 1) 31 7 (zdec DX7_listen 54 rfl) rfl rfl shp31 rfl (by decide) rfl rfl fl_SixWalls_Ways_18 (zPa hP2 34 rfl) ?_
        refine z_getr (rw1 := -11) (ki := 0) (r' := 2) 1 1 (zdec DX7_listen 55 rfl) rfl rfl shp1 rfl (by decide) rfl rfl fl_SixWalls_Ways_31 (zPa hP2 9 rfl) ?_
        refine z_iload 3 (zdec DX7_listen 56 rfl) rfl ?_
        refine z_iald 2 (zdec DX7_listen 57 rfl) rfl shp2 ⟨by omega, by omega⟩ ?_
        rw [hG2.low (by omega) (by omega)]
        refine z_aload_n 0 (zdec DX7_listen 58 rfl) rfl rfl (by decide) ?_
        refine z_getr (rw1 := -41) (ki := 0) (r' := 1) 31 7 (zdec DX7_listen 59 rfl) rfl rfl shp31 rfl (by decide) rfl rfl fl_SixWalls_Ways_18 (zPa hP2 34 rfl) ?_
        refine z_getr (rw1 := -11) (ki := 1) (r' := 3) 1 1 (zdec DX7_listen 60 rfl) rfl rfl shp1 rfl (by decide) rfl rfl fl_SixWalls_Ways_34 (zPa hP2 10 rfl) ?_
        refine z_iload 3 (zdec DX7_listen 61 rfl) rfl ?_
        refine z_iald 3 (zdec DX7_listen 62 rfl) rfl shp3 ⟨by omega, by omega⟩ ?_
        rw [hG2.high (by omega) (by omega)]
        refine z_iload 4 (zdec DX7_listen 63 rfl) rfl ?_
        refine z_inv mX7_pass 31 7 [.inl (zlow w), .inl (zhigh w), .inl 3] (zdec DX7_listen 64 rfl) ml_SixWalls_Ways_62 okX7_pass rfl shp31 rfl rfl rfl rfl (Nat.le_of_ble_eq_true rfl) (Nat.le_of_ble_eq_true rfl) (b' := (0, 0)) ⟨Nat.le_refl 0, Nat.le_refl 0⟩ (Nat.le_of_ble_eq_true rfl) (cX7_pass hP2 hLB (zlow w) (zhigh w) 3 lb lh (by omega)) (fun rv9 S9 M114 h9 => ?_)
        obtain ⟨rfl, hp114⟩ := h9
        obtain ⟨r114, rfl⟩ : ∃ r, rv9 = some (.inl r) := by rcases hp114 with h | h <;> exact ⟨_, h.2.1⟩
        have ho114 : zonly 33 M2 M114 := by rcases hp114 with ⟨_, _, e⟩ | ⟨_, _, e⟩; (rw [e]; exact zonly.rf.up); (rw [← e]; exact zonly.rf)
        have hPM114 : zP M114 := ho114.P (by decide) hP2
        change zW _ _ _ _ _ 117 [(0, .inr (.inr 31)), (2, .inl nr), (3, .inl r), (4, .inl w), (5, .inl 3)] [.inl r114] M114
        refine z_if_ne 149 (zdec DX7_listen 65 rfl) rfl (fun h117 => ?_) (fun h117 => ?_)
        ·
          have hm114 : M2 33 (zlow w) + 3 < M2 33 (zhigh w) ∧ M114 = zup M2 33 (zhigh w) (M2 33 (zlow w) + 3) := by rcases hp114 with ⟨h, _, e⟩ | ⟨_, h, _⟩; exact ⟨h, e⟩; (exfalso; have h3 : r114 = 0 := by simpa using h); omega
          refine z_iconst 1 (zdec DX7_listen 80 rfl) (by decide) ?_
          refine z_istore_n (L' := [(0, .inr (.inr 31)), (2, .inl 1), (3, .inl r), (4, .inl w), (5, .inl 3)]) (zdec DX7_listen 81 rfl) rfl rfl (by decide) ?_
          refine z_iinc (L' := [(0, .inr (.inr 31)), (2, .inl 1), (3, .inl r), (4, .inl (w + 1)), (5, .inl 3)]) 3 (zdec DX7_listen 82 rfl) rfl (by unfold z32; omega) rfl (by decide) ?_
          refine z_goto 50 (zdec DX7_listen 83 rfl) rfl ?_
          refine z_weak (L' := [(0, .inr (.inr 31)), (2, .inl 1), (3, .inl r), (4, .inl (w + 1))]) (by simp) ?_
          exact ih 1 (w + 1) M114 (by omega) (zls_a hR hI es lb lh hwl hm114.1 hm114.2 (by omega))
        ·
          have hm114 : ¬ M2 33 (zlow w) + 3 < M2 33 (zhigh w) ∧ M2 = M114 := by rcases hp114 with ⟨_, h, _⟩ | ⟨h, _, e⟩; (exfalso; have h3 : r114 = 1 := by simpa using h); omega; exact ⟨h, e⟩
          refine z_aload_n 0 (zdec DX7_listen 66 rfl) rfl rfl (by decide) ?_
          refine z_aload_n 0 (zdec DX7_listen 67 rfl) rfl rfl (by decide) ?_
          refine z_getr (rw1 := -41) (ki := 0) (r' := 1) 31 7 (zdec DX7_listen 68 rfl) rfl rfl shp31 rfl (by decide) rfl rfl fl_SixWalls_Ways_18 (zPa hPM114 34 rfl) ?_
          refine z_getr (rw1 := -11) (ki := 1) (r' := 3) 1 1 (zdec DX7_listen 69 rfl) rfl rfl shp1 rfl (by decide) rfl rfl fl_SixWalls_Ways_34 (zPa hPM114 10 rfl) ?_
          refine z_iload 3 (zdec DX7_listen 70 rfl) rfl ?_
          refine z_iald 3 (zdec DX7_listen 71 rfl) rfl shp3 ⟨by omega, by omega⟩ ?_
          rw [(ho114.G (by decide) hG2).high (by omega) (by omega)]
          refine z_aload_n 0 (zdec DX7_listen 72 rfl) rfl rfl (by decide) ?_
          refine z_getr (rw1 := -41) (ki := 0) (r' := 1) 31 7 (zdec DX7_listen 73 rfl) rfl rfl shp31 rfl (by decide) rfl rfl fl_SixWalls_Ways_18 (zPa hPM114 34 rfl) ?_
          refine z_getr (rw1 := -11) (ki := 0) (r' := 2) 1 1 (zdec DX7_listen 74 rfl) rfl rfl shp1 rfl (by decide) rfl rfl fl_SixWalls_Ways_31 (zPa hPM114 9 rfl) ?_
          refine z_iload 3 (zdec DX7_listen 75 rfl) rfl ?_
          refine z_iald 2 (zdec DX7_listen 76 rfl) rfl shp2 ⟨by omega, by omega⟩ ?_
          rw [(ho114.G (by decide) hG2).low (by omega) (by omega)]
          refine z_iload 4 (zdec DX7_listen 77 rfl) rfl ?_
          refine z_inv mX7_pass 31 7 [.inl (zhigh w), .inl (zlow w), .inl 3] (zdec DX7_listen 78 rfl) ml_SixWalls_Ways_62 okX7_pass rfl shp31 rfl rfl rfl rfl (Nat.le_of_ble_eq_true rfl) (Nat.le_of_ble_eq_true rfl) (b' := (0, 0)) ⟨Nat.le_refl 0, Nat.le_refl 0⟩ (Nat.le_of_ble_eq_true rfl) (cX7_pass hPM114 (by rw [← hm114.2]; exact hLB) (zhigh w) (zlow w) 3 lh lb (by omega)) (fun rv9 S9 M143 h9 => ?_)
          obtain ⟨rfl, hp143⟩ := h9
          obtain ⟨r143, rfl⟩ : ∃ r, rv9 = some (.inl r) := by rcases hp143 with h | h <;> exact ⟨_, h.2.1⟩
          have ho143 : zonly 33 M114 M143 := by rcases hp143 with ⟨_, _, e⟩ | ⟨_, _, e⟩; (rw [e]; exact zonly.rf.up); (rw [← e]; exact zonly.rf)
          have hPM143 : zP M143 := ho143.P (by decide) hPM114
          change zW _ _ _ _ _ 146 [(0, .inr (.inr 31)), (2, .inl nr), (3, .inl r), (4, .inl w), (5, .inl 3)] [.inl r143] M143
          refine z_if_eq 151 (zdec DX7_listen 79 rfl) rfl (fun h146 => ?_) (fun h146 => ?_)
          ·
            refine z_iinc (L' := [(0, .inr (.inr 31)), (2, .inl nr), (3, .inl r), (4, .inl (w + 1)), (5, .inl 3)]) 3 (zdec DX7_listen 82 rfl) rfl (by unfold z32; omega) rfl (by decide) ?_
            refine z_goto 50 (zdec DX7_listen 83 rfl) rfl ?_
            refine z_weak (L' := [(0, .inr (.inr 31)), (2, .inl nr), (3, .inl r), (4, .inl (w + 1))]) (by simp) ?_
            exact ih nr (w + 1) M143 (by omega) (zls_c hR hI es lb lh hwl hm114.1 hm114.2 hp143 (by omega))
          ·
            refine z_iconst 1 (zdec DX7_listen 80 rfl) (by decide) ?_
            refine z_istore_n (L' := [(0, .inr (.inr 31)), (2, .inl 1), (3, .inl r), (4, .inl w), (5, .inl 3)]) (zdec DX7_listen 81 rfl) rfl rfl (by decide) ?_
            refine z_iinc (L' := [(0, .inr (.inr 31)), (2, .inl 1), (3, .inl r), (4, .inl (w + 1)), (5, .inl 3)]) 3 (zdec DX7_listen 82 rfl) rfl (by unfold z32; omega) rfl (by decide) ?_
            refine z_goto 50 (zdec DX7_listen 83 rfl) rfl ?_
            refine z_weak (L' := [(0, .inr (.inr 31)), (2, .inl 1), (3, .inl r), (4, .inl (w + 1))]) (by simp) ?_
            exact ih 1 (w + 1) M143 (by omega) (zls_b hR hI es lb lh hwl hm114.1 hm114.2 hp143 (by omega))
set_option maxHeartbeats 4000000 in
theorem lp_X7_listen_35 {Q : zPost} {M : zMm} (hP : zP M) (hG : zG M) (hR : zRg M) (a : Int) (hx163 : ∀ (M2 : zMm), (zH (M2 33) (zlis M a) ∧ zonly 33 M M2) → zW mX7_listen 2 Q (0, 0) zS0 163 [] [] M2) : ∀ (n : Nat) (nr : Int) (r : Int) (M2 : zMm), (16 - r).toNat < n → (0 ≤ r ∧ r ≤ 16 ∧ ∃ L, zH (M2 33) L ∧ zLB L ∧ zonly 33 M M2 ∧ zlis M a = if nr = 0 then L else zlisN M (16 - r).toNat L) → zW mX7_listen 2 Q (0, 0) zS0 35 [(0, .inr (.inr 31)), (2, .inl nr), (3, .inl r)] [] M2 := by
  intro n
  induction n with
  | zero => intro nr r M2 hn; exact absurd hn (Nat.not_lt_zero _)
  | succ n ih =>
    intro nr r M2 hn hI
    obtain ⟨hr0, hr1, L, hq1, hq2, hq3, hq4⟩ := hI
    have hP2 : zP M2 := hq3.P (by decide) hP
    refine z_iload_n 2 (zdec DX7_listen 21 rfl) rfl rfl ?_
    refine z_bipush 16 (zdec DX7_listen 22 rfl) (by decide) ?_
    refine z_icmp_ge 163 (zdec DX7_listen 23 rfl) rfl (fun h38 => ?_) (fun h38 => ?_)
    ·
      refine z_weak (L' := []) (by simp) ?_
      exact hx163 M2 (by refine ⟨?_, hq3⟩; rw [hq4]; by_cases hn0 : nr = 0; (rw [if_pos hn0]; exact hq1); (rw [if_neg hn0, show (16 - r).toNat = 0 by omega]; exact hq1))
    ·
      refine z_iload_n 1 (zdec DX7_listen 24 rfl) rfl rfl ?_
      refine z_if_eq 163 (zdec DX7_listen 25 rfl) rfl (fun h42 => ?_) (fun h42 => ?_)
      ·
        refine z_weak (L' := []) (by simp) ?_
        exact hx163 M2 (by refine ⟨?_, hq3⟩; rw [hq4]; by_cases hn0 : nr = 0; (rw [if_pos hn0]; exact hq1); (rw [if_neg hn0, show (16 - r).toNat = 0 by omega]; exact hq1))
      ·
        refine z_iconst 0 (zdec DX7_listen 26 rfl) (by decide) ?_
        refine z_istore_n (L' := [(0, .inr (.inr 31)), (2, .inl 0), (3, .inl r)]) (zdec DX7_listen 27 rfl) rfl rfl (by decide) ?_
        refine z_iconst 0 (zdec DX7_listen 28 rfl) (by decide) ?_
        refine z_istore (L' := [(0, .inr (.inr 31)), (2, .inl 0), (3, .inl r), (4, .inl 0)]) (zdec DX7_listen 29 rfl) rfl (by decide) ?_
        refine lp_X7_listen_50 (M0 := M2) hP hG hR r L (hx157 := fun nr M3 hy => ?_) _ 0 0 M2 (Nat.lt_succ_self _) ⟨by omega, by omega, hq1, hq2, hq3, rfl⟩
        refine z_iinc (L' := [(0, .inr (.inr 31)), (2, .inl nr), (3, .inl (r + 1))]) 2 (zdec DX7_listen 84 rfl) rfl (by unfold z32; omega) rfl (by decide) ?_
        refine z_goto 35 (zdec DX7_listen 85 rfl) rfl ?_
        exact ih nr (r + 1) M3 (by omega) ⟨by omega, by omega, (zlisR M L 33).1, hy.1, hy.2.1, hy.2.2.2, (by rw [hq4, if_neg h42, show (16 - r).toNat = (16 - (r + 1)).toNat + 1 by omega]; rw [hy.2.2.1]; conv => lhs; unfold zlisN)⟩
set_option maxHeartbeats 4000000 in
theorem lp_X7_listen_2 {Q : zPost} {M : zMm} (hP : zP M) (hG : zG M) (hR : zRg M) (a : Int) (hx31 : ∀ (M2 : zMm), (zH (M2 33) (zlis0 a) ∧ zonly 33 M M2) → zW mX7_listen 2 Q (0, 0) zS0 31 [(0, .inr (.inr 31))] [] M2) : ∀ (n : Nat) (h : Int) (M2 : zMm), (16 - h).toNat < n → (0 ≤ h ∧ h ≤ 16 ∧ (∀ k : Int, 0 ≤ k → k < h → M2 33 k = zlis0 a k) ∧ zonly 33 M M2) → zW mX7_listen 2 Q (0, 0) zS0 2 [(0, .inr (.inr 31)), (1, .inl a), (2, .inl h)] [] M2 := by
  intro n
  induction n with
  | zero => intro h M2 hn; exact absurd hn (Nat.not_lt_zero _)
  | succ n ih =>
    intro h M2 hn hI
    refine z_iload_n 2 (zdec DX7_listen 2 rfl) rfl rfl ?_
    refine z_bipush 16 (zdec DX7_listen 3 rfl) (by decide) ?_
    refine z_icmp_ge 31 (zdec DX7_listen 4 rfl) rfl (fun h5 => ?_) (fun h5 => ?_)
    ·
      refine z_weak (L' := [(0, .inr (.inr 31))]) (by simp) ?_
      exact hx31 M2 ⟨fun k h0 h1 => hI.2.2.1 k h0 (by omega), hI.2.2.2⟩
    ·
      refine z_aload_n 0 (zdec DX7_listen 5 rfl) rfl rfl (by decide) ?_
      refine z_getr (rw1 := -41) (ki := 2) (r' := 33) 31 7 (zdec DX7_listen 6 rfl) rfl rfl shp31 rfl (by decide) rfl rfl fl_SixWalls_Ways_15 (zPa (hI.2.2.2.P (by decide) hP) 36 rfl) ?_
      refine z_iload_n 2 (zdec DX7_listen 7 rfl) rfl rfl ?_
      refine z_iload_n 2 (zdec DX7_listen 8 rfl) rfl rfl ?_
      refine z_iload_n 1 (zdec DX7_listen 9 rfl) rfl rfl ?_
      refine z_icmp_ne 22 (zdec DX7_listen 10 rfl) rfl (fun h15 => ?_) (fun h15 => ?_)
      ·
        refine z_ldc 1000000 (zdec DX7_listen 13 rfl) kc_SixWalls_Ways_58 rfl ⟨by decide, by decide⟩ ?_
        refine z_iast 33 (zdec DX7_listen 14 rfl) rfl shp33 ⟨by omega, by omega⟩ ?_
        refine z_iinc (L' := [(0, .inr (.inr 31)), (1, .inl a), (2, .inl (h + 1))]) 2 (zdec DX7_listen 15 rfl) rfl (by unfold z32; omega) rfl (by decide) ?_
        refine z_goto 2 (zdec DX7_listen 16 rfl) rfl ?_
        exact ih (h + 1) (zup M2 33 h 1000000) (by omega) ⟨by omega, by omega, fun k h0 h1 => (by by_cases hk : k = h; (subst hk; rw [zup_self]; unfold zlis0; rw [if_neg h15]); (rw [zup_ne hk]; exact hI.2.2.1 k h0 (by omega))), hI.2.2.2.up⟩
      ·
        refine z_iconst 0 (zdec DX7_listen 11 rfl) (by decide) ?_
        refine z_goto 24 (zdec DX7_listen 12 rfl) rfl ?_
        refine z_iast 33 (zdec DX7_listen 14 rfl) rfl shp33 ⟨by omega, by omega⟩ ?_
        refine z_iinc (L' := [(0, .inr (.inr 31)), (1, .inl a), (2, .inl (h + 1))]) 2 (zdec DX7_listen 15 rfl) rfl (by unfold z32; omega) rfl (by decide) ?_
        refine z_goto 2 (zdec DX7_listen 16 rfl) rfl ?_
        exact ih (h + 1) (zup M2 33 h 0) (by omega) ⟨by omega, by omega, fun k h0 h1 => (by by_cases hk : k = h; (subst hk; rw [zup_self]; unfold zlis0; rw [if_pos (by omega)]); (rw [zup_ne hk]; exact hI.2.2.1 k h0 (by omega))), hI.2.2.2.up⟩
set_option maxHeartbeats 4000000 in
theorem cX7_listen {M : zMm} (hP : zP M) (hG : zG M) (hR : zRg M) (a : Int) : zW mX7_listen 2 (fun rv S' M' => S' = zS0 ∧ rv = none ∧ zH (M' 33) (zlis M a) ∧ zonly 33 M M') (0, 0) zS0 0 (zargs 0 [.inr (.inr 31), .inl a]) [] M := by
  change zW _ _ _ _ _ 0 [(0, .inr (.inr 31)), (1, .inl a)] [] M
  refine z_iconst 0 (zdec DX7_listen 0 rfl) (by decide) ?_
  refine z_istore_n (L' := [(0, .inr (.inr 31)), (1, .inl a), (2, .inl 0)]) (zdec DX7_listen 1 rfl) rfl rfl (by decide) ?_
  refine lp_X7_listen_2 hP hG hR a (hx31 := fun M2 hx => ?_) _ 0 M (Nat.lt_succ_self _) ⟨by omega, by omega, fun k h0 h1 => by omega, zonly.rf⟩
  refine z_iconst 1 (zdec DX7_listen 17 rfl) (by decide) ?_
  refine z_istore_n (L' := [(0, .inr (.inr 31)), (2, .inl 1)]) (zdec DX7_listen 18 rfl) rfl rfl (by decide) ?_
  refine z_iconst 0 (zdec DX7_listen 19 rfl) (by decide) ?_
  refine z_istore_n (L' := [(0, .inr (.inr 31)), (2, .inl 1), (3, .inl 0)]) (zdec DX7_listen 20 rfl) rfl rfl (by decide) ?_
  refine lp_X7_listen_35 hP hG hR a (hx163 := fun M2 hz => ?_) _ 1 0 M2 (Nat.lt_succ_self _) ⟨by omega, by omega, zlis0 a, hx.1, fun k _ _ => (by unfold zlis0; split <;> omega), hx.2, by rw [if_neg (by decide)]; rfl⟩
  exact z_vret (zdec DX7_listen 86 rfl) rfl (⟨rfl, rfl, hz.1, hz.2⟩)
