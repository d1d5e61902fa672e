/-! the reference: colours -/
def zclG (T : Int → Int) (a b : Int) : Int := if (zlow a = zlow b ∨ zlow a = zhigh b ∨ zhigh a = zlow b ∨ zhigh a = zhigh b) ∧ T a = T b then 1 else 0
def zclR (T : Int → Int) : Int := zsum (fun a => zsum (zclG T a) a) 33
def zbe1 (T : Int → Int) (w : Int) (p : Int × Int) (c : Int) : Int × Int := if p.1 < 0 ∨ zclR (zpu T w c) < p.2 then (c, zclR (zpu T w c)) else p
def zbeR (T : Int → Int) (w : Int) : Int := (zfo (zbe1 T w) (-1, 0) 6).1
def zclN (T : Int → Int) (n : Int) : Int → Int := zfo (fun T w => zpu T w (zbeR T w)) T n
theorem zclR_c {T T' : Int → Int} (h : zW33 T T') : zclR T = zclR T' := zsum_c fun a h0 h1 => zsum_c fun b h2 h3 => by
  unfold zclG
  rw [h a h0 h1, h b h2 (by omega)]
theorem zW33.pu {T T' : Int → Int} (h : zW33 T T') {w v v' : Int} (e : v = v') : zW33 (zpu T w v) (zpu T' w v') := fun k h0 h1 => by
  subst e
  by_cases hk : k = w
  · subst hk; rw [zpu_s, zpu_s]
  · rw [zpu_n hk, zpu_n hk]; exact h k h0 h1
theorem zbeR_c {T T' : Int → Int} (h : zW33 T T') (w : Int) : zbeR T w = zbeR T' w := by
  have e : zfo (zbe1 T w) (-1, 0) 6 = zfo (zbe1 T' w) (-1, 0) 6 := zfo_c fun p c _ _ => by unfold zbe1; rw [zclR_c (h.pu (w := w) (rfl : c = c))]
  exact congrArg Prod.fst e
theorem zcl_go {R T0 : Int → Int} {w : Int} (r : zW33 R (zclN T0 w)) (h : 0 ≤ w) : zW33 (zpu R w (zbeR R w)) (zclN T0 (w + 1)) := by
  have e : zclN T0 (w + 1) = zpu (zclN T0 w) w (zbeR (zclN T0 w) w) := zfo_s _ _ h
  rw [e]
  exact r.pu (zbeR_c r w)
theorem zclG_b (T : Int → Int) (a b : Int) : 0 ≤ zclG T a b ∧ zclG T a b ≤ 1 := by
  unfold zclG
  split <;> omega
theorem zpot6 : ∀ c : Fin 6, 0 ≤ zshl 1 (c.val : Int) ∧ zshl 1 (c.val : Int) < 64 := by decide +kernel
theorem zpot_b {T : Int → Int} (hT : ∀ w : Int, 0 ≤ w → w < 33 → 0 ≤ T w ∧ T w ≤ 5) : ∀ n : Nat, n ≤ 33 → 0 ≤ zpots T n ∧ zpots T n < 64 := by
  intro n
  induction n with
  | zero => intro _; exact ⟨Int.le_refl _, (by decide : (0 : Int) < 64)⟩
  | succ n ih =>
    intro hn
    have i1 := ih (by omega)
    have i2 := hT n (by omega) (by omega)
    have e := zpot6 ⟨(T n).toNat, by omega⟩
    simp only [show (((T n).toNat : Nat) : Int) = T n by omega] at e
    have i3 := zor_b (k := 6) (by decide) (x := zpots T n) (y := zshl 1 (T n)) (by omega) (by omega)
    show 0 ≤ zor (zpots T n) (zshl 1 (T n)) ∧ zor (zpots T n) (zshl 1 (T n)) < 64
    omega
theorem zonly.g {c : Int} {M M2 : zMm} (h : zonly c M M2) (hc : 62 < c) (hg : zGr M) : zGr M2 := hg.of (h 61 (by omega)) (h 62 (by omega))
theorem zonly.r {c : Int} {M M2 : zMm} (h : zonly c M M2) (hc : 64 < c) (hR : zRr M) : zRr M2 := hR.of (h 57 (by omega)) (h 63 (by omega)) (h 64 (by omega))
theorem zW33.c2 {f g g2 : Int → Int} (h : zW33 f g) (e : g = g2) : zW33 f g2 := e ▸ h
set_option maxHeartbeats 4000000 in
theorem lp_X10_asksColours_2 {Q : zPost} {M : zMm} (hP : zP M) (hg : zGr M) (hx29 : ∀ (M2 : zMm), (zonly 75 M M2 ∧ ∀ w : Int, 0 ≤ w → w < 33 → M2 75 w = M 57 (98 + w)) → zW mX10_asksColours 1 Q (0, 0) zS0 29 [] [] M2) : ∀ (n : Nat) (w : Int) (M2 : zMm), (33 - w).toNat < n → (0 ≤ w ∧ w ≤ 33 ∧ zonly 75 M M2 ∧ ∀ k : Int, 0 ≤ k → k < w → M2 75 k = M 57 (98 + k)) → zW mX10_asksColours 1 Q (0, 0) zS0 2 [(0, .inr (.inr 56)), (1, .inl w)] [] M2 := by
  intro n
  induction n with
  | zero => intro w M2 hn; exact absurd hn (Nat.not_lt_zero _)
  | succ n ih =>
    intro w M2 hn hI
    refine z_iload_n 1 (zdec DX10_asksColours 2 rfl) rfl rfl ?_
    refine z_bipush 33 (zdec DX10_asksColours 3 rfl) (by decide) ?_
    refine z_icmp_ge 29 (zdec DX10_asksColours 4 rfl) rfl (fun h5 => ?_) (fun h5 => ?_)
    ·
      refine z_weak (L' := []) (by simp) ?_
      exact hx29 M2 ⟨hI.2.2.1, fun k h0 h1 => hI.2.2.2 k h0 (by omega)⟩
    ·
      refine z_aload_n 0 (zdec DX10_asksColours 5 rfl) rfl rfl (by decide) ?_
      refine z_getr (rw1 := -66) (ki := 30) (r' := 75) 56 10 (zdec DX10_asksColours 6 rfl) rfl rfl shp56 rfl (by decide) rfl rfl fl_SixWallsModel_65 (zPa (hI.2.2.1.P (by decide) hP) 75 rfl) ?_
      refine z_iload_n 1 (zdec DX10_asksColours 7 rfl) rfl rfl ?_
      refine z_aload_n 0 (zdec DX10_asksColours 8 rfl) rfl rfl (by decide) ?_
      refine z_getr (rw1 := -66) (ki := 0) (r' := 57) 56 10 (zdec DX10_asksColours 9 rfl) rfl rfl shp56 rfl (by decide) rfl rfl fl_SixWallsModel_9 (zPa (hI.2.2.1.P (by decide) hP) 57 rfl) ?_
      refine z_bipush 98 (zdec DX10_asksColours 10 rfl) (by decide) ?_
      refine z_iload_n 1 (zdec DX10_asksColours 11 rfl) rfl rfl ?_
      refine z_iadd (zdec DX10_asksColours 12 rfl) (by unfold z32; omega) ?_
      refine z_iald 57 (zdec DX10_asksColours 13 rfl) rfl shp57 ⟨by omega, by omega⟩ ?_
      rw [hI.2.2.1 57 (by decide)]
      refine z_iast 75 (zdec DX10_asksColours 14 rfl) rfl shp75 ⟨by omega, by omega⟩ ?_
      refine z_iinc (L' := [(0, .inr (.inr 56)), (1, .inl (w + 1))]) 1 (zdec DX10_asksColours 15 rfl) rfl (by unfold z32; omega) rfl (by decide) ?_
      refine z_goto 2 (zdec DX10_asksColours 16 rfl) rfl ?_
      exact ih (w + 1) (zup M2 75 w (M 57 (98 + w))) (by omega) ⟨by omega, by omega, hI.2.2.1.up, fun k h0 h1 => (by by_cases hk : k = w; (subst hk; rw [zup_self]); (rw [zup_ne hk]; exact hI.2.2.2 k h0 (by omega)))⟩
set_option maxHeartbeats 4000000 in
theorem cX10_asksColours {M : zMm} (hP : zP M) (hg : zGr M) : zW mX10_asksColours 1 (fun rv S' M' => S' = zS0 ∧ rv = none ∧ zonly 75 M M' ∧ ∀ w : Int, 0 ≤ w → w < 33 → M' 75 w = M 57 (98 + w)) (0, 0) zS0 0 (zargs 0 [.inr (.inr 56)]) [] M := by
  change zW _ _ _ _ _ 0 [(0, .inr (.inr 56))] [] M
  refine z_iconst 0 (zdec DX10_asksColours 0 rfl) (by decide) ?_
  refine z_istore_n (L' := [(0, .inr (.inr 56)), (1, .inl 0)]) (zdec DX10_asksColours 1 rfl) rfl rfl (by decide) ?_
  refine lp_X10_asksColours_2 hP hg (hx29 := fun M2 hx => ?_) _ 0 M (Nat.lt_succ_self _) ⟨by omega, by omega, zonly.rf, fun k h0 h1 => by omega⟩
  exact z_vret (zdec DX10_asksColours 17 rfl) rfl (⟨rfl, rfl, hx⟩)
set_option maxHeartbeats 4000000 in
theorem lp_X10_clashes_12 {Q : zPost} {M : zMm} (hP : zP M) (hg : zGr M) (a c : Int) (ha : 0 ≤ a ∧ a < 33) (hc : 0 ≤ c ∧ c ≤ 33 * a) (hx118 : ∀ (d : Int), ((c ≤ d ∧ d ≤ c + a) ∧ d = c + zsum (zclG (M 75) a) a) → zW mX10_clashes 1 Q (0, 0) zS0 118 [(0, .inr (.inr 56)), (1, .inl d), (2, .inl a)] [] M) : ∀ (n : Nat) (d : Int) (b : Int), (a - b).toNat < n → (0 ≤ b ∧ b ≤ a ∧ (c ≤ d ∧ d ≤ c + b) ∧ d = c + zsum (zclG (M 75) a) b) → zW mX10_clashes 1 Q (0, 0) zS0 12 [(0, .inr (.inr 56)), (1, .inl d), (2, .inl a), (3, .inl b)] [] M := by
  intro n
  induction n with
  | zero => intro d b hn; exact absurd hn (Nat.not_lt_zero _)
  | succ n ih =>
    intro d b hn hI
    refine z_iload_n 3 (zdec DX10_clashes 9 rfl) rfl rfl ?_
    refine z_iload_n 2 (zdec DX10_clashes 10 rfl) rfl rfl ?_
    refine z_icmp_ge 118 (zdec DX10_clashes 11 rfl) rfl (fun h14 => ?_) (fun h14 => ?_)
    ·
      refine z_weak (L' := [(0, .inr (.inr 56)), (1, .inl d), (2, .inl a)]) (by simp) ?_
      exact hx118 d (by have e : b = a := (by omega); subst e; exact hI.2.2)
    ·
      refine z_aload_n 0 (zdec DX10_clashes 12 rfl) rfl rfl (by decide) ?_
      refine z_getr (rw1 := -66) (ki := 7) (r' := 61) 56 10 (zdec DX10_clashes 13 rfl) rfl rfl shp56 rfl (by decide) rfl rfl fl_SixWallsModel_22 (zPa hP 61 rfl) ?_
      refine z_iload_n 2 (zdec DX10_clashes 14 rfl) rfl rfl ?_
      refine z_iald 61 (zdec DX10_clashes 15 rfl) rfl shp61 ⟨by omega, by omega⟩ ?_
      rw [(hg a (by omega) (by omega)).1]
      refine z_aload_n 0 (zdec DX10_clashes 16 rfl) rfl rfl (by decide) ?_
      refine z_getr (rw1 := -66) (ki := 7) (r' := 61) 56 10 (zdec DX10_clashes 17 rfl) rfl rfl shp56 rfl (by decide) rfl rfl fl_SixWallsModel_22 (zPa hP 61 rfl) ?_
      refine z_iload_n 3 (zdec DX10_clashes 18 rfl) rfl rfl ?_
      refine z_iald 61 (zdec DX10_clashes 19 rfl) rfl shp61 ⟨by omega, by omega⟩ ?_
      rw [(hg b (by omega) (by omega)).1]
      refine z_icmp_eq 77 (zdec DX10_clashes 20 rfl) rfl (fun h29 => ?_) (fun h29 => ?_)
      ·
        refine z_iconst 1 (zdec DX10_clashes 48 rfl) (by decide) ?_
        refine z_goto 82 (zdec DX10_clashes 49 rfl) rfl ?_
        refine z_istore (L' := [(0, .inr (.inr 56)), (1, .inl d), (2, .inl a), (3, .inl b), (4, .inl 1)]) (zdec DX10_clashes 51 rfl) rfl (by decide) ?_
        refine z_iload_n 1 (zdec DX10_clashes 52 rfl) rfl rfl ?_
        refine z_iload 4 (zdec DX10_clashes 53 rfl) rfl ?_
        refine z_if_eq 109 (zdec DX10_clashes 54 rfl) rfl (fun h => absurd h (by decide)) (fun _ => ?_)
        refine z_aload_n 0 (zdec DX10_clashes 55 rfl) rfl rfl (by decide) ?_
        refine z_getr (rw1 := -66) (ki := 30) (r' := 75) 56 10 (zdec DX10_clashes 56 rfl) rfl rfl shp56 rfl (by decide) rfl rfl fl_SixWallsModel_65 (zPa hP 75 rfl) ?_
        refine z_iload_n 2 (zdec DX10_clashes 57 rfl) rfl rfl ?_
        refine z_iald 75 (zdec DX10_clashes 58 rfl) rfl shp75 ⟨by omega, by omega⟩ ?_
        refine z_aload_n 0 (zdec DX10_clashes 59 rfl) rfl rfl (by decide) ?_
        refine z_getr (rw1 := -66) (ki := 30) (r' := 75) 56 10 (zdec DX10_clashes 60 rfl) rfl rfl shp56 rfl (by decide) rfl rfl fl_SixWallsModel_65 (zPa hP 75 rfl) ?_
        refine z_iload_n 3 (zdec DX10_clashes 61 rfl) rfl rfl ?_
        refine z_iald 75 (zdec DX10_clashes 62 rfl) rfl shp75 ⟨by omega, by omega⟩ ?_
        refine z_icmp_ne 109 (zdec DX10_clashes 63 rfl) rfl (fun h102 => ?_) (fun h102 => ?_)
        ·
          refine z_iconst 0 (zdec DX10_clashes 66 rfl) (by decide) ?_
          refine z_iadd (zdec DX10_clashes 67 rfl) (by unfold z32; omega) ?_
          refine z_istore_n (L' := [(0, .inr (.inr 56)), (1, .inl (d + 0)), (2, .inl a), (3, .inl b), (4, .inl 1)]) (zdec DX10_clashes 68 rfl) rfl rfl (by decide) ?_
          refine z_iinc (L' := [(0, .inr (.inr 56)), (1, .inl (d + 0)), (2, .inl a), (3, .inl (b + 1)), (4, .inl 1)]) 3 (zdec DX10_clashes 69 rfl) rfl (by unfold z32; omega) rfl (by decide) ?_
          refine z_goto 12 (zdec DX10_clashes 70 rfl) rfl ?_
          refine z_weak (L' := [(0, .inr (.inr 56)), (1, .inl (d + 0)), (2, .inl a), (3, .inl (b + 1))]) (by simp) ?_
          exact ih (d + 0) (b + 1) (by omega) ⟨by omega, by omega, by omega, (by rw [zsum_s _ hI.1, hI.2.2.2]; unfold zclG; first | (rw [if_pos ⟨by omega, by omega⟩]; omega) | (rw [if_neg (by omega)]; omega))⟩
        ·
          refine z_iconst 1 (zdec DX10_clashes 64 rfl) (by decide) ?_
          refine z_goto 110 (zdec DX10_clashes 65 rfl) rfl ?_
          refine z_iadd (zdec DX10_clashes 67 rfl) (by unfold z32; omega) ?_
          refine z_istore_n (L' := [(0, .inr (.inr 56)), (1, .inl (d + 1)), (2, .inl a), (3, .inl b), (4, .inl 1)]) (zdec DX10_clashes 68 rfl) rfl rfl (by decide) ?_
          refine z_iinc (L' := [(0, .inr (.inr 56)), (1, .inl (d + 1)), (2, .inl a), (3, .inl (b + 1)), (4, .inl 1)]) 3 (zdec DX10_clashes 69 rfl) rfl (by unfold z32; omega) rfl (by decide) ?_
          refine z_goto 12 (zdec DX10_clashes 70 rfl) rfl ?_
          refine z_weak (L' := [(0, .inr (.inr 56)), (1, .inl (d + 1)), (2, .inl a), (3, .inl (b + 1))]) (by simp) ?_
          exact ih (d + 1) (b + 1) (by omega) ⟨by omega, by omega, by omega, (by rw [zsum_s _ hI.1, hI.2.2.2]; unfold zclG; first | (rw [if_pos ⟨by omega, by omega⟩]; omega) | (rw [if_neg (by omega)]; omega))⟩
      ·
        refine z_aload_n 0 (zdec DX10_clashes 21 rfl) rfl rfl (by decide) ?_
        refine z_getr (rw1 := -66) (ki := 7) (r' := 61) 56 10 (zdec DX10_clashes 22 rfl) rfl rfl shp56 rfl (by decide) rfl rfl fl_SixWallsModel_22 (zPa hP 61 rfl) ?_
        refine z_iload_n 2 (zdec DX10_clashes 23 rfl) rfl rfl ?_
        refine z_iald 61 (zdec DX10_clashes 24 rfl) rfl shp61 ⟨by omega, by omega⟩ ?_
        rw [(hg a (by omega) (by omega)).1]
        refine z_aload_n 0 (zdec DX10_clashes 25 rfl) rfl rfl (by decide) ?_
        refine z_getr (rw1 := -66) (ki := 8) (r' := 62) 56 10 (zdec DX10_clashes 26 rfl) rfl rfl shp56 rfl (by decide) rfl rfl fl_SixWallsModel_25 (zPa hP 62 rfl) ?_
        refine z_iload_n 3 (zdec DX10_clashes 27 rfl) rfl rfl ?_
        refine z_iald 62 (zdec DX10_clashes 28 rfl) rfl shp62 ⟨by omega, by omega⟩ ?_
        rw [(hg b (by omega) (by omega)).2]
        refine z_icmp_eq 77 (zdec DX10_clashes 29 rfl) rfl (fun h44 => ?_) (fun h44 => ?_)
        ·
          refine z_iconst 1 (zdec DX10_clashes 48 rfl) (by decide) ?_
          refine z_goto 82 (zdec DX10_clashes 49 rfl) rfl ?_
          refine z_istore (L' := [(0, .inr (.inr 56)), (1, .inl d), (2, .inl a), (3, .inl b), (4, .inl 1)]) (zdec DX10_clashes 51 rfl) rfl (by decide) ?_
          refine z_iload_n 1 (zdec DX10_clashes 52 rfl) rfl rfl ?_
          refine z_iload 4 (zdec DX10_clashes 53 rfl) rfl ?_
          refine z_if_eq 109 (zdec DX10_clashes 54 rfl) rfl (fun h => absurd h (by decide)) (fun _ => ?_)
          refine z_aload_n 0 (zdec DX10_clashes 55 rfl) rfl rfl (by decide) ?_
          refine z_getr (rw1 := -66) (ki := 30) (r' := 75) 56 10 (zdec DX10_clashes 56 rfl) rfl rfl shp56 rfl (by decide) rfl rfl fl_SixWallsModel_65 (zPa hP 75 rfl) ?_
          refine z_iload_n 2 (zdec DX10_clashes 57 rfl) rfl rfl ?_
          refine z_iald 75 (zdec DX10_clashes 58 rfl) rfl shp75 ⟨by omega, by omega⟩ ?_
          refine z_aload_n 0 (zdec DX10_clashes 59 rfl) rfl rfl (by decide) ?_
          refine z_getr (rw1 := -66) (ki := 30) (r' := 75) 56 10 (zdec DX10_clashes 60 rfl) rfl rfl shp56 rfl (by decide) rfl rfl fl_SixWallsModel_65 (zPa hP 75 rfl) ?_
          refine z_iload_n 3 (zdec DX10_clashes 61 rfl) rfl rfl ?_
          refine z_iald 75 (zdec DX10_clashes 62 rfl) rfl shp75 ⟨by omega, by omega⟩ ?_
          refine z_icmp_ne 109 (zdec DX10_clashes 63 rfl) rfl (fun h102 => ?_) (fun h102 => ?_)
          ·
            refine z_iconst 0 (zdec DX10_clashes 66 rfl) (by decide) ?_
            refine z_iadd (zdec DX10_clashes 67 rfl) (by unfold z32; omega) ?_
            refine z_istore_n (L' := [(0, .inr (.inr 56)), (1, .inl (d + 0)), (2, .inl a), (3, .inl b), (4, .inl 1)]) (zdec DX10_clashes 68 rfl) rfl rfl (by decide) ?_
            refine z_iinc (L' := [(0, .inr (.inr 56)), (1, .inl (d + 0)), (2, .inl a), (3, .inl (b + 1)), (4, .inl 1)]) 3 (zdec DX10_clashes 69 rfl) rfl (by unfold z32; omega) rfl (by decide) ?_
            refine z_goto 12 (zdec DX10_clashes 70 rfl) rfl ?_
            refine z_weak (L' := [(0, .inr (.inr 56)), (1, .inl (d + 0)), (2, .inl a), (3, .inl (b + 1))]) (by simp) ?_
            exact ih (d + 0) (b + 1) (by omega) ⟨by omega, by omega, by omega, (by rw [zsum_s _ hI.1, hI.2.2.2]; unfold zclG; first | (rw [if_pos ⟨by omega, by omega⟩]; omega) | (rw [if_neg (by omega)]; omega))⟩
          ·
            refine z_iconst 1 (zdec DX10_clashes 64 rfl) (by decide) ?_
            refine z_goto 110 (zdec DX10_clashes 65 rfl) rfl ?_
            refine z_iadd (zdec DX10_clashes 67 rfl) (by unfold z32; omega) ?_
            refine z_istore_n (L' := [(0, .inr (.inr 56)), (1, .inl (d + 1)), (2, .inl a), (3, .inl b), (4, .inl 1)]) (zdec DX10_clashes 68 rfl) rfl rfl (by decide) ?_
            refine z_iinc (L' := [(0, .inr (.inr 56)), (1, .inl (d + 1)), (2, .inl a), (3, .inl (b + 1)), (4, .inl 1)]) 3 (zdec DX10_clashes 69 rfl) rfl (by unfold z32; omega) rfl (by decide) ?_
            refine z_goto 12 (zdec DX10_clashes 70 rfl) rfl ?_
            refine z_weak (L' := [(0, .inr (.inr 56)), (1, .inl (d + 1)), (2, .inl a), (3, .inl (b + 1))]) (by simp) ?_
            exact ih (d + 1) (b + 1) (by omega) ⟨by omega, by omega, by omega, (by rw [zsum_s _ hI.1, hI.2.2.2]; unfold zclG; first | (rw [if_pos ⟨by omega, by omega⟩]; omega) | (rw [if_neg (by omega)]; omega))⟩
        ·
          refine z_aload_n 0 (zdec DX10_clashes 30 rfl) rfl rfl (by decide) ?_
          refine z_getr (rw1 := -66) (ki := 8) (r' := 62) 56 10 (zdec DX10_clashes 31 rfl) rfl rfl shp56 rfl (by decide) rfl rfl fl_SixWallsModel_25 (zPa hP 62 rfl) ?_
          refine z_iload_n 2 (zdec DX10_clashes 32 rfl) rfl rfl ?_
          refine z_iald 62 (zdec DX10_clashes 33 rfl) rfl shp62 ⟨by omega, by omega⟩ ?_
          rw [(hg a (by omega) (by omega)).2]
          refine z_aload_n 0 (zdec DX10_clashes 34 rfl) rfl rfl (by decide) ?_
          refine z_getr (rw1 := -66) (ki := 7) (r' := 61) 56 10 (zdec DX10_clashes 35 rfl) rfl rfl shp56 rfl (by decide) rfl rfl fl_SixWallsModel_22 (zPa hP 61 rfl) ?_
          refine z_iload_n 3 (zdec DX10_clashes 36 rfl) rfl rfl ?_
          refine z_iald 61 (zdec DX10_clashes 37 rfl) rfl shp61 ⟨by omega, by omega⟩ ?_
          rw [(hg b (by omega) (by omega)).1]
          refine z_icmp_eq 77 (zdec DX10_clashes 38 rfl) rfl (fun h59 => ?_) (fun h59 => ?_)
          ·
            refine z_iconst 1 (zdec DX10_clashes 48 rfl) (by decide) ?_
            refine z_goto 82 (zdec DX10_clashes 49 rfl) rfl ?_
            refine z_istore (L' := [(0, .inr (.inr 56)), (1, .inl d), (2, .inl a), (3, .inl b), (4, .inl 1)]) (zdec DX10_clashes 51 rfl) rfl (by decide) ?_
            refine z_iload_n 1 (zdec DX10_clashes 52 rfl) rfl rfl ?_
            refine z_iload 4 (zdec DX10_clashes 53 rfl) rfl ?_
            refine z_if_eq 109 (zdec DX10_clashes 54 rfl) rfl (fun h => absurd h (by decide)) (fun _ => ?_)
            refine z_aload_n 0 (zdec DX10_clashes 55 rfl) rfl rfl (by decide) ?_
            refine z_getr (rw1 := -66) (ki := 30) (r' := 75) 56 10 (zdec DX10_clashes 56 rfl) rfl rfl shp56 rfl (by decide) rfl rfl fl_SixWallsModel_65 (zPa hP 75 rfl) ?_
            refine z_iload_n 2 (zdec DX10_clashes 57 rfl) rfl rfl ?_
            refine z_iald 75 (zdec DX10_clashes 58 rfl) rfl shp75 ⟨by omega, by omega⟩ ?_
            refine z_aload_n 0 (zdec DX10_clashes 59 rfl) rfl rfl (by decide) ?_
            refine z_getr (rw1 := -66) (ki := 30) (r' := 75) 56 10 (zdec DX10_clashes 60 rfl) rfl rfl shp56 rfl (by decide) rfl rfl fl_SixWallsModel_65 (zPa hP 75 rfl) ?_
            refine z_iload_n 3 (zdec DX10_clashes 61 rfl) rfl rfl ?_
            refine z_iald 75 (zdec DX10_clashes 62 rfl) rfl shp75 ⟨by omega, by omega⟩ ?_
            refine z_icmp_ne 109 (zdec DX10_clashes 63 rfl) rfl (fun h102 => ?_) (fun h102 => ?_)
            ·
              refine z_iconst 0 (zdec DX10_clashes 66 rfl) (by decide) ?_
              refine z_iadd (zdec DX10_clashes 67 rfl) (by unfold z32; omega) ?_
              refine z_istore_n (L' := [(0, .inr (.inr 56)), (1, .inl (d + 0)), (2, .inl a), (3, .inl b), (4, .inl 1)]) (zdec DX10_clashes 68 rfl) rfl rfl (by decide) ?_
              refine z_iinc (L' := [(0, .inr (.inr 56)), (1, .inl (d + 0)), (2, .inl a), (3, .inl (b + 1)), (4, .inl 1)]) 3 (zdec DX10_clashes 69 rfl) rfl (by unfold z32; omega) rfl (by decide) ?_
              refine z_goto 12 (zdec DX10_clashes 70 rfl) rfl ?_
              refine z_weak (L' := [(0, .inr (.inr 56)), (1, .inl (d + 0)), (2, .inl a), (3, .inl (b + 1))]) (by simp) ?_
              exact ih (d + 0) (b + 1) (by omega) ⟨by omega, by omega, by omega, (by rw [zsum_s _ hI.1, hI.2.2.2]; unfold zclG; first | (rw [if_pos ⟨by omega, by omega⟩]; omega) | (rw [if_neg (by omega)]; omega))⟩
            ·
              refine z_iconst 1 (zdec DX10_clashes 64 rfl) (by decide) ?_
              refine z_goto 110 (zdec DX10_clashes 65 rfl) rfl ?_
              refine z_iadd (zdec DX10_clashes 67 rfl) (by unfold z32; omega) ?_
              refine z_istore_n (L' := [(0, .inr (.inr 56)), (1, .inl (d + 1)), (2, .inl a), (3, .inl b), (4, .inl 1)]) (zdec DX10_clashes 68 rfl) rfl rfl (by decide) ?_
              refine z_iinc (L' := [(0, .inr (.inr 56)), (1, .inl (d + 1)), (2, .inl a), (3, .inl (b + 1)), (4, .inl 1)]) 3 (zdec DX10_clashes 69 rfl) rfl (by unfold z32; omega) rfl (by decide) ?_
              refine z_goto 12 (zdec DX10_clashes 70 rfl) rfl ?_
              refine z_weak (L' := [(0, .inr (.inr 56)), (1, .inl (d + 1)), (2, .inl a), (3, .inl (b + 1))]) (by simp) ?_
              exact ih (d + 1) (b + 1) (by omega) ⟨by omega, by omega, by omega, (by rw [zsum_s _ hI.1, hI.2.2.2]; unfold zclG; first | (rw [if_pos ⟨by omega, by omega⟩]; omega) | (rw [if_neg (by omega)]; omega))⟩
          ·
            refine z_aload_n 0 (zdec DX10_clashes 39 rfl) rfl rfl (by decide) ?_
            refine z_getr (rw1 := -66) (ki := 8) (r' := 62) 56 10 (zdec DX10_clashes 40 rfl) rfl rfl shp56 rfl (by decide) rfl rfl fl_SixWallsModel_25 (zPa hP 62 rfl) ?_
            refine z_iload_n 2 (zdec DX10_clashes 41 rfl) rfl rfl ?_
            refine z_iald 62 (zdec DX10_clashes 42 rfl) rfl shp62 ⟨by omega, by omega⟩ ?_
            rw [(hg a (by omega) (by omega)).2]
            refine z_aload_n 0 (zdec DX10_clashes 43 rfl) rfl rfl (by decide) ?_
            refine z_getr (rw1 := -66) (ki := 8) (r' := 62) 56 10 (zdec DX10_clashes 44 rfl) rfl rfl shp56 rfl (by decide) rfl rfl fl_SixWallsModel_25 (zPa hP 62 rfl) ?_
            refine z_iload_n 3 (zdec DX10_clashes 45 rfl) rfl rfl ?_
            refine z_iald 62 (zdec DX10_clashes 46 rfl) rfl shp62 ⟨by omega, by omega⟩ ?_
            rw [(hg b (by omega) (by omega)).2]
            refine z_icmp_ne 81 (zdec DX10_clashes 47 rfl) rfl (fun h74 => ?_) (fun h74 => ?_)
            ·
              refine z_iconst 0 (zdec DX10_clashes 50 rfl) (by decide) ?_
              refine z_istore (L' := [(0, .inr (.inr 56)), (1, .inl d), (2, .inl a), (3, .inl b), (4, .inl 0)]) (zdec DX10_clashes 51 rfl) rfl (by decide) ?_
              refine z_iload_n 1 (zdec DX10_clashes 52 rfl) rfl rfl ?_
              refine z_iload 4 (zdec DX10_clashes 53 rfl) rfl ?_
              refine z_if_eq 109 (zdec DX10_clashes 54 rfl) rfl (fun _ => ?_) (fun h => absurd h (by decide))
              refine z_iconst 0 (zdec DX10_clashes 66 rfl) (by decide) ?_
              refine z_iadd (zdec DX10_clashes 67 rfl) (by unfold z32; omega) ?_
              refine z_istore_n (L' := [(0, .inr (.inr 56)), (1, .inl (d + 0)), (2, .inl a), (3, .inl b), (4, .inl 0)]) (zdec DX10_clashes 68 rfl) rfl rfl (by decide) ?_
              refine z_iinc (L' := [(0, .inr (.inr 56)), (1, .inl (d + 0)), (2, .inl a), (3, .inl (b + 1)), (4, .inl 0)]) 3 (zdec DX10_clashes 69 rfl) rfl (by unfold z32; omega) rfl (by decide) ?_
              refine z_goto 12 (zdec DX10_clashes 70 rfl) rfl ?_
              refine z_weak (L' := [(0, .inr (.inr 56)), (1, .inl (d + 0)), (2, .inl a), (3, .inl (b + 1))]) (by simp) ?_
              exact ih (d + 0) (b + 1) (by omega) ⟨by omega, by omega, by omega, (by rw [zsum_s _ hI.1, hI.2.2.2]; unfold zclG; first | (rw [if_pos ⟨by omega, by omega⟩]; omega) | (rw [if_neg (by omega)]; omega))⟩
            ·
              refine z_iconst 1 (zdec DX10_clashes 48 rfl) (by decide) ?_
              refine z_goto 82 (zdec DX10_clashes 49 rfl) rfl ?_
              refine z_istore (L' := [(0, .inr (.inr 56)), (1, .inl d), (2, .inl a), (3, .inl b), (4, .inl 1)]) (zdec DX10_clashes 51 rfl) rfl (by decide) ?_
              refine z_iload_n 1 (zdec DX10_clashes 52 rfl) rfl rfl ?_
              refine z_iload 4 (zdec DX10_clashes 53 rfl) rfl ?_
              refine z_if_eq 109 (zdec DX10_clashes 54 rfl) rfl (fun h => absurd h (by decide)) (fun _ => ?_)
              refine z_aload_n 0 (zdec DX10_clashes 55 rfl) rfl rfl (by decide) ?_
              refine z_getr (rw1 := -66) (ki := 30) (r' := 75) 56 10 (zdec DX10_clashes 56 rfl) rfl rfl shp56 rfl (by decide) rfl rfl fl_SixWallsModel_65 (zPa hP 75 rfl) ?_
              refine z_iload_n 2 (zdec DX10_clashes 57 rfl) rfl rfl ?_
              refine z_iald 75 (zdec DX10_clashes 58 rfl) rfl shp75 ⟨by omega, by omega⟩ ?_
              refine z_aload_n 0 (zdec DX10_clashes 59 rfl) rfl rfl (by decide) ?_
              refine z_getr (rw1 := -66) (ki := 30) (r' := 75) 56 10 (zdec DX10_clashes 60 rfl) rfl rfl shp56 rfl (by decide) rfl rfl fl_SixWallsModel_65 (zPa hP 75 rfl) ?_
              refine z_iload_n 3 (zdec DX10_clashes 61 rfl) rfl rfl ?_
              refine z_iald 75 (zdec DX10_clashes 62 rfl) rfl shp75 ⟨by omega, by omega⟩ ?_
              refine z_icmp_ne 109 (zdec DX10_clashes 63 rfl) rfl (fun h102 => ?_) (fun h102 => ?_)
              ·
                refine z_iconst 0 (zdec DX10_clashes 66 rfl) (by decide) ?_
                refine z_iadd (zdec DX10_clashes 67 rfl) (by unfold z32; omega) ?_
                refine z_istore_n (L' := [(0, .inr (.inr 56)), (1, .inl (d + 0)), (2, .inl a), (3, .inl b), (4, .inl 1)]) (zdec DX10_clashes 68 rfl) rfl rfl (by decide) ?_
                refine z_iinc (L' := [(0, .inr (.inr 56)), (1, .inl (d + 0)), (2, .inl a), (3, .inl (b + 1)), (4, .inl 1)]) 3 (zdec DX10_clashes 69 rfl) rfl (by unfold z32; omega) rfl (by decide) ?_
                refine z_goto 12 (zdec DX10_clashes 70 rfl) rfl ?_
                refine z_weak (L' := [(0, .inr (.inr 56)), (1, .inl (d + 0)), (2, .inl a), (3, .inl (b + 1))]) (by simp) ?_
                exact ih (d + 0) (b + 1) (by omega) ⟨by omega, by omega, by omega, (by rw [zsum_s _ hI.1, hI.2.2.2]; unfold zclG; first | (rw [if_pos ⟨by omega, by omega⟩]; omega) | (rw [if_neg (by omega)]; omega))⟩
              ·
                refine z_iconst 1 (zdec DX10_clashes 64 rfl) (by decide) ?_
                refine z_goto 110 (zdec DX10_clashes 65 rfl) rfl ?_
                refine z_iadd (zdec DX10_clashes 67 rfl) (by unfold z32; omega) ?_
                refine z_istore_n (L' := [(0, .inr (.inr 56)), (1, .inl (d + 1)), (2, .inl a), (3, .inl b), (4, .inl 1)]) (zdec DX10_clashes 68 rfl) rfl rfl (by decide) ?_
                refine z_iinc (L' := [(0, .inr (.inr 56)), (1, .inl (d + 1)), (2, .inl a), (3, .inl (b + 1)), (4, .inl 1)]) 3 (zdec DX10_clashes 69 rfl) rfl (by unfold z32; omega) rfl (by decide) ?_
                refine z_goto 12 (zdec DX10_clashes 70 rfl) rfl ?_
                refine z_weak (L' := [(0, .inr (.inr 56)), (1, .inl (d + 1)), (2, .inl a), (3, .inl (b + 1))]) (by simp) ?_
                exact ih (d + 1) (b + 1) (by omega) ⟨by omega, by omega, by omega, (by rw [zsum_s _ hI.1, hI.2.2.2]; unfold zclG; first | (rw [if_pos ⟨by omega, by omega⟩]; omega) | (rw [if_neg (by omega)]; omega))⟩
set_option maxHeartbeats 4000000 in
theorem lp_X10_clashes_4 {Q : zPost} {M : zMm} (hP : zP M) (hg : zGr M) (hx124 : ∀ (c : Int), (c = zclR (M 75)) → zW mX10_clashes 1 Q (0, 0) zS0 124 [(1, .inl c)] [] M) : ∀ (n : Nat) (c : Int) (a : Int), (33 - a).toNat < n → (0 ≤ a ∧ a ≤ 33 ∧ (0 ≤ c ∧ c ≤ 33 * a) ∧ c = zsum (fun a => zsum (zclG (M 75) a) a) a) → zW mX10_clashes 1 Q (0, 0) zS0 4 [(0, .inr (.inr 56)), (1, .inl c), (2, .inl a)] [] M := by
  intro n
  induction n with
  | zero => intro c a hn; exact absurd hn (Nat.not_lt_zero _)
  | succ n ih =>
    intro c a hn hI
    refine z_iload_n 2 (zdec DX10_clashes 4 rfl) rfl rfl ?_
    refine z_bipush 33 (zdec DX10_clashes 5 rfl) (by decide) ?_
    refine z_icmp_ge 124 (zdec DX10_clashes 6 rfl) rfl (fun h7 => ?_) (fun h7 => ?_)
    ·
      refine z_weak (L' := [(1, .inl c)]) (by simp) ?_
      exact hx124 c (by rw [hI.2.2.2, show a = 33 by omega]; rfl)
    ·
      refine z_iconst 0 (zdec DX10_clashes 7 rfl) (by decide) ?_
      refine z_istore_n (L' := [(0, .inr (.inr 56)), (1, .inl c), (2, .inl a), (3, .inl 0)]) (zdec DX10_clashes 8 rfl) rfl rfl (by decide) ?_
      refine lp_X10_clashes_12 hP hg a c ⟨by omega, by omega⟩ ⟨by omega, by omega⟩ (hx118 := fun d hy => ?_) _ c 0 (Nat.lt_succ_self _) ⟨by omega, by omega, by omega, by rw [show zsum (zclG (M 75) a) 0 = 0 from rfl]; omega⟩
      refine z_iinc (L' := [(0, .inr (.inr 56)), (1, .inl d), (2, .inl (a + 1))]) 2 (zdec DX10_clashes 71 rfl) rfl (by unfold z32; omega) rfl (by decide) ?_
      refine z_goto 4 (zdec DX10_clashes 72 rfl) rfl ?_
      exact ih d (a + 1) (by omega) ⟨by omega, by omega, by omega, by rw [zsum_s _ hI.1, ← hI.2.2.2]; exact hy.2⟩
set_option maxHeartbeats 4000000 in
theorem cX10_clashes {M : zMm} (hP : zP M) (hg : zGr M) : zW mX10_clashes 1 (fun rv S' M' => S' = zS0 ∧ M = M' ∧ rv = some (.inl (zclR (M 75)))) (0, 0) zS0 0 (zargs 0 [.inr (.inr 56)]) [] M := by
  change zW _ _ _ _ _ 0 [(0, .inr (.inr 56))] [] M
  refine z_iconst 0 (zdec DX10_clashes 0 rfl) (by decide) ?_
  refine z_istore_n (L' := [(0, .inr (.inr 56)), (1, .inl 0)]) (zdec DX10_clashes 1 rfl) rfl rfl (by decide) ?_
  refine z_iconst 0 (zdec DX10_clashes 2 rfl) (by decide) ?_
  refine z_istore_n (L' := [(0, .inr (.inr 56)), (1, .inl 0), (2, .inl 0)]) (zdec DX10_clashes 3 rfl) rfl rfl (by decide) ?_
  refine lp_X10_clashes_4 hP hg (hx124 := fun c hz => ?_) _ 0 0 (Nat.lt_succ_self _) ⟨by omega, by omega, by omega, rfl⟩
  refine z_iload_n 0 (zdec DX10_clashes 73 rfl) rfl rfl ?_
  exact z_iret (zdec DX10_clashes 74 rfl) rfl (⟨rfl, rfl, zri hz⟩)
set_option maxHeartbeats 4000000 in
theorem lp_X10_bestColour_15 {Q : zPost} {M : zMm} (hP : zP M) (hg : zGr M) (w : Int) (hw : 0 ≤ w ∧ w < 33) (hx60 : ∀ (b : Int) (M2 : zMm), (zonly 75 M M2 ∧ (∀ k : Int, k ≠ w → M2 75 k = M 75 k) ∧ b = zbeR (M 75) w) → zW mX10_bestColour 2 Q (0, 0) zS0 60 [(0, .inr (.inr 56)), (1, .inl w), (2, .inl (M 75 w)), (3, .inl b)] [] M2) : ∀ (n : Nat) (b : Int) (e : Int) (i : Int) (M2 : zMm), (6 - i).toNat < n → (0 ≤ i ∧ i ≤ 6 ∧ zonly 75 M M2 ∧ (∀ k : Int, k ≠ w → M2 75 k = M 75 k) ∧ (b, e) = zfo (zbe1 (M 75) w) (-1, 0) i) → zW mX10_bestColour 2 Q (0, 0) zS0 15 [(0, .inr (.inr 56)), (1, .inl w), (2, .inl (M 75 w)), (3, .inl b), (4, .inl e), (5, .inl i)] [] M2 := by
  intro n
  induction n with
  | zero => intro b e i M2 hn; exact absurd hn (Nat.not_lt_zero _)
  | succ n ih =>
    intro b e i M2 hn hI
    refine z_iload 5 (zdec DX10_bestColour 11 rfl) rfl ?_
    refine z_bipush 6 (zdec DX10_bestColour 12 rfl) (by decide) ?_
    refine z_icmp_ge 60 (zdec DX10_bestColour 13 rfl) rfl (fun h19 => ?_) (fun h19 => ?_)
    ·
      refine z_weak (L' := [(0, .inr (.inr 56)), (1, .inl w), (2, .inl (M 75 w)), (3, .inl b)]) (by simp) ?_
      exact hx60 b M2 ⟨hI.2.2.1, hI.2.2.2.1, (by have e2 := hI.2.2.2.2; rw [show i = 6 by omega] at e2; exact congrArg Prod.fst e2)⟩
    ·
      refine z_aload_n 0 (zdec DX10_bestColour 14 rfl) rfl rfl (by decide) ?_
      refine z_getr (rw1 := -66) (ki := 30) (r' := 75) 56 10 (zdec DX10_bestColour 15 rfl) rfl rfl shp56 rfl (by decide) rfl rfl fl_SixWallsModel_65 (zPa (hI.2.2.1.P (by decide) hP) 75 rfl) ?_
      refine z_iload_n 1 (zdec DX10_bestColour 16 rfl) rfl rfl ?_
      refine z_iload 5 (zdec DX10_bestColour 17 rfl) rfl ?_
      refine z_iast 75 (zdec DX10_bestColour 18 rfl) rfl shp75 ⟨by omega, by omega⟩ ?_
      refine z_aload_n 0 (zdec DX10_bestColour 19 rfl) rfl rfl (by decide) ?_
      refine z_inv mX10_clashes 56 10 [] (zdec DX10_bestColour 20 rfl) ml_SixWallsModel_296 okX10_clashes rfl shp56 rfl rfl rfl rfl (Nat.le_of_ble_eq_true rfl) (Nat.le_of_ble_eq_true rfl) (b' := (0, 0)) ⟨Nat.le_refl 0, Nat.le_refl 0⟩ (Nat.le_of_ble_eq_true rfl) (cX10_clashes (zP_up (hI.2.2.1.P (by decide) hP) (by decide)) (hI.2.2.1.up.g (by decide) hg)) (fun rv9 S9 M31 h9 => ?_)
      obtain ⟨rfl, rfl, rfl⟩ := h9
      obtain ⟨cl, ecl⟩ : ∃ x, x = zclR (zpu (M 75) w i) := ⟨_, rfl⟩
      rw [show zclR (zup M2 75 w i 75) = cl by rw [ecl]; congr 1; funext k; rw [zup_zpu]; unfold zpu; split; rfl; exact hI.2.2.2.1 k (by assumption)]
      change zW _ _ _ _ _ 34 [(0, .inr (.inr 56)), (1, .inl w), (2, .inl (M 75 w)), (3, .inl b), (4, .inl e), (5, .inl i)] [.inl cl] (zup M2 75 w i)
      refine z_istore (L' := [(0, .inr (.inr 56)), (1, .inl w), (2, .inl (M 75 w)), (3, .inl b), (4, .inl e), (5, .inl i), (6, .inl cl)]) (zdec DX10_bestColour 21 rfl) rfl (by decide) ?_
      refine z_iload_n 3 (zdec DX10_bestColour 22 rfl) rfl rfl ?_
      refine z_if_lt 47 (zdec DX10_bestColour 23 rfl) rfl (fun h37 => ?_) (fun h37 => ?_)
      ·
        refine z_iload 5 (zdec DX10_bestColour 27 rfl) rfl ?_
        refine z_istore_n (L' := [(0, .inr (.inr 56)), (1, .inl w), (2, .inl (M 75 w)), (3, .inl i), (4, .inl e), (5, .inl i), (6, .inl cl)]) (zdec DX10_bestColour 28 rfl) rfl rfl (by decide) ?_
        refine z_iload 6 (zdec DX10_bestColour 29 rfl) rfl ?_
        refine z_istore (L' := [(0, .inr (.inr 56)), (1, .inl w), (2, .inl (M 75 w)), (3, .inl i), (4, .inl cl), (5, .inl i), (6, .inl cl)]) (zdec DX10_bestColour 30 rfl) rfl (by decide) ?_
        refine z_iinc (L' := [(0, .inr (.inr 56)), (1, .inl w), (2, .inl (M 75 w)), (3, .inl i), (4, .inl cl), (5, .inl (i + 1)), (6, .inl cl)]) 5 (zdec DX10_bestColour 31 rfl) rfl (by unfold z32; omega) rfl (by decide) ?_
        refine z_goto 15 (zdec DX10_bestColour 32 rfl) rfl ?_
        refine z_weak (L' := [(0, .inr (.inr 56)), (1, .inl w), (2, .inl (M 75 w)), (3, .inl i), (4, .inl cl), (5, .inl (i + 1))]) (by simp) ?_
        exact ih i cl (i + 1) (zup M2 75 w i) (by omega) ⟨by omega, by omega, hI.2.2.1.up, (fun k hk => (zup_ne hk).trans (hI.2.2.2.1 k hk)), (by rw [zfo_s _ _ hI.1, ← hI.2.2.2.2]; unfold zbe1; rw [← ecl]; first | (rw [if_pos (by dsimp only; omega)]; done) | (rw [if_neg (by dsimp only; omega)]; done))⟩
      ·
        refine z_iload 6 (zdec DX10_bestColour 24 rfl) rfl ?_
        refine z_iload 4 (zdec DX10_bestColour 25 rfl) rfl ?_
        refine z_icmp_ge 54 (zdec DX10_bestColour 26 rfl) rfl (fun h44 => ?_) (fun h44 => ?_)
        ·
          refine z_iinc (L' := [(0, .inr (.inr 56)), (1, .inl w), (2, .inl (M 75 w)), (3, .inl b), (4, .inl e), (5, .inl (i + 1)), (6, .inl cl)]) 5 (zdec DX10_bestColour 31 rfl) rfl (by unfold z32; omega) rfl (by decide) ?_
          refine z_goto 15 (zdec DX10_bestColour 32 rfl) rfl ?_
          refine z_weak (L' := [(0, .inr (.inr 56)), (1, .inl w), (2, .inl (M 75 w)), (3, .inl b), (4, .inl e), (5, .inl (i + 1))]) (by simp) ?_
          exact ih b e (i + 1) (zup M2 75 w i) (by omega) ⟨by omega, by omega, hI.2.2.1.up, (fun k hk => (zup_ne hk).trans (hI.2.2.2.1 k hk)), (by rw [zfo_s _ _ hI.1, ← hI.2.2.2.2]; unfold zbe1; rw [← ecl]; first | (rw [if_pos (by dsimp only; omega)]; done) | (rw [if_neg (by dsimp only; omega)]; done))⟩
        ·
          refine z_iload 5 (zdec DX10_bestColour 27 rfl) rfl ?_
          refine z_istore_n (L' := [(0, .inr (.inr 56)), (1, .inl w), (2, .inl (M 75 w)), (3, .inl i), (4, .inl e), (5, .inl i), (6, .inl cl)]) (zdec DX10_bestColour 28 rfl) rfl rfl (by decide) ?_
          refine z_iload 6 (zdec DX10_bestColour 29 rfl) rfl ?_
          refine z_istore (L' := [(0, .inr (.inr 56)), (1, .inl w), (2, .inl (M 75 w)), (3, .inl i), (4, .inl cl), (5, .inl i), (6, .inl cl)]) (zdec DX10_bestColour 30 rfl) rfl (by decide) ?_
          refine z_iinc (L' := [(0, .inr (.inr 56)), (1, .inl w), (2, .inl (M 75 w)), (3, .inl i), (4, .inl cl), (5, .inl (i + 1)), (6, .inl cl)]) 5 (zdec DX10_bestColour 31 rfl) rfl (by unfold z32; omega) rfl (by decide) ?_
          refine z_goto 15 (zdec DX10_bestColour 32 rfl) rfl ?_
          refine z_weak (L' := [(0, .inr (.inr 56)), (1, .inl w), (2, .inl (M 75 w)), (3, .inl i), (4, .inl cl), (5, .inl (i + 1))]) (by simp) ?_
          exact ih i cl (i + 1) (zup M2 75 w i) (by omega) ⟨by omega, by omega, hI.2.2.1.up, (fun k hk => (zup_ne hk).trans (hI.2.2.2.1 k hk)), (by rw [zfo_s _ _ hI.1, ← hI.2.2.2.2]; unfold zbe1; rw [← ecl]; first | (rw [if_pos (by dsimp only; omega)]; done) | (rw [if_neg (by dsimp only; omega)]; done))⟩
set_option maxHeartbeats 4000000 in
theorem cX10_bestColour {M : zMm} (hP : zP M) (hg : zGr M) (w : Int) (hw : 0 ≤ w ∧ w < 33) : zW mX10_bestColour 2 (fun rv S' M' => S' = zS0 ∧ rv = some (.inl (zbeR (M 75) w)) ∧ zonly 75 M M' ∧ M' 75 = M 75) (0, 0) zS0 0 (zargs 0 [.inr (.inr 56), .inl w]) [] M := by
  change zW _ _ _ _ _ 0 [(0, .inr (.inr 56)), (1, .inl w)] [] M
  refine z_aload_n 0 (zdec DX10_bestColour 0 rfl) rfl rfl (by decide) ?_
  refine z_getr (rw1 := -66) (ki := 30) (r' := 75) 56 10 (zdec DX10_bestColour 1 rfl) rfl rfl shp56 rfl (by decide) rfl rfl fl_SixWallsModel_65 (zPa hP 75 rfl) ?_
  refine z_iload_n 1 (zdec DX10_bestColour 2 rfl) rfl rfl ?_
  refine z_iald 75 (zdec DX10_bestColour 3 rfl) rfl shp75 ⟨by omega, by omega⟩ ?_
  refine z_istore_n (L' := [(0, .inr (.inr 56)), (1, .inl w), (2, .inl (M 75 w))]) (zdec DX10_bestColour 4 rfl) rfl rfl (by decide) ?_
  refine z_iconst (-1) (zdec DX10_bestColour 5 rfl) (by decide) ?_
  refine z_istore_n (L' := [(0, .inr (.inr 56)), (1, .inl w), (2, .inl (M 75 w)), (3, .inl (-1))]) (zdec DX10_bestColour 6 rfl) rfl rfl (by decide) ?_
  refine z_iconst 0 (zdec DX10_bestColour 7 rfl) (by decide) ?_
  refine z_istore (L' := [(0, .inr (.inr 56)), (1, .inl w), (2, .inl (M 75 w)), (3, .inl (-1)), (4, .inl 0)]) (zdec DX10_bestColour 8 rfl) rfl (by decide) ?_
  refine z_iconst 0 (zdec DX10_bestColour 9 rfl) (by decide) ?_
  refine z_istore (L' := [(0, .inr (.inr 56)), (1, .inl w), (2, .inl (M 75 w)), (3, .inl (-1)), (4, .inl 0), (5, .inl 0)]) (zdec DX10_bestColour 10 rfl) rfl (by decide) ?_
  refine lp_X10_bestColour_15 hP hg w hw (hx60 := fun b M2 hx => ?_) _ (-1) 0 0 M (Nat.lt_succ_self _) ⟨by omega, by omega, zonly.rf, fun k _ => rfl, rfl⟩
  refine z_aload_n 0 (zdec DX10_bestColour 33 rfl) rfl rfl (by decide) ?_
  refine z_getr (rw1 := -66) (ki := 30) (r' := 75) 56 10 (zdec DX10_bestColour 34 rfl) rfl rfl shp56 rfl (by decide) rfl rfl fl_SixWallsModel_65 (zPa (hx.1.P (by decide) hP) 75 rfl) ?_
  refine z_iload_n 1 (zdec DX10_bestColour 35 rfl) rfl rfl ?_
  refine z_iload_n 2 (zdec DX10_bestColour 36 rfl) rfl rfl ?_
  refine z_iast 75 (zdec DX10_bestColour 37 rfl) rfl shp75 ⟨by omega, by omega⟩ ?_
  refine z_iload_n 3 (zdec DX10_bestColour 38 rfl) rfl rfl ?_
  exact z_iret (zdec DX10_bestColour 39 rfl) rfl (⟨rfl, zri hx.2.2, hx.1.up, (by funext k; rw [zup_zpu]; unfold zpu; split; (rename_i e; rw [e]); exact hx.2.1 k (by assumption))⟩)
set_option maxHeartbeats 4000000 in
theorem cX10_paint {M : zMm} (hP : zP M) (hg : zGr M) (w : Int) : zW mX10_paint 3 (fun rv S' M' => S' = zS0 ∧ rv = some (.inl (if 0 ≤ w ∧ w < 33 then zbeR (fun k => M 57 (98 + k)) w else -1)) ∧ zonly 75 M M') (0, 0) zS0 0 (zargs 0 [.inr (.inr 56), .inl w]) [] M := by
  change zW _ _ _ _ _ 0 [(0, .inr (.inr 56)), (1, .inl w)] [] M
  refine z_iload_n 1 (zdec DX10_paint 0 rfl) rfl rfl ?_
  refine z_invs mX10_isWall [.inl w] (zdec DX10_paint 1 rfl) (Or.inl ml_SixWallsModel_134) okX10_isWall rfl rfl (Nat.le_of_ble_eq_true rfl) (Nat.le_of_ble_eq_true rfl) (b' := (0, 0)) ⟨Nat.le_refl 0, Nat.le_refl 0⟩ (Nat.le_of_ble_eq_true rfl) (cX10_isWall w) (fun rv9 S9 M1 h9 => ?_)
  obtain ⟨rfl, rfl, rfl⟩ := h9
  change zW _ _ _ _ _ 4 [(0, .inr (.inr 56)), (1, .inl w)] [.inl (zb (0 ≤ w ∧ w < 33))] M
  refine z_if_ne 9 (zdec DX10_paint 2 rfl) rfl (fun h4 => ?_) (fun h4 => ?_)
  ·
    have q4 := zb_ne0.mp h4
    refine z_aload_n 0 (zdec DX10_paint 5 rfl) rfl rfl (by decide) ?_
    refine z_inv mX10_asksColours 56 10 [] (zdec DX10_paint 6 rfl) ml_SixWallsModel_299 okX10_asksColours rfl shp56 rfl rfl rfl rfl (Nat.le_of_ble_eq_true rfl) (Nat.le_of_ble_eq_true rfl) (b' := (0, 0)) ⟨Nat.le_refl 0, Nat.le_refl 0⟩ (Nat.le_of_ble_eq_true rfl) (cX10_asksColours hP hg) (fun rv9 S9 M10 h9 => ?_)
    obtain ⟨rfl, rfl, x1, x2⟩ := h9
    change zW _ _ _ _ _ 13 [(0, .inr (.inr 56)), (1, .inl w)] [] M10
    refine z_aload_n 0 (zdec DX10_paint 7 rfl) rfl rfl (by decide) ?_
    refine z_iload_n 1 (zdec DX10_paint 8 rfl) rfl rfl ?_
    refine z_inv mX10_bestColour 56 10 [.inl w] (zdec DX10_paint 9 rfl) ml_SixWallsModel_302 okX10_bestColour rfl shp56 rfl rfl rfl rfl (Nat.le_of_ble_eq_true rfl) (Nat.le_of_ble_eq_true rfl) (b' := (0, 0)) ⟨Nat.le_refl 0, Nat.le_refl 0⟩ (Nat.le_of_ble_eq_true rfl) (cX10_bestColour (x1.P (by decide) hP) (x1.g (by decide) hg) w q4) (fun rv9 S9 M15 h9 => ?_)
    obtain ⟨rfl, rfl, x3, x4⟩ := h9
    change zW _ _ _ _ _ 18 [(0, .inr (.inr 56)), (1, .inl w)] [.inl (zbeR (M10 75) w)] M15
    exact z_iret (zdec DX10_paint 10 rfl) rfl (⟨rfl, zri (by rw [if_pos q4]; exact zbeR_c (T' := fun k => M 57 (98 + k)) x2 w), x1.tr x3⟩)
  ·
    have q4 : ¬ (0 ≤ w ∧ w < 33) := fun e => h4 (zb_ne0.mpr e)
    refine z_iconst (-1) (zdec DX10_paint 3 rfl) (by decide) ?_
    exact z_iret (zdec DX10_paint 4 rfl) rfl (⟨rfl, zri (by rw [if_neg q4]), zonly.rf⟩)
set_option maxHeartbeats 4000000 in
theorem lp_X10_colours_8 {Q : zPost} {M : zMm} (hP : zP M) (hg : zGr M) (hR : zRr M) (v : Int) (hx56 : ∀ (s : Int) (M2 : zMm), (zonly 75 M M2 ∧ zW33 (M2 75) (if v = 1 then zclN (fun k => M 57 (98 + k)) 33 else (fun k => M 57 (98 + k))) ∧ (v ≠ 1 → s = zpots (fun k => M 57 (98 + k)) 33)) → zW mX10_colours 3 Q (0, 0) zS0 56 [(0, .inr (.inr 56)), (1, .inl v), (2, .inl s)] [] M2) : ∀ (n : Nat) (s : Int) (w : Int) (M2 : zMm), (33 - w).toNat < n → (0 ≤ w ∧ w ≤ 33 ∧ zonly 75 M M2 ∧ zW33 (M2 75) (if v = 1 then zclN (fun k => M 57 (98 + k)) w else (fun k => M 57 (98 + k))) ∧ (v ≠ 1 → s = zpots (fun k => M 57 (98 + k)) w)) → zW mX10_colours 3 Q (0, 0) zS0 8 [(0, .inr (.inr 56)), (1, .inl v), (2, .inl s), (3, .inl w)] [] M2 := by
  intro n
  induction n with
  | zero => intro s w M2 hn; exact absurd hn (Nat.not_lt_zero _)
  | succ n ih =>
    intro s w M2 hn hI
    refine z_iload_n 3 (zdec DX10_colours 6 rfl) rfl rfl ?_
    refine z_bipush 33 (zdec DX10_colours 7 rfl) (by decide) ?_
    refine z_icmp_ge 56 (zdec DX10_colours 8 rfl) rfl (fun h11 => ?_) (fun h11 => ?_)
    ·
      refine z_weak (L' := [(0, .inr (.inr 56)), (1, .inl v), (2, .inl s)]) (by simp) ?_
      exact hx56 s M2 (by have e : w = 33 := (by omega); subst e; exact hI.2.2)
    ·
      refine z_iload_n 2 (zdec DX10_colours 9 rfl) rfl rfl ?_
      refine z_iconst 1 (zdec DX10_colours 10 rfl) (by decide) ?_
      refine z_aload_n 0 (zdec DX10_colours 11 rfl) rfl rfl (by decide) ?_
      refine z_getr (rw1 := -66) (ki := 30) (r' := 75) 56 10 (zdec DX10_colours 12 rfl) rfl rfl shp56 rfl (by decide) rfl rfl fl_SixWallsModel_65 (zPa (hI.2.2.1.P (by decide) hP) 75 rfl) ?_
      refine z_iload_n 3 (zdec DX10_colours 13 rfl) rfl rfl ?_
      refine z_iald 75 (zdec DX10_colours 14 rfl) rfl shp75 ⟨by omega, by omega⟩ ?_
      refine z_ishl (zdec DX10_colours 15 rfl) ?_
      refine z_ior (zdec DX10_colours 16 rfl) ?_
      refine z_istore_n (L' := [(0, .inr (.inr 56)), (1, .inl v), (2, .inl (zor s (zshl 1 (M2 75 w)))), (3, .inl w)]) (zdec DX10_colours 17 rfl) rfl rfl (by decide) ?_
      refine z_aload_n 0 (zdec DX10_colours 18 rfl) rfl rfl (by decide) ?_
      refine z_getr (rw1 := -66) (ki := 30) (r' := 75) 56 10 (zdec DX10_colours 19 rfl) rfl rfl shp56 rfl (by decide) rfl rfl fl_SixWallsModel_65 (zPa (hI.2.2.1.P (by decide) hP) 75 rfl) ?_
      refine z_iload_n 3 (zdec DX10_colours 20 rfl) rfl rfl ?_
      refine z_iload_n 1 (zdec DX10_colours 21 rfl) rfl rfl ?_
      refine z_iconst 1 (zdec DX10_colours 22 rfl) (by decide) ?_
      refine z_icmp_ne 43 (zdec DX10_colours 23 rfl) rfl (fun h32 => ?_) (fun h32 => ?_)
      ·
        refine z_aload_n 0 (zdec DX10_colours 28 rfl) rfl rfl (by decide) ?_
        refine z_getr (rw1 := -66) (ki := 30) (r' := 75) 56 10 (zdec DX10_colours 29 rfl) rfl rfl shp56 rfl (by decide) rfl rfl fl_SixWallsModel_65 (zPa (hI.2.2.1.P (by decide) hP) 75 rfl) ?_
        refine z_iload_n 3 (zdec DX10_colours 30 rfl) rfl rfl ?_
        refine z_iald 75 (zdec DX10_colours 31 rfl) rfl shp75 ⟨by omega, by omega⟩ ?_
        refine z_iast 75 (zdec DX10_colours 32 rfl) rfl shp75 ⟨by omega, by omega⟩ ?_
        refine z_iinc (L' := [(0, .inr (.inr 56)), (1, .inl v), (2, .inl (zor s (zshl 1 (M2 75 w)))), (3, .inl (w + 1))]) 3 (zdec DX10_colours 33 rfl) rfl (by unfold z32; omega) rfl (by decide) ?_
        refine z_goto 8 (zdec DX10_colours 34 rfl) rfl ?_
        exact ih (zor s (zshl 1 (M2 75 w))) (w + 1) (zup M2 75 w (M2 75 w)) (by omega) (by refine ⟨by omega, by omega, ?_, ?_, ?_⟩; (first | exact (hI.2.2.1.tr x3).up | exact hI.2.2.1.up); (first | (rw [zup_zpu, x4]; have r := hI.2.2.2.1; rw [if_pos (show v = 1 by omega)] at r ⊢; exact zcl_go r hI.1) | (rw [zup_idr]; have r := hI.2.2.2.1; rw [if_neg (show ¬ v = 1 by omega)] at r ⊢; exact r)); (intro hv; have e := hI.2.2.2.2 hv; have r := hI.2.2.2.1 w hI.1 (by omega); rw [if_neg hv] at r; unfold zpots; rw [zfo_s _ _ hI.1, r, e]; rfl))
      ·
        refine z_aload_n 0 (zdec DX10_colours 24 rfl) rfl rfl (by decide) ?_
        refine z_iload_n 3 (zdec DX10_colours 25 rfl) rfl rfl ?_
        refine z_inv mX10_bestColour 56 10 [.inl w] (zdec DX10_colours 26 rfl) ml_SixWallsModel_302 okX10_bestColour rfl shp56 rfl rfl rfl rfl (Nat.le_of_ble_eq_true rfl) (Nat.le_of_ble_eq_true rfl) (b' := (0, 0)) ⟨Nat.le_refl 0, Nat.le_refl 0⟩ (Nat.le_of_ble_eq_true rfl) (cX10_bestColour (hI.2.2.1.P (by decide) hP) (hI.2.2.1.g (by decide) hg) w ⟨by omega, by omega⟩) (fun rv9 S9 M37 h9 => ?_)
        obtain ⟨rfl, rfl, x3, x4⟩ := h9
        change zW _ _ _ _ _ 40 [(0, .inr (.inr 56)), (1, .inl v), (2, .inl (zor s (zshl 1 (M2 75 w)))), (3, .inl w)] [.inl (zbeR (M2 75) w), .inl w, .inr (.inr 75)] M37
        refine z_goto 49 (zdec DX10_colours 27 rfl) rfl ?_
        refine z_iast 75 (zdec DX10_colours 32 rfl) rfl shp75 ⟨by omega, by omega⟩ ?_
        refine z_iinc (L' := [(0, .inr (.inr 56)), (1, .inl v), (2, .inl (zor s (zshl 1 (M2 75 w)))), (3, .inl (w + 1))]) 3 (zdec DX10_colours 33 rfl) rfl (by unfold z32; omega) rfl (by decide) ?_
        refine z_goto 8 (zdec DX10_colours 34 rfl) rfl ?_
        exact ih (zor s (zshl 1 (M2 75 w))) (w + 1) (zup M37 75 w (zbeR (M2 75) w)) (by omega) (by refine ⟨by omega, by omega, ?_, ?_, ?_⟩; (first | exact (hI.2.2.1.tr x3).up | exact hI.2.2.1.up); (first | (rw [zup_zpu, x4]; have r := hI.2.2.2.1; rw [if_pos (show v = 1 by omega)] at r ⊢; exact zcl_go r hI.1) | (rw [zup_idr]; have r := hI.2.2.2.1; rw [if_neg (show ¬ v = 1 by omega)] at r ⊢; exact r)); (intro hv; have e := hI.2.2.2.2 hv; have r := hI.2.2.2.1 w hI.1 (by omega); rw [if_neg hv] at r; unfold zpots; rw [zfo_s _ _ hI.1, r, e]; rfl))
set_option maxHeartbeats 4000000 in
theorem cX10_colours {M : zMm} (hP : zP M) (hg : zGr M) (hR : zRr M) (v : Int) : zW mX10_colours 3 (fun rv S' M' => S' = zS0 ∧ rv = some (.inl (if v = 0 then zclR (fun k => M 57 (98 + k)) else if v = 1 then zclR (zclN (fun k => M 57 (98 + k)) 33) else if v = 2 then zpn 62 (zpots (fun k => M 57 (98 + k)) 33).toNat else -1)) ∧ zonly 75 M M') (0, 0) zS0 0 (zargs 0 [.inr (.inr 56), .inl v]) [] M := by
  change zW _ _ _ _ _ 0 [(0, .inr (.inr 56)), (1, .inl v)] [] M
  refine z_aload_n 0 (zdec DX10_colours 0 rfl) rfl rfl (by decide) ?_
  refine z_inv mX10_asksColours 56 10 [] (zdec DX10_colours 1 rfl) ml_SixWallsModel_299 okX10_asksColours rfl shp56 rfl rfl rfl rfl (Nat.le_of_ble_eq_true rfl) (Nat.le_of_ble_eq_true rfl) (b' := (0, 0)) ⟨Nat.le_refl 0, Nat.le_refl 0⟩ (Nat.le_of_ble_eq_true rfl) (cX10_asksColours hP hg) (fun rv9 S9 M1 h9 => ?_)
  obtain ⟨rfl, rfl, x1, x2⟩ := h9
  change zW _ _ _ _ _ 4 [(0, .inr (.inr 56)), (1, .inl v)] [] M1
  refine z_iconst 0 (zdec DX10_colours 2 rfl) (by decide) ?_
  refine z_istore_n (L' := [(0, .inr (.inr 56)), (1, .inl v), (2, .inl 0)]) (zdec DX10_colours 3 rfl) rfl rfl (by decide) ?_
  refine z_iconst 0 (zdec DX10_colours 4 rfl) (by decide) ?_
  refine z_istore_n (L' := [(0, .inr (.inr 56)), (1, .inl v), (2, .inl 0), (3, .inl 0)]) (zdec DX10_colours 5 rfl) rfl rfl (by decide) ?_
  refine lp_X10_colours_8 hP hg hR v (hx56 := fun s M2 hx => ?_) _ 0 0 M1 (Nat.lt_succ_self _) ⟨by omega, by omega, x1, (fun k h0 h1 => (x2 k h0 h1).trans (by split <;> rfl)), fun _ => rfl⟩
  refine z_iload_n 1 (zdec DX10_colours 35 rfl) rfl rfl ?_
  refine z_iconst 2 (zdec DX10_colours 36 rfl) (by decide) ?_
  refine z_icmp_ne 69 (zdec DX10_colours 37 rfl) rfl (fun h58 => ?_) (fun h58 => ?_)
  ·
    refine z_iload_n 1 (zdec DX10_colours 42 rfl) rfl rfl ?_
    refine z_i2l (zdec DX10_colours 43 rfl) ?_
    refine z_lconst 0 (zdec DX10_colours 44 rfl) rfl ?_
    refine z_lconst 1 (zdec DX10_colours 45 rfl) rfl ?_
    refine z_invs mX10_within [.inr (.inl v), .inr (.inl 0), .inr (.inl 1)] (zdec DX10_colours 46 rfl) (Or.inl ml_SixWallsModel_112) okX10_within rfl rfl (Nat.le_of_ble_eq_true rfl) (Nat.le_of_ble_eq_true rfl) (b' := (0, 0)) ⟨Nat.le_refl 0, Nat.le_refl 0⟩ (Nat.le_of_ble_eq_true rfl) (cX10_within v 0 1) (fun rv9 S9 M73 h9 => ?_)
    obtain ⟨rfl, rfl, rfl⟩ := h9
    change zW _ _ _ _ _ 76 [(0, .inr (.inr 56)), (1, .inl v), (2, .inl s)] [.inl (zb (0 ≤ v ∧ v ≤ 1))] M2
    refine z_if_eq 86 (zdec DX10_colours 47 rfl) rfl (fun h76 => ?_) (fun h76 => ?_)
    ·
      have q76 := zb_eq0.mp h76
      refine z_iconst (-1) (zdec DX10_colours 51 rfl) (by decide) ?_
      exact z_iret (zdec DX10_colours 52 rfl) rfl (⟨rfl, zri (by first | (rw [if_neg (by omega), if_neg (by omega), if_pos (by omega), es]; done) | (rw [if_neg (by omega), if_neg (by omega), if_neg (by omega)]; done) | (have r := hx.2.1; by_cases hv : v = 1; (rw [if_pos hv] at r; rw [if_neg (by omega), if_pos hv]; exact zclR_c r); (rw [if_neg hv] at r; rw [if_pos (by omega)]; exact zclR_c r))), hx.1⟩)
    ·
      have q76 := zb_ne0.mp h76
      refine z_aload_n 0 (zdec DX10_colours 48 rfl) rfl rfl (by decide) ?_
      refine z_inv mX10_clashes 56 10 [] (zdec DX10_colours 49 rfl) ml_SixWallsModel_296 okX10_clashes rfl shp56 rfl rfl rfl rfl (Nat.le_of_ble_eq_true rfl) (Nat.le_of_ble_eq_true rfl) (b' := (0, 0)) ⟨Nat.le_refl 0, Nat.le_refl 0⟩ (Nat.le_of_ble_eq_true rfl) (cX10_clashes (hx.1.P (by decide) hP) (hx.1.g (by decide) hg)) (fun rv9 S9 M80 h9 => ?_)
      obtain ⟨rfl, rfl, rfl⟩ := h9
      change zW _ _ _ _ _ 83 [(0, .inr (.inr 56)), (1, .inl v), (2, .inl s)] [.inl (zclR (M2 75))] M2
      refine z_goto 87 (zdec DX10_colours 50 rfl) rfl ?_
      exact z_iret (zdec DX10_colours 52 rfl) rfl (⟨rfl, zri (by first | (rw [if_neg (by omega), if_neg (by omega), if_pos (by omega), es]; done) | (rw [if_neg (by omega), if_neg (by omega), if_neg (by omega)]; done) | (have r := hx.2.1; by_cases hv : v = 1; (rw [if_pos hv] at r; rw [if_neg (by omega), if_pos hv]; exact zclR_c r); (rw [if_neg hv] at r; rw [if_pos (by omega)]; exact zclR_c r))), hx.1⟩)
  ·
    have es := hx.2.2 (by omega)
    have pb := zpot_b (T := (fun k => M 57 (98 + k))) (fun w a b => (hR.2.1 w a b).2.2) 33 (Nat.le_refl _)
    rw [← show zpots (fun k => M 57 (98 + k)) 33 = zpots (fun k => M 57 (98 + k)) ((33 : Nat) : Int) from rfl, ← es] at pb
    refine z_iload_n 2 (zdec DX10_colours 38 rfl) rfl rfl ?_
    refine z_i2l (zdec DX10_colours 39 rfl) ?_
    refine z_invs mX10_bitsOf [.inr (.inl s)] (zdec DX10_colours 40 rfl) (Or.inl ml_SixWallsModel_277) okX10_bitsOf rfl rfl (Nat.le_of_ble_eq_true rfl) (Nat.le_of_ble_eq_true rfl) (b' := (0, 0)) ⟨Nat.le_refl 0, Nat.le_refl 0⟩ (Nat.le_of_ble_eq_true rfl) (cX10_bitsOf s ⟨by omega, by omega⟩) (fun rv9 S9 M63 h9 => ?_)
    obtain ⟨rfl, rfl, rfl⟩ := h9
    change zW _ _ _ _ _ 66 [(0, .inr (.inr 56)), (1, .inl v), (2, .inl s)] [.inl (zpn 62 (s).toNat)] M2
    refine z_goto 87 (zdec DX10_colours 41 rfl) rfl ?_
    exact z_iret (zdec DX10_colours 52 rfl) rfl (⟨rfl, zri (by first | (rw [if_neg (by omega), if_neg (by omega), if_pos (by omega), es]; done) | (rw [if_neg (by omega), if_neg (by omega), if_neg (by omega)]; done) | (have r := hx.2.1; by_cases hv : v = 1; (rw [if_pos hv] at r; rw [if_neg (by omega), if_pos hv]; exact zclR_c r); (rw [if_neg hv] at r; rw [if_pos (by omega)]; exact zclR_c r))), hx.1⟩)
