/-! the reference: way, heard, whose -/
theorem zmc_of {M M2 : zMm} (e : M2 57 = M 57) (nz : Int) : zmc M2 nz = zmc M nz := by
  funext w
  unfold zmc
  rw [e]
theorem zgf.b {c : Int → Int} {a B : Int} {L : Int → Int} (h : zgf c a B L) (hB : 0 ≤ B) (hc : ∀ w : Int, 0 ≤ w → w < 33 → 0 ≤ c w) {k : Int} (h0 : 0 ≤ k) (h1 : k < 16) : 0 ≤ L k ∧ L k ≤ B :=
  ⟨h.2 (fun _ => 0) ⟨Int.le_refl _, fun _ _ _ => hB, fun w a b => by have := hc w a b; dsimp only; omega⟩ k h0 h1, h.1.2.1 k h0 h1⟩
theorem zgf.mb {M : zMm} (hR : zRr M) {nz a : Int} {L : Int → Int} (h : zgf (zmc M nz) a 1000 L) {k : Int} (h0 : 0 ≤ k) (h1 : k < 16) : 0 ≤ L k ∧ L k ≤ 1000 := h.b (by decide) (fun w a b => by have := zmc_b (nz := nz) hR ⟨a, b⟩; omega) h0 h1
/-- the reference's distances -/
noncomputable def zds (M : zMm) (nz a : Int) : Int → Int := zdst (zmc M nz) a 1000
noncomputable def zheR (M : zMm) (a l n : Int) : Int := zfo (fun f o => if 0 < l - zds M 1 a o then zor f (zshl 1 o) else zor f 0) 0 n
noncomputable def zwhR (M : zMm) (l t n : Int) : Int := zfo (fun f h => if M 64 h ≠ 0 ∧ zand (zheR M h l 16) (zxor (zshl 1 h) (-1)) = zand t (zxor (zshl 1 h) (-1)) then zor f (zshl 1 h) else zor f 0) 0 n
set_option maxHeartbeats 4000000 in
theorem cX10_way {M : zMm} (hP : zP M) (hg : zGr M) (hR : zRr M) (v : Int) : zW mX10_way 4 (fun rv S' M' => S' = zS0 ∧ zonly 74 M M' ∧ rv = some (.inl (if 0 ≤ v ∧ v / 100 < 16 ∧ v % 100 < 16 then (if zds M 0 (v / 100) (v % 100) < 1000 then zds M 0 (v / 100) (v % 100) else -2) else -1))) (0, 0) zS0 0 (zargs 0 [.inr (.inr 56), .inl v]) [] M := by
  change zW _ _ _ _ _ 0 [(0, .inr (.inr 56)), (1, .inl v)] [] M
  refine z_iload_n 1 (zdec DX10_way 0 rfl) rfl rfl ?_
  refine z_invs mX10_isAb [.inl v] (zdec DX10_way 1 rfl) (Or.inl ml_SixWallsModel_122) okX10_isAb rfl rfl (Nat.le_of_ble_eq_true rfl) (Nat.le_of_ble_eq_true rfl) (b' := (0, 0)) ⟨Nat.le_refl 0, Nat.le_refl 0⟩ (Nat.le_of_ble_eq_true rfl) (cX10_isAb v) (fun rv9 S9 M1 h9 => ?_)
  obtain ⟨rfl, rfl, rfl⟩ := h9
  change zW _ _ _ _ _ 4 [(0, .inr (.inr 56)), (1, .inl v)] [.inl (zb (0 ≤ v ∧ v / 100 < 16 ∧ v % 100 < 16))] M
  refine z_if_ne 9 (zdec DX10_way 2 rfl) rfl (fun h4 => ?_) (fun h4 => ?_)
  ·
    have q4 := zb_ne0.mp h4
    refine z_aload_n 0 (zdec DX10_way 5 rfl) rfl rfl (by decide) ?_
    refine z_iload_n 1 (zdec DX10_way 6 rfl) rfl rfl ?_
    refine z_bipush 100 (zdec DX10_way 7 rfl) (by decide) ?_
    refine z_idivp (zdec DX10_way 8 rfl) (by omega) (by omega) ?_
    refine z_iconst 0 (zdec DX10_way 9 rfl) (by decide) ?_
    refine z_inv mX10_measures 56 10 [.inl (v / 100), .inl 0] (zdec DX10_way 10 rfl) ml_SixWallsModel_262 okX10_measures rfl shp56 rfl rfl rfl rfl (Nat.le_of_ble_eq_true rfl) (Nat.le_of_ble_eq_true rfl) (b' := (0, 0)) ⟨Nat.le_refl 0, Nat.le_refl 0⟩ (Nat.le_of_ble_eq_true rfl) (cX10_measures hP hg hR (v / 100) 0 ⟨by omega, by omega⟩) (fun rv9 S9 M15 h9 => ?_)
    obtain ⟨rfl, rfl, x1, x2⟩ := h9
    have e2 := x2.eq
    have xb := x2.mb hR (k := v % 100) (by omega) (by omega)
    change zW _ _ _ _ _ 18 [(0, .inr (.inr 56)), (1, .inl v)] [] M15
    refine z_aload_n 0 (zdec DX10_way 11 rfl) rfl rfl (by decide) ?_
    refine z_getr (rw1 := -66) (ki := 28) (r' := 74) 56 10 (zdec DX10_way 12 rfl) rfl rfl shp56 rfl (by decide) rfl rfl fl_SixWallsModel_62 (zPa (x1.P (by decide) hP) 74 rfl) ?_
    refine z_iload_n 1 (zdec DX10_way 13 rfl) rfl rfl ?_
    refine z_bipush 100 (zdec DX10_way 14 rfl) (by decide) ?_
    refine z_iremp (zdec DX10_way 15 rfl) (by omega) (by omega) ?_
    refine z_iald 74 (zdec DX10_way 16 rfl) rfl shp74 ⟨by omega, by omega⟩ ?_
    rw [e2 (v % 100) (by omega) (by omega)] at xb
    rw [e2 (v % 100) (by omega) (by omega)]
    change 0 ≤ zds M 0 (v / 100) (v % 100) ∧ zds M 0 (v / 100) (v % 100) ≤ 1000 at xb
    change zW _ _ _ _ _ _ _ (.inl (zds M 0 (v / 100) (v % 100)) :: _) _
    refine z_istore_n (L' := [(0, .inr (.inr 56)), (1, .inl v), (2, .inl (zds M 0 (v / 100) (v % 100)))]) (zdec DX10_way 17 rfl) rfl rfl (by decide) ?_
    refine z_iload_n 2 (zdec DX10_way 18 rfl) rfl rfl ?_
    refine z_sipush 1000 (zdec DX10_way 19 rfl) (by decide) ?_
    refine z_icmp_lt 40 (zdec DX10_way 20 rfl) rfl (fun h32 => ?_) (fun h32 => ?_)
    ·
      refine z_iload_n 2 (zdec DX10_way 23 rfl) rfl rfl ?_
      exact z_iret (zdec DX10_way 24 rfl) rfl (⟨rfl, x1, zri (by rw [if_pos q4]; first | (rw [if_pos (by omega)]; done) | (rw [if_neg (by omega)]; done))⟩)
    ·
      refine z_bipush (-2) (zdec DX10_way 21 rfl) (by decide) ?_
      refine z_goto 41 (zdec DX10_way 22 rfl) rfl ?_
      exact z_iret (zdec DX10_way 24 rfl) rfl (⟨rfl, x1, zri (by rw [if_pos q4]; first | (rw [if_pos (by omega)]; done) | (rw [if_neg (by omega)]; done))⟩)
  ·
    have q4 : ¬ (0 ≤ v ∧ v / 100 < 16 ∧ v % 100 < 16) := fun e => h4 (zb_ne0.mpr e)
    refine z_iconst (-1) (zdec DX10_way 3 rfl) (by decide) ?_
    exact z_iret (zdec DX10_way 4 rfl) rfl (⟨rfl, zonly.rf, zri (by rw [if_neg q4])⟩)
set_option maxHeartbeats 4000000 in
theorem cX10_heard {M : zMm} (hP : zP M) (hg : zGr M) (hR : zRr M) (v l : Int) : zW mX10_heard 4 (fun rv S' M' => S' = zS0 ∧ zonly 74 M M' ∧ rv = some (.inl (if (0 ≤ v ∧ v / 100 < 16 ∧ v % 100 < 16) ∧ 0 ≤ l ∧ l ≤ 99 then (if l - zds M 1 (v / 100) (v % 100) < 0 then 0 else l - zds M 1 (v / 100) (v % 100)) else -1))) (0, 0) zS0 0 (zargs 0 [.inr (.inr 56), .inl v, .inl l]) [] M := by
  change zW _ _ _ _ _ 0 [(0, .inr (.inr 56)), (1, .inl v), (2, .inl l)] [] M
  refine z_iload_n 1 (zdec DX10_heard 0 rfl) rfl rfl ?_
  refine z_invs mX10_isAb [.inl v] (zdec DX10_heard 1 rfl) (Or.inl ml_SixWallsModel_122) okX10_isAb rfl rfl (Nat.le_of_ble_eq_true rfl) (Nat.le_of_ble_eq_true rfl) (b' := (0, 0)) ⟨Nat.le_refl 0, Nat.le_refl 0⟩ (Nat.le_of_ble_eq_true rfl) (cX10_isAb v) (fun rv9 S9 M1 h9 => ?_)
  obtain ⟨rfl, rfl, rfl⟩ := h9
  change zW _ _ _ _ _ 4 [(0, .inr (.inr 56)), (1, .inl v), (2, .inl l)] [.inl (zb (0 ≤ v ∧ v / 100 < 16 ∧ v % 100 < 16))] M
  refine z_if_eq 19 (zdec DX10_heard 2 rfl) rfl (fun h4 => ?_) (fun h4 => ?_)
  ·
    have q4 := zb_eq0.mp h4
    refine z_iconst (-1) (zdec DX10_heard 9 rfl) (by decide) ?_
    exact z_iret (zdec DX10_heard 10 rfl) rfl (⟨rfl, zonly.rf, zri (by rw [if_neg (fun e => by first | exact q4 e.1 | exact q16 e.2)])⟩)
  ·
    have q4 := zb_ne0.mp h4
    refine z_iload_n 2 (zdec DX10_heard 3 rfl) rfl rfl ?_
    refine z_i2l (zdec DX10_heard 4 rfl) ?_
    refine z_lconst 0 (zdec DX10_heard 5 rfl) rfl ?_
    refine z_ldc2 99 (zdec DX10_heard 6 rfl) kl_SixWallsModel_251 rfl ⟨by decide, by decide⟩ ?_
    refine z_invs mX10_within [.inr (.inl l), .inr (.inl 0), .inr (.inl 99)] (zdec DX10_heard 7 rfl) (Or.inl ml_SixWallsModel_112) okX10_within rfl rfl (Nat.le_of_ble_eq_true rfl) (Nat.le_of_ble_eq_true rfl) (b' := (0, 0)) ⟨Nat.le_refl 0, Nat.le_refl 0⟩ (Nat.le_of_ble_eq_true rfl) (cX10_within l 0 99) (fun rv9 S9 M13 h9 => ?_)
    obtain ⟨rfl, rfl, rfl⟩ := h9
    change zW _ _ _ _ _ 16 [(0, .inr (.inr 56)), (1, .inl v), (2, .inl l)] [.inl (zb (0 ≤ l ∧ l ≤ 99))] M
    refine z_if_ne 21 (zdec DX10_heard 8 rfl) rfl (fun h16 => ?_) (fun h16 => ?_)
    ·
      have q16 := zb_ne0.mp h16
      refine z_aload_n 0 (zdec DX10_heard 11 rfl) rfl rfl (by decide) ?_
      refine z_iload_n 1 (zdec DX10_heard 12 rfl) rfl rfl ?_
      refine z_bipush 100 (zdec DX10_heard 13 rfl) (by decide) ?_
      refine z_idivp (zdec DX10_heard 14 rfl) (by omega) (by omega) ?_
      refine z_iconst 1 (zdec DX10_heard 15 rfl) (by decide) ?_
      refine z_inv mX10_measures 56 10 [.inl (v / 100), .inl 1] (zdec DX10_heard 16 rfl) ml_SixWallsModel_262 okX10_measures rfl shp56 rfl rfl rfl rfl (Nat.le_of_ble_eq_true rfl) (Nat.le_of_ble_eq_true rfl) (b' := (0, 0)) ⟨Nat.le_refl 0, Nat.le_refl 0⟩ (Nat.le_of_ble_eq_true rfl) (cX10_measures hP hg hR (v / 100) 1 ⟨by omega, by omega⟩) (fun rv9 S9 M27 h9 => ?_)
      obtain ⟨rfl, rfl, x1, x2⟩ := h9
      have e2 := x2.eq
      have xb := x2.mb hR (k := v % 100) (by omega) (by omega)
      change zW _ _ _ _ _ 30 [(0, .inr (.inr 56)), (1, .inl v), (2, .inl l)] [] M27
      refine z_iload_n 2 (zdec DX10_heard 17 rfl) rfl rfl ?_
      refine z_aload_n 0 (zdec DX10_heard 18 rfl) rfl rfl (by decide) ?_
      refine z_getr (rw1 := -66) (ki := 28) (r' := 74) 56 10 (zdec DX10_heard 19 rfl) rfl rfl shp56 rfl (by decide) rfl rfl fl_SixWallsModel_62 (zPa (x1.P (by decide) hP) 74 rfl) ?_
      refine z_iload_n 1 (zdec DX10_heard 20 rfl) rfl rfl ?_
      refine z_bipush 100 (zdec DX10_heard 21 rfl) (by decide) ?_
      refine z_iremp (zdec DX10_heard 22 rfl) (by omega) (by omega) ?_
      refine z_iald 74 (zdec DX10_heard 23 rfl) rfl shp74 ⟨by omega, by omega⟩ ?_
      rw [e2 (v % 100) (by omega) (by omega)] at xb
      rw [e2 (v % 100) (by omega) (by omega)]
      change 0 ≤ zds M 1 (v / 100) (v % 100) ∧ zds M 1 (v / 100) (v % 100) ≤ 1000 at xb
      change zW _ _ _ _ _ _ _ (.inl (zds M 1 (v / 100) (v % 100)) :: _) _
      refine z_isub (zdec DX10_heard 24 rfl) (by unfold z32; omega) ?_
      refine z_istore_n (L' := [(0, .inr (.inr 56)), (1, .inl v), (2, .inl l), (3, .inl (l - (zds M 1 (v / 100) (v % 100))))]) (zdec DX10_heard 25 rfl) rfl rfl (by decide) ?_
      refine z_iload_n 3 (zdec DX10_heard 26 rfl) rfl rfl ?_
      refine z_if_ge 50 (zdec DX10_heard 27 rfl) rfl (fun h43 => ?_) (fun h43 => ?_)
      ·
        refine z_iload_n 3 (zdec DX10_heard 30 rfl) rfl rfl ?_
        exact z_iret (zdec DX10_heard 31 rfl) rfl (⟨rfl, x1, zri (by rw [if_pos ⟨q4, q16⟩]; first | (rw [if_pos (by omega)]; done) | (rw [if_neg (by omega)]; done))⟩)
      ·
        refine z_iconst 0 (zdec DX10_heard 28 rfl) (by decide) ?_
        refine z_goto 51 (zdec DX10_heard 29 rfl) rfl ?_
        exact z_iret (zdec DX10_heard 31 rfl) rfl (⟨rfl, x1, zri (by rw [if_pos ⟨q4, q16⟩]; first | (rw [if_pos (by omega)]; done) | (rw [if_neg (by omega)]; done))⟩)
    ·
      have q16 : ¬ (0 ≤ l ∧ l ≤ 99) := fun e => h16 (zb_ne0.mpr e)
      refine z_iconst (-1) (zdec DX10_heard 9 rfl) (by decide) ?_
      exact z_iret (zdec DX10_heard 10 rfl) rfl (⟨rfl, zonly.rf, zri (by rw [if_neg (fun e => by first | exact q4 e.1 | exact q16 e.2)])⟩)
set_option maxHeartbeats 4000000 in
theorem lp_X10_whose_51 {Q : zPost} {M M42 : zMm} (hP42 : zP M42) (l t f h : Int) (hl : 0 ≤ l ∧ l ≤ 99) (e2 : zH (M42 74) (zds M 1 h)) (xb : ∀ k : Int, 0 ≤ k → k < 16 → 0 ≤ M42 74 k ∧ M42 74 k ≤ 1000) (hx89 : ∀ (e : Int), (e = zheR M h l 16) → zW mX10_whose 4 Q (0, 0) zS0 89 [(0, .inr (.inr 56)), (1, .inl l), (2, .inl t), (3, .inl f), (4, .inl h), (5, .inl e)] [] M42) : ∀ (n : Nat) (e : Int) (o : Int), (16 - o).toNat < n → (0 ≤ o ∧ o ≤ 16 ∧ e = zheR M h l o) → zW mX10_whose 4 Q (0, 0) zS0 51 [(0, .inr (.inr 56)), (1, .inl l), (2, .inl t), (3, .inl f), (4, .inl h), (5, .inl e), (6, .inl o)] [] M42 := by
  intro n
  induction n with
  | zero => intro e o hn; exact absurd hn (Nat.not_lt_zero _)
  | succ n ih =>
    intro e o hn hI
    have eo := e2 o hI.1
    have xo := xb o hI.1
    refine z_iload 6 (zdec DX10_whose 29 rfl) rfl ?_
    refine z_bipush 16 (zdec DX10_whose 30 rfl) (by decide) ?_
    refine z_icmp_ge 89 (zdec DX10_whose 31 rfl) rfl (fun h55 => ?_) (fun h55 => ?_)
    ·
      refine z_weak (L' := [(0, .inr (.inr 56)), (1, .inl l), (2, .inl t), (3, .inl f), (4, .inl h), (5, .inl e)]) (by simp) ?_
      exact hx89 e (by rw [hI.2.2, show o = 16 by omega])
    ·
      refine z_iload 5 (zdec DX10_whose 32 rfl) rfl ?_
      refine z_iload_n 1 (zdec DX10_whose 33 rfl) rfl rfl ?_
      refine z_aload_n 0 (zdec DX10_whose 34 rfl) rfl rfl (by decide) ?_
      refine z_getr (rw1 := -66) (ki := 28) (r' := 74) 56 10 (zdec DX10_whose 35 rfl) rfl rfl shp56 rfl (by decide) rfl rfl fl_SixWallsModel_62 (zPa hP42 74 rfl) ?_
      refine z_iload 6 (zdec DX10_whose 36 rfl) rfl ?_
      refine z_iald 74 (zdec DX10_whose 37 rfl) rfl shp74 ⟨by omega, by omega⟩ ?_
      refine z_isub (zdec DX10_whose 38 rfl) (by unfold z32; omega) ?_
      refine z_if_le 79 (zdec DX10_whose 39 rfl) rfl (fun h69 => ?_) (fun h69 => ?_)
      ·
        refine z_iconst 0 (zdec DX10_whose 44 rfl) (by decide) ?_
        refine z_ior (zdec DX10_whose 45 rfl) ?_
        refine z_istore (L' := [(0, .inr (.inr 56)), (1, .inl l), (2, .inl t), (3, .inl f), (4, .inl h), (5, .inl (zor e 0)), (6, .inl o)]) (zdec DX10_whose 46 rfl) rfl (by decide) ?_
        refine z_iinc (L' := [(0, .inr (.inr 56)), (1, .inl l), (2, .inl t), (3, .inl f), (4, .inl h), (5, .inl (zor e 0)), (6, .inl (o + 1))]) 6 (zdec DX10_whose 47 rfl) rfl (by unfold z32; omega) rfl (by decide) ?_
        refine z_goto 51 (zdec DX10_whose 48 rfl) rfl ?_
        exact ih (zor e 0) (o + 1) (by omega) (by refine ⟨by omega, by omega, ?_⟩; unfold zheR; rw [zfo_s _ _ hI.1]; have e := hI.2.2; unfold zheR at e; rw [← e]; first | (rw [if_pos (by omega)]; done) | (rw [if_neg (by omega)]; done))
      ·
        refine z_iconst 1 (zdec DX10_whose 40 rfl) (by decide) ?_
        refine z_iload 6 (zdec DX10_whose 41 rfl) rfl ?_
        refine z_ishl (zdec DX10_whose 42 rfl) ?_
        refine z_goto 80 (zdec DX10_whose 43 rfl) rfl ?_
        refine z_ior (zdec DX10_whose 45 rfl) ?_
        refine z_istore (L' := [(0, .inr (.inr 56)), (1, .inl l), (2, .inl t), (3, .inl f), (4, .inl h), (5, .inl (zor e (zshl 1 o))), (6, .inl o)]) (zdec DX10_whose 46 rfl) rfl (by decide) ?_
        refine z_iinc (L' := [(0, .inr (.inr 56)), (1, .inl l), (2, .inl t), (3, .inl f), (4, .inl h), (5, .inl (zor e (zshl 1 o))), (6, .inl (o + 1))]) 6 (zdec DX10_whose 47 rfl) rfl (by unfold z32; omega) rfl (by decide) ?_
        refine z_goto 51 (zdec DX10_whose 48 rfl) rfl ?_
        exact ih (zor e (zshl 1 o)) (o + 1) (by omega) (by refine ⟨by omega, by omega, ?_⟩; unfold zheR; rw [zfo_s _ _ hI.1]; have e := hI.2.2; unfold zheR at e; rw [← e]; first | (rw [if_pos (by omega)]; done) | (rw [if_neg (by omega)]; done))
set_option maxHeartbeats 4000000 in
theorem lp_X10_whose_31 {Q : zPost} {M : zMm} (hP : zP M) (hg : zGr M) (hR : zRr M) (l t : Int) (hl : 0 ≤ l ∧ l ≤ 99) (hx136 : ∀ (f : Int) (M2 : zMm), (zonly 74 M M2 ∧ f = zwhR M l t 16) → zW mX10_whose 4 Q (0, 0) zS0 136 [(3, .inl f)] [] M2) : ∀ (n : Nat) (f : Int) (h : Int) (M2 : zMm), (16 - h).toNat < n → (0 ≤ h ∧ h ≤ 16 ∧ zonly 74 M M2 ∧ f = zwhR M l t h) → zW mX10_whose 4 Q (0, 0) zS0 31 [(0, .inr (.inr 56)), (1, .inl l), (2, .inl t), (3, .inl f), (4, .inl h)] [] M2 := by
  intro n
  induction n with
  | zero => intro f h M2 hn; exact absurd hn (Nat.not_lt_zero _)
  | succ n ih =>
    intro f h M2 hn hI
    have r57 : M2 57 = M 57 := hI.2.2.1 57 (by decide)
    have hg2 : zGr M2 := hg.of (hI.2.2.1 61 (by decide)) (hI.2.2.1 62 (by decide))
    have hR2 : zRr M2 := hR.of r57 (hI.2.2.1 63 (by decide)) (hI.2.2.1 64 (by decide))
    refine z_iload 4 (zdec DX10_whose 18 rfl) rfl ?_
    refine z_bipush 16 (zdec DX10_whose 19 rfl) (by decide) ?_
    refine z_icmp_ge 136 (zdec DX10_whose 20 rfl) rfl (fun h35 => ?_) (fun h35 => ?_)
    ·
      refine z_weak (L' := [(3, .inl f)]) (by simp) ?_
      exact hx136 f M2 ⟨hI.2.2.1, by rw [hI.2.2.2, show h = 16 by omega]⟩
    ·
      refine z_aload_n 0 (zdec DX10_whose 21 rfl) rfl rfl (by decide) ?_
      refine z_iload 4 (zdec DX10_whose 22 rfl) rfl ?_
      refine z_iconst 1 (zdec DX10_whose 23 rfl) (by decide) ?_
      refine z_inv mX10_measures 56 10 [.inl h, .inl 1] (zdec DX10_whose 24 rfl) ml_SixWallsModel_262 okX10_measures rfl shp56 rfl rfl rfl rfl (Nat.le_of_ble_eq_true rfl) (Nat.le_of_ble_eq_true rfl) (b' := (0, 0)) ⟨Nat.le_refl 0, Nat.le_refl 0⟩ (Nat.le_of_ble_eq_true rfl) (cX10_measures (hI.2.2.1.P (by decide) hP) hg2 hR2 h 1 ⟨by omega, by omega⟩) (fun rv9 S9 M42 h9 => ?_)
      obtain ⟨rfl, rfl, x1, x2⟩ := h9
      rw [zmc_of r57] at x2
      have e2 : zH (M42 74) (zds M 1 h) := x2.eq
      have xb := fun k a b => x2.mb hR (k := k) a b
      have o2 := hI.2.2.1.tr x1
      change zW _ _ _ _ _ 45 [(0, .inr (.inr 56)), (1, .inl l), (2, .inl t), (3, .inl f), (4, .inl h)] [] M42
      refine z_iconst 0 (zdec DX10_whose 25 rfl) (by decide) ?_
      refine z_istore (L' := [(0, .inr (.inr 56)), (1, .inl l), (2, .inl t), (3, .inl f), (4, .inl h), (5, .inl 0)]) (zdec DX10_whose 26 rfl) rfl (by decide) ?_
      refine z_iconst 0 (zdec DX10_whose 27 rfl) (by decide) ?_
      refine z_istore (L' := [(0, .inr (.inr 56)), (1, .inl l), (2, .inl t), (3, .inl f), (4, .inl h), (5, .inl 0), (6, .inl 0)]) (zdec DX10_whose 28 rfl) rfl (by decide) ?_
      refine lp_X10_whose_51 (x1.P (by decide) (hI.2.2.1.P (by decide) hP)) l t f h hl e2 xb (hx89 := fun e hy => ?_) _ 0 0 (Nat.lt_succ_self _) ⟨by omega, by omega, rfl⟩
      refine z_iload_n 3 (zdec DX10_whose 49 rfl) rfl rfl ?_
      refine z_aload_n 0 (zdec DX10_whose 50 rfl) rfl rfl (by decide) ?_
      refine z_getr (rw1 := -66) (ki := 10) (r' := 64) 56 10 (zdec DX10_whose 51 rfl) rfl rfl shp56 rfl (by decide) rfl rfl fl_SixWallsModel_31 (zPa (x1.P (by decide) (hI.2.2.1.P (by decide) hP)) 64 rfl) ?_
      refine z_iload 4 (zdec DX10_whose 52 rfl) rfl ?_
      refine z_zald 64 (zdec DX10_whose 53 rfl) rfl shp64 ⟨by omega, by omega⟩ (fun hz96 => ?_)
      refine z_if_eq 127 (zdec DX10_whose 54 rfl) rfl (fun h97 => ?_) (fun h97 => ?_)
      ·
        refine z_iconst 0 (zdec DX10_whose 74 rfl) (by decide) ?_
        refine z_ior (zdec DX10_whose 75 rfl) ?_
        refine z_istore_n (L' := [(0, .inr (.inr 56)), (1, .inl l), (2, .inl t), (3, .inl (zor f 0)), (4, .inl h), (5, .inl e)]) (zdec DX10_whose 76 rfl) rfl rfl (by decide) ?_
        refine z_iinc (L' := [(0, .inr (.inr 56)), (1, .inl l), (2, .inl t), (3, .inl (zor f 0)), (4, .inl (h + 1)), (5, .inl e)]) 4 (zdec DX10_whose 77 rfl) rfl (by unfold z32; omega) rfl (by decide) ?_
        refine z_goto 31 (zdec DX10_whose 78 rfl) rfl ?_
        refine z_weak (L' := [(0, .inr (.inr 56)), (1, .inl l), (2, .inl t), (3, .inl (zor f 0)), (4, .inl (h + 1))]) (by simp) ?_
        exact ih (zor f 0) (h + 1) M42 (by omega) (by have r64 := congrFun (o2 64 (by decide)) h; refine ⟨by omega, by omega, o2, ?_⟩; unfold zwhR; rw [zfo_s _ _ hI.1]; have e := hI.2.2.2; unfold zwhR at e; rw [← e]; first | (rw [if_pos ⟨by omega, by rw [← hy]; omega⟩]; done) | (rw [if_neg (by rw [← hy]; omega)]; done))
      ·
        refine z_iload 5 (zdec DX10_whose 55 rfl) rfl ?_
        refine z_iconst 1 (zdec DX10_whose 56 rfl) (by decide) ?_
        refine z_iload 4 (zdec DX10_whose 57 rfl) rfl ?_
        refine z_ishl (zdec DX10_whose 58 rfl) ?_
        refine z_iconst (-1) (zdec DX10_whose 59 rfl) (by decide) ?_
        refine z_ixor (zdec DX10_whose 60 rfl) ?_
        refine z_iand (zdec DX10_whose 61 rfl) ?_
        refine z_iload_n 2 (zdec DX10_whose 62 rfl) rfl rfl ?_
        refine z_iconst 1 (zdec DX10_whose 63 rfl) (by decide) ?_
        refine z_iload 4 (zdec DX10_whose 64 rfl) rfl ?_
        refine z_ishl (zdec DX10_whose 65 rfl) ?_
        refine z_iconst (-1) (zdec DX10_whose 66 rfl) (by decide) ?_
        refine z_ixor (zdec DX10_whose 67 rfl) ?_
        refine z_iand (zdec DX10_whose 68 rfl) ?_
        refine z_icmp_ne 127 (zdec DX10_whose 69 rfl) rfl (fun h117 => ?_) (fun h117 => ?_)
        ·
          refine z_iconst 0 (zdec DX10_whose 74 rfl) (by decide) ?_
          refine z_ior (zdec DX10_whose 75 rfl) ?_
          refine z_istore_n (L' := [(0, .inr (.inr 56)), (1, .inl l), (2, .inl t), (3, .inl (zor f 0)), (4, .inl h), (5, .inl e)]) (zdec DX10_whose 76 rfl) rfl rfl (by decide) ?_
          refine z_iinc (L' := [(0, .inr (.inr 56)), (1, .inl l), (2, .inl t), (3, .inl (zor f 0)), (4, .inl (h + 1)), (5, .inl e)]) 4 (zdec DX10_whose 77 rfl) rfl (by unfold z32; omega) rfl (by decide) ?_
          refine z_goto 31 (zdec DX10_whose 78 rfl) rfl ?_
          refine z_weak (L' := [(0, .inr (.inr 56)), (1, .inl l), (2, .inl t), (3, .inl (zor f 0)), (4, .inl (h + 1))]) (by simp) ?_
          exact ih (zor f 0) (h + 1) M42 (by omega) (by have r64 := congrFun (o2 64 (by decide)) h; refine ⟨by omega, by omega, o2, ?_⟩; unfold zwhR; rw [zfo_s _ _ hI.1]; have e := hI.2.2.2; unfold zwhR at e; rw [← e]; first | (rw [if_pos ⟨by omega, by rw [← hy]; omega⟩]; done) | (rw [if_neg (by rw [← hy]; omega)]; done))
        ·
          refine z_iconst 1 (zdec DX10_whose 70 rfl) (by decide) ?_
          refine z_iload 4 (zdec DX10_whose 71 rfl) rfl ?_
          refine z_ishl (zdec DX10_whose 72 rfl) ?_
          refine z_goto 128 (zdec DX10_whose 73 rfl) rfl ?_
          refine z_ior (zdec DX10_whose 75 rfl) ?_
          refine z_istore_n (L' := [(0, .inr (.inr 56)), (1, .inl l), (2, .inl t), (3, .inl (zor f (zshl 1 h))), (4, .inl h), (5, .inl e)]) (zdec DX10_whose 76 rfl) rfl rfl (by decide) ?_
          refine z_iinc (L' := [(0, .inr (.inr 56)), (1, .inl l), (2, .inl t), (3, .inl (zor f (zshl 1 h))), (4, .inl (h + 1)), (5, .inl e)]) 4 (zdec DX10_whose 77 rfl) rfl (by unfold z32; omega) rfl (by decide) ?_
          refine z_goto 31 (zdec DX10_whose 78 rfl) rfl ?_
          refine z_weak (L' := [(0, .inr (.inr 56)), (1, .inl l), (2, .inl t), (3, .inl (zor f (zshl 1 h))), (4, .inl (h + 1))]) (by simp) ?_
          exact ih (zor f (zshl 1 h)) (h + 1) M42 (by omega) (by have r64 := congrFun (o2 64 (by decide)) h; refine ⟨by omega, by omega, o2, ?_⟩; unfold zwhR; rw [zfo_s _ _ hI.1]; have e := hI.2.2.2; unfold zwhR at e; rw [← e]; first | (rw [if_pos ⟨by omega, by rw [← hy]; omega⟩]; done) | (rw [if_neg (by rw [← hy]; omega)]; done))
set_option maxHeartbeats 4000000 in
theorem cX10_whose {M : zMm} (hP : zP M) (hg : zGr M) (hR : zRr M) (l t : Int) : zW mX10_whose 4 (fun rv S' M' => S' = zS0 ∧ zonly 74 M M' ∧ rv = some (.inl (if (0 ≤ l ∧ l ≤ 99) ∧ 0 ≤ t ∧ t ≤ 65535 then zwhR M l t 16 else -1))) (0, 0) zS0 0 (zargs 0 [.inr (.inr 56), .inl l, .inl t]) [] M := by
  change zW _ _ _ _ _ 0 [(0, .inr (.inr 56)), (1, .inl l), (2, .inl t)] [] M
  refine z_iload_n 1 (zdec DX10_whose 0 rfl) rfl rfl ?_
  refine z_i2l (zdec DX10_whose 1 rfl) ?_
  refine z_lconst 0 (zdec DX10_whose 2 rfl) rfl ?_
  refine z_ldc2 99 (zdec DX10_whose 3 rfl) kl_SixWallsModel_251 rfl ⟨by decide, by decide⟩ ?_
  refine z_invs mX10_within [.inr (.inl l), .inr (.inl 0), .inr (.inl 99)] (zdec DX10_whose 4 rfl) (Or.inl ml_SixWallsModel_112) okX10_within rfl rfl (Nat.le_of_ble_eq_true rfl) (Nat.le_of_ble_eq_true rfl) (b' := (0, 0)) ⟨Nat.le_refl 0, Nat.le_refl 0⟩ (Nat.le_of_ble_eq_true rfl) (cX10_within l 0 99) (fun rv9 S9 M6 h9 => ?_)
  obtain ⟨rfl, rfl, rfl⟩ := h9
  change zW _ _ _ _ _ 9 [(0, .inr (.inr 56)), (1, .inl l), (2, .inl t)] [.inl (zb (0 ≤ l ∧ l ≤ 99))] M
  refine z_if_eq 24 (zdec DX10_whose 5 rfl) rfl (fun h9 => ?_) (fun h9 => ?_)
  ·
    have q9 := zb_eq0.mp h9
    refine z_iconst (-1) (zdec DX10_whose 12 rfl) (by decide) ?_
    exact z_iret (zdec DX10_whose 13 rfl) rfl (⟨rfl, zonly.rf, zri (by rw [if_neg (fun e => by first | exact q9 e.1 | exact q21 e.2)])⟩)
  ·
    have q9 := zb_ne0.mp h9
    refine z_iload_n 2 (zdec DX10_whose 6 rfl) rfl rfl ?_
    refine z_i2l (zdec DX10_whose 7 rfl) ?_
    refine z_lconst 0 (zdec DX10_whose 8 rfl) rfl ?_
    refine z_ldc2 65535 (zdec DX10_whose 9 rfl) kl_SixWallsModel_294 rfl ⟨by decide, by decide⟩ ?_
    refine z_invs mX10_within [.inr (.inl t), .inr (.inl 0), .inr (.inl 65535)] (zdec DX10_whose 10 rfl) (Or.inl ml_SixWallsModel_112) okX10_within rfl rfl (Nat.le_of_ble_eq_true rfl) (Nat.le_of_ble_eq_true rfl) (b' := (0, 0)) ⟨Nat.le_refl 0, Nat.le_refl 0⟩ (Nat.le_of_ble_eq_true rfl) (cX10_within t 0 65535) (fun rv9 S9 M18 h9 => ?_)
    obtain ⟨rfl, rfl, rfl⟩ := h9
    change zW _ _ _ _ _ 21 [(0, .inr (.inr 56)), (1, .inl l), (2, .inl t)] [.inl (zb (0 ≤ t ∧ t ≤ 65535))] M
    refine z_if_ne 26 (zdec DX10_whose 11 rfl) rfl (fun h21 => ?_) (fun h21 => ?_)
    ·
      have q21 := zb_ne0.mp h21
      refine z_iconst 0 (zdec DX10_whose 14 rfl) (by decide) ?_
      refine z_istore_n (L' := [(0, .inr (.inr 56)), (1, .inl l), (2, .inl t), (3, .inl 0)]) (zdec DX10_whose 15 rfl) rfl rfl (by decide) ?_
      refine z_iconst 0 (zdec DX10_whose 16 rfl) (by decide) ?_
      refine z_istore (L' := [(0, .inr (.inr 56)), (1, .inl l), (2, .inl t), (3, .inl 0), (4, .inl 0)]) (zdec DX10_whose 17 rfl) rfl (by decide) ?_
      refine lp_X10_whose_31 hP hg hR l t q9 (hx136 := fun f M2 hx => ?_) _ 0 0 M (Nat.lt_succ_self _) ⟨by omega, by omega, zonly.rf, rfl⟩
      refine z_iload_n 0 (zdec DX10_whose 79 rfl) rfl rfl ?_
      exact z_iret (zdec DX10_whose 80 rfl) rfl (⟨rfl, hx.1, zri (by rw [if_pos ⟨q9, q21⟩]; exact hx.2)⟩)
    ·
      have q21 : ¬ (0 ≤ t ∧ t ≤ 65535) := fun e => h21 (zb_ne0.mpr e)
      refine z_iconst (-1) (zdec DX10_whose 12 rfl) (by decide) ?_
      exact z_iret (zdec DX10_whose 13 rfl) rfl (⟨rfl, zonly.rf, zri (by rw [if_neg (fun e => by first | exact q9 e.1 | exact q21 e.2)])⟩)
