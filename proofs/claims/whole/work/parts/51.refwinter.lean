/-! the reference: winters -/
def zdyN (s : zMm) (T : Int → Int) : Nat → (Int → Int)
  | 0 => T
  | n + 1 => zdyR s (zdyN s T n)
def zWmR (s : zMm) (n : Int) : Int → Int := zdyN s (s 63) n.toNat
theorem zWmR_s {s : zMm} {n : Int} (h : 0 ≤ n) : zWmR s (n + 1) = zdyR s (zWmR s n) := by
  unfold zWmR
  rw [show (n + 1).toNat = n.toNat + 1 by omega]
  rfl
theorem zb63 {s : zMm} (h : zRr s) : zbW (s 63) := fun k h0 h1 => (h.1 k h0 h1).2.2.1
theorem zdyN_b {s : zMm} {T : Int → Int} (h : zbW T) : ∀ n : Nat, zbW (zdyN s T n)
  | 0 => h
  | _ + 1 => zbW.dyR
theorem zWmR_b {s : zMm} (h : zRr s) (k : Int) : zbW (zWmR s k) := zdyN_b (zb63 h) _
theorem zsum_bd {f : Int → Int} {c : Int} (h : ∀ i : Int, -c ≤ f i ∧ f i ≤ c) : ∀ n : Nat, -(c * n) ≤ zsum f n ∧ zsum f n ≤ c * n := by
  intro n
  induction n with
  | zero => exact ⟨by show -(c * 0) ≤ 0; omega, by show (0 : Int) ≤ c * 0; omega⟩
  | succ n ih =>
    have := h n
    show -(c * ((n : Int) + 1)) ≤ zsum f n + f n ∧ zsum f n + f n ≤ c * ((n : Int) + 1)
    rw [Int.mul_add, Int.mul_one]
    omega
def zgon (s : zMm) (i w : Int) : Int := zsum (fun d => zflR s (zWmR s d) w) i
theorem zgon_b {s : zMm} (hR : zRr s) {i : Int} (h0 : 0 ≤ i) (h1 : i ≤ 1000) (w : Int) : -100000 ≤ zgon s i w ∧ zgon s i w ≤ 100000 := by
  have b := zsum_bd (f := fun d => zflR s (zWmR s d) w) (c := 49) (fun d => zflR_b (zWmR_b hR d) w) i.toNat
  rw [show ((i.toNat : Nat) : Int) = i by omega] at b
  unfold zgon
  omega
theorem zgon_s {s : zMm} {i w : Int} (h : 0 ≤ i) : zgon s (i + 1) w = zgon s i w + zflR s (zWmR s i) w := zsum_s _ h
theorem zoD.w {s M M2 : zMm} (h : zoD s M) (h2 : zH (M2 68) (M 63)) : zH (M2 68) (zWmR s 0) := fun k a b => by
  rw [h2 k a b, h.r 63 (by omega)]
  rfl
set_option maxHeartbeats 4000000 in
theorem lp_X10_winter_6 {Q : zPost} {s : zMm} (hP : zP s) (hg : zGr s) (hR : zRr s) (hT : zTR s) (k : Int) (hk : 0 ≤ k ∧ k ≤ 99)  (hx22 : ∀ (M2 : zMm), (zoD s M2 ∧ zH (M2 68) (zWmR s k) ∧ (∀ w : Int, 0 ≤ w → w < 33 → M2 71 w = zgon s k w) ∧ (0 < k → ∀ w : Int, 0 ≤ w → w < 33 → M2 70 w = zflR s (zWmR s (k - 1)) w)) → zW mX10_winter 51 Q (0, 0) zS0 22 [] [] M2) : ∀ (n : Nat) (i : Int) (M2 : zMm), (k - i).toNat < n → ((0 ≤ i ∧ i ≤ k) ∧ zoD s M2 ∧ zH (M2 68) (zWmR s i) ∧ (∀ w : Int, 0 ≤ w → w < 33 → M2 71 w = zgon s i w) ∧ (0 < i → ∀ w : Int, 0 ≤ w → w < 33 → M2 70 w = zflR s (zWmR s (i - 1)) w)) → zW mX10_winter 51 Q (0, 0) zS0 6 [(0, .inr (.inr 56)), (1, .inl k), (2, .inl i)] [] M2 := by
  intro n
  induction n with
  | zero => intro i M2 hn; exact absurd hn (Nat.not_lt_zero _)
  | succ n ih =>
    intro i M2 hn hI
    refine z_iload_n 2 (zdec DX10_winter 4 rfl) rfl rfl ?_
    refine z_iload_n 1 (zdec DX10_winter 5 rfl) rfl rfl ?_
    refine z_icmp_ge 22 (zdec DX10_winter 6 rfl) rfl (fun h8 => ?_) (fun h8 => ?_)
    ·
      refine z_weak (L' := []) (by simp) ?_
      exact hx22 M2 (by have e : i = k := (by omega); subst e; exact hI.2)
    ·
      refine z_aload_n 0 (zdec DX10_winter 7 rfl) rfl rfl (by decide) ?_
      refine z_inv mX10_dayGoes 56 10 [] (zdec DX10_winter 8 rfl) ml_SixWallsModel_238 okX10_dayGoes rfl shp56 rfl rfl rfl rfl (Nat.le_of_ble_eq_true rfl) (Nat.le_of_ble_eq_true rfl) (b' := (0, 0)) ⟨Nat.le_refl 0, Nat.le_refl 0⟩ (Nat.le_of_ble_eq_true rfl) (cX10_dayGoes hP hg hR hT (zWmR s i) (zgon s i) (zWmR_b hR _) (fun w _ _ => zgon_b hR (by omega) (by omega) w) hI.2.1 hI.2.2.1 hI.2.2.2.1) (fun rv9 S9 M12 h9 => ?_)
      obtain ⟨rfl, x1, x2, x3, x4⟩ := h9
      obtain ⟨r12, rfl⟩ : ∃ r, rv9 = some (.inl r) := by rcases x4 with h | h <;> exact ⟨_, h.1⟩
      have q4 : (r12 = 1 ∧ zchg (zWmR s i) (zdyR s (zWmR s i)) 16) ∨ (r12 = 0 ∧ ¬ zchg (zWmR s i) (zdyR s (zWmR s i)) 16) := by rcases x4 with ⟨e, h⟩ | ⟨e, h⟩ <;> cases e <;> simp_all
      change zW _ _ _ _ _ 15 [(0, .inr (.inr 56)), (1, .inl k), (2, .inl i)] [.inl r12] M12
      refine z_pop (zdec DX10_winter 9 rfl) rfl ?_
      refine z_iinc (L' := [(0, .inr (.inr 56)), (1, .inl k), (2, .inl (i + 1))]) 2 (zdec DX10_winter 10 rfl) rfl (by unfold z32; omega) rfl (by decide) ?_
      refine z_goto 6 (zdec DX10_winter 11 rfl) rfl ?_
      exact ih (i + 1) M12 (by omega) ⟨by omega, x1, (by rw [zWmR_s hI.1.1]; exact x2), (fun w a b => by rw [(x3 w a b).2, zgon_s hI.1.1]), fun _ w a b => (by rw [(x3 w a b).1, show i + 1 - 1 = i by omega])⟩
set_option maxHeartbeats 4000000 in
theorem cX10_winter {s : zMm} (hP : zP s) (hg : zGr s) (hR : zRr s) (hT : zTR s) (k : Int) (hk : 0 ≤ k ∧ k ≤ 99) {M : zMm} (hM : zoD s M) : zW mX10_winter 51 (fun rv S' M' => S' = zS0 ∧ rv = none ∧ zoD s M' ∧ zH (M' 68) (zWmR s k) ∧ (∀ w : Int, 0 ≤ w → w < 33 → M' 71 w = zgon s k w) ∧ (0 < k → ∀ w : Int, 0 ≤ w → w < 33 → M' 70 w = zflR s (zWmR s (k - 1)) w)) (0, 0) zS0 0 (zargs 0 [.inr (.inr 56), .inl k]) [] M := by
  change zW _ _ _ _ _ 0 [(0, .inr (.inr 56)), (1, .inl k)] [] M
  refine z_aload_n 0 (zdec DX10_winter 0 rfl) rfl rfl (by decide) ?_
  refine z_inv mX10_begins1 56 10 [] (zdec DX10_winter 1 rfl) ml_SixWallsModel_156 okX10_begins1 rfl shp56 rfl rfl rfl rfl (Nat.le_of_ble_eq_true rfl) (Nat.le_of_ble_eq_true rfl) (b' := (0, 0)) ⟨Nat.le_refl 0, Nat.le_refl 0⟩ (Nat.le_of_ble_eq_true rfl) (cX10_begins1 (hM.P hP) (hM.g hg)) (fun rv9 S9 M1 h9 => ?_)
  obtain ⟨rfl, rfl, b1, b2, b3⟩ := h9
  change zW _ _ _ _ _ 4 [(0, .inr (.inr 56)), (1, .inl k)] [] M1
  refine z_iconst 0 (zdec DX10_winter 2 rfl) (by decide) ?_
  refine z_istore_n (L' := [(0, .inr (.inr 56)), (1, .inl k), (2, .inl 0)]) (zdec DX10_winter 3 rfl) rfl rfl (by decide) ?_
  refine lp_X10_winter_6 hP hg hR hT k hk (hx22 := fun M2 hx => ?_) _ 0 M1 (Nat.lt_succ_self _) ⟨by omega, hM.tr b1, hM.w b2, (fun w a b => by rw [b3 w a b]; rfl), fun h => by omega⟩
  exact z_vret (zdec DX10_winter 12 rfl) rfl (⟨rfl, rfl, hx⟩)
set_option maxHeartbeats 4000000 in
theorem lp_X10_allThen_4 {Q : zPost} {M : zMm} (hP : zP M) (hb : zbW (M 68)) (hx25 : ∀ (a : Int), (a = zsum (M 68) 16) → zW mX10_allThen 1 Q (0, 0) zS0 25 [(1, .inl a)] [] M) : ∀ (n : Nat) (a : Int) (h : Int), (16 - h).toNat < n → (0 ≤ h ∧ h ≤ 16 ∧ (0 ≤ a ∧ a ≤ 99 * h) ∧ a = zsum (M 68) h) → zW mX10_allThen 1 Q (0, 0) zS0 4 [(0, .inr (.inr 56)), (1, .inl a), (2, .inl h)] [] M := by
  intro n
  induction n with
  | zero => intro a h hn; exact absurd hn (Nat.not_lt_zero _)
  | succ n ih =>
    intro a h hn hI
    have hbh := hb h hI.1
    refine z_iload_n 2 (zdec DX10_allThen 4 rfl) rfl rfl ?_
    refine z_bipush 16 (zdec DX10_allThen 5 rfl) (by decide) ?_
    refine z_icmp_ge 25 (zdec DX10_allThen 6 rfl) rfl (fun h7 => ?_) (fun h7 => ?_)
    ·
      refine z_weak (L' := [(1, .inl a)]) (by simp) ?_
      exact hx25 a (by rw [hI.2.2.2, show h = 16 by omega])
    ·
      refine z_iload_n 1 (zdec DX10_allThen 7 rfl) rfl rfl ?_
      refine z_aload_n 0 (zdec DX10_allThen 8 rfl) rfl rfl (by decide) ?_
      refine z_getr (rw1 := -66) (ki := 21) (r' := 68) 56 10 (zdec DX10_allThen 9 rfl) rfl rfl shp56 rfl (by decide) rfl rfl fl_SixWallsModel_44 (zPa hP 68 rfl) ?_
      refine z_iload_n 2 (zdec DX10_allThen 10 rfl) rfl rfl ?_
      refine z_iald 68 (zdec DX10_allThen 11 rfl) rfl shp68 ⟨by omega, by omega⟩ ?_
      refine z_iadd (zdec DX10_allThen 12 rfl) (by unfold z32; omega) ?_
      refine z_istore_n (L' := [(0, .inr (.inr 56)), (1, .inl (a + (M 68 h))), (2, .inl h)]) (zdec DX10_allThen 13 rfl) rfl rfl (by decide) ?_
      refine z_iinc (L' := [(0, .inr (.inr 56)), (1, .inl (a + (M 68 h))), (2, .inl (h + 1))]) 2 (zdec DX10_allThen 14 rfl) rfl (by unfold z32; omega) rfl (by decide) ?_
      refine z_goto 4 (zdec DX10_allThen 15 rfl) rfl ?_
      exact ih (a + (M 68 h)) (h + 1) (by omega) ⟨by omega, by omega, by omega, by rw [zsum_s _ hI.1, hI.2.2.2]⟩
set_option maxHeartbeats 4000000 in
theorem cX10_allThen {M : zMm} (hP : zP M) (hb : zbW (M 68)) : zW mX10_allThen 1 (fun rv S' M' => S' = zS0 ∧ M = M' ∧ rv = some (.inl (zsum (M 68) 16))) (0, 0) zS0 0 (zargs 0 [.inr (.inr 56)]) [] M := by
  change zW _ _ _ _ _ 0 [(0, .inr (.inr 56))] [] M
  refine z_iconst 0 (zdec DX10_allThen 0 rfl) (by decide) ?_
  refine z_istore_n (L' := [(0, .inr (.inr 56)), (1, .inl 0)]) (zdec DX10_allThen 1 rfl) rfl rfl (by decide) ?_
  refine z_iconst 0 (zdec DX10_allThen 2 rfl) (by decide) ?_
  refine z_istore_n (L' := [(0, .inr (.inr 56)), (1, .inl 0), (2, .inl 0)]) (zdec DX10_allThen 3 rfl) rfl rfl (by decide) ?_
  refine lp_X10_allThen_4 hP hb (hx25 := fun a hx => ?_) _ 0 0 (Nat.lt_succ_self _) ⟨by omega, by omega, by omega, rfl⟩
  refine z_iload_n 0 (zdec DX10_allThen 16 rfl) rfl rfl ?_
  exact z_iret (zdec DX10_allThen 17 rfl) rfl (⟨rfl, rfl, zri hx⟩)
set_option maxHeartbeats 4000000 in
theorem cX10_warmth {M : zMm} (hP : zP M) (hg : zGr M) (hR : zRr M) (hT : zTR M) (h k : Int) : zW mX10_warmth 52 (fun rv S' M' => S' = zS0 ∧ zoD M M' ∧ rv = some (.inl (if (h = -1 ∨ (0 ≤ h ∧ h < 16)) ∧ 0 ≤ k ∧ k < 31 then (if h < 0 then zsum (zWmR M k) 16 else zWmR M k h) else -1))) (0, 0) zS0 0 (zargs 0 [.inr (.inr 56), .inl h, .inl k]) [] M := by
  change zW _ _ _ _ _ 0 [(0, .inr (.inr 56)), (1, .inl h), (2, .inl k)] [] M
  refine z_iload_n 1 (zdec DX10_warmth 0 rfl) rfl rfl ?_
  refine z_iconst (-1) (zdec DX10_warmth 1 rfl) (by decide) ?_
  refine z_icmp_eq 12 (zdec DX10_warmth 2 rfl) rfl (fun h2 => ?_) (fun h2 => ?_)
  ·
    refine z_iload_n 2 (zdec DX10_warmth 6 rfl) rfl rfl ?_
    refine z_i2l (zdec DX10_warmth 7 rfl) ?_
    refine z_lconst 0 (zdec DX10_warmth 8 rfl) rfl ?_
    refine z_ldc2 30 (zdec DX10_warmth 9 rfl) kl_SixWallsModel_242 rfl ⟨by decide, by decide⟩ ?_
    refine z_invs mX10_within [.inr (.inl k), .inr (.inl 0), .inr (.inl 30)] (zdec DX10_warmth 10 rfl) (Or.inl ml_SixWallsModel_112) okX10_within rfl rfl (Nat.le_of_ble_eq_true rfl) (Nat.le_of_ble_eq_true rfl) (b' := (0, 0)) ⟨Nat.le_refl 0, Nat.le_refl 0⟩ (Nat.le_of_ble_eq_true rfl) (cX10_within k 0 30) (fun rv9 S9 M18 h9 => ?_)
    obtain ⟨rfl, rfl, rfl⟩ := h9
    change zW _ _ _ _ _ 21 [(0, .inr (.inr 56)), (1, .inl h), (2, .inl k)] [.inl (zb (0 ≤ k ∧ k ≤ 30))] M
    refine z_if_ne 26 (zdec DX10_warmth 11 rfl) rfl (fun h21 => ?_) (fun h21 => ?_)
    ·
      have q21 := zb_ne0.mp h21
      refine z_aload_n 0 (zdec DX10_warmth 14 rfl) rfl rfl (by decide) ?_
      refine z_iload_n 2 (zdec DX10_warmth 15 rfl) rfl rfl ?_
      refine z_inv mX10_winter 56 10 [.inl k] (zdec DX10_warmth 16 rfl) ml_SixWallsModel_244 okX10_winter rfl shp56 rfl rfl rfl rfl (Nat.le_of_ble_eq_true rfl) (Nat.le_of_ble_eq_true rfl) (b' := (0, 0)) ⟨Nat.le_refl 0, Nat.le_refl 0⟩ (Nat.le_of_ble_eq_true rfl) (cX10_winter hP hg hR hT k ⟨by omega, by omega⟩ zoD.rf) (fun rv9 S9 M28 h9 => ?_)
      obtain ⟨rfl, rfl, x1, x2, x3, x4⟩ := h9
      change zW _ _ _ _ _ 31 [(0, .inr (.inr 56)), (1, .inl h), (2, .inl k)] [] M28
      refine z_iload_n 1 (zdec DX10_warmth 17 rfl) rfl rfl ?_
      refine z_if_ge 42 (zdec DX10_warmth 18 rfl) rfl (fun h32 => ?_) (fun h32 => ?_)
      ·
        refine z_aload_n 0 (zdec DX10_warmth 22 rfl) rfl rfl (by decide) ?_
        refine z_getr (rw1 := -66) (ki := 21) (r' := 68) 56 10 (zdec DX10_warmth 23 rfl) rfl rfl shp56 rfl (by decide) rfl rfl fl_SixWallsModel_44 (zPa (x1.P hP) 68 rfl) ?_
        refine z_iload_n 1 (zdec DX10_warmth 24 rfl) rfl rfl ?_
        refine z_iald 68 (zdec DX10_warmth 25 rfl) rfl shp68 ⟨by omega, by omega⟩ ?_
        exact z_iret (zdec DX10_warmth 26 rfl) rfl (⟨rfl, x1, zri (by rw [if_pos (by omega)]; first | (rw [if_pos (by omega)]; exact zsum_H x2) | (rw [if_neg (by omega)]; exact x2 h (by omega) (by omega)))⟩)
      ·
        refine z_aload_n 0 (zdec DX10_warmth 19 rfl) rfl rfl (by decide) ?_
        refine z_inv mX10_allThen 56 10 [] (zdec DX10_warmth 20 rfl) ml_SixWallsModel_248 okX10_allThen rfl shp56 rfl rfl rfl rfl (Nat.le_of_ble_eq_true rfl) (Nat.le_of_ble_eq_true rfl) (b' := (0, 0)) ⟨Nat.le_refl 0, Nat.le_refl 0⟩ (Nat.le_of_ble_eq_true rfl) (cX10_allThen (x1.P hP) (zbWc x2 (zWmR_b hR _))) (fun rv9 S9 M36 h9 => ?_)
        obtain ⟨rfl, rfl, rfl⟩ := h9
        change zW _ _ _ _ _ 39 [(0, .inr (.inr 56)), (1, .inl h), (2, .inl k)] [.inl (zsum (M28 68) 16)] M28
        refine z_goto 48 (zdec DX10_warmth 21 rfl) rfl ?_
        exact z_iret (zdec DX10_warmth 26 rfl) rfl (⟨rfl, x1, zri (by rw [if_pos (by omega)]; first | (rw [if_pos (by omega)]; exact zsum_H x2) | (rw [if_neg (by omega)]; exact x2 h (by omega) (by omega)))⟩)
    ·
      have q21 : ¬ (0 ≤ k ∧ k ≤ 30) := fun e => h21 (zb_ne0.mpr e)
      refine z_iconst (-1) (zdec DX10_warmth 12 rfl) (by decide) ?_
      exact z_iret (zdec DX10_warmth 13 rfl) rfl (⟨rfl, zoD.rf, zri (by rw [if_neg (by omega)])⟩)
  ·
    refine z_iload_n 1 (zdec DX10_warmth 3 rfl) rfl rfl ?_
    refine z_invs mX10_isHouse [.inl h] (zdec DX10_warmth 4 rfl) (Or.inl ml_SixWallsModel_118) okX10_isHouse rfl rfl (Nat.le_of_ble_eq_true rfl) (Nat.le_of_ble_eq_true rfl) (b' := (0, 0)) ⟨Nat.le_refl 0, Nat.le_refl 0⟩ (Nat.le_of_ble_eq_true rfl) (cX10_isHouse h) (fun rv9 S9 M6 h9 => ?_)
    obtain ⟨rfl, rfl, rfl⟩ := h9
    change zW _ _ _ _ _ 9 [(0, .inr (.inr 56)), (1, .inl h), (2, .inl k)] [.inl (zb (0 ≤ h ∧ h < 16))] M
    refine z_if_eq 24 (zdec DX10_warmth 5 rfl) rfl (fun h9 => ?_) (fun h9 => ?_)
    ·
      have q9 := zb_eq0.mp h9
      refine z_iconst (-1) (zdec DX10_warmth 12 rfl) (by decide) ?_
      exact z_iret (zdec DX10_warmth 13 rfl) rfl (⟨rfl, zoD.rf, zri (by rw [if_neg (by omega)])⟩)
    ·
      have q9 := zb_ne0.mp h9
      refine z_iload_n 2 (zdec DX10_warmth 6 rfl) rfl rfl ?_
      refine z_i2l (zdec DX10_warmth 7 rfl) ?_
      refine z_lconst 0 (zdec DX10_warmth 8 rfl) rfl ?_
      refine z_ldc2 30 (zdec DX10_warmth 9 rfl) kl_SixWallsModel_242 rfl ⟨by decide, by decide⟩ ?_
      refine z_invs mX10_within [.inr (.inl k), .inr (.inl 0), .inr (.inl 30)] (zdec DX10_warmth 10 rfl) (Or.inl ml_SixWallsModel_112) okX10_within rfl rfl (Nat.le_of_ble_eq_true rfl) (Nat.le_of_ble_eq_true rfl) (b' := (0, 0)) ⟨Nat.le_refl 0, Nat.le_refl 0⟩ (Nat.le_of_ble_eq_true rfl) (cX10_within k 0 30) (fun rv9 S9 M18 h9 => ?_)
      obtain ⟨rfl, rfl, rfl⟩ := h9
      change zW _ _ _ _ _ 21 [(0, .inr (.inr 56)), (1, .inl h), (2, .inl k)] [.inl (zb (0 ≤ k ∧ k ≤ 30))] M
      refine z_if_ne 26 (zdec DX10_warmth 11 rfl) rfl (fun h21 => ?_) (fun h21 => ?_)
      ·
        have q21 := zb_ne0.mp h21
        refine z_aload_n 0 (zdec DX10_warmth 14 rfl) rfl rfl (by decide) ?_
        refine z_iload_n 2 (zdec DX10_warmth 15 rfl) rfl rfl ?_
        refine z_inv mX10_winter 56 10 [.inl k] (zdec DX10_warmth 16 rfl) ml_SixWallsModel_244 okX10_winter rfl shp56 rfl rfl rfl rfl (Nat.le_of_ble_eq_true rfl) (Nat.le_of_ble_eq_true rfl) (b' := (0, 0)) ⟨Nat.le_refl 0, Nat.le_refl 0⟩ (Nat.le_of_ble_eq_true rfl) (cX10_winter hP hg hR hT k ⟨by omega, by omega⟩ zoD.rf) (fun rv9 S9 M28 h9 => ?_)
        obtain ⟨rfl, rfl, x1, x2, x3, x4⟩ := h9
        change zW _ _ _ _ _ 31 [(0, .inr (.inr 56)), (1, .inl h), (2, .inl k)] [] M28
        refine z_iload_n 1 (zdec DX10_warmth 17 rfl) rfl rfl ?_
        refine z_if_ge 42 (zdec DX10_warmth 18 rfl) rfl (fun h32 => ?_) (fun h32 => ?_)
        ·
          refine z_aload_n 0 (zdec DX10_warmth 22 rfl) rfl rfl (by decide) ?_
          refine z_getr (rw1 := -66) (ki := 21) (r' := 68) 56 10 (zdec DX10_warmth 23 rfl) rfl rfl shp56 rfl (by decide) rfl rfl fl_SixWallsModel_44 (zPa (x1.P hP) 68 rfl) ?_
          refine z_iload_n 1 (zdec DX10_warmth 24 rfl) rfl rfl ?_
          refine z_iald 68 (zdec DX10_warmth 25 rfl) rfl shp68 ⟨by omega, by omega⟩ ?_
          exact z_iret (zdec DX10_warmth 26 rfl) rfl (⟨rfl, x1, zri (by rw [if_pos (by omega)]; first | (rw [if_pos (by omega)]; exact zsum_H x2) | (rw [if_neg (by omega)]; exact x2 h (by omega) (by omega)))⟩)
        ·
          refine z_aload_n 0 (zdec DX10_warmth 19 rfl) rfl rfl (by decide) ?_
          refine z_inv mX10_allThen 56 10 [] (zdec DX10_warmth 20 rfl) ml_SixWallsModel_248 okX10_allThen rfl shp56 rfl rfl rfl rfl (Nat.le_of_ble_eq_true rfl) (Nat.le_of_ble_eq_true rfl) (b' := (0, 0)) ⟨Nat.le_refl 0, Nat.le_refl 0⟩ (Nat.le_of_ble_eq_true rfl) (cX10_allThen (x1.P hP) (zbWc x2 (zWmR_b hR _))) (fun rv9 S9 M36 h9 => ?_)
          obtain ⟨rfl, rfl, rfl⟩ := h9
          change zW _ _ _ _ _ 39 [(0, .inr (.inr 56)), (1, .inl h), (2, .inl k)] [.inl (zsum (M28 68) 16)] M28
          refine z_goto 48 (zdec DX10_warmth 21 rfl) rfl ?_
          exact z_iret (zdec DX10_warmth 26 rfl) rfl (⟨rfl, x1, zri (by rw [if_pos (by omega)]; first | (rw [if_pos (by omega)]; exact zsum_H x2) | (rw [if_neg (by omega)]; exact x2 h (by omega) (by omega)))⟩)
      ·
        have q21 : ¬ (0 ≤ k ∧ k ≤ 30) := fun e => h21 (zb_ne0.mpr e)
        refine z_iconst (-1) (zdec DX10_warmth 12 rfl) (by decide) ?_
        exact z_iret (zdec DX10_warmth 13 rfl) rfl (⟨rfl, zoD.rf, zri (by rw [if_neg (by omega)])⟩)
set_option maxHeartbeats 4000000 in
theorem lp_X10_cold_36 {Q : zPost} {M : zMm} (hP : zP M) (hR : zRr M) (b k : Int) {M28 : zMm} (x1 : zoD M M28) (x2 : zH (M28 68) (zWmR M k)) (hx78 : ∀ (a : Int), (a = zsum (fun i => if M 64 i = 1 ∧ zWmR M k i < b then 1 else 0) 16) → zW mX10_cold 52 Q (0, 0) zS0 78 [(3, .inl a)] [] M28) : ∀ (n : Nat) (a : Int) (i : Int), (16 - i).toNat < n → (0 ≤ i ∧ i ≤ 16 ∧ (0 ≤ a ∧ a ≤ i) ∧ a = zsum (fun i => if M 64 i = 1 ∧ zWmR M k i < b then 1 else 0) i) → zW mX10_cold 52 Q (0, 0) zS0 36 [(0, .inr (.inr 56)), (1, .inl b), (3, .inl a), (4, .inl i)] [] M28 := by
  intro n
  induction n with
  | zero => intro a i hn; exact absurd hn (Nat.not_lt_zero _)
  | succ n ih =>
    intro a i hn hI
    have e7 := congrFun (x1.r 64 (by omega)) i
    have e2 := x2 i hI.1
    have hb1 := (hR.1 i hI.1)
    refine z_iload 3 (zdec DX10_cold 21 rfl) rfl ?_
    refine z_bipush 16 (zdec DX10_cold 22 rfl) (by decide) ?_
    refine z_icmp_ge 78 (zdec DX10_cold 23 rfl) rfl (fun h40 => ?_) (fun h40 => ?_)
    ·
      refine z_weak (L' := [(3, .inl a)]) (by simp) ?_
      exact hx78 a (by rw [hI.2.2.2, show i = 16 by omega])
    ·
      refine z_iload_n 2 (zdec DX10_cold 24 rfl) rfl rfl ?_
      refine z_aload_n 0 (zdec DX10_cold 25 rfl) rfl rfl (by decide) ?_
      refine z_getr (rw1 := -66) (ki := 10) (r' := 64) 56 10 (zdec DX10_cold 26 rfl) rfl rfl shp56 rfl (by decide) rfl rfl fl_SixWallsModel_31 (zPa (x1.P hP) 64 rfl) ?_
      refine z_iload 3 (zdec DX10_cold 27 rfl) rfl ?_
      refine z_zald 64 (zdec DX10_cold 28 rfl) rfl shp64 ⟨by omega, by omega⟩ (fun hz50 => ?_)
      refine z_if_eq 69 (zdec DX10_cold 29 rfl) rfl (fun h51 => ?_) (fun h51 => ?_)
      ·
        refine z_iconst 0 (zdec DX10_cold 38 rfl) (by decide) ?_
        refine z_iadd (zdec DX10_cold 39 rfl) (by unfold z32; omega) ?_
        refine z_istore_n (L' := [(0, .inr (.inr 56)), (1, .inl b), (3, .inl (a + 0)), (4, .inl i)]) (zdec DX10_cold 40 rfl) rfl rfl (by decide) ?_
        refine z_iinc (L' := [(0, .inr (.inr 56)), (1, .inl b), (3, .inl (a + 0)), (4, .inl (i + 1))]) 3 (zdec DX10_cold 41 rfl) rfl (by unfold z32; omega) rfl (by decide) ?_
        refine z_goto 36 (zdec DX10_cold 42 rfl) rfl ?_
        exact ih (a + 0) (i + 1) (by omega) ⟨by omega, by omega, by omega, (by rw [zsum_s _ hI.1, ← hI.2.2.2, ← e7, ← e2 (by omega)]; first | (rw [if_pos ⟨by omega, by omega⟩]; done) | (rw [if_neg (by omega)]; done))⟩
      ·
        refine z_aload_n 0 (zdec DX10_cold 30 rfl) rfl rfl (by decide) ?_
        refine z_getr (rw1 := -66) (ki := 21) (r' := 68) 56 10 (zdec DX10_cold 31 rfl) rfl rfl shp56 rfl (by decide) rfl rfl fl_SixWallsModel_44 (zPa (x1.P hP) 68 rfl) ?_
        refine z_iload 3 (zdec DX10_cold 32 rfl) rfl ?_
        refine z_iald 68 (zdec DX10_cold 33 rfl) rfl shp68 ⟨by omega, by omega⟩ ?_
        refine z_iload_n 1 (zdec DX10_cold 34 rfl) rfl rfl ?_
        refine z_icmp_ge 69 (zdec DX10_cold 35 rfl) rfl (fun h62 => ?_) (fun h62 => ?_)
        ·
          refine z_iconst 0 (zdec DX10_cold 38 rfl) (by decide) ?_
          refine z_iadd (zdec DX10_cold 39 rfl) (by unfold z32; omega) ?_
          refine z_istore_n (L' := [(0, .inr (.inr 56)), (1, .inl b), (3, .inl (a + 0)), (4, .inl i)]) (zdec DX10_cold 40 rfl) rfl rfl (by decide) ?_
          refine z_iinc (L' := [(0, .inr (.inr 56)), (1, .inl b), (3, .inl (a + 0)), (4, .inl (i + 1))]) 3 (zdec DX10_cold 41 rfl) rfl (by unfold z32; omega) rfl (by decide) ?_
          refine z_goto 36 (zdec DX10_cold 42 rfl) rfl ?_
          exact ih (a + 0) (i + 1) (by omega) ⟨by omega, by omega, by omega, (by rw [zsum_s _ hI.1, ← hI.2.2.2, ← e7, ← e2 (by omega)]; first | (rw [if_pos ⟨by omega, by omega⟩]; done) | (rw [if_neg (by omega)]; done))⟩
        ·
          refine z_iconst 1 (zdec DX10_cold 36 rfl) (by decide) ?_
          refine z_goto 70 (zdec DX10_cold 37 rfl) rfl ?_
          refine z_iadd (zdec DX10_cold 39 rfl) (by unfold z32; omega) ?_
          refine z_istore_n (L' := [(0, .inr (.inr 56)), (1, .inl b), (3, .inl (a + 1)), (4, .inl i)]) (zdec DX10_cold 40 rfl) rfl rfl (by decide) ?_
          refine z_iinc (L' := [(0, .inr (.inr 56)), (1, .inl b), (3, .inl (a + 1)), (4, .inl (i + 1))]) 3 (zdec DX10_cold 41 rfl) rfl (by unfold z32; omega) rfl (by decide) ?_
          refine z_goto 36 (zdec DX10_cold 42 rfl) rfl ?_
          exact ih (a + 1) (i + 1) (by omega) ⟨by omega, by omega, by omega, (by rw [zsum_s _ hI.1, ← hI.2.2.2, ← e7, ← e2 (by omega)]; first | (rw [if_pos ⟨by omega, by omega⟩]; done) | (rw [if_neg (by omega)]; done))⟩
set_option maxHeartbeats 4000000 in
theorem cX10_cold {M : zMm} (hP : zP M) (hg : zGr M) (hR : zRr M) (hT : zTR M) (b k : Int) : zW mX10_cold 52 (fun rv S' M' => S' = zS0 ∧ zoD M M' ∧ rv = some (.inl (if (0 ≤ b ∧ b ≤ 99) ∧ 0 ≤ k ∧ k < 31 then zsum (fun i => if M 64 i = 1 ∧ zWmR M k i < b then 1 else 0) 16 else -1))) (0, 0) zS0 0 (zargs 0 [.inr (.inr 56), .inl b, .inl k]) [] M := by
  change zW _ _ _ _ _ 0 [(0, .inr (.inr 56)), (1, .inl b), (2, .inl k)] [] M
  refine z_iload_n 1 (zdec DX10_cold 0 rfl) rfl rfl ?_
  refine z_i2l (zdec DX10_cold 1 rfl) ?_
  refine z_lconst 0 (zdec DX10_cold 2 rfl) rfl ?_
  refine z_ldc2 99 (zdec DX10_cold 3 rfl) kl_SixWallsModel_251 rfl ⟨by decide, by decide⟩ ?_
  refine z_invs mX10_within [.inr (.inl b), .inr (.inl 0), .inr (.inl 99)] (zdec DX10_cold 4 rfl) (Or.inl ml_SixWallsModel_112) okX10_within rfl rfl (Nat.le_of_ble_eq_true rfl) (Nat.le_of_ble_eq_true rfl) (b' := (0, 0)) ⟨Nat.le_refl 0, Nat.le_refl 0⟩ (Nat.le_of_ble_eq_true rfl) (cX10_within b 0 99) (fun rv9 S9 M6 h9 => ?_)
  obtain ⟨rfl, rfl, rfl⟩ := h9
  change zW _ _ _ _ _ 9 [(0, .inr (.inr 56)), (1, .inl b), (2, .inl k)] [.inl (zb (0 ≤ b ∧ b ≤ 99))] M
  refine z_if_eq 24 (zdec DX10_cold 5 rfl) rfl (fun h9 => ?_) (fun h9 => ?_)
  ·
    have q9 := zb_eq0.mp h9
    refine z_iconst (-1) (zdec DX10_cold 12 rfl) (by decide) ?_
    exact z_iret (zdec DX10_cold 13 rfl) rfl (⟨rfl, zoD.rf, zri (by rw [if_neg (by omega)])⟩)
  ·
    have q9 := zb_ne0.mp h9
    refine z_iload_n 2 (zdec DX10_cold 6 rfl) rfl rfl ?_
    refine z_i2l (zdec DX10_cold 7 rfl) ?_
    refine z_lconst 0 (zdec DX10_cold 8 rfl) rfl ?_
    refine z_ldc2 30 (zdec DX10_cold 9 rfl) kl_SixWallsModel_242 rfl ⟨by decide, by decide⟩ ?_
    refine z_invs mX10_within [.inr (.inl k), .inr (.inl 0), .inr (.inl 30)] (zdec DX10_cold 10 rfl) (Or.inl ml_SixWallsModel_112) okX10_within rfl rfl (Nat.le_of_ble_eq_true rfl) (Nat.le_of_ble_eq_true rfl) (b' := (0, 0)) ⟨Nat.le_refl 0, Nat.le_refl 0⟩ (Nat.le_of_ble_eq_true rfl) (cX10_within k 0 30) (fun rv9 S9 M18 h9 => ?_)
    obtain ⟨rfl, rfl, rfl⟩ := h9
    change zW _ _ _ _ _ 21 [(0, .inr (.inr 56)), (1, .inl b), (2, .inl k)] [.inl (zb (0 ≤ k ∧ k ≤ 30))] M
    refine z_if_ne 26 (zdec DX10_cold 11 rfl) rfl (fun h21 => ?_) (fun h21 => ?_)
    ·
      have q21 := zb_ne0.mp h21
      refine z_aload_n 0 (zdec DX10_cold 14 rfl) rfl rfl (by decide) ?_
      refine z_iload_n 2 (zdec DX10_cold 15 rfl) rfl rfl ?_
      refine z_inv mX10_winter 56 10 [.inl k] (zdec DX10_cold 16 rfl) ml_SixWallsModel_244 okX10_winter rfl shp56 rfl rfl rfl rfl (Nat.le_of_ble_eq_true rfl) (Nat.le_of_ble_eq_true rfl) (b' := (0, 0)) ⟨Nat.le_refl 0, Nat.le_refl 0⟩ (Nat.le_of_ble_eq_true rfl) (cX10_winter hP hg hR hT k ⟨by omega, by omega⟩ zoD.rf) (fun rv9 S9 M28 h9 => ?_)
      obtain ⟨rfl, rfl, x1, x2, x3, x4⟩ := h9
      change zW _ _ _ _ _ 31 [(0, .inr (.inr 56)), (1, .inl b), (2, .inl k)] [] M28
      refine z_iconst 0 (zdec DX10_cold 17 rfl) (by decide) ?_
      refine z_istore_n (L' := [(0, .inr (.inr 56)), (1, .inl b), (2, .inl k), (3, .inl 0)]) (zdec DX10_cold 18 rfl) rfl rfl (by decide) ?_
      refine z_iconst 0 (zdec DX10_cold 19 rfl) (by decide) ?_
      refine z_istore (L' := [(0, .inr (.inr 56)), (1, .inl b), (2, .inl k), (3, .inl 0), (4, .inl 0)]) (zdec DX10_cold 20 rfl) rfl (by decide) ?_
      refine z_weak (L' := [(0, .inr (.inr 56)), (1, .inl b), (3, .inl 0), (4, .inl 0)]) (by simp) ?_
      refine lp_X10_cold_36 hP hR b k x1 x2 (hx78 := fun a hx => ?_) _ 0 0 (Nat.lt_succ_self _) ⟨by omega, by omega, by omega, rfl⟩
      refine z_iload_n 0 (zdec DX10_cold 43 rfl) rfl rfl ?_
      exact z_iret (zdec DX10_cold 44 rfl) rfl (⟨rfl, x1, zri (by rw [if_pos ⟨q9, by omega⟩]; exact hx)⟩)
    ·
      have q21 : ¬ (0 ≤ k ∧ k ≤ 30) := fun e => h21 (zb_ne0.mpr e)
      refine z_iconst (-1) (zdec DX10_cold 12 rfl) (by decide) ?_
      exact z_iret (zdec DX10_cold 13 rfl) rfl (⟨rfl, zoD.rf, zri (by rw [if_neg (by omega)])⟩)
set_option maxHeartbeats 4000000 in
theorem lp_X10_still_6 {s : zMm} (hP : zP s) (hg : zGr s) (hR : zRr s) (hT : zTR s)  (hx27 : ∀ (M2 : zMm), (zoD s M2 ∧ ∀ j : Int, 0 ≤ j → j ≤ 60 → zchg (zWmR s j) (zWmR s (j + 1)) 16) → zW mX10_still 51 (fun rv S' M' => S' = zS0 ∧ zoD s M' ∧ ((∃ r : Int, (0 ≤ r ∧ r ≤ 60) ∧ (∀ j : Int, 0 ≤ j → j < r → zchg (zWmR s j) (zWmR s (j + 1)) 16) ∧ ¬ zchg (zWmR s r) (zWmR s (r + 1)) 16 ∧ rv = some (.inl r)) ∨ ((∀ j : Int, 0 ≤ j → j ≤ 60 → zchg (zWmR s j) (zWmR s (j + 1)) 16) ∧ rv = some (.inl (-2))))) (0, 0) zS0 27 [] [] M2) : ∀ (n : Nat) (i : Int) (M2 : zMm), (61 - i).toNat < n → ((0 ≤ i ∧ i ≤ 61) ∧ zoD s M2 ∧ zH (M2 68) (zWmR s i) ∧ (∀ w : Int, 0 ≤ w → w < 33 → M2 71 w = zgon s i w) ∧ ∀ j : Int, 0 ≤ j → j < i → zchg (zWmR s j) (zWmR s (j + 1)) 16) → zW mX10_still 51 (fun rv S' M' => S' = zS0 ∧ zoD s M' ∧ ((∃ r : Int, (0 ≤ r ∧ r ≤ 60) ∧ (∀ j : Int, 0 ≤ j → j < r → zchg (zWmR s j) (zWmR s (j + 1)) 16) ∧ ¬ zchg (zWmR s r) (zWmR s (r + 1)) 16 ∧ rv = some (.inl r)) ∨ ((∀ j : Int, 0 ≤ j → j ≤ 60 → zchg (zWmR s j) (zWmR s (j + 1)) 16) ∧ rv = some (.inl (-2))))) (0, 0) zS0 6 [(0, .inr (.inr 56)), (1, .inl i)] [] M2 := by
  intro n
  induction n with
  | zero => intro i M2 hn; exact absurd hn (Nat.not_lt_zero _)
  | succ n ih =>
    intro i M2 hn hI
    refine z_iload_n 1 (zdec DX10_still 4 rfl) rfl rfl ?_
    refine z_bipush 60 (zdec DX10_still 5 rfl) (by decide) ?_
    refine z_icmp_gt 27 (zdec DX10_still 6 rfl) rfl (fun h9 => ?_) (fun h9 => ?_)
    ·
      refine z_weak (L' := []) (by simp) ?_
      exact hx27 M2 ⟨hI.2.1, fun j a b => hI.2.2.2.2 j a (by omega)⟩
    ·
      refine z_aload_n 0 (zdec DX10_still 7 rfl) rfl rfl (by decide) ?_
      refine z_inv mX10_dayGoes 56 10 [] (zdec DX10_still 8 rfl) ml_SixWallsModel_238 okX10_dayGoes rfl shp56 rfl rfl rfl rfl (Nat.le_of_ble_eq_true rfl) (Nat.le_of_ble_eq_true rfl) (b' := (0, 0)) ⟨Nat.le_refl 0, Nat.le_refl 0⟩ (Nat.le_of_ble_eq_true rfl) (cX10_dayGoes hP hg hR hT (zWmR s i) (zgon s i) (zWmR_b hR _) (fun w _ _ => zgon_b hR (by omega) (by omega) w) hI.2.1 hI.2.2.1 hI.2.2.2.1) (fun rv9 S9 M13 h9 => ?_)
      obtain ⟨rfl, x1, x2, x3, x4⟩ := h9
      obtain ⟨r12, rfl⟩ : ∃ r, rv9 = some (.inl r) := by rcases x4 with h | h <;> exact ⟨_, h.1⟩
      have q4 : (r12 = 1 ∧ zchg (zWmR s i) (zdyR s (zWmR s i)) 16) ∨ (r12 = 0 ∧ ¬ zchg (zWmR s i) (zdyR s (zWmR s i)) 16) := by rcases x4 with ⟨e, h⟩ | ⟨e, h⟩ <;> cases e <;> simp_all
      change zW _ _ _ _ _ 16 [(0, .inr (.inr 56)), (1, .inl i)] [.inl r12] M13
      refine z_if_ne 21 (zdec DX10_still 9 rfl) rfl (fun h16 => ?_) (fun h16 => ?_)
      ·
        have qc := (q4.resolve_right (fun h => by omega)).2
        refine z_iinc (L' := [(0, .inr (.inr 56)), (1, .inl (i + 1))]) 1 (zdec DX10_still 12 rfl) rfl (by unfold z32; omega) rfl (by decide) ?_
        refine z_goto 6 (zdec DX10_still 13 rfl) rfl ?_
        exact ih (i + 1) M13 (by omega) ⟨by omega, x1, (by rw [zWmR_s hI.1.1]; exact x2), (fun w a b => by rw [(x3 w a b).2, zgon_s hI.1.1]), fun j a b => (by by_cases e : j = i; (subst e; rw [zWmR_s a]; exact qc); exact hI.2.2.2.2 j a (by omega))⟩
      ·
        have qc := (q4.resolve_left (fun h => by omega)).2
        refine z_iload_n 1 (zdec DX10_still 10 rfl) rfl rfl ?_
        exact z_iret (zdec DX10_still 11 rfl) rfl (⟨rfl, x1, Or.inl ⟨i, by omega, hI.2.2.2.2, (by rw [zWmR_s hI.1.1]; exact qc), rfl⟩⟩)
set_option maxHeartbeats 4000000 in
theorem cX10_still {s : zMm} (hP : zP s) (hg : zGr s) (hR : zRr s) (hT : zTR s) {M : zMm} (hM : zoD s M) : zW mX10_still 51 (fun rv S' M' => S' = zS0 ∧ zoD s M' ∧ ((∃ r : Int, (0 ≤ r ∧ r ≤ 60) ∧ (∀ j : Int, 0 ≤ j → j < r → zchg (zWmR s j) (zWmR s (j + 1)) 16) ∧ ¬ zchg (zWmR s r) (zWmR s (r + 1)) 16 ∧ rv = some (.inl r)) ∨ ((∀ j : Int, 0 ≤ j → j ≤ 60 → zchg (zWmR s j) (zWmR s (j + 1)) 16) ∧ rv = some (.inl (-2))))) (0, 0) zS0 0 (zargs 0 [.inr (.inr 56)]) [] M := by
  change zW _ _ _ _ _ 0 [(0, .inr (.inr 56))] [] M
  refine z_aload_n 0 (zdec DX10_still 0 rfl) rfl rfl (by decide) ?_
  refine z_inv mX10_begins1 56 10 [] (zdec DX10_still 1 rfl) ml_SixWallsModel_156 okX10_begins1 rfl shp56 rfl rfl rfl rfl (Nat.le_of_ble_eq_true rfl) (Nat.le_of_ble_eq_true rfl) (b' := (0, 0)) ⟨Nat.le_refl 0, Nat.le_refl 0⟩ (Nat.le_of_ble_eq_true rfl) (cX10_begins1 (hM.P hP) (hM.g hg)) (fun rv9 S9 M1 h9 => ?_)
  obtain ⟨rfl, rfl, b1, b2, b3⟩ := h9
  change zW _ _ _ _ _ 4 [(0, .inr (.inr 56))] [] M1
  refine z_iconst 0 (zdec DX10_still 2 rfl) (by decide) ?_
  refine z_istore_n (L' := [(0, .inr (.inr 56)), (1, .inl 0)]) (zdec DX10_still 3 rfl) rfl rfl (by decide) ?_
  refine lp_X10_still_6 hP hg hR hT (hx27 := fun M2 hx => ?_) _ 0 M1 (Nat.lt_succ_self _) ⟨by omega, hM.tr b1, hM.w b2, (fun w a b => by rw [b3 w a b]; rfl), fun j a b => by omega⟩
  refine z_bipush (-2) (zdec DX10_still 14 rfl) (by decide) ?_
  exact z_iret (zdec DX10_still 15 rfl) rfl (⟨rfl, hx.1, Or.inr ⟨hx.2, rfl⟩⟩)
set_option maxHeartbeats 4000000 in
theorem cX10_gave {M : zMm} (hP : zP M) (hg : zGr M) (hR : zRr M) (hT : zTR M) (w k : Int) : zW mX10_gave 52 (fun rv S' M' => S' = zS0 ∧ zoD M M' ∧ rv = some (.inl (if (0 ≤ w ∧ w < 33) ∧ 0 ≤ k ∧ k < 31 then zgon M k w else -2000000000))) (0, 0) zS0 0 (zargs 0 [.inr (.inr 56), .inl w, .inl k]) [] M := by
  change zW _ _ _ _ _ 0 [(0, .inr (.inr 56)), (1, .inl w), (2, .inl k)] [] M
  refine z_iload_n 1 (zdec DX10_gave 0 rfl) rfl rfl ?_
  refine z_invs mX10_isWall [.inl w] (zdec DX10_gave 1 rfl) (Or.inl ml_SixWallsModel_134) okX10_isWall rfl rfl (Nat.le_of_ble_eq_true rfl) (Nat.le_of_ble_eq_true rfl) (b' := (0, 0)) ⟨Nat.le_refl 0, Nat.le_refl 0⟩ (Nat.le_of_ble_eq_true rfl) (cX10_isWall w) (fun rv9 S9 M1 h9 => ?_)
  obtain ⟨rfl, rfl, rfl⟩ := h9
  change zW _ _ _ _ _ 4 [(0, .inr (.inr 56)), (1, .inl w), (2, .inl k)] [.inl (zb (0 ≤ w ∧ w < 33))] M
  refine z_if_eq 19 (zdec DX10_gave 2 rfl) rfl (fun h4 => ?_) (fun h4 => ?_)
  ·
    have q4 := zb_eq0.mp h4
    refine z_ldc (-2000000000) (zdec DX10_gave 9 rfl) kc_SixWallsModel_165 rfl ⟨by decide, by decide⟩ ?_
    exact z_iret (zdec DX10_gave 10 rfl) rfl (⟨rfl, zoD.rf, zri (by rw [if_neg (by omega)])⟩)
  ·
    have q4 := zb_ne0.mp h4
    refine z_iload_n 2 (zdec DX10_gave 3 rfl) rfl rfl ?_
    refine z_i2l (zdec DX10_gave 4 rfl) ?_
    refine z_lconst 0 (zdec DX10_gave 5 rfl) rfl ?_
    refine z_ldc2 30 (zdec DX10_gave 6 rfl) kl_SixWallsModel_242 rfl ⟨by decide, by decide⟩ ?_
    refine z_invs mX10_within [.inr (.inl k), .inr (.inl 0), .inr (.inl 30)] (zdec DX10_gave 7 rfl) (Or.inl ml_SixWallsModel_112) okX10_within rfl rfl (Nat.le_of_ble_eq_true rfl) (Nat.le_of_ble_eq_true rfl) (b' := (0, 0)) ⟨Nat.le_refl 0, Nat.le_refl 0⟩ (Nat.le_of_ble_eq_true rfl) (cX10_within k 0 30) (fun rv9 S9 M13 h9 => ?_)
    obtain ⟨rfl, rfl, rfl⟩ := h9
    change zW _ _ _ _ _ 16 [(0, .inr (.inr 56)), (1, .inl w), (2, .inl k)] [.inl (zb (0 ≤ k ∧ k ≤ 30))] M
    refine z_if_ne 22 (zdec DX10_gave 8 rfl) rfl (fun h16 => ?_) (fun h16 => ?_)
    ·
      have q16 := zb_ne0.mp h16
      refine z_aload_n 0 (zdec DX10_gave 11 rfl) rfl rfl (by decide) ?_
      refine z_iload_n 2 (zdec DX10_gave 12 rfl) rfl rfl ?_
      refine z_inv mX10_winter 56 10 [.inl k] (zdec DX10_gave 13 rfl) ml_SixWallsModel_244 okX10_winter rfl shp56 rfl rfl rfl rfl (Nat.le_of_ble_eq_true rfl) (Nat.le_of_ble_eq_true rfl) (b' := (0, 0)) ⟨Nat.le_refl 0, Nat.le_refl 0⟩ (Nat.le_of_ble_eq_true rfl) (cX10_winter hP hg hR hT k ⟨by omega, by omega⟩ zoD.rf) (fun rv9 S9 M24 h9 => ?_)
      obtain ⟨rfl, rfl, x1, x2, x3, x4⟩ := h9
      change zW _ _ _ _ _ 27 [(0, .inr (.inr 56)), (1, .inl w), (2, .inl k)] [] M24
      refine z_aload_n 0 (zdec DX10_gave 14 rfl) rfl rfl (by decide) ?_
      refine z_getr (rw1 := -66) (ki := 24) (r' := 71) 56 10 (zdec DX10_gave 15 rfl) rfl rfl shp56 rfl (by decide) rfl rfl fl_SixWallsModel_53 (zPa (x1.P hP) 71 rfl) ?_
      refine z_iload_n 1 (zdec DX10_gave 16 rfl) rfl rfl ?_
      refine z_iald 71 (zdec DX10_gave 17 rfl) rfl shp71 ⟨by omega, by omega⟩ ?_
      exact z_iret (zdec DX10_gave 18 rfl) rfl (⟨rfl, x1, zri (by rw [if_pos ⟨q4, by omega⟩]; exact x3 w q4.1 q4.2)⟩)
    ·
      have q16 : ¬ (0 ≤ k ∧ k ≤ 30) := fun e => h16 (zb_ne0.mpr e)
      refine z_ldc (-2000000000) (zdec DX10_gave 9 rfl) kc_SixWallsModel_165 rfl ⟨by decide, by decide⟩ ?_
      exact z_iret (zdec DX10_gave 10 rfl) rfl (⟨rfl, zoD.rf, zri (by rw [if_neg (by omega)])⟩)
/-- with a fire in thought -/
def zfrR (M : zMm) (h k f : Int) : Int := zWmR (zup M 57 h f) k h
def zoL (M : zMm) (h : Int) (M2 : zMm) : Prop := ∃ x, zoD (zup M 57 h x) M2
theorem zoL.st {M M2 : zMm} {h : Int} (hL : zoL M h M2) (v : Int) : zoD (zup M 57 h v) (zup M2 57 h v) := by
  obtain ⟨x, hx⟩ := hL
  refine ⟨fun c a b d e f g => ?_, fun j a => ?_⟩
  · by_cases h57 : c = 57
    · subst h57
      rw [zup_zpu, zup_zpu, hx.1 57 a b d e f g, zup_zpu]
      funext k
      unfold zpu
      split <;> rfl
    · rw [zup_row h57, zup_row h57, hx.1 c a b d e f g, zup_row h57]
  · rw [zup_row (by decide), zup_row (by decide), hx.2 j a, zup_row (by decide)]
theorem zoL.back {M M2 : zMm} {h : Int} (hL : zoL M h M2) : zoD M (zup M2 57 h (M 57 h)) := by
  have := hL.st (M 57 h)
  rw [zup_idr] at this
  exact this
theorem zTR.up {M : zMm} {h v : Int} (hT : zTR M) : zTR (zup M 57 h v) := by
  unfold zTR
  rw [zup_row (by decide), zup_row (by decide)]
  exact hT
theorem zGr.up {M : zMm} {h v : Int} (hg : zGr M) : zGr (zup M 57 h v) := hg.of (zup_row (by decide)) (zup_row (by decide))
set_option maxHeartbeats 4000000 in
theorem lp_X10_leastFire_46 {Q : zPost} {M : zMm} (hP : zP M) (hg : zGr M) (hR : zRr M) (hT : zTR M) (h v : Int) (hc : ((0 ≤ h ∧ h < 16) ∧ 0 ≤ v ∧ v / 100 ≤ 99 ∧ v % 100 < 31)) (hx95 : ∀ (b : Int) (M2 : zMm), (zoL M h M2 ∧ ((b = -2 ∧ ∀ j : Int, -1 < j → j ≤ 9 → zfrR M h (v % 100) j < v / 100) ∨ ((-1 < b ∧ 0 ≤ b ∧ b ≤ 9) ∧ v / 100 ≤ zfrR M h (v % 100) b ∧ ∀ j : Int, -1 < j → j < b → zfrR M h (v % 100) j < v / 100))) → zW mX10_leastFire 53 Q (0, 0) zS0 95 [(0, .inr (.inr 56)), (1, .inl h), (3, .inl (M 57 h)), (4, .inl b)] [] M2) : ∀ (n : Nat) (b : Int) (f : Int) (M2 : zMm), (f + 1).toNat < n → ((-1 ≤ f ∧ f ≤ 9) ∧ zoL M h M2 ∧ ((b = -2 ∧ ∀ j : Int, f < j → j ≤ 9 → zfrR M h (v % 100) j < v / 100) ∨ ((f < b ∧ 0 ≤ b ∧ b ≤ 9) ∧ v / 100 ≤ zfrR M h (v % 100) b ∧ ∀ j : Int, f < j → j < b → zfrR M h (v % 100) j < v / 100))) → zW mX10_leastFire 53 Q (0, 0) zS0 46 [(0, .inr (.inr 56)), (1, .inl h), (2, .inl v), (3, .inl (M 57 h)), (4, .inl b), (5, .inl f)] [] M2 := by
  intro n
  induction n with
  | zero => intro b f M2 hn; exact absurd hn (Nat.not_lt_zero _)
  | succ n ih =>
    intro b f M2 hn hI
    refine z_iload 5 (zdec DX10_leastFire 26 rfl) rfl ?_
    refine z_if_lt 95 (zdec DX10_leastFire 27 rfl) rfl (fun h48 => ?_) (fun h48 => ?_)
    ·
      refine z_weak (L' := [(0, .inr (.inr 56)), (1, .inl h), (3, .inl (M 57 h)), (4, .inl b)]) (by simp) ?_
      exact hx95 b M2 (by have e : f = -1 := (by omega); subst e; exact hI.2)
    ·
      refine z_aload_n 0 (zdec DX10_leastFire 28 rfl) rfl rfl (by decide) ?_
      refine z_getr (rw1 := -66) (ki := 0) (r' := 57) 56 10 (zdec DX10_leastFire 29 rfl) rfl rfl shp56 rfl (by decide) rfl rfl fl_SixWallsModel_9 (zPa (by obtain ⟨x, hx⟩ := hI.2.1; exact hx.P (zP_up hP (by decide))) 57 rfl) ?_
      refine z_iload_n 1 (zdec DX10_leastFire 30 rfl) rfl rfl ?_
      refine z_iload 5 (zdec DX10_leastFire 31 rfl) rfl ?_
      refine z_iast 57 (zdec DX10_leastFire 32 rfl) rfl shp57 ⟨by omega, by omega⟩ ?_
      have hs0 : zP (zup M 57 h f) := zP_up hP (by decide)
      have hRs : zRr (zup M 57 h f) := hR.up (by unfold zmR; omega)
      have hgs : zGr (zup M 57 h f) := hg.up
      have hTs : zTR (zup M 57 h f) := hT.up
      have hL : zoD (zup M 57 h f) (zup M2 57 h f) := hI.2.1.st f
      refine z_aload_n 0 (zdec DX10_leastFire 33 rfl) rfl rfl (by decide) ?_
      refine z_iload_n 2 (zdec DX10_leastFire 34 rfl) rfl rfl ?_
      refine z_bipush 100 (zdec DX10_leastFire 35 rfl) (by decide) ?_
      refine z_iremp (zdec DX10_leastFire 36 rfl) (by omega) (by omega) ?_
      refine z_inv mX10_winter 56 10 [.inl (v % 100)] (zdec DX10_leastFire 37 rfl) ml_SixWallsModel_244 okX10_winter rfl shp56 rfl rfl rfl rfl (Nat.le_of_ble_eq_true rfl) (Nat.le_of_ble_eq_true rfl) (b' := (0, 0)) ⟨Nat.le_refl 0, Nat.le_refl 0⟩ (Nat.le_of_ble_eq_true rfl) (cX10_winter hs0 hgs hRs hTs (v % 100) ⟨by omega, by omega⟩ hL) (fun rv9 S9 M64 h9 => ?_)
      obtain ⟨rfl, rfl, x1, x2, x3, x4⟩ := h9
      have ex : M64 68 h = zfrR M h (v % 100) f := x2 h (by omega) (by omega)
      change zW _ _ _ _ _ 67 [(0, .inr (.inr 56)), (1, .inl h), (2, .inl v), (3, .inl (M 57 h)), (4, .inl b), (5, .inl f)] [] M64
      refine z_aload_n 0 (zdec DX10_leastFire 38 rfl) rfl rfl (by decide) ?_
      refine z_getr (rw1 := -66) (ki := 21) (r' := 68) 56 10 (zdec DX10_leastFire 39 rfl) rfl rfl shp56 rfl (by decide) rfl rfl fl_SixWallsModel_44 (zPa (x1.P hs0) 68 rfl) ?_
      refine z_iload_n 1 (zdec DX10_leastFire 40 rfl) rfl rfl ?_
      refine z_iald 68 (zdec DX10_leastFire 41 rfl) rfl shp68 ⟨by omega, by omega⟩ ?_
      refine z_iload_n 2 (zdec DX10_leastFire 42 rfl) rfl rfl ?_
      refine z_bipush 100 (zdec DX10_leastFire 43 rfl) (by decide) ?_
      refine z_idivp (zdec DX10_leastFire 44 rfl) (by omega) (by omega) ?_
      refine z_icmp_lt 85 (zdec DX10_leastFire 45 rfl) rfl (fun h77 => ?_) (fun h77 => ?_)
      ·
        refine z_iload 4 (zdec DX10_leastFire 48 rfl) rfl ?_
        refine z_istore (L' := [(0, .inr (.inr 56)), (1, .inl h), (2, .inl v), (3, .inl (M 57 h)), (4, .inl b), (5, .inl f)]) (zdec DX10_leastFire 49 rfl) rfl (by decide) ?_
        refine z_iinc (L' := [(0, .inr (.inr 56)), (1, .inl h), (2, .inl v), (3, .inl (M 57 h)), (4, .inl b), (5, .inl (f + (-1)))]) 5 (zdec DX10_leastFire 50 rfl) rfl (by unfold z32; omega) rfl (by decide) ?_
        refine z_goto 46 (zdec DX10_leastFire 51 rfl) rfl ?_
        exact ih b (f + (-1)) M64 (by omega) ⟨by omega, ⟨f, x1⟩, (by first | exact Or.inr ⟨⟨by omega, by omega, by omega⟩, by rw [← ex]; omega, fun j a b => by omega⟩ | (rcases hI.2.2 with ⟨a, u⟩ | ⟨a, u, w⟩; exact Or.inl ⟨a, fun j c d => (by by_cases e : j = f; (subst e; rw [← ex]; omega); exact u j (by omega) d)⟩; exact Or.inr ⟨by omega, u, fun j c d => (by by_cases e : j = f; (subst e; rw [← ex]; omega); exact w j (by omega) d)⟩))⟩
      ·
        refine z_iload 5 (zdec DX10_leastFire 46 rfl) rfl ?_
        refine z_goto 87 (zdec DX10_leastFire 47 rfl) rfl ?_
        refine z_istore (L' := [(0, .inr (.inr 56)), (1, .inl h), (2, .inl v), (3, .inl (M 57 h)), (4, .inl f), (5, .inl f)]) (zdec DX10_leastFire 49 rfl) rfl (by decide) ?_
        refine z_iinc (L' := [(0, .inr (.inr 56)), (1, .inl h), (2, .inl v), (3, .inl (M 57 h)), (4, .inl f), (5, .inl (f + (-1)))]) 5 (zdec DX10_leastFire 50 rfl) rfl (by unfold z32; omega) rfl (by decide) ?_
        refine z_goto 46 (zdec DX10_leastFire 51 rfl) rfl ?_
        exact ih f (f + (-1)) M64 (by omega) ⟨by omega, ⟨f, x1⟩, (by first | exact Or.inr ⟨⟨by omega, by omega, by omega⟩, by rw [← ex]; omega, fun j a b => by omega⟩ | (rcases hI.2.2 with ⟨a, u⟩ | ⟨a, u, w⟩; exact Or.inl ⟨a, fun j c d => (by by_cases e : j = f; (subst e; rw [← ex]; omega); exact u j (by omega) d)⟩; exact Or.inr ⟨by omega, u, fun j c d => (by by_cases e : j = f; (subst e; rw [← ex]; omega); exact w j (by omega) d)⟩))⟩
set_option maxHeartbeats 4000000 in
theorem cX10_leastFire {M : zMm} (hP : zP M) (hg : zGr M) (hR : zRr M) (hT : zTR M) (h v : Int) : zW mX10_leastFire 53 (fun rv S' M' => S' = zS0 ∧ zoD M M' ∧ ((¬ ((0 ≤ h ∧ h < 16) ∧ 0 ≤ v ∧ v / 100 ≤ 99 ∧ v % 100 < 31) ∧ rv = some (.inl (-1))) ∨ (((0 ≤ h ∧ h < 16) ∧ 0 ≤ v ∧ v / 100 ≤ 99 ∧ v % 100 < 31) ∧ ((∃ f : Int, (0 ≤ f ∧ f ≤ 9) ∧ (∀ j : Int, 0 ≤ j → j < f → zfrR M h (v % 100) j < v / 100) ∧ v / 100 ≤ zfrR M h (v % 100) f ∧ rv = some (.inl f)) ∨ ((∀ j : Int, 0 ≤ j → j ≤ 9 → zfrR M h (v % 100) j < v / 100) ∧ rv = some (.inl (-2))))))) (0, 0) zS0 0 (zargs 0 [.inr (.inr 56), .inl h, .inl v]) [] M := by
  change zW _ _ _ _ _ 0 [(0, .inr (.inr 56)), (1, .inl h), (2, .inl v)] [] M
  refine z_iload_n 1 (zdec DX10_leastFire 0 rfl) rfl rfl ?_
  refine z_invs mX10_isHouse [.inl h] (zdec DX10_leastFire 1 rfl) (Or.inl ml_SixWallsModel_118) okX10_isHouse rfl rfl (Nat.le_of_ble_eq_true rfl) (Nat.le_of_ble_eq_true rfl) (b' := (0, 0)) ⟨Nat.le_refl 0, Nat.le_refl 0⟩ (Nat.le_of_ble_eq_true rfl) (cX10_isHouse h) (fun rv9 S9 M1 h9 => ?_)
  obtain ⟨rfl, rfl, rfl⟩ := h9
  change zW _ _ _ _ _ 4 [(0, .inr (.inr 56)), (1, .inl h), (2, .inl v)] [.inl (zb (0 ≤ h ∧ h < 16))] M
  refine z_if_eq 29 (zdec DX10_leastFire 2 rfl) rfl (fun h4 => ?_) (fun h4 => ?_)
  ·
    have q4 := zb_eq0.mp h4
    refine z_iconst (-1) (zdec DX10_leastFire 15 rfl) (by decide) ?_
    exact z_iret (zdec DX10_leastFire 16 rfl) rfl (⟨rfl, zoD.rf, Or.inl ⟨by omega, rfl⟩⟩)
  ·
    have q4 := zb_ne0.mp h4
    refine z_iload_n 2 (zdec DX10_leastFire 3 rfl) rfl rfl ?_
    refine z_if_lt 29 (zdec DX10_leastFire 4 rfl) rfl (fun h8 => ?_) (fun h8 => ?_)
    ·
      refine z_iconst (-1) (zdec DX10_leastFire 15 rfl) (by decide) ?_
      exact z_iret (zdec DX10_leastFire 16 rfl) rfl (⟨rfl, zoD.rf, Or.inl ⟨by omega, rfl⟩⟩)
    ·
      refine z_iload_n 2 (zdec DX10_leastFire 5 rfl) rfl rfl ?_
      refine z_bipush 100 (zdec DX10_leastFire 6 rfl) (by decide) ?_
      refine z_idivp (zdec DX10_leastFire 7 rfl) (by omega) (by omega) ?_
      refine z_bipush 99 (zdec DX10_leastFire 8 rfl) (by decide) ?_
      refine z_icmp_gt 29 (zdec DX10_leastFire 9 rfl) rfl (fun h17 => ?_) (fun h17 => ?_)
      ·
        refine z_iconst (-1) (zdec DX10_leastFire 15 rfl) (by decide) ?_
        exact z_iret (zdec DX10_leastFire 16 rfl) rfl (⟨rfl, zoD.rf, Or.inl ⟨by omega, rfl⟩⟩)
      ·
        refine z_iload_n 2 (zdec DX10_leastFire 10 rfl) rfl rfl ?_
        refine z_bipush 100 (zdec DX10_leastFire 11 rfl) (by decide) ?_
        refine z_iremp (zdec DX10_leastFire 12 rfl) (by omega) (by omega) ?_
        refine z_bipush 30 (zdec DX10_leastFire 13 rfl) (by decide) ?_
        refine z_icmp_le 31 (zdec DX10_leastFire 14 rfl) rfl (fun h26 => ?_) (fun h26 => ?_)
        ·
          refine z_aload_n 0 (zdec DX10_leastFire 17 rfl) rfl rfl (by decide) ?_
          refine z_getr (rw1 := -66) (ki := 0) (r' := 57) 56 10 (zdec DX10_leastFire 18 rfl) rfl rfl shp56 rfl (by decide) rfl rfl fl_SixWallsModel_9 (zPa hP 57 rfl) ?_
          refine z_iload_n 1 (zdec DX10_leastFire 19 rfl) rfl rfl ?_
          refine z_iald 57 (zdec DX10_leastFire 20 rfl) rfl shp57 ⟨by omega, by omega⟩ ?_
          refine z_istore_n (L' := [(0, .inr (.inr 56)), (1, .inl h), (2, .inl v), (3, .inl (M 57 h))]) (zdec DX10_leastFire 21 rfl) rfl rfl (by decide) ?_
          refine z_bipush (-2) (zdec DX10_leastFire 22 rfl) (by decide) ?_
          refine z_istore (L' := [(0, .inr (.inr 56)), (1, .inl h), (2, .inl v), (3, .inl (M 57 h)), (4, .inl (-2))]) (zdec DX10_leastFire 23 rfl) rfl (by decide) ?_
          refine z_bipush 9 (zdec DX10_leastFire 24 rfl) (by decide) ?_
          refine z_istore (L' := [(0, .inr (.inr 56)), (1, .inl h), (2, .inl v), (3, .inl (M 57 h)), (4, .inl (-2)), (5, .inl 9)]) (zdec DX10_leastFire 25 rfl) rfl (by decide) ?_
          refine lp_X10_leastFire_46 hP hg hR hT h v ⟨q4, by omega, by omega, by omega⟩ (hx95 := fun b M2 hx => ?_) _ (-2) 9 M (Nat.lt_succ_self _) ⟨by omega, ⟨M 57 h, by rw [zup_idr]; exact zoD.rf⟩, Or.inl ⟨rfl, fun j a b => by omega⟩⟩
          refine z_aload_n 0 (zdec DX10_leastFire 52 rfl) rfl rfl (by decide) ?_
          refine z_getr (rw1 := -66) (ki := 0) (r' := 57) 56 10 (zdec DX10_leastFire 53 rfl) rfl rfl shp56 rfl (by decide) rfl rfl fl_SixWallsModel_9 (zPa (by obtain ⟨x, hx⟩ := hx.1; exact hx.P (zP_up hP (by decide))) 57 rfl) ?_
          refine z_iload_n 1 (zdec DX10_leastFire 54 rfl) rfl rfl ?_
          refine z_iload_n 2 (zdec DX10_leastFire 55 rfl) rfl rfl ?_
          refine z_iast 57 (zdec DX10_leastFire 56 rfl) rfl shp57 ⟨by omega, by omega⟩ ?_
          refine z_iload 3 (zdec DX10_leastFire 57 rfl) rfl ?_
          exact z_iret (zdec DX10_leastFire 58 rfl) rfl (⟨rfl, hx.1.back, Or.inr ⟨⟨q4, by omega, by omega, by omega⟩, (by rcases hx.2 with ⟨a, u⟩ | ⟨a, u, w⟩; exact Or.inr ⟨fun j c d => u j (by omega) d, by rw [a]⟩; exact Or.inl ⟨b, by omega, fun j c d => w j (by omega) d, u, rfl⟩)⟩⟩)
        ·
          refine z_iconst (-1) (zdec DX10_leastFire 15 rfl) (by decide) ?_
          exact z_iret (zdec DX10_leastFire 16 rfl) rfl (⟨rfl, zoD.rf, Or.inl ⟨by omega, rfl⟩⟩)
/-- days in deed -/
def zLvR (s : zMm) (k : Int) (M : zMm) : Prop := zH (M 63) (zWmR s k) ∧ (∀ w : Int, 0 ≤ w → w < 33 → M 72 w = zflR s (zWmR s (k - 1)) w) ∧ M 56 25 = zw (s 56 25 + k) ∧ (∀ j : Int, j ≠ 25 → j < 15 ∨ 19 < j → M 56 j = s 56 j) ∧ ∀ c : Int, c ≠ 56 → c ≠ 63 → c < 67 ∨ 72 < c → M c = s c
set_option maxHeartbeats 4000000 in
theorem lp_X10_days_47 {Q : zPost} {M16 : zMm} (hP16 : zP M16) (k : Int) (hx71 : ∀ (M2 : zMm), ((∀ c : Int, c ≠ 63 → c ≠ 72 → M2 c = M16 c) ∧ zH (M2 63) (M16 68) ∧ ∀ i : Int, 0 ≤ i → i < 33 → M2 72 i = M16 70 i) → zW mX10_days 52 Q (0, 0) zS0 71 [(0, .inr (.inr 56)), (1, .inl k)] [] M2) : ∀ (n : Nat) (w : Int) (M2 : zMm), (33 - w).toNat < n → (0 ≤ w ∧ w ≤ 33 ∧ (∀ c : Int, c ≠ 63 → c ≠ 72 → M2 c = M16 c) ∧ zH (M2 63) (M16 68) ∧ ∀ i : Int, 0 ≤ i → i < w → M2 72 i = M16 70 i) → zW mX10_days 52 Q (0, 0) zS0 47 [(0, .inr (.inr 56)), (1, .inl k), (2, .inl w)] [] M2 := by
  intro n
  induction n with
  | zero => intro w M2 hn; exact absurd hn (Nat.not_lt_zero _)
  | succ n ih =>
    intro w M2 hn hI
    refine z_iload_n 2 (zdec DX10_days 28 rfl) rfl rfl ?_
    refine z_bipush 33 (zdec DX10_days 29 rfl) (by decide) ?_
    refine z_icmp_ge 71 (zdec DX10_days 30 rfl) rfl (fun h50 => ?_) (fun h50 => ?_)
    ·
      refine z_weak (L' := [(0, .inr (.inr 56)), (1, .inl k)]) (by simp) ?_
      exact hx71 M2 ⟨hI.2.2.1, hI.2.2.2.1, fun i a b => hI.2.2.2.2 i a (by omega)⟩
    ·
      refine z_aload_n 0 (zdec DX10_days 31 rfl) rfl rfl (by decide) ?_
      refine z_getr (rw1 := -66) (ki := 26) (r' := 72) 56 10 (zdec DX10_days 32 rfl) rfl rfl shp56 rfl (by decide) rfl rfl fl_SixWallsModel_56 (zPa (zP_of hP16 fun r hr => hI.2.2.1 r (by omega) (by omega)) 72 rfl) ?_
      refine z_iload_n 2 (zdec DX10_days 33 rfl) rfl rfl ?_
      refine z_aload_n 0 (zdec DX10_days 34 rfl) rfl rfl (by decide) ?_
      refine z_getr (rw1 := -66) (ki := 23) (r' := 70) 56 10 (zdec DX10_days 35 rfl) rfl rfl shp56 rfl (by decide) rfl rfl fl_SixWallsModel_50 (zPa (zP_of hP16 fun r hr => hI.2.2.1 r (by omega) (by omega)) 70 rfl) ?_
      refine z_iload_n 2 (zdec DX10_days 36 rfl) rfl rfl ?_
      refine z_iald 70 (zdec DX10_days 37 rfl) rfl shp70 ⟨by omega, by omega⟩ ?_
      refine z_iast 72 (zdec DX10_days 38 rfl) rfl shp72 ⟨by omega, by omega⟩ ?_
      refine z_iinc (L' := [(0, .inr (.inr 56)), (1, .inl k), (2, .inl (w + 1))]) 2 (zdec DX10_days 39 rfl) rfl (by unfold z32; omega) rfl (by decide) ?_
      refine z_goto 47 (zdec DX10_days 40 rfl) rfl ?_
      exact ih (w + 1) (zup M2 72 w (M2 70 w)) (by omega) ⟨by omega, by omega, (fun c a b => by rw [zup_row b]; exact hI.2.2.1 c a b), (by rw [zup_row (by decide)]; exact hI.2.2.2.1), fun i a b => (by by_cases e : i = w; (subst e; rw [zup_self]; exact congrFun (hI.2.2.1 70 (by decide) (by decide)) i); (rw [zup_ne e]; exact hI.2.2.2.2 i a (by omega)))⟩
set_option maxHeartbeats 4000000 in
theorem lp_X10_days_21 {Q : zPost} {M16 : zMm} (hP16 : zP M16) (k : Int) (hx45 : ∀ (M2 : zMm), ((∀ c : Int, c ≠ 63 → M2 c = M16 c) ∧ zH (M2 63) (M16 68)) → zW mX10_days 52 Q (0, 0) zS0 45 [(0, .inr (.inr 56)), (1, .inl k)] [] M2) : ∀ (n : Nat) (h : Int) (M2 : zMm), (16 - h).toNat < n → (0 ≤ h ∧ h ≤ 16 ∧ (∀ c : Int, c ≠ 63 → M2 c = M16 c) ∧ ∀ i : Int, 0 ≤ i → i < h → M2 63 i = M16 68 i) → zW mX10_days 52 Q (0, 0) zS0 21 [(0, .inr (.inr 56)), (1, .inl k), (2, .inl h)] [] M2 := by
  intro n
  induction n with
  | zero => intro h M2 hn; exact absurd hn (Nat.not_lt_zero _)
  | succ n ih =>
    intro h M2 hn hI
    refine z_iload_n 2 (zdec DX10_days 13 rfl) rfl rfl ?_
    refine z_bipush 16 (zdec DX10_days 14 rfl) (by decide) ?_
    refine z_icmp_ge 45 (zdec DX10_days 15 rfl) rfl (fun h24 => ?_) (fun h24 => ?_)
    ·
      refine z_weak (L' := [(0, .inr (.inr 56)), (1, .inl k)]) (by simp) ?_
      exact hx45 M2 ⟨hI.2.2.1, fun i a b => hI.2.2.2 i a (by omega)⟩
    ·
      refine z_aload_n 0 (zdec DX10_days 16 rfl) rfl rfl (by decide) ?_
      refine z_getr (rw1 := -66) (ki := 9) (r' := 63) 56 10 (zdec DX10_days 17 rfl) rfl rfl shp56 rfl (by decide) rfl rfl fl_SixWallsModel_28 (zPa (zP_of hP16 fun r hr => hI.2.2.1 r (by omega)) 63 rfl) ?_
      refine z_iload_n 2 (zdec DX10_days 18 rfl) rfl rfl ?_
      refine z_aload_n 0 (zdec DX10_days 19 rfl) rfl rfl (by decide) ?_
      refine z_getr (rw1 := -66) (ki := 21) (r' := 68) 56 10 (zdec DX10_days 20 rfl) rfl rfl shp56 rfl (by decide) rfl rfl fl_SixWallsModel_44 (zPa (zP_of hP16 fun r hr => hI.2.2.1 r (by omega)) 68 rfl) ?_
      refine z_iload_n 2 (zdec DX10_days 21 rfl) rfl rfl ?_
      refine z_iald 68 (zdec DX10_days 22 rfl) rfl shp68 ⟨by omega, by omega⟩ ?_
      refine z_iast 63 (zdec DX10_days 23 rfl) rfl shp63 ⟨by omega, by omega⟩ ?_
      refine z_iinc (L' := [(0, .inr (.inr 56)), (1, .inl k), (2, .inl (h + 1))]) 2 (zdec DX10_days 24 rfl) rfl (by unfold z32; omega) rfl (by decide) ?_
      refine z_goto 21 (zdec DX10_days 25 rfl) rfl ?_
      exact ih (h + 1) (zup M2 63 h (M2 68 h)) (by omega) ⟨by omega, by omega, (fun c a => by rw [zup_row a]; exact hI.2.2.1 c a), fun i a b => (by by_cases e : i = h; (subst e; rw [zup_self]; exact congrFun (hI.2.2.1 68 (by decide)) i); (rw [zup_ne e]; exact hI.2.2.2 i a (by omega)))⟩
set_option maxHeartbeats 4000000 in
theorem cX10_days {M : zMm} (hP : zP M) (hg : zGr M) (hR : zRr M) (hT : zTR M) (k : Int)  : zW mX10_days 52 (fun rv S' M' => S' = zS0 ∧ ((¬ (1 ≤ k ∧ k ≤ 30) ∧ rv = some (.inl (-1)) ∧ M' = M) ∨ ((1 ≤ k ∧ k ≤ 30) ∧ rv = some (.inl (zsum (zWmR M k) 16)) ∧ zLvR M k M'))) (0, 0) zS0 0 (zargs 0 [.inr (.inr 56), .inl k]) [] M := by
  change zW _ _ _ _ _ 0 [(0, .inr (.inr 56)), (1, .inl k)] [] M
  refine z_iload_n 1 (zdec DX10_days 0 rfl) rfl rfl ?_
  refine z_i2l (zdec DX10_days 1 rfl) ?_
  refine z_lconst 1 (zdec DX10_days 2 rfl) rfl ?_
  refine z_ldc2 30 (zdec DX10_days 3 rfl) kl_SixWallsModel_242 rfl ⟨by decide, by decide⟩ ?_
  refine z_invs mX10_within [.inr (.inl k), .inr (.inl 1), .inr (.inl 30)] (zdec DX10_days 4 rfl) (Or.inl ml_SixWallsModel_112) okX10_within rfl rfl (Nat.le_of_ble_eq_true rfl) (Nat.le_of_ble_eq_true rfl) (b' := (0, 0)) ⟨Nat.le_refl 0, Nat.le_refl 0⟩ (Nat.le_of_ble_eq_true rfl) (cX10_within k 1 30) (fun rv9 S9 M6 h9 => ?_)
  obtain ⟨rfl, rfl, rfl⟩ := h9
  change zW _ _ _ _ _ 9 [(0, .inr (.inr 56)), (1, .inl k)] [.inl (zb (1 ≤ k ∧ k ≤ 30))] M
  refine z_if_ne 14 (zdec DX10_days 5 rfl) rfl (fun h9 => ?_) (fun h9 => ?_)
  ·
    have q9 := zb_ne0.mp h9
    refine z_aload_n 0 (zdec DX10_days 8 rfl) rfl rfl (by decide) ?_
    refine z_iload_n 1 (zdec DX10_days 9 rfl) rfl rfl ?_
    refine z_inv mX10_winter 56 10 [.inl k] (zdec DX10_days 10 rfl) ml_SixWallsModel_244 okX10_winter rfl shp56 rfl rfl rfl rfl (Nat.le_of_ble_eq_true rfl) (Nat.le_of_ble_eq_true rfl) (b' := (0, 0)) ⟨Nat.le_refl 0, Nat.le_refl 0⟩ (Nat.le_of_ble_eq_true rfl) (cX10_winter hP hg hR hT k ⟨by omega, by omega⟩ zoD.rf) (fun rv9 S9 M16 h9 => ?_)
    obtain ⟨rfl, rfl, x1, x2, x3, x4⟩ := h9
    change zW _ _ _ _ _ 19 [(0, .inr (.inr 56)), (1, .inl k)] [] M16
    refine z_iconst 0 (zdec DX10_days 11 rfl) (by decide) ?_
    refine z_istore_n (L' := [(0, .inr (.inr 56)), (1, .inl k), (2, .inl 0)]) (zdec DX10_days 12 rfl) rfl rfl (by decide) ?_
    refine lp_X10_days_21 (x1.P hP) k (hx45 := fun M2 hx => ?_) _ 0 M16 (Nat.lt_succ_self _) ⟨by omega, by omega, fun _ _ => rfl, fun i a b => by omega⟩
    refine z_iconst 0 (zdec DX10_days 26 rfl) (by decide) ?_
    refine z_istore_n (L' := [(0, .inr (.inr 56)), (1, .inl k), (2, .inl 0)]) (zdec DX10_days 27 rfl) rfl rfl (by decide) ?_
    refine lp_X10_days_47 (x1.P hP) k (hx71 := fun M2 hy => ?_) _ 0 M2 (Nat.lt_succ_self _) ⟨by omega, by omega, (fun c a _ => hx.1 c a), hx.2, fun i a b => by omega⟩
    refine z_aload_n 0 (zdec DX10_days 41 rfl) rfl rfl (by decide) ?_
    refine z_dup (zdec DX10_days 42 rfl) rfl ?_
    refine z_geti (ki := 25) 56 10 (zdec DX10_days 43 rfl) rfl shp56 rfl (by decide) rfl rfl fl_SixWallsModel_253 ?_
    rw [hy.1 56 (by decide) (by decide), x1.2 25 (by omega)]
    refine z_iload_n 1 (zdec DX10_days 44 rfl) rfl rfl ?_
    refine z_iaddw (zdec DX10_days 45 rfl) ?_
    refine z_puti (ki := 25) 56 10 (zdec DX10_days 46 rfl) rfl shp56 rfl (by decide) rfl rfl fl_SixWallsModel_253 (Or.inl rfl) ?_
    refine z_aload_n 0 (zdec DX10_days 47 rfl) rfl rfl (by decide) ?_
    refine z_inv mX10_allThen 56 10 [] (zdec DX10_days 48 rfl) ml_SixWallsModel_248 okX10_allThen rfl shp56 rfl rfl rfl rfl (Nat.le_of_ble_eq_true rfl) (Nat.le_of_ble_eq_true rfl) (b' := (0, 0)) ⟨Nat.le_refl 0, Nat.le_refl 0⟩ (Nat.le_of_ble_eq_true rfl) (cX10_allThen (zP_up (zP_of (x1.P hP) fun r hr => hy.1 r (by omega) (by omega)) (by decide)) (by rw [zup_row (by decide), hy.1 68 (by decide) (by decide)]; exact zbWc x2 (zWmR_b hR _))) (fun rv9 S9 M82 h9 => ?_)
    obtain ⟨rfl, rfl, rfl⟩ := h9
    rw [show zup M2 56 25 (zw (M 56 25 + k)) 68 = M2 68 from zup_row (by decide)]
    change zW _ _ _ _ _ 85 [(0, .inr (.inr 56)), (1, .inl k)] [.inl (zsum (M2 68) 16)] (zup M2 56 25 (zw ((M 56 25) + k)))
    exact z_iret (zdec DX10_days 49 rfl) rfl (⟨rfl, Or.inr ⟨q9, zri (by rw [hy.1 68 (by decide) (by decide)]; exact zsum_H x2), (fun i a b => by rw [zup_row (by decide), hy.2.1 i a b]; exact x2 i a b), (fun w a b => by rw [zup_row (by decide), hy.2.2 w a b]; exact x4 (by omega) w a b), zup_self _ _ _ _, (fun j a b => by rw [zup_ne a, hy.1 56 (by decide) (by decide)]; exact x1.2 j b), (fun c a b d => by rw [zup_row a, hy.1 c b (by omega)]; exact x1.1 c a (by omega) (by omega) (by omega) (by omega) (by omega))⟩⟩)
  ·
    have q9 : ¬ (1 ≤ k ∧ k ≤ 30) := fun e => h9 (zb_ne0.mpr e)
    refine z_iconst (-1) (zdec DX10_days 6 rfl) (by decide) ?_
    exact z_iret (zdec DX10_days 7 rfl) rfl (⟨rfl, Or.inl ⟨q9, rfl, rfl⟩⟩)
set_option maxHeartbeats 4000000 in
theorem cX10_led {M : zMm} (hP : zP M) (w : Int) : zW mX10_led 3 (fun rv S' M' => S' = zS0 ∧ M = M' ∧ rv = some (.inl (if 0 ≤ w ∧ w < 33 then (if M 56 25 = 0 then -5 else M 72 w) else -2000000000))) (0, 0) zS0 0 (zargs 0 [.inr (.inr 56), .inl w]) [] M := by
  change zW _ _ _ _ _ 0 [(0, .inr (.inr 56)), (1, .inl w)] [] M
  refine z_iload_n 1 (zdec DX10_led 0 rfl) rfl rfl ?_
  refine z_invs mX10_isWall [.inl w] (zdec DX10_led 1 rfl) (Or.inl ml_SixWallsModel_134) okX10_isWall rfl rfl (Nat.le_of_ble_eq_true rfl) (Nat.le_of_ble_eq_true rfl) (b' := (0, 0)) ⟨Nat.le_refl 0, Nat.le_refl 0⟩ (Nat.le_of_ble_eq_true rfl) (cX10_isWall w) (fun rv9 S9 M1 h9 => ?_)
  obtain ⟨rfl, rfl, rfl⟩ := h9
  change zW _ _ _ _ _ 4 [(0, .inr (.inr 56)), (1, .inl w)] [.inl (zb (0 ≤ w ∧ w < 33))] M
  refine z_if_ne 12 (zdec DX10_led 2 rfl) rfl (fun h4 => ?_) (fun h4 => ?_)
  ·
    have q4 := zb_ne0.mp h4
    refine z_aload_n 0 (zdec DX10_led 5 rfl) rfl rfl (by decide) ?_
    refine z_geti (ki := 25) 56 10 (zdec DX10_led 6 rfl) rfl shp56 rfl (by decide) rfl rfl fl_SixWallsModel_253 ?_
    refine z_if_ne 24 (zdec DX10_led 7 rfl) rfl (fun h16 => ?_) (fun h16 => ?_)
    ·
      refine z_aload_n 0 (zdec DX10_led 10 rfl) rfl rfl (by decide) ?_
      refine z_getr (rw1 := -66) (ki := 26) (r' := 72) 56 10 (zdec DX10_led 11 rfl) rfl rfl shp56 rfl (by decide) rfl rfl fl_SixWallsModel_56 (zPa hP 72 rfl) ?_
      refine z_iload_n 1 (zdec DX10_led 12 rfl) rfl rfl ?_
      refine z_iald 72 (zdec DX10_led 13 rfl) rfl shp72 ⟨by omega, by omega⟩ ?_
      exact z_iret (zdec DX10_led 14 rfl) rfl (⟨rfl, rfl, zri (by first | (rw [if_neg q4]; done) | (rw [if_pos q4, if_pos (by omega)]; done) | (rw [if_pos q4, if_neg (by omega)]; done))⟩)
    ·
      refine z_bipush (-5) (zdec DX10_led 8 rfl) (by decide) ?_
      refine z_goto 30 (zdec DX10_led 9 rfl) rfl ?_
      exact z_iret (zdec DX10_led 14 rfl) rfl (⟨rfl, rfl, zri (by first | (rw [if_neg q4]; done) | (rw [if_pos q4, if_pos (by omega)]; done) | (rw [if_pos q4, if_neg (by omega)]; done))⟩)
  ·
    have q4 : ¬ (0 ≤ w ∧ w < 33) := fun e => h4 (zb_ne0.mpr e)
    refine z_ldc (-2000000000) (zdec DX10_led 3 rfl) kc_SixWallsModel_165 rfl ⟨by decide, by decide⟩ ?_
    refine z_goto 30 (zdec DX10_led 4 rfl) rfl ?_
    exact z_iret (zdec DX10_led 14 rfl) rfl (⟨rfl, rfl, zri (by first | (rw [if_neg q4]; done) | (rw [if_pos q4, if_pos (by omega)]; done) | (rw [if_pos q4, if_neg (by omega)]; done))⟩)
set_option maxHeartbeats 4000000 in
theorem lp_X10_where_24 {Q : zPost} {M : zMm} (hP : zP M) (k : Int) {M16 : zMm} (x1 : zoD M M16) (x2 : zH (M16 68) (zWmR M k)) (hx70 : ∀ (b : Int), (b = zfo (fun best i => if M 64 i = 0 ∧ (best < 0 ∨ zWmR M k best < zWmR M k i) then i else best) (-2)  16) → zW mX10_where 52 Q (0, 0) zS0 70 [(2, .inl b)] [] M16) : ∀ (n : Nat) (b : Int) (i : Int), (16 - i).toNat < n → (0 ≤ i ∧ i ≤ 16 ∧ (-2 ≤ b ∧ b < 16) ∧ b = zfo (fun best i => if M 64 i = 0 ∧ (best < 0 ∨ zWmR M k best < zWmR M k i) then i else best) (-2)  i) → zW mX10_where 52 Q (0, 0) zS0 24 [(0, .inr (.inr 56)), (2, .inl b), (3, .inl i)] [] M16 := by
  intro n
  induction n with
  | zero => intro b i hn; exact absurd hn (Nat.not_lt_zero _)
  | succ n ih =>
    intro b i hn hI
    have e7 := congrFun (x1.r 64 (by omega)) i
    have e2 := x2 i hI.1
    have e3 := x2 b
    refine z_iload_n 2 (zdec DX10_where 15 rfl) rfl rfl ?_
    refine z_bipush 16 (zdec DX10_where 16 rfl) (by decide) ?_
    refine z_icmp_ge 70 (zdec DX10_where 17 rfl) rfl (fun h27 => ?_) (fun h27 => ?_)
    ·
      refine z_weak (L' := [(2, .inl b)]) (by simp) ?_
      exact hx70 b (by rw [hI.2.2.2, show i = 16 by omega])
    ·
      refine z_aload_n 0 (zdec DX10_where 18 rfl) rfl rfl (by decide) ?_
      refine z_getr (rw1 := -66) (ki := 10) (r' := 64) 56 10 (zdec DX10_where 19 rfl) rfl rfl shp56 rfl (by decide) rfl rfl fl_SixWallsModel_31 (zPa (x1.P hP) 64 rfl) ?_
      refine z_iload_n 2 (zdec DX10_where 20 rfl) rfl rfl ?_
      refine z_zald 64 (zdec DX10_where 21 rfl) rfl shp64 ⟨by omega, by omega⟩ (fun hz35 => ?_)
      refine z_if_ne 62 (zdec DX10_where 22 rfl) rfl (fun h36 => ?_) (fun h36 => ?_)
      ·
        refine z_iload_n 1 (zdec DX10_where 36 rfl) rfl rfl ?_
        refine z_istore_n (L' := [(0, .inr (.inr 56)), (2, .inl b), (3, .inl i)]) (zdec DX10_where 37 rfl) rfl rfl (by decide) ?_
        refine z_iinc (L' := [(0, .inr (.inr 56)), (2, .inl b), (3, .inl (i + 1))]) 2 (zdec DX10_where 38 rfl) rfl (by unfold z32; omega) rfl (by decide) ?_
        refine z_goto 24 (zdec DX10_where 39 rfl) rfl ?_
        exact ih b (i + 1) (by omega) ⟨by omega, by omega, by omega, (by rw [zfo_s _ _ hI.1, ← hI.2.2.2]; first | (rw [if_pos ⟨by omega, Or.inl (by omega)⟩]; done) | (rw [if_pos ⟨by omega, Or.inr (by rw [← e3 (by omega) (by omega), ← e2 (by omega)]; omega)⟩]; done) | (rw [if_neg (by omega)]; done) | (rw [if_neg (by rw [← e3 (by omega) (by omega), ← e2 (by omega)]; omega)]; done))⟩
      ·
        refine z_iload_n 1 (zdec DX10_where 23 rfl) rfl rfl ?_
        refine z_if_lt 58 (zdec DX10_where 24 rfl) rfl (fun h40 => ?_) (fun h40 => ?_)
        ·
          refine z_iload_n 2 (zdec DX10_where 34 rfl) rfl rfl ?_
          refine z_goto 63 (zdec DX10_where 35 rfl) rfl ?_
          refine z_istore_n (L' := [(0, .inr (.inr 56)), (2, .inl i), (3, .inl i)]) (zdec DX10_where 37 rfl) rfl rfl (by decide) ?_
          refine z_iinc (L' := [(0, .inr (.inr 56)), (2, .inl i), (3, .inl (i + 1))]) 2 (zdec DX10_where 38 rfl) rfl (by unfold z32; omega) rfl (by decide) ?_
          refine z_goto 24 (zdec DX10_where 39 rfl) rfl ?_
          exact ih i (i + 1) (by omega) ⟨by omega, by omega, by omega, (by rw [zfo_s _ _ hI.1, ← hI.2.2.2]; first | (rw [if_pos ⟨by omega, Or.inl (by omega)⟩]; done) | (rw [if_pos ⟨by omega, Or.inr (by rw [← e3 (by omega) (by omega), ← e2 (by omega)]; omega)⟩]; done) | (rw [if_neg (by omega)]; done) | (rw [if_neg (by rw [← e3 (by omega) (by omega), ← e2 (by omega)]; omega)]; done))⟩
        ·
          refine z_aload_n 0 (zdec DX10_where 25 rfl) rfl rfl (by decide) ?_
          refine z_getr (rw1 := -66) (ki := 21) (r' := 68) 56 10 (zdec DX10_where 26 rfl) rfl rfl shp56 rfl (by decide) rfl rfl fl_SixWallsModel_44 (zPa (x1.P hP) 68 rfl) ?_
          refine z_iload_n 2 (zdec DX10_where 27 rfl) rfl rfl ?_
          refine z_iald 68 (zdec DX10_where 28 rfl) rfl shp68 ⟨by omega, by omega⟩ ?_
          refine z_aload_n 0 (zdec DX10_where 29 rfl) rfl rfl (by decide) ?_
          refine z_getr (rw1 := -66) (ki := 21) (r' := 68) 56 10 (zdec DX10_where 30 rfl) rfl rfl shp56 rfl (by decide) rfl rfl fl_SixWallsModel_44 (zPa (x1.P hP) 68 rfl) ?_
          refine z_iload_n 1 (zdec DX10_where 31 rfl) rfl rfl ?_
          refine z_iald 68 (zdec DX10_where 32 rfl) rfl shp68 ⟨by omega, by omega⟩ ?_
          refine z_icmp_le 62 (zdec DX10_where 33 rfl) rfl (fun h55 => ?_) (fun h55 => ?_)
          ·
            refine z_iload_n 1 (zdec DX10_where 36 rfl) rfl rfl ?_
            refine z_istore_n (L' := [(0, .inr (.inr 56)), (2, .inl b), (3, .inl i)]) (zdec DX10_where 37 rfl) rfl rfl (by decide) ?_
            refine z_iinc (L' := [(0, .inr (.inr 56)), (2, .inl b), (3, .inl (i + 1))]) 2 (zdec DX10_where 38 rfl) rfl (by unfold z32; omega) rfl (by decide) ?_
            refine z_goto 24 (zdec DX10_where 39 rfl) rfl ?_
            exact ih b (i + 1) (by omega) ⟨by omega, by omega, by omega, (by rw [zfo_s _ _ hI.1, ← hI.2.2.2]; first | (rw [if_pos ⟨by omega, Or.inl (by omega)⟩]; done) | (rw [if_pos ⟨by omega, Or.inr (by rw [← e3 (by omega) (by omega), ← e2 (by omega)]; omega)⟩]; done) | (rw [if_neg (by omega)]; done) | (rw [if_neg (by rw [← e3 (by omega) (by omega), ← e2 (by omega)]; omega)]; done))⟩
          ·
            refine z_iload_n 2 (zdec DX10_where 34 rfl) rfl rfl ?_
            refine z_goto 63 (zdec DX10_where 35 rfl) rfl ?_
            refine z_istore_n (L' := [(0, .inr (.inr 56)), (2, .inl i), (3, .inl i)]) (zdec DX10_where 37 rfl) rfl rfl (by decide) ?_
            refine z_iinc (L' := [(0, .inr (.inr 56)), (2, .inl i), (3, .inl (i + 1))]) 2 (zdec DX10_where 38 rfl) rfl (by unfold z32; omega) rfl (by decide) ?_
            refine z_goto 24 (zdec DX10_where 39 rfl) rfl ?_
            exact ih i (i + 1) (by omega) ⟨by omega, by omega, by omega, (by rw [zfo_s _ _ hI.1, ← hI.2.2.2]; first | (rw [if_pos ⟨by omega, Or.inl (by omega)⟩]; done) | (rw [if_pos ⟨by omega, Or.inr (by rw [← e3 (by omega) (by omega), ← e2 (by omega)]; omega)⟩]; done) | (rw [if_neg (by omega)]; done) | (rw [if_neg (by rw [← e3 (by omega) (by omega), ← e2 (by omega)]; omega)]; done))⟩
set_option maxHeartbeats 4000000 in
theorem cX10_where {M : zMm} (hP : zP M) (hg : zGr M) (hR : zRr M) (hT : zTR M) (k : Int) : zW mX10_where 52 (fun rv S' M' => S' = zS0 ∧ zoD M M' ∧ rv = some (.inl (if 0 ≤ k ∧ k < 31 then zfo (fun best i => if M 64 i = 0 ∧ (best < 0 ∨ zWmR M k best < zWmR M k i) then i else best) (-2)  16 else -1))) (0, 0) zS0 0 (zargs 0 [.inr (.inr 56), .inl k]) [] M := by
  change zW _ _ _ _ _ 0 [(0, .inr (.inr 56)), (1, .inl k)] [] M
  refine z_iload_n 1 (zdec DX10_where 0 rfl) rfl rfl ?_
  refine z_i2l (zdec DX10_where 1 rfl) ?_
  refine z_lconst 0 (zdec DX10_where 2 rfl) rfl ?_
  refine z_ldc2 30 (zdec DX10_where 3 rfl) kl_SixWallsModel_242 rfl ⟨by decide, by decide⟩ ?_
  refine z_invs mX10_within [.inr (.inl k), .inr (.inl 0), .inr (.inl 30)] (zdec DX10_where 4 rfl) (Or.inl ml_SixWallsModel_112) okX10_within rfl rfl (Nat.le_of_ble_eq_true rfl) (Nat.le_of_ble_eq_true rfl) (b' := (0, 0)) ⟨Nat.le_refl 0, Nat.le_refl 0⟩ (Nat.le_of_ble_eq_true rfl) (cX10_within k 0 30) (fun rv9 S9 M6 h9 => ?_)
  obtain ⟨rfl, rfl, rfl⟩ := h9
  change zW _ _ _ _ _ 9 [(0, .inr (.inr 56)), (1, .inl k)] [.inl (zb (0 ≤ k ∧ k ≤ 30))] M
  refine z_if_ne 14 (zdec DX10_where 5 rfl) rfl (fun h9 => ?_) (fun h9 => ?_)
  ·
    have q9 := zb_ne0.mp h9
    refine z_aload_n 0 (zdec DX10_where 8 rfl) rfl rfl (by decide) ?_
    refine z_iload_n 1 (zdec DX10_where 9 rfl) rfl rfl ?_
    refine z_inv mX10_winter 56 10 [.inl k] (zdec DX10_where 10 rfl) ml_SixWallsModel_244 okX10_winter rfl shp56 rfl rfl rfl rfl (Nat.le_of_ble_eq_true rfl) (Nat.le_of_ble_eq_true rfl) (b' := (0, 0)) ⟨Nat.le_refl 0, Nat.le_refl 0⟩ (Nat.le_of_ble_eq_true rfl) (cX10_winter hP hg hR hT k ⟨by omega, by omega⟩ zoD.rf) (fun rv9 S9 M16 h9 => ?_)
    obtain ⟨rfl, rfl, x1, x2, x3, x4⟩ := h9
    change zW _ _ _ _ _ 19 [(0, .inr (.inr 56)), (1, .inl k)] [] M16
    refine z_bipush (-2) (zdec DX10_where 11 rfl) (by decide) ?_
    refine z_istore_n (L' := [(0, .inr (.inr 56)), (1, .inl k), (2, .inl (-2))]) (zdec DX10_where 12 rfl) rfl rfl (by decide) ?_
    refine z_iconst 0 (zdec DX10_where 13 rfl) (by decide) ?_
    refine z_istore_n (L' := [(0, .inr (.inr 56)), (1, .inl k), (2, .inl (-2)), (3, .inl 0)]) (zdec DX10_where 14 rfl) rfl rfl (by decide) ?_
    refine z_weak (L' := [(0, .inr (.inr 56)), (2, .inl (-2)), (3, .inl 0)]) (by simp) ?_
    refine lp_X10_where_24 hP k x1 x2 (hx70 := fun b hx => ?_) _ (-2) 0 (Nat.lt_succ_self _) ⟨by omega, by omega, by omega, rfl⟩
    refine z_iload_n 0 (zdec DX10_where 40 rfl) rfl rfl ?_
    exact z_iret (zdec DX10_where 41 rfl) rfl (⟨rfl, x1, zri (by rw [if_pos (by omega)]; exact hx)⟩)
  ·
    have q9 : ¬ (0 ≤ k ∧ k ≤ 30) := fun e => h9 (zb_ne0.mpr e)
    refine z_iconst (-1) (zdec DX10_where 6 rfl) (by decide) ?_
    exact z_iret (zdec DX10_where 7 rfl) rfl (⟨rfl, zoD.rf, zri (by rw [if_neg (by omega)])⟩)
def zofWR (M : zMm) (w k : Int) : Int := if k = 10 then M 57 (32 + w) else if k = 11 then M 57 (65 + w) else if k = 12 then M 57 (98 + w) else if k = 13 then 100 * zlow w + zhigh w else if k = 14 then zagree (zvw M) w (M 57 (32 + w)) else zflR M (M 63) w
def zoX (M M2 : zMm) : Prop := (∀ c : Int, c ≠ 56 → c < 67 ∨ (71 < c ∧ c ≠ 73) → M2 c = M c) ∧ ∀ j : Int, j < 15 ∨ 19 < j → M2 56 j = M 56 j
theorem zoD.X {M M2 : zMm} (h : zoD M M2) : zoX M M2 := ⟨fun c a b => h.1 c a (by omega) (by omega) (by omega) (by omega) (by omega), h.2⟩
theorem zonly.X {M M2 : zMm} (h : zonly 73 M M2) : zoX M M2 := ⟨fun c a b => h c (by omega), fun j _ => congrFun (h 56 (by decide)) j⟩
def zofN (M : zMm) (n k : Int) : Int := if 0 ≤ k ∧ k ≤ 5 then (if 0 ≤ n ∧ n < 16 then zofR M n k else -2000000000) else if 10 ≤ k ∧ k ≤ 15 then (if 0 ≤ n ∧ n < 33 then zofWR M n k else -2000000000) else if n ≠ 0 then -2000000000 else if k = 20 then M 57 131 else if k = 21 then M 57 132 else -2000000000
set_option maxHeartbeats 4000000 in
theorem cX10_ofWall {M : zMm} (hP : zP M) (hg : zGr M) (hR : zRr M) (hT : zTR M) (w k : Int) (hw : 0 ≤ w ∧ w < 33) (hk : 10 ≤ k ∧ k ≤ 15) : zW mX10_ofWall 50 (fun rv S' M' => S' = zS0 ∧ zoD M M' ∧ rv = some (.inl (zofWR M w k))) (0, 0) zS0 0 (zargs 0 [.inr (.inr 56), .inl w, .inl k]) [] M := by
  change zW _ _ _ _ _ 0 [(0, .inr (.inr 56)), (1, .inl w), (2, .inl k)] [] M
  have lb := zlow_b w
  have lh := zhigh_b w
  refine z_iload_n 2 (zdec DX10_ofWall 0 rfl) rfl rfl ?_
  refine z_tsw (zdec DX10_ofWall 1 rfl) (by decide) (fun j off hj he => ?_) (fun hd => ?_)
  · match j, hj, he with
    | 0, hj, he =>
      cases hj
      refine ⟨36, rfl, ?_⟩
      have h1 : k = 10 := by simpa using he
      refine z_aload_n 0 (zdec DX10_ofWall 2 rfl) rfl rfl (by decide) ?_
      refine z_getr (rw1 := -66) (ki := 0) (r' := 57) 56 10 (zdec DX10_ofWall 3 rfl) rfl rfl shp56 rfl (by decide) rfl rfl fl_SixWallsModel_9 (zPa hP 57 rfl) ?_
      refine z_bipush 32 (zdec DX10_ofWall 4 rfl) (by decide) ?_
      refine z_iload_n 1 (zdec DX10_ofWall 5 rfl) rfl rfl ?_
      refine z_iadd (zdec DX10_ofWall 6 rfl) (by unfold z32; omega) ?_
      refine z_iald 57 (zdec DX10_ofWall 7 rfl) rfl shp57 ⟨by omega, by omega⟩ ?_
      exact z_iret (zdec DX10_ofWall 8 rfl) rfl (⟨rfl, zoD.rf, zri (by unfold zofWR; first | (rw [if_pos (by omega)]; done) | (rw [if_neg (by omega), if_pos (by omega)]; done) | (rw [if_neg (by omega), if_neg (by omega), if_pos (by omega)]; done) | (rw [if_neg (by omega), if_neg (by omega), if_neg (by omega), if_pos (by omega)]; done) | (rw [if_neg (by omega), if_neg (by omega), if_neg (by omega), if_neg (by omega), if_pos (by omega)]; done) | (rw [if_neg (by omega), if_neg (by omega), if_neg (by omega), if_neg (by omega), if_neg (by omega)]; done))⟩)
    | 1, hj, he =>
      cases hj
      refine ⟨46, rfl, ?_⟩
      have h1 : k = 11 := by simpa using he
      refine z_aload_n 0 (zdec DX10_ofWall 9 rfl) rfl rfl (by decide) ?_
      refine z_getr (rw1 := -66) (ki := 0) (r' := 57) 56 10 (zdec DX10_ofWall 10 rfl) rfl rfl shp56 rfl (by decide) rfl rfl fl_SixWallsModel_9 (zPa hP 57 rfl) ?_
      refine z_bipush 65 (zdec DX10_ofWall 11 rfl) (by decide) ?_
      refine z_iload_n 1 (zdec DX10_ofWall 12 rfl) rfl rfl ?_
      refine z_iadd (zdec DX10_ofWall 13 rfl) (by unfold z32; omega) ?_
      refine z_iald 57 (zdec DX10_ofWall 14 rfl) rfl shp57 ⟨by omega, by omega⟩ ?_
      exact z_iret (zdec DX10_ofWall 15 rfl) rfl (⟨rfl, zoD.rf, zri (by unfold zofWR; first | (rw [if_pos (by omega)]; done) | (rw [if_neg (by omega), if_pos (by omega)]; done) | (rw [if_neg (by omega), if_neg (by omega), if_pos (by omega)]; done) | (rw [if_neg (by omega), if_neg (by omega), if_neg (by omega), if_pos (by omega)]; done) | (rw [if_neg (by omega), if_neg (by omega), if_neg (by omega), if_neg (by omega), if_pos (by omega)]; done) | (rw [if_neg (by omega), if_neg (by omega), if_neg (by omega), if_neg (by omega), if_neg (by omega)]; done))⟩)
    | 2, hj, he =>
      cases hj
      refine ⟨56, rfl, ?_⟩
      have h1 : k = 12 := by simpa using he
      refine z_aload_n 0 (zdec DX10_ofWall 16 rfl) rfl rfl (by decide) ?_
      refine z_getr (rw1 := -66) (ki := 0) (r' := 57) 56 10 (zdec DX10_ofWall 17 rfl) rfl rfl shp56 rfl (by decide) rfl rfl fl_SixWallsModel_9 (zPa hP 57 rfl) ?_
      refine z_bipush 98 (zdec DX10_ofWall 18 rfl) (by decide) ?_
      refine z_iload_n 1 (zdec DX10_ofWall 19 rfl) rfl rfl ?_
      refine z_iadd (zdec DX10_ofWall 20 rfl) (by unfold z32; omega) ?_
      refine z_iald 57 (zdec DX10_ofWall 21 rfl) rfl shp57 ⟨by omega, by omega⟩ ?_
      exact z_iret (zdec DX10_ofWall 22 rfl) rfl (⟨rfl, zoD.rf, zri (by unfold zofWR; first | (rw [if_pos (by omega)]; done) | (rw [if_neg (by omega), if_pos (by omega)]; done) | (rw [if_neg (by omega), if_neg (by omega), if_pos (by omega)]; done) | (rw [if_neg (by omega), if_neg (by omega), if_neg (by omega), if_pos (by omega)]; done) | (rw [if_neg (by omega), if_neg (by omega), if_neg (by omega), if_neg (by omega), if_pos (by omega)]; done) | (rw [if_neg (by omega), if_neg (by omega), if_neg (by omega), if_neg (by omega), if_neg (by omega)]; done))⟩)
    | 3, hj, he =>
      cases hj
      refine ⟨66, rfl, ?_⟩
      have h1 : k = 13 := by simpa using he
      refine z_bipush 100 (zdec DX10_ofWall 23 rfl) (by decide) ?_
      refine z_aload_n 0 (zdec DX10_ofWall 24 rfl) rfl rfl (by decide) ?_
      refine z_getr (rw1 := -66) (ki := 7) (r' := 61) 56 10 (zdec DX10_ofWall 25 rfl) rfl rfl shp56 rfl (by decide) rfl rfl fl_SixWallsModel_22 (zPa hP 61 rfl) ?_
      refine z_iload_n 1 (zdec DX10_ofWall 26 rfl) rfl rfl ?_
      refine z_iald 61 (zdec DX10_ofWall 27 rfl) rfl shp61 ⟨by omega, by omega⟩ ?_
      rw [(hg w (by omega) (by omega)).1]
      refine z_imul (zdec DX10_ofWall 28 rfl) (by unfold z32; omega) ?_
      refine z_aload_n 0 (zdec DX10_ofWall 29 rfl) rfl rfl (by decide) ?_
      refine z_getr (rw1 := -66) (ki := 8) (r' := 62) 56 10 (zdec DX10_ofWall 30 rfl) rfl rfl shp56 rfl (by decide) rfl rfl fl_SixWallsModel_25 (zPa hP 62 rfl) ?_
      refine z_iload_n 1 (zdec DX10_ofWall 31 rfl) rfl rfl ?_
      refine z_iald 62 (zdec DX10_ofWall 32 rfl) rfl shp62 ⟨by omega, by omega⟩ ?_
      rw [(hg w (by omega) (by omega)).2]
      refine z_iadd (zdec DX10_ofWall 33 rfl) (by unfold z32; omega) ?_
      exact z_iret (zdec DX10_ofWall 34 rfl) rfl (⟨rfl, zoD.rf, zri (by unfold zofWR; first | (rw [if_pos (by omega)]; done) | (rw [if_neg (by omega), if_pos (by omega)]; done) | (rw [if_neg (by omega), if_neg (by omega), if_pos (by omega)]; done) | (rw [if_neg (by omega), if_neg (by omega), if_neg (by omega), if_pos (by omega)]; done) | (rw [if_neg (by omega), if_neg (by omega), if_neg (by omega), if_neg (by omega), if_pos (by omega)]; done) | (rw [if_neg (by omega), if_neg (by omega), if_neg (by omega), if_neg (by omega), if_neg (by omega)]; done))⟩)
    | 4, hj, he =>
      cases hj
      refine ⟨83, rfl, ?_⟩
      have h1 : k = 14 := by simpa using he
      refine z_aload_n 0 (zdec DX10_ofWall 35 rfl) rfl rfl (by decide) ?_
      refine z_iload_n 1 (zdec DX10_ofWall 36 rfl) rfl rfl ?_
      refine z_inv mX10_agreedOf 56 10 [.inl w] (zdec DX10_ofWall 37 rfl) ml_SixWallsModel_153 okX10_agreedOf rfl shp56 rfl rfl rfl rfl (Nat.le_of_ble_eq_true rfl) (Nat.le_of_ble_eq_true rfl) (b' := (0, 0)) ⟨Nat.le_refl 0, Nat.le_refl 0⟩ (Nat.le_of_ble_eq_true rfl) (cX10_agreedOf hP hg hR w hw) (fun rv9 S9 M85 h9 => ?_)
      obtain ⟨rfl, rfl, rfl⟩ := h9
      change zW _ _ _ _ _ 88 [(0, .inr (.inr 56)), (1, .inl w), (2, .inl k)] [.inl (zagree (zvw M) w (M 57 (32 + w)))] M
      exact z_iret (zdec DX10_ofWall 38 rfl) rfl (⟨rfl, zoD.rf, zri (by unfold zofWR; first | (rw [if_pos (by omega)]; done) | (rw [if_neg (by omega), if_pos (by omega)]; done) | (rw [if_neg (by omega), if_neg (by omega), if_pos (by omega)]; done) | (rw [if_neg (by omega), if_neg (by omega), if_neg (by omega), if_pos (by omega)]; done) | (rw [if_neg (by omega), if_neg (by omega), if_neg (by omega), if_neg (by omega), if_pos (by omega)]; done) | (rw [if_neg (by omega), if_neg (by omega), if_neg (by omega), if_neg (by omega), if_neg (by omega)]; done))⟩)
    | j + 5, hj, he => exact absurd (List.getElem?_eq_some_iff.mp hj).1 (by simp)
  · refine ⟨89, rfl, ?_⟩
    refine z_aload_n 0 (zdec DX10_ofWall 39 rfl) rfl rfl (by decide) ?_
    refine z_inv mX10_begins1 56 10 [] (zdec DX10_ofWall 40 rfl) ml_SixWallsModel_156 okX10_begins1 rfl shp56 rfl rfl rfl rfl (Nat.le_of_ble_eq_true rfl) (Nat.le_of_ble_eq_true rfl) (b' := (0, 0)) ⟨Nat.le_refl 0, Nat.le_refl 0⟩ (Nat.le_of_ble_eq_true rfl) (cX10_begins1 hP hg) (fun rv9 S9 M90 h9 => ?_)
    obtain ⟨rfl, rfl, b1, b2, b3⟩ := h9
    change zW _ _ _ _ _ 93 [(0, .inr (.inr 56)), (1, .inl w), (2, .inl k)] [] M90
    refine z_aload_n 0 (zdec DX10_ofWall 41 rfl) rfl rfl (by decide) ?_
    refine z_iload_n 1 (zdec DX10_ofWall 42 rfl) rfl rfl ?_
    refine z_inv mX10_flowOf 56 10 [.inl w] (zdec DX10_ofWall 43 rfl) ml_SixWallsModel_159 okX10_flowOf rfl shp56 rfl rfl rfl rfl (Nat.le_of_ble_eq_true rfl) (Nat.le_of_ble_eq_true rfl) (b' := (0, 0)) ⟨Nat.le_refl 0, Nat.le_refl 0⟩ (Nat.le_of_ble_eq_true rfl) (cX10_flowOf (b1.P hP) (b1.g hg) (b1.R hR) (b1.T hT) (zbWc b2 (zb63 hR)) w hw) (fun rv9 S9 M95 h9 => ?_)
    obtain ⟨rfl, rfl, oh⟩ := h9
    change zW _ _ _ _ _ 98 [(0, .inr (.inr 56)), (1, .inl w), (2, .inl k)] [.inl (zflR M90 (M90 68) w)] M95
    exact z_iret (zdec DX10_ofWall 44 rfl) rfl (⟨rfl, b1.on oh, zri (by rw [zflR_H b1 b2]; unfold zofWR; rw [if_neg (by omega), if_neg (by omega), if_neg (by omega), if_neg (by omega), if_neg (by omega)])⟩)
set_option maxHeartbeats 4000000 in
theorem cX10_of {M : zMm} (hP : zP M) (hg : zGr M) (hR : zRr M) (hT : zTR M) (n0 k : Int) : zW mX10_of 51 (fun rv S' M' => S' = zS0 ∧ zoX M M' ∧ rv = some (.inl (zofN M n0 k))) (0, 0) zS0 0 (zargs 0 [.inr (.inr 56), .inl n0, .inl k]) [] M := by
  change zW _ _ _ _ _ 0 [(0, .inr (.inr 56)), (1, .inl n0), (2, .inl k)] [] M
  refine z_iload_n 2 (zdec DX10_of 0 rfl) rfl rfl ?_
  refine z_i2l (zdec DX10_of 1 rfl) ?_
  refine z_lconst 0 (zdec DX10_of 2 rfl) rfl ?_
  refine z_ldc2 5 (zdec DX10_of 3 rfl) kl_SixWallsModel_137 rfl ⟨by decide, by decide⟩ ?_
  refine z_invs mX10_within [.inr (.inl k), .inr (.inl 0), .inr (.inl 5)] (zdec DX10_of 4 rfl) (Or.inl ml_SixWallsModel_112) okX10_within rfl rfl (Nat.le_of_ble_eq_true rfl) (Nat.le_of_ble_eq_true rfl) (b' := (0, 0)) ⟨Nat.le_refl 0, Nat.le_refl 0⟩ (Nat.le_of_ble_eq_true rfl) (cX10_within k 0 5) (fun rv9 S9 M6 h9 => ?_)
  obtain ⟨rfl, rfl, rfl⟩ := h9
  change zW _ _ _ _ _ 9 [(0, .inr (.inr 56)), (1, .inl n0), (2, .inl k)] [.inl (zb (0 ≤ k ∧ k ≤ 5))] M
  refine z_if_eq 31 (zdec DX10_of 5 rfl) rfl (fun h9 => ?_) (fun h9 => ?_)
  ·
    have q9 := zb_eq0.mp h9
    refine z_iload_n 2 (zdec DX10_of 16 rfl) rfl rfl ?_
    refine z_i2l (zdec DX10_of 17 rfl) ?_
    refine z_ldc2 10 (zdec DX10_of 18 rfl) kl_SixWallsModel_166 rfl ⟨by decide, by decide⟩ ?_
    refine z_ldc2 15 (zdec DX10_of 19 rfl) kl_SixWallsModel_110 rfl ⟨by decide, by decide⟩ ?_
    refine z_invs mX10_within [.inr (.inl k), .inr (.inl 10), .inr (.inl 15)] (zdec DX10_of 20 rfl) (Or.inl ml_SixWallsModel_112) okX10_within rfl rfl (Nat.le_of_ble_eq_true rfl) (Nat.le_of_ble_eq_true rfl) (b' := (0, 0)) ⟨Nat.le_refl 0, Nat.le_refl 0⟩ (Nat.le_of_ble_eq_true rfl) (cX10_within k 10 15) (fun rv9 S9 M39 h9 => ?_)
    obtain ⟨rfl, rfl, rfl⟩ := h9
    change zW _ _ _ _ _ 42 [(0, .inr (.inr 56)), (1, .inl n0), (2, .inl k)] [.inl (zb (10 ≤ k ∧ k ≤ 15))] M
    refine z_if_eq 64 (zdec DX10_of 21 rfl) rfl (fun h42 => ?_) (fun h42 => ?_)
    ·
      have q42 := zb_eq0.mp h42
      refine z_iload_n 1 (zdec DX10_of 32 rfl) rfl rfl ?_
      refine z_if_ne 98 (zdec DX10_of 33 rfl) rfl (fun h65 => ?_) (fun h65 => ?_)
      ·
        refine z_ldc (-2000000000) (zdec DX10_of 49 rfl) kc_SixWallsModel_165 rfl ⟨by decide, by decide⟩ ?_
        exact z_iret (zdec DX10_of 50 rfl) rfl (⟨rfl, zonly.X zonly.rf, zri (by unfold zofN; rw [if_neg q9, if_neg q42]; first | (rw [if_pos (by omega)]; done) | (rw [if_neg (by omega), if_neg (by omega), if_neg (by omega)]; done) | (by_cases e : k = 20; (subst e; rw [if_neg (by omega), if_pos rfl]; rfl); (have e2 : k = 21 := (by omega); subst e2; rw [if_neg (by omega), if_neg (by omega), if_pos rfl]; rfl)))⟩)
      ·
        refine z_iload_n 2 (zdec DX10_of 34 rfl) rfl rfl ?_
        refine z_i2l (zdec DX10_of 35 rfl) ?_
        refine z_ldc2 20 (zdec DX10_of 36 rfl) kl_SixWallsModel_171 rfl ⟨by decide, by decide⟩ ?_
        refine z_ldc2 21 (zdec DX10_of 37 rfl) kl_SixWallsModel_173 rfl ⟨by decide, by decide⟩ ?_
        refine z_invs mX10_within [.inr (.inl k), .inr (.inl 20), .inr (.inl 21)] (zdec DX10_of 38 rfl) (Or.inl ml_SixWallsModel_112) okX10_within rfl rfl (Nat.le_of_ble_eq_true rfl) (Nat.le_of_ble_eq_true rfl) (b' := (0, 0)) ⟨Nat.le_refl 0, Nat.le_refl 0⟩ (Nat.le_of_ble_eq_true rfl) (cX10_within k 20 21) (fun rv9 S9 M76 h9 => ?_)
        obtain ⟨rfl, rfl, rfl⟩ := h9
        change zW _ _ _ _ _ 79 [(0, .inr (.inr 56)), (1, .inl n0), (2, .inl k)] [.inl (zb (20 ≤ k ∧ k ≤ 21))] M
        refine z_if_eq 98 (zdec DX10_of 39 rfl) rfl (fun h79 => ?_) (fun h79 => ?_)
        ·
          have q79 := zb_eq0.mp h79
          refine z_ldc (-2000000000) (zdec DX10_of 49 rfl) kc_SixWallsModel_165 rfl ⟨by decide, by decide⟩ ?_
          exact z_iret (zdec DX10_of 50 rfl) rfl (⟨rfl, zonly.X zonly.rf, zri (by unfold zofN; rw [if_neg q9, if_neg q42]; first | (rw [if_pos (by omega)]; done) | (rw [if_neg (by omega), if_neg (by omega), if_neg (by omega)]; done) | (by_cases e : k = 20; (subst e; rw [if_neg (by omega), if_pos rfl]; rfl); (have e2 : k = 21 := (by omega); subst e2; rw [if_neg (by omega), if_neg (by omega), if_pos rfl]; rfl)))⟩)
        ·
          have q79 := zb_ne0.mp h79
          refine z_aload_n 0 (zdec DX10_of 40 rfl) rfl rfl (by decide) ?_
          refine z_getr (rw1 := -66) (ki := 0) (r' := 57) 56 10 (zdec DX10_of 41 rfl) rfl rfl shp56 rfl (by decide) rfl rfl fl_SixWallsModel_9 (zPa hP 57 rfl) ?_
          refine z_sipush 131 (zdec DX10_of 42 rfl) (by decide) ?_
          refine z_iload_n 2 (zdec DX10_of 43 rfl) rfl rfl ?_
          refine z_iadd (zdec DX10_of 44 rfl) (by unfold z32; omega) ?_
          refine z_bipush 20 (zdec DX10_of 45 rfl) (by decide) ?_
          refine z_isub (zdec DX10_of 46 rfl) (by unfold z32; omega) ?_
          refine z_iald 57 (zdec DX10_of 47 rfl) rfl shp57 ⟨by omega, by omega⟩ ?_
          refine z_goto 100 (zdec DX10_of 48 rfl) rfl ?_
          exact z_iret (zdec DX10_of 50 rfl) rfl (⟨rfl, zonly.X zonly.rf, zri (by unfold zofN; rw [if_neg q9, if_neg q42]; first | (rw [if_pos (by omega)]; done) | (rw [if_neg (by omega), if_neg (by omega), if_neg (by omega)]; done) | (by_cases e : k = 20; (subst e; rw [if_neg (by omega), if_pos rfl]; rfl); (have e2 : k = 21 := (by omega); subst e2; rw [if_neg (by omega), if_neg (by omega), if_pos rfl]; rfl)))⟩)
    ·
      have q42 := zb_ne0.mp h42
      refine z_iload_n 1 (zdec DX10_of 22 rfl) rfl rfl ?_
      refine z_invs mX10_isWall [.inl n0] (zdec DX10_of 23 rfl) (Or.inl ml_SixWallsModel_134) okX10_isWall rfl rfl (Nat.le_of_ble_eq_true rfl) (Nat.le_of_ble_eq_true rfl) (b' := (0, 0)) ⟨Nat.le_refl 0, Nat.le_refl 0⟩ (Nat.le_of_ble_eq_true rfl) (cX10_isWall n0) (fun rv9 S9 M46 h9 => ?_)
      obtain ⟨rfl, rfl, rfl⟩ := h9
      change zW _ _ _ _ _ 49 [(0, .inr (.inr 56)), (1, .inl n0), (2, .inl k)] [.inl (zb (0 ≤ n0 ∧ n0 < 33))] M
      refine z_if_eq 61 (zdec DX10_of 24 rfl) rfl (fun h49 => ?_) (fun h49 => ?_)
      ·
        have q49 := zb_eq0.mp h49
        refine z_ldc (-2000000000) (zdec DX10_of 30 rfl) kc_SixWallsModel_165 rfl ⟨by decide, by decide⟩ ?_
        exact z_iret (zdec DX10_of 31 rfl) rfl (by first | exact ⟨rfl, oh.X, zri (by unfold zofN; rw [if_neg q9, if_pos q42, if_pos q49])⟩ | exact ⟨rfl, zonly.X zonly.rf, zri (by unfold zofN; rw [if_neg q9, if_pos q42, if_neg q49])⟩)
      ·
        have q49 := zb_ne0.mp h49
        refine z_aload_n 0 (zdec DX10_of 25 rfl) rfl rfl (by decide) ?_
        refine z_iload_n 1 (zdec DX10_of 26 rfl) rfl rfl ?_
        refine z_iload_n 2 (zdec DX10_of 27 rfl) rfl rfl ?_
        refine z_inv mX10_ofWall 56 10 [.inl n0, .inl k] (zdec DX10_of 28 rfl) ml_SixWallsModel_168 okX10_ofWall rfl shp56 rfl rfl rfl rfl (Nat.le_of_ble_eq_true rfl) (Nat.le_of_ble_eq_true rfl) (b' := (0, 0)) ⟨Nat.le_refl 0, Nat.le_refl 0⟩ (Nat.le_of_ble_eq_true rfl) (cX10_ofWall hP hg hR hT n0 k q49 q42) (fun rv9 S9 M55 h9 => ?_)
        obtain ⟨rfl, oh, rfl⟩ := h9
        change zW _ _ _ _ _ 58 [(0, .inr (.inr 56)), (1, .inl n0), (2, .inl k)] [.inl (zofWR M n0 k)] M55
        refine z_goto 63 (zdec DX10_of 29 rfl) rfl ?_
        exact z_iret (zdec DX10_of 31 rfl) rfl (by first | exact ⟨rfl, oh.X, zri (by unfold zofN; rw [if_neg q9, if_pos q42, if_pos q49])⟩ | exact ⟨rfl, zonly.X zonly.rf, zri (by unfold zofN; rw [if_neg q9, if_pos q42, if_neg q49])⟩)
  ·
    have q9 := zb_ne0.mp h9
    refine z_iload_n 1 (zdec DX10_of 6 rfl) rfl rfl ?_
    refine z_invs mX10_isHouse [.inl n0] (zdec DX10_of 7 rfl) (Or.inl ml_SixWallsModel_118) okX10_isHouse rfl rfl (Nat.le_of_ble_eq_true rfl) (Nat.le_of_ble_eq_true rfl) (b' := (0, 0)) ⟨Nat.le_refl 0, Nat.le_refl 0⟩ (Nat.le_of_ble_eq_true rfl) (cX10_isHouse n0) (fun rv9 S9 M13 h9 => ?_)
    obtain ⟨rfl, rfl, rfl⟩ := h9
    change zW _ _ _ _ _ 16 [(0, .inr (.inr 56)), (1, .inl n0), (2, .inl k)] [.inl (zb (0 ≤ n0 ∧ n0 < 16))] M
    refine z_if_eq 28 (zdec DX10_of 8 rfl) rfl (fun h16 => ?_) (fun h16 => ?_)
    ·
      have q16 := zb_eq0.mp h16
      refine z_ldc (-2000000000) (zdec DX10_of 14 rfl) kc_SixWallsModel_165 rfl ⟨by decide, by decide⟩ ?_
      exact z_iret (zdec DX10_of 15 rfl) rfl (by first | exact ⟨rfl, oh.X, zri (by unfold zofN; rw [if_pos q9, if_pos q16])⟩ | exact ⟨rfl, zonly.X zonly.rf, zri (by unfold zofN; rw [if_pos q9, if_neg q16])⟩)
    ·
      have q16 := zb_ne0.mp h16
      refine z_aload_n 0 (zdec DX10_of 9 rfl) rfl rfl (by decide) ?_
      refine z_iload_n 1 (zdec DX10_of 10 rfl) rfl rfl ?_
      refine z_iload_n 2 (zdec DX10_of 11 rfl) rfl rfl ?_
      refine z_inv mX10_ofHouse 56 10 [.inl n0, .inl k] (zdec DX10_of 12 rfl) ml_SixWallsModel_162 okX10_ofHouse rfl shp56 rfl rfl rfl rfl (Nat.le_of_ble_eq_true rfl) (Nat.le_of_ble_eq_true rfl) (b' := (0, 0)) ⟨Nat.le_refl 0, Nat.le_refl 0⟩ (Nat.le_of_ble_eq_true rfl) (cX10_ofHouse hP hg hR n0 k q16 q9) (fun rv9 S9 M22 h9 => ?_)
      obtain ⟨rfl, oh, rfl⟩ := h9
      change zW _ _ _ _ _ 25 [(0, .inr (.inr 56)), (1, .inl n0), (2, .inl k)] [.inl (zofR M n0 k)] M22
      refine z_goto 30 (zdec DX10_of 13 rfl) rfl ?_
      exact z_iret (zdec DX10_of 15 rfl) rfl (by first | exact ⟨rfl, oh.X, zri (by unfold zofN; rw [if_pos q9, if_pos q16])⟩ | exact ⟨rfl, zonly.X zonly.rf, zri (by unfold zofN; rw [if_pos q9, if_neg q16])⟩)
