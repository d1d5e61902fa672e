/-! contracts of Winter: days -/
def zdN (s : zMm) (q : Int) (H T : Int → Int) : Nat → (Int → Int)
  | 0 => T
  | n + 1 => zday s q H (zdN s q H T n)
theorem zflow_H {s : zMm} {q : Int} {T T' : Int → Int} (h : zH T T') : zflow s q T = zflow s q T' := by
  funext w
  have lb := zlow_b w
  have lh := zhigh_b w
  unfold zflow
  rw [h _ lb.1 lb.2, h _ lh.1 lh.2]
theorem zgn_H {s : zMm} {q : Int} {T T' H H' : Int → Int} (h : zH T T') (hh : zH H H') : ∀ n : Nat, zH (zfold (zgn1 s q T) (zgn0 s H) n) (zfold (zgn1 s q T') (zgn0 s H') n) := by
  have e : zgn1 s q T = zgn1 s q T' := by
    funext G w
    unfold zgn1
    rw [zflow_H h]
  rw [e]
  intro n
  induction n with
  | zero =>
    intro k h0 h1
    show zgn0 s H k = zgn0 s H' k
    unfold zgn0
    rw [hh k h0 h1]
  | succ n ih => exact zgn1_H ih n
theorem zday_H {s : zMm} {q : Int} {T T' H H' : Int → Int} (h : zH T T') (hh : zH H H') : zH (zday s q H T) (zday s q H' T') := by
  intro k h0 h1
  have := zgn_H (s := s) (q := q) h hh 33 k h0 h1
  unfold zday
  rw [h k h0 h1, show zgn s q T H 33 k = zgn s q T' H' 33 k from this]
theorem zH.tr {f g k : Int → Int} (h : zH f g) (h2 : zH g k) : zH f k := fun i h0 h1 => (h i h0 h1).trans (h2 i h0 h1)
theorem zH.sy {f g : Int → Int} (h : zH f g) : zH g f := fun i h0 h1 => (h i h0 h1).symm
theorem zH.rf {f : Int → Int} : zH f f := fun _ _ _ => rfl
theorem zdN_H {s : zMm} {q : Int} {T T' H H' : Int → Int} (h : zH T T') (hh : zH H H') : ∀ n : Nat, zH (zdN s q H T n) (zdN s q H' T' n) := by
  intro n
  induction n with
  | zero => exact h
  | succ n ih => exact zday_H ih hh
theorem zdN_b {s : zMm} {q : Int} {H T : Int → Int} (h : zbW T) : ∀ n : Nat, zbW (zdN s q H T n) := by
  intro n
  induction n with
  | zero => exact h
  | succ n ih => exact zbW.day
theorem zdN_st {s : zMm} {q : Int} {H T : Int → Int} {n : Nat} (h : zH (zdN s q H T (n + 1)) (zdN s q H T n)) : ∀ m : Nat, zH (zdN s q H T (n + m)) (zdN s q H T n) := by
  intro m
  induction m with
  | zero => exact zH.rf
  | succ m ih => exact (zday_H ih zH.rf).tr h
theorem zchg_no {T D : Int → Int} (h : ¬ zchg T D 16) : zH D T := fun k h0 h1 => Classical.byContradiction fun e => h ⟨k, h0, h1, e⟩
theorem zdN_s {s : zMm} {q : Int} {H T : Int → Int} {n : Int} (h : 0 ≤ n) : zdN s q H T (n + 1).toNat = zday s q H (zdN s q H T n.toNat) := by
  rw [show (n + 1).toNat = n.toNat + 1 by omega]
  rfl
def zWm (s : zMm) (q n : Int) : Int → Int := zdN s q (s 8) (s 9) n.toNat
theorem zbegin {s M : zMm} (hM : zoW s M) : zoW s (zcpy (zcpy M 9 0 22 0 16) 8 0 23 0 16) ∧ zH (zcpy (zcpy M 9 0 22 0 16) 8 0 23 0 16 22) (s 9) ∧ zH (zcpy (zcpy M 9 0 22 0 16) 8 0 23 0 16 23) (s 8) := by
  refine ⟨fun c a b d e f => (zcpy_row d).trans ((zcpy_row b).trans (hM c a b d e f)), fun k h0 h1 => ?_, fun k h0 h1 => ?_⟩
  · rw [zcpy_row (by decide)]
    unfold zcpy
    rw [if_pos ⟨rfl, by omega, by omega⟩, hM 9 (by decide) (by decide) (by decide) (by decide) (by decide)]
    congr 1
    omega
  · show (if (23 : Int) = 23 ∧ 0 ≤ k ∧ k < 0 + 16 then zcpy M 9 0 22 0 16 8 (0 + (k - 0)) else _) = _
    rw [if_pos ⟨rfl, by omega, by omega⟩, zcpy_row (by decide), hM 8 (by decide) (by decide) (by decide) (by decide) (by decide)]
    congr 1
    omega
set_option maxHeartbeats 4000000 in
theorem cX8_begin {s : zMm} (hP : zP s) {M : zMm} (hM : zoW s M) : zW mX8_begin 2 (fun rv S' M' => S' = zS0 ∧ rv = none ∧ zoW s M' ∧ zH (M' 22) (s 9) ∧ zH (M' 23) (s 8)) (0, 0) zS0 0 (zargs 0 [.inr (.inr 21)]) [] M := by
  change zW _ _ _ _ _ 0 [(0, .inr (.inr 21))] [] M
  refine z_aload_n 0 (zdec DX8_begin 0 rfl) rfl rfl (by decide) ?_
  refine z_getr (rw1 := -31) (ki := 0) (r' := 1) 21 8 (zdec DX8_begin 1 rfl) rfl rfl shp21 rfl (by decide) rfl rfl fl_SixWalls_Winter_31 (zPa (hM.P hP) 23 rfl) ?_
  refine z_getr (rw1 := -11) (ki := 7) (r' := 9) 1 1 (zdec DX8_begin 2 rfl) rfl rfl shp1 rfl (by decide) rfl rfl fl_SixWalls_Winter_76 (zPa (hM.P hP) 16 rfl) ?_
  refine z_iconst 0 (zdec DX8_begin 3 rfl) (by decide) ?_
  refine z_aload_n 0 (zdec DX8_begin 4 rfl) rfl rfl (by decide) ?_
  refine z_getr (rw1 := -31) (ki := 2) (r' := 22) 21 8 (zdec DX8_begin 5 rfl) rfl rfl shp21 rfl (by decide) rfl rfl fl_SixWalls_Winter_9 (zPa (hM.P hP) 25 rfl) ?_
  refine z_iconst 0 (zdec DX8_begin 6 rfl) (by decide) ?_
  refine z_bipush 16 (zdec DX8_begin 7 rfl) (by decide) ?_
  refine z_copyi 9 22 (zdec DX8_begin 8 rfl) ml_SixWalls_Winter_79 zcp1 zcp2 zcp3 rfl rfl shp9 shp22 ⟨by omega, by omega, by omega⟩ ⟨by omega, by omega⟩ (by decide) rfl ?_
  refine z_aload_n 0 (zdec DX8_begin 9 rfl) rfl rfl (by decide) ?_
  refine z_getr (rw1 := -31) (ki := 0) (r' := 1) 21 8 (zdec DX8_begin 10 rfl) rfl rfl shp21 rfl (by decide) rfl rfl fl_SixWalls_Winter_31 (zPa (zP_cpy (hM.P hP) (by decide)) 23 rfl) ?_
  refine z_getr (rw1 := -11) (ki := 6) (r' := 8) 1 1 (zdec DX8_begin 11 rfl) rfl rfl shp1 rfl (by decide) rfl rfl fl_SixWalls_Winter_85 (zPa (zP_cpy (hM.P hP) (by decide)) 15 rfl) ?_
  refine z_iconst 0 (zdec DX8_begin 12 rfl) (by decide) ?_
  refine z_aload_n 0 (zdec DX8_begin 13 rfl) rfl rfl (by decide) ?_
  refine z_getr (rw1 := -31) (ki := 3) (r' := 23) 21 8 (zdec DX8_begin 14 rfl) rfl rfl shp21 rfl (by decide) rfl rfl fl_SixWalls_Winter_15 (zPa (zP_cpy (hM.P hP) (by decide)) 26 rfl) ?_
  refine z_iconst 0 (zdec DX8_begin 15 rfl) (by decide) ?_
  refine z_bipush 16 (zdec DX8_begin 16 rfl) (by decide) ?_
  refine z_copyi 8 23 (zdec DX8_begin 17 rfl) ml_SixWalls_Winter_79 zcp1 zcp2 zcp3 rfl rfl shp8 shp23 ⟨by omega, by omega, by omega⟩ ⟨by omega, by omega⟩ (by decide) rfl ?_
  exact z_vret (zdec DX8_begin 18 rfl) rfl (⟨rfl, rfl, zbegin hM⟩)
set_option maxHeartbeats 4000000 in
theorem lp_X8_passAll_4 {Q : zPost} {s : zMm} (hP : zP s) {q : Int} (hG : zG s) (hR : zRg s) (hT : zTx s q) (H T : Int → Int) (bT : zbW T) (bH : zbH H) (k : Int) (hk : 0 ≤ k ∧ k ≤ 99)  (hx24 : ∀ (M2 : zMm), (zoW s M2 ∧ zH (M2 22) (zdN s q H T k.toNat) ∧ zH (M2 23) H ∧ (0 < k → (∀ w : Int, 0 ≤ w → w < 33 → M2 24 w = zflow s q (zdN s q H T (k - 1).toNat) w))) → zW mX8_passAll 7 Q (0, 0) zS0 24 [] [] M2) : ∀ (n : Nat) (ch : Int) (day : Int) (M2 : zMm), (k - day).toNat < n → (0 ≤ day ∧ day ≤ k ∧ zoW s M2 ∧ zH (M2 22) (zdN s q H T day.toNat) ∧ zH (M2 23) H ∧ (0 < day → (∀ w : Int, 0 ≤ w → w < 33 → M2 24 w = zflow s q (zdN s q H T (day - 1).toNat) w)) ∧ (ch = 1 ∨ (ch = 0 ∧ 0 < day ∧ zH (zdN s q H T day.toNat) (zdN s q H T (day - 1).toNat)))) → zW mX8_passAll 7 Q (0, 0) zS0 4 [(0, .inr (.inr 21)), (1, .inl k), (2, .inl ch), (3, .inl day)] [] M2 := by
  intro n
  induction n with
  | zero => intro ch day M2 hn; exact absurd hn (Nat.not_lt_zero _)
  | succ n ih =>
    intro ch day M2 hn hI
    refine z_iload_n 3 (zdec DX8_passAll 4 rfl) rfl rfl ?_
    refine z_iload_n 1 (zdec DX8_passAll 5 rfl) rfl rfl ?_
    refine z_icmp_ge 24 (zdec DX8_passAll 6 rfl) rfl (fun h6 => ?_) (fun h6 => ?_)
    ·
      refine z_weak (L' := []) (by simp) ?_
      exact hx24 M2 (by
                  by_cases e : day = k
                  · subst e; exact ⟨hI.2.2.1, hI.2.2.2.1, hI.2.2.2.2.1, hI.2.2.2.2.2.1⟩
                  · obtain ⟨h0, h1⟩ : 0 < day ∧ zH (zdN s q H T day.toNat) (zdN s q H T (day - 1).toNat) := by
                      rcases hI.2.2.2.2.2.2 with a | a
                      · omega
                      · exact a.2
                    have st := zdN_st (s := s) (q := q) (H := H) (T := T) (n := (day - 1).toNat) (by rw [show (day - 1).toNat + 1 = day.toNat by omega]; exact h1)
                    have s1 := st (k - (day - 1)).toNat
                    have s2 := st (k - day).toNat
                    rw [show (day - 1).toNat + (k - (day - 1)).toNat = k.toNat by omega] at s1
                    rw [show (day - 1).toNat + (k - day).toNat = (k - 1).toNat by omega] at s2
                    exact ⟨hI.2.2.1, hI.2.2.2.1.tr (h1.tr s1.sy), hI.2.2.2.2.1, fun _ w w0 w1 => by rw [hI.2.2.2.2.2.1 h0 w w0 w1, zflow_H s2]⟩)
    ·
      refine z_iload_n 2 (zdec DX8_passAll 7 rfl) rfl rfl ?_
      refine z_if_eq 24 (zdec DX8_passAll 8 rfl) rfl (fun h10 => ?_) (fun h10 => ?_)
      ·
        refine z_weak (L' := []) (by simp) ?_
        exact hx24 M2 (by
                    by_cases e : day = k
                    · subst e; exact ⟨hI.2.2.1, hI.2.2.2.1, hI.2.2.2.2.1, hI.2.2.2.2.2.1⟩
                    · obtain ⟨h0, h1⟩ : 0 < day ∧ zH (zdN s q H T day.toNat) (zdN s q H T (day - 1).toNat) := by
                        rcases hI.2.2.2.2.2.2 with a | a
                        · omega
                        · exact a.2
                      have st := zdN_st (s := s) (q := q) (H := H) (T := T) (n := (day - 1).toNat) (by rw [show (day - 1).toNat + 1 = day.toNat by omega]; exact h1)
                      have s1 := st (k - (day - 1)).toNat
                      have s2 := st (k - day).toNat
                      rw [show (day - 1).toNat + (k - (day - 1)).toNat = k.toNat by omega] at s1
                      rw [show (day - 1).toNat + (k - day).toNat = (k - 1).toNat by omega] at s2
                      exact ⟨hI.2.2.1, hI.2.2.2.1.tr (h1.tr s1.sy), hI.2.2.2.2.1, fun _ w w0 w1 => by rw [hI.2.2.2.2.2.1 h0 w w0 w1, zflow_H s2]⟩)
      ·
        refine z_aload_n 0 (zdec DX8_passAll 9 rfl) rfl rfl (by decide) ?_
        refine z_inv mX8_pass 21 8 [] (zdec DX8_passAll 10 rfl) ml_SixWalls_Winter_98 okX8_pass rfl shp21 rfl rfl rfl rfl (Nat.le_of_ble_eq_true rfl) (Nat.le_of_ble_eq_true rfl) (b' := (0, 0)) ⟨Nat.le_refl 0, Nat.le_refl 0⟩ (Nat.le_of_ble_eq_true rfl) (cX8_pass hP hG hR hT H (zdN s q H T (day).toNat) (zdN_b bT _) bH hI.2.2.1 hI.2.2.2.1 hI.2.2.2.2.1) (fun rv9 S9 M14 h9 => ?_)
        obtain ⟨rfl, p1, p2, p3, p4, p5⟩ := h9
        obtain ⟨r14, rfl⟩ : ∃ r, rv9 = some (.inl r) := by rcases p5 with h | h <;> exact ⟨_, h.1⟩
        have p6 : (r14 = 1 ∧ zchg (zdN s q H T (day).toNat) (zdN s q H T (day + 1).toNat) 16) ∨ (r14 = 0 ∧ ¬ zchg (zdN s q H T (day).toNat) (zdN s q H T (day + 1).toNat) 16) := by rw [zdN_s (by omega)]; rcases p5 with ⟨h, h2⟩ | ⟨h, h2⟩; (exact Or.inl ⟨by simpa using h, h2⟩); (exact Or.inr ⟨by simpa using h, h2⟩)
        rw [← zdN_s (by omega)] at p2
        change zW _ _ _ _ _ 17 [(0, .inr (.inr 21)), (1, .inl k), (2, .inl ch), (3, .inl day)] [.inl r14] M14
        refine z_istore_n (L' := [(0, .inr (.inr 21)), (1, .inl k), (2, .inl r14), (3, .inl day)]) (zdec DX8_passAll 11 rfl) rfl rfl (by decide) ?_
        refine z_iinc (L' := [(0, .inr (.inr 21)), (1, .inl k), (2, .inl r14), (3, .inl (day + 1))]) 3 (zdec DX8_passAll 12 rfl) rfl (by unfold z32; omega) rfl (by decide) ?_
        refine z_goto 4 (zdec DX8_passAll 13 rfl) rfl ?_
        exact ih r14 (day + 1) M14 (by omega) ⟨by omega, by omega, p1, p2, p3, (fun _ => by rw [show day + 1 - 1 = day by omega]; exact p4), (by rw [show day + 1 - 1 = day by omega]; rcases p6 with ⟨a, b⟩ | ⟨a, b⟩; (exact Or.inl a); (exact Or.inr ⟨a, by omega, zchg_no b⟩))⟩
set_option maxHeartbeats 4000000 in
theorem cX8_passAll {s : zMm} (hP : zP s) {q : Int} (hG : zG s) (hR : zRg s) (hT : zTx s q) (H T : Int → Int) (bT : zbW T) (bH : zbH H) (k : Int) (hk : 0 ≤ k ∧ k ≤ 99) {M : zMm} (hM : zoW s M) (h22 : zH (M 22) T) (h23 : zH (M 23) H) : zW mX8_passAll 7 (fun rv S' M' => S' = zS0 ∧ rv = none ∧ zoW s M' ∧ zH (M' 22) (zdN s q H T k.toNat) ∧ zH (M' 23) H ∧ (0 < k → (∀ w : Int, 0 ≤ w → w < 33 → M' 24 w = zflow s q (zdN s q H T (k - 1).toNat) w))) (0, 0) zS0 0 (zargs 0 [.inr (.inr 21), .inl k]) [] M := by
  change zW _ _ _ _ _ 0 [(0, .inr (.inr 21)), (1, .inl k)] [] M
  refine z_iconst 1 (zdec DX8_passAll 0 rfl) (by decide) ?_
  refine z_istore_n (L' := [(0, .inr (.inr 21)), (1, .inl k), (2, .inl 1)]) (zdec DX8_passAll 1 rfl) rfl rfl (by decide) ?_
  refine z_iconst 0 (zdec DX8_passAll 2 rfl) (by decide) ?_
  refine z_istore_n (L' := [(0, .inr (.inr 21)), (1, .inl k), (2, .inl 1), (3, .inl 0)]) (zdec DX8_passAll 3 rfl) rfl rfl (by decide) ?_
  refine lp_X8_passAll_4 hP hG hR hT H T bT bH k hk (hx24 := fun M2 hx => ?_) _ 1 0 M (Nat.lt_succ_self _) ⟨by omega, by omega, hM, h22, h23, fun h => absurd h (by omega), Or.inl rfl⟩
  exact z_vret (zdec DX8_passAll 14 rfl) rfl (⟨rfl, rfl, hx⟩)
theorem zb9 {s : zMm} (h : zRg s) : zbW (s 9) := fun k h0 h1 => (h.1 k h0 h1).2.2.1
theorem zb8 {s : zMm} (h : zRg s) : zbH (s 8) := fun k h0 h1 => (h.1 k h0 h1).2.1
theorem zbWc {f g : Int → Int} (h : zH f g) (hg : zbW g) : zbW f := fun k h0 h1 => by rw [h k h0 h1]; exact hg k h0 h1
set_option maxHeartbeats 4000000 in
theorem cX8_think {s : zMm} (hP : zP s) {q : Int} (hG : zG s) (hR : zRg s) (hT : zTx s q) (k : Int) (hk : 0 ≤ k ∧ k ≤ 99) {M : zMm} (hM : zoW s M) : zW mX8_think 8 (fun rv S' M' => S' = zS0 ∧ rv = none ∧ zoW s M' ∧ zH (M' 22) (zWm s q k) ∧ zH (M' 23) (s 8) ∧ (0 < k → (∀ w : Int, 0 ≤ w → w < 33 → M' 24 w = zflow s q (zWm s q (k - 1)) w))) (0, 0) zS0 0 (zargs 0 [.inr (.inr 21), .inl k]) [] M := by
  change zW _ _ _ _ _ 0 [(0, .inr (.inr 21)), (1, .inl k)] [] M
  refine z_aload_n 0 (zdec DX8_think 0 rfl) rfl rfl (by decide) ?_
  refine z_inv mX8_begin 21 8 [] (zdec DX8_think 1 rfl) ml_SixWalls_Winter_101 okX8_begin rfl shp21 rfl rfl rfl rfl (Nat.le_of_ble_eq_true rfl) (Nat.le_of_ble_eq_true rfl) (b' := (0, 0)) ⟨Nat.le_refl 0, Nat.le_refl 0⟩ (Nat.le_of_ble_eq_true rfl) (cX8_begin hP hM) (fun rv9 S9 M1 h9 => ?_)
  obtain ⟨rfl, rfl, b1, b2, b3⟩ := h9
  change zW _ _ _ _ _ 4 [(0, .inr (.inr 21)), (1, .inl k)] [] M1
  refine z_aload_n 0 (zdec DX8_think 2 rfl) rfl rfl (by decide) ?_
  refine z_iload_n 1 (zdec DX8_think 3 rfl) rfl rfl ?_
  refine z_inv mX8_passAll 21 8 [.inl k] (zdec DX8_think 4 rfl) ml_SixWalls_Winter_104 okX8_passAll rfl shp21 rfl rfl rfl rfl (Nat.le_of_ble_eq_true rfl) (Nat.le_of_ble_eq_true rfl) (b' := (0, 0)) ⟨Nat.le_refl 0, Nat.le_refl 0⟩ (Nat.le_of_ble_eq_true rfl) (cX8_passAll hP hG hR hT (s 8) (s 9) (zb9 hR) (zb8 hR) k hk b1 b2 b3) (fun rv9 S9 M6 h9 => ?_)
  obtain ⟨rfl, rfl, hx⟩ := h9
  change zW _ _ _ _ _ 9 [(0, .inr (.inr 21)), (1, .inl k)] [] M6
  exact z_vret (zdec DX8_think 5 rfl) rfl (⟨rfl, rfl, hx⟩)
set_option maxHeartbeats 4000000 in
theorem lp_X8_daysTillStill_6 {s : zMm} (hP : zP s) {q : Int} (hG : zG s) (hR : zRg s) (hT : zTx s q)  (hx27 : ∀ (M2 : zMm), (zoW s M2 ∧ ∀ j : Int, 0 ≤ j → j ≤ 60 → zchg (zWm s q j) (zWm s q (j + 1)) 16) → zW mX8_daysTillStill 7 (fun rv S' M' => S' = zS0 ∧ zoW s M' ∧ ((∃ r : Int, (0 ≤ r ∧ r ≤ 60) ∧ (∀ j : Int, 0 ≤ j → j < r → zchg (zWm s q j) (zWm s q (j + 1)) 16) ∧ ¬ zchg (zWm s q r) (zWm s q (r + 1)) 16 ∧ rv = some (.inl r)) ∨ ((∀ j : Int, 0 ≤ j → j ≤ 60 → zchg (zWm s q j) (zWm s q (j + 1)) 16) ∧ rv = some (.inl (-2))))) (0, 0) zS0 27 [] [] M2) : ∀ (n : Nat) (k : Int) (M2 : zMm), (61 - k).toNat < n → (0 ≤ k ∧ k ≤ 61 ∧ zoW s M2 ∧ zH (M2 22) (zWm s q k) ∧ zH (M2 23) (s 8) ∧ ∀ j : Int, 0 ≤ j → j < k → zchg (zWm s q j) (zWm s q (j + 1)) 16) → zW mX8_daysTillStill 7 (fun rv S' M' => S' = zS0 ∧ zoW s M' ∧ ((∃ r : Int, (0 ≤ r ∧ r ≤ 60) ∧ (∀ j : Int, 0 ≤ j → j < r → zchg (zWm s q j) (zWm s q (j + 1)) 16) ∧ ¬ zchg (zWm s q r) (zWm s q (r + 1)) 16 ∧ rv = some (.inl r)) ∨ ((∀ j : Int, 0 ≤ j → j ≤ 60 → zchg (zWm s q j) (zWm s q (j + 1)) 16) ∧ rv = some (.inl (-2))))) (0, 0) zS0 6 [(0, .inr (.inr 21)), (1, .inl k)] [] M2 := by
  intro n
  induction n with
  | zero => intro k M2 hn; exact absurd hn (Nat.not_lt_zero _)
  | succ n ih =>
    intro k M2 hn hI
    refine z_iload_n 1 (zdec DX8_daysTillStill 4 rfl) rfl rfl ?_
    refine z_bipush 60 (zdec DX8_daysTillStill 5 rfl) (by decide) ?_
    refine z_icmp_gt 27 (zdec DX8_daysTillStill 6 rfl) rfl (fun h9 => ?_) (fun h9 => ?_)
    ·
      refine z_weak (L' := []) (by simp) ?_
      exact hx27 M2 ⟨hI.2.2.1, fun j h0 h1 => hI.2.2.2.2.2 j h0 (by omega)⟩
    ·
      refine z_aload_n 0 (zdec DX8_daysTillStill 7 rfl) rfl rfl (by decide) ?_
      refine z_inv mX8_pass 21 8 [] (zdec DX8_daysTillStill 8 rfl) ml_SixWalls_Winter_98 okX8_pass rfl shp21 rfl rfl rfl rfl (Nat.le_of_ble_eq_true rfl) (Nat.le_of_ble_eq_true rfl) (b' := (0, 0)) ⟨Nat.le_refl 0, Nat.le_refl 0⟩ (Nat.le_of_ble_eq_true rfl) (cX8_pass hP hG hR hT (s 8) (zWm s q k) (zdN_b (zb9 hR) _) (zb8 hR) hI.2.2.1 hI.2.2.2.1 hI.2.2.2.2.1) (fun rv9 S9 M13 h9 => ?_)
      obtain ⟨rfl, p1, p2, p3, p4, p5⟩ := h9
      obtain ⟨r13, rfl⟩ : ∃ r, rv9 = some (.inl r) := by rcases p5 with h | h <;> exact ⟨_, h.1⟩
      have p6 : (r13 = 1 ∧ zchg (zWm s q k) (zWm s q (k + 1)) 16) ∨ (r13 = 0 ∧ ¬ zchg (zWm s q k) (zWm s q (k + 1)) 16) := by unfold zWm; rw [zdN_s (by omega)]; rcases p5 with ⟨h, h2⟩ | ⟨h, h2⟩; (exact Or.inl ⟨by simpa using h, h2⟩); (exact Or.inr ⟨by simpa using h, h2⟩)
      have p7 : zH (M13 22) (zWm s q (k + 1)) := by unfold zWm; rw [zdN_s (by omega)]; exact p2
      change zW _ _ _ _ _ 16 [(0, .inr (.inr 21)), (1, .inl k)] [.inl r13] M13
      refine z_if_ne 21 (zdec DX8_daysTillStill 9 rfl) rfl (fun h16 => ?_) (fun h16 => ?_)
      ·
        refine z_iinc (L' := [(0, .inr (.inr 21)), (1, .inl (k + 1))]) 1 (zdec DX8_daysTillStill 12 rfl) rfl (by unfold z32; omega) rfl (by decide) ?_
        refine z_goto 6 (zdec DX8_daysTillStill 13 rfl) rfl ?_
        exact ih (k + 1) M13 (by omega) ⟨by omega, by omega, p1, p7, p3, fun j h0 h1 => (by by_cases hj : j = k; (subst hj; rcases p6 with ⟨a, b⟩ | ⟨a, b⟩; (exact b); (exfalso; omega)); (exact hI.2.2.2.2.2 j h0 (by omega)))⟩
      ·
        refine z_iload_n 1 (zdec DX8_daysTillStill 10 rfl) rfl rfl ?_
        exact z_iret (zdec DX8_daysTillStill 11 rfl) rfl (⟨rfl, p1, Or.inl ⟨k, by omega, hI.2.2.2.2.2, (by rcases p6 with ⟨a, b⟩ | ⟨a, b⟩; (exfalso; omega); (exact b)), rfl⟩⟩)
set_option maxHeartbeats 4000000 in
theorem cX8_daysTillStill {s : zMm} (hP : zP s) {q : Int} (hG : zG s) (hR : zRg s) (hT : zTx s q) {M : zMm} (hM : zoW s M) : zW mX8_daysTillStill 7 (fun rv S' M' => S' = zS0 ∧ zoW s M' ∧ ((∃ r : Int, (0 ≤ r ∧ r ≤ 60) ∧ (∀ j : Int, 0 ≤ j → j < r → zchg (zWm s q j) (zWm s q (j + 1)) 16) ∧ ¬ zchg (zWm s q r) (zWm s q (r + 1)) 16 ∧ rv = some (.inl r)) ∨ ((∀ j : Int, 0 ≤ j → j ≤ 60 → zchg (zWm s q j) (zWm s q (j + 1)) 16) ∧ rv = some (.inl (-2))))) (0, 0) zS0 0 (zargs 0 [.inr (.inr 21)]) [] M := by
  change zW _ _ _ _ _ 0 [(0, .inr (.inr 21))] [] M
  refine z_aload_n 0 (zdec DX8_daysTillStill 0 rfl) rfl rfl (by decide) ?_
  refine z_inv mX8_begin 21 8 [] (zdec DX8_daysTillStill 1 rfl) ml_SixWalls_Winter_101 okX8_begin rfl shp21 rfl rfl rfl rfl (Nat.le_of_ble_eq_true rfl) (Nat.le_of_ble_eq_true rfl) (b' := (0, 0)) ⟨Nat.le_refl 0, Nat.le_refl 0⟩ (Nat.le_of_ble_eq_true rfl) (cX8_begin hP hM) (fun rv9 S9 M1 h9 => ?_)
  obtain ⟨rfl, rfl, b1, b2, b3⟩ := h9
  change zW _ _ _ _ _ 4 [(0, .inr (.inr 21))] [] M1
  refine z_iconst 0 (zdec DX8_daysTillStill 2 rfl) (by decide) ?_
  refine z_istore_n (L' := [(0, .inr (.inr 21)), (1, .inl 0)]) (zdec DX8_daysTillStill 3 rfl) rfl rfl (by decide) ?_
  refine lp_X8_daysTillStill_6 hP hG hR hT (hx27 := fun M2 hx => ?_) _ 0 M1 (Nat.lt_succ_self _) ⟨by omega, by omega, b1, b2, b3, fun j h0 h1 => by omega⟩
  refine z_bipush (-2) (zdec DX8_daysTillStill 14 rfl) (by decide) ?_
  exact z_iret (zdec DX8_daysTillStill 15 rfl) rfl (⟨rfl, hx.1, Or.inr ⟨hx.2, rfl⟩⟩)
set_option maxHeartbeats 4000000 in
theorem lp_X8_goneThrough_9 {Q : zPost} {s : zMm} (hP : zP s) {q : Int} (hG : zG s) (hR : zRg s) (hT : zTx s q) (w k : Int) (hw : 0 ≤ w ∧ w < 33) (hk : 0 ≤ k ∧ k ≤ 99)  (hx35 : ∀ (al : Int) (M2 : zMm), (zoW s M2 ∧ al = zsum (fun d => zflow s q (zWm s q d) w) k) → zW mX8_goneThrough 7 Q (0, 0) zS0 35 [(3, .inl al)] [] M2) : ∀ (n : Nat) (al : Int) (d : Int) (M2 : zMm), (k - d).toNat < n → (0 ≤ d ∧ d ≤ k ∧ zoW s M2 ∧ zH (M2 22) (zWm s q d) ∧ zH (M2 23) (s 8) ∧ al = zsum (fun d => zflow s q (zWm s q d) w) d ∧ -49 * d ≤ al ∧ al ≤ 49 * d) → zW mX8_goneThrough 7 Q (0, 0) zS0 9 [(0, .inr (.inr 21)), (1, .inl w), (2, .inl k), (3, .inl al), (4, .inl d)] [] M2 := by
  intro n
  induction n with
  | zero => intro al d M2 hn; exact absurd hn (Nat.not_lt_zero _)
  | succ n ih =>
    intro al d M2 hn hI
    have bf := zflow_b (s := s) (q := q) (T := zWm s q d) (zdN_b (zb9 hR) _) w
    refine z_iload 4 (zdec DX8_goneThrough 6 rfl) rfl ?_
    refine z_iload_n 2 (zdec DX8_goneThrough 7 rfl) rfl rfl ?_
    refine z_icmp_ge 35 (zdec DX8_goneThrough 8 rfl) rfl (fun h12 => ?_) (fun h12 => ?_)
    ·
      refine z_weak (L' := [(3, .inl al)]) (by simp) ?_
      exact hx35 al M2 (by have e : d = k := (by omega); subst e; exact ⟨hI.2.2.1, hI.2.2.2.2.2.1⟩)
    ·
      refine z_aload_n 0 (zdec DX8_goneThrough 9 rfl) rfl rfl (by decide) ?_
      refine z_inv mX8_pass 21 8 [] (zdec DX8_goneThrough 10 rfl) ml_SixWalls_Winter_98 okX8_pass rfl shp21 rfl rfl rfl rfl (Nat.le_of_ble_eq_true rfl) (Nat.le_of_ble_eq_true rfl) (b' := (0, 0)) ⟨Nat.le_refl 0, Nat.le_refl 0⟩ (Nat.le_of_ble_eq_true rfl) (cX8_pass hP hG hR hT (s 8) (zWm s q d) (zdN_b (zb9 hR) _) (zb8 hR) hI.2.2.1 hI.2.2.2.1 hI.2.2.2.2.1) (fun rv9 S9 M16 h9 => ?_)
      obtain ⟨rfl, p1, p2, p3, p4, p5⟩ := h9
      obtain ⟨r13, rfl⟩ : ∃ r, rv9 = some (.inl r) := by rcases p5 with h | h <;> exact ⟨_, h.1⟩
      have p7 : zH (M16 22) (zWm s q (d + 1)) := by unfold zWm; rw [zdN_s (by omega)]; exact p2
      change zW _ _ _ _ _ 19 [(0, .inr (.inr 21)), (1, .inl w), (2, .inl k), (3, .inl al), (4, .inl d)] [.inl r13] M16
      refine z_pop (zdec DX8_goneThrough 11 rfl) rfl ?_
      refine z_iload_n 3 (zdec DX8_goneThrough 12 rfl) rfl rfl ?_
      refine z_aload_n 0 (zdec DX8_goneThrough 13 rfl) rfl rfl (by decide) ?_
      refine z_getr (rw1 := -31) (ki := 4) (r' := 24) 21 8 (zdec DX8_goneThrough 14 rfl) rfl rfl shp21 rfl (by decide) rfl rfl fl_SixWalls_Winter_18 (zPa (p1.P hP) 27 rfl) ?_
      refine z_iload_n 1 (zdec DX8_goneThrough 15 rfl) rfl rfl ?_
      refine z_iald 24 (zdec DX8_goneThrough 16 rfl) rfl shp24 ⟨by omega, by omega⟩ ?_
      refine z_iadd (zdec DX8_goneThrough 17 rfl) (by rw [p4 w hw.1 hw.2]; unfold z32; omega) ?_
      refine z_istore_n (L' := [(0, .inr (.inr 21)), (1, .inl w), (2, .inl k), (3, .inl (al + (M16 24 w))), (4, .inl d)]) (zdec DX8_goneThrough 18 rfl) rfl rfl (by decide) ?_
      refine z_iinc (L' := [(0, .inr (.inr 21)), (1, .inl w), (2, .inl k), (3, .inl (al + (M16 24 w))), (4, .inl (d + 1))]) 4 (zdec DX8_goneThrough 19 rfl) rfl (by unfold z32; omega) rfl (by decide) ?_
      refine z_goto 9 (zdec DX8_goneThrough 20 rfl) rfl ?_
      exact ih (al + (M16 24 w)) (d + 1) M16 (by omega) ⟨by omega, by omega, p1, p7, p3, (by rw [zsum_s _ hI.1, hI.2.2.2.2.2.1, p4 w hw.1 hw.2]), by rw [p4 w hw.1 hw.2]; omega, by rw [p4 w hw.1 hw.2]; omega⟩
set_option maxHeartbeats 4000000 in
theorem cX8_goneThrough {s : zMm} (hP : zP s) {q : Int} (hG : zG s) (hR : zRg s) (hT : zTx s q) (w k : Int) (hw : 0 ≤ w ∧ w < 33) (hk : 0 ≤ k ∧ k ≤ 99) {M : zMm} (hM : zoW s M) : zW mX8_goneThrough 7 (fun rv S' M' => S' = zS0 ∧ zoW s M' ∧ rv = some (.inl (zsum (fun d => zflow s q (zWm s q d) w) k))) (0, 0) zS0 0 (zargs 0 [.inr (.inr 21), .inl w, .inl k]) [] M := by
  change zW _ _ _ _ _ 0 [(0, .inr (.inr 21)), (1, .inl w), (2, .inl k)] [] M
  refine z_aload_n 0 (zdec DX8_goneThrough 0 rfl) rfl rfl (by decide) ?_
  refine z_inv mX8_begin 21 8 [] (zdec DX8_goneThrough 1 rfl) ml_SixWalls_Winter_101 okX8_begin rfl shp21 rfl rfl rfl rfl (Nat.le_of_ble_eq_true rfl) (Nat.le_of_ble_eq_true rfl) (b' := (0, 0)) ⟨Nat.le_refl 0, Nat.le_refl 0⟩ (Nat.le_of_ble_eq_true rfl) (cX8_begin hP hM) (fun rv9 S9 M1 h9 => ?_)
  obtain ⟨rfl, rfl, b1, b2, b3⟩ := h9
  change zW _ _ _ _ _ 4 [(0, .inr (.inr 21)), (1, .inl w), (2, .inl k)] [] M1
  refine z_iconst 0 (zdec DX8_goneThrough 2 rfl) (by decide) ?_
  refine z_istore_n (L' := [(0, .inr (.inr 21)), (1, .inl w), (2, .inl k), (3, .inl 0)]) (zdec DX8_goneThrough 3 rfl) rfl rfl (by decide) ?_
  refine z_iconst 0 (zdec DX8_goneThrough 4 rfl) (by decide) ?_
  refine z_istore (L' := [(0, .inr (.inr 21)), (1, .inl w), (2, .inl k), (3, .inl 0), (4, .inl 0)]) (zdec DX8_goneThrough 5 rfl) rfl (by decide) ?_
  refine lp_X8_goneThrough_9 hP hG hR hT w k hw hk (hx35 := fun al M2 hx => ?_) _ 0 0 M1 (Nat.lt_succ_self _) ⟨by omega, by omega, b1, b2, b3, rfl, by omega, by omega⟩
  refine z_iload_n 0 (zdec DX8_goneThrough 21 rfl) rfl rfl ?_
  exact z_iret (zdec DX8_goneThrough 22 rfl) rfl (⟨rfl, hx.1, zri hx.2⟩)
