/-! contracts: read of LawText, feed and law of SixWalls -/
def zrd0 (M : zMm) : zMm := zup (zup (zup M 14 2 0) 14 3 0) 14 9 0
def zrdA (q : Int) (M : zMm) : zMm := zup (zrLns q 121 (zrd0 M)) 14 1 0
def zrdB (q : Int) (M : zMm) : zMm := zup (zup (zup (zup (zup (zrdA q M) (-24) 4 (34 - q)) (-24) 5 (35 - q)) 14 6 (zrLns q 121 (zrd0 M) 14 9)) (-24) 7 q) (-24) 8 (q + 1)
theorem zup_id {M : zMm} {c k v : Int} (h : M c k = v) : zup M c k v = M := by
  funext r i
  unfold zup
  split
  · next e => rw [e.1, e.2, h]
  · rfl
/-- the law's text between calls -/
def zTw (M : zMm) (q : Int) : Prop := zTx M q ∧ (0 ≤ M 14 1 ∧ M 14 1 ≤ 120) ∧ ∀ i : Int, 0 ≤ i → i < 121 → 0 ≤ M (35 - q) i ∧ M (35 - q) i ≤ 9999
theorem zTw.rd0 {M : zMm} {q : Int} (h : zTw M q) (hP : zP M) : zTI (zrd0 M) q := by
  have hq := h.1.1.1
  unfold zrd0
  refine ⟨zP_up (zP_up (zP_up hP (by decide)) (by decide)) (by decide), zQ_of h.1.1 ?_, ?_, ?_, ?_, ?_⟩
  · rw [zup_row (by decide), zup_row (by decide), zup_row (by decide)]
  · rw [zup_14 (by decide), zup_14 (by decide), zup_self, zup_14 (by decide), zup_14 (by decide), zup_14 (by decide)]
    exact ⟨by omega, h.2.1⟩
  · rw [zup_self]
    omega
  · rw [zup_14 (by decide), zup_self]
    omega
  · rw [zup_row (by omega), zup_row (by omega), zup_row (by omega)]
    exact h.2.2
set_option maxHeartbeats 4000000 in
theorem lp_X4_read_17 {Q : zPost} {q : Int} (Z : zMm) (hx97 : ∀ (M16 : zMm), (M16 = Z) → zW mX4_read 91 Q (0, 0) zS0 97 [(0, .inr (.inr 14))] [] M16) : ∀ (n : Nat) (k : Int) (M2 : zMm), (121 - k).toNat < n → (0 ≤ k ∧ k ≤ 121 ∧ zTI M2 q ∧ Z = zrLns q (121 - k).toNat M2) → zW mX4_read 91 Q (0, 0) zS0 17 [(0, .inr (.inr 14)), (1, .inl k)] [] M2 := by
  intro n
  induction n with
  | zero => intro k M2 hn; exact absurd hn (Nat.not_lt_zero _)
  | succ n ih =>
    intro k M2 hn hI
    have hZ : k < 121 → Z = if zrLine q M2 14 3 ≠ 0 ∨ zrLine q M2 14 1 ≤ zrLine q M2 14 2 then zrLine q M2 else if zpk (zrLine q M2) ≠ 59 then zbad (zrLine q M2) else zrLns q (121 - (k + 1)).toNat (zadv (zrLine q M2)) := by
      intro h
      rw [hI.2.2.2, show (121 - k).toNat = (121 - (k + 1)).toNat + 1 by omega]
      rfl
    refine z_iload_n 1 (zdec DX4_read 11 rfl) rfl rfl ?_
    refine z_bipush 120 (zdec DX4_read 12 rfl) (by decide) ?_
    refine z_icmp_gt 97 (zdec DX4_read 13 rfl) rfl (fun h20 => ?_) (fun h20 => ?_)
    ·
      refine z_weak (L' := [(0, .inr (.inr 14))]) (by simp) ?_
      exact hx97 M2 (by first | (rw [hI.2.2.2, show (121 - k).toNat = 0 by omega]; rfl) | (rw [hZ (by omega), ← e24, if_pos (by omega)]) | (rw [hZ (by omega), ← e24, if_neg (by omega), if_pos (by omega)]; rfl))
    ·
      refine z_aload_n 0 (zdec DX4_read 14 rfl) rfl rfl (by decide) ?_
      refine z_inv mX4_readLine 14 4 [] (zdec DX4_read 15 rfl) ml_SixWalls_LawText_45 okX4_readLine rfl shp14 rfl rfl rfl rfl (Nat.le_of_ble_eq_true rfl) (Nat.le_of_ble_eq_true rfl) (b' := (0, 0)) ⟨Nat.le_refl 0, Nat.le_refl 0⟩ (Nat.le_of_ble_eq_true rfl) (cX4_readLine hI.2.2.1) (fun rv9 S9 M24 h9 => ?_)
      obtain ⟨rfl, rfl, e24⟩ := h9
      have t24 : zTI M24 q := by rw [e24]; exact hI.2.2.1.line
      have w24 := t24.wr
      have a24 := t24.at_
      change zW _ _ _ _ _ 27 [(0, .inr (.inr 14)), (1, .inl k)] [] M24
      refine z_aload_n 0 (zdec DX4_read 16 rfl) rfl rfl (by decide) ?_
      refine z_geti (ki := 3) 14 4 (zdec DX4_read 17 rfl) rfl shp14 rfl (by decide) rfl rfl fl_SixWalls_LawText_20 ?_
      refine z_if_ne 97 (zdec DX4_read 18 rfl) rfl (fun h31 => ?_) (fun h31 => ?_)
      ·
        refine z_weak (L' := [(0, .inr (.inr 14))]) (by simp) ?_
        exact hx97 M24 (by first | (rw [hI.2.2.2, show (121 - k).toNat = 0 by omega]; rfl) | (rw [hZ (by omega), ← e24, if_pos (by omega)]) | (rw [hZ (by omega), ← e24, if_neg (by omega), if_pos (by omega)]; rfl))
      ·
        refine z_aload_n 0 (zdec DX4_read 19 rfl) rfl rfl (by decide) ?_
        refine z_geti (ki := 2) 14 4 (zdec DX4_read 20 rfl) rfl shp14 rfl (by decide) rfl rfl fl_SixWalls_LawText_17 ?_
        refine z_aload_n 0 (zdec DX4_read 21 rfl) rfl rfl (by decide) ?_
        refine z_geti (ki := 1) 14 4 (zdec DX4_read 22 rfl) rfl shp14 rfl (by decide) rfl rfl fl_SixWalls_LawText_13 ?_
        refine z_icmp_lt 48 (zdec DX4_read 23 rfl) rfl (fun h42 => ?_) (fun h42 => ?_)
        ·
          have ep : zpk M24 = M24 15 (M24 14 2) := by unfold zpk; rw [if_pos (by omega)]
          refine z_aload_n 0 (zdec DX4_read 25 rfl) rfl rfl (by decide) ?_
          refine z_aload_n 0 (zdec DX4_read 26 rfl) rfl rfl (by decide) ?_
          refine z_getr (rw1 := -24) (ki := 0) (r' := 15) 14 4 (zdec DX4_read 27 rfl) rfl rfl shp14 rfl (by decide) rfl rfl fl_SixWalls_LawText_9 (zPa t24.P 21 rfl) ?_
          refine z_aload_n 0 (zdec DX4_read 28 rfl) rfl rfl (by decide) ?_
          refine z_geti (ki := 2) 14 4 (zdec DX4_read 29 rfl) rfl shp14 rfl (by decide) rfl rfl fl_SixWalls_LawText_17 ?_
          refine z_iald 15 (zdec DX4_read 30 rfl) rfl shp15 ⟨by omega, by omega⟩ ?_
          refine z_bipush 59 (zdec DX4_read 31 rfl) (by decide) ?_
          refine z_icmp_eq 67 (zdec DX4_read 32 rfl) rfl (fun h60 => ?_) (fun h60 => ?_)
          ·
            refine z_iconst 0 (zdec DX4_read 35 rfl) (by decide) ?_
            refine z_putz (ki := 3) 14 4 (zdec DX4_read 36 rfl) rfl shp14 rfl (by decide) rfl rfl fl_SixWalls_LawText_20 (Or.inl rfl) (by omega) ?_
            refine z_aload_n 0 (zdec DX4_read 37 rfl) rfl rfl (by decide) ?_
            refine z_geti (ki := 3) 14 4 (zdec DX4_read 38 rfl) rfl shp14 rfl (by decide) rfl rfl fl_SixWalls_LawText_20 ?_
            rw [show (zup M24 14 3 0) 14 3 = 0 from by simp [zup, zcpy]]
            refine z_if_eq 81 (zdec DX4_read 39 rfl) rfl (fun _ => ?_) (fun h => absurd h (by decide))
            refine z_aload_n 0 (zdec DX4_read 41 rfl) rfl rfl (by decide) ?_
            refine z_dup (zdec DX4_read 42 rfl) rfl ?_
            refine z_geti (ki := 2) 14 4 (zdec DX4_read 43 rfl) rfl shp14 rfl (by decide) rfl rfl fl_SixWalls_LawText_17 ?_
            rw [show (zup M24 14 3 0) 14 2 = M24 14 2 from by simp [zup, zcpy]]
            refine z_iconst 1 (zdec DX4_read 44 rfl) (by decide) ?_
            refine z_iadd (zdec DX4_read 45 rfl) (by unfold z32; omega) ?_
            refine z_puti (ki := 2) 14 4 (zdec DX4_read 46 rfl) rfl shp14 rfl (by decide) rfl rfl fl_SixWalls_LawText_17 (Or.inl rfl) ?_
            refine z_iinc (L' := [(0, .inr (.inr 14)), (1, .inl (k + 1))]) 1 (zdec DX4_read 47 rfl) rfl (by unfold z32; omega) rfl (by decide) ?_
            refine z_goto 17 (zdec DX4_read 48 rfl) rfl ?_
            exact ih (k + 1) (zup (zup M24 14 3 0) 14 2 ((M24 14 2) + 1)) (by omega) ⟨by omega, by omega, (by rw [zup_id (show M24 14 3 = 0 by omega)]; exact t24.adv (by omega)), (by rw [hZ (by omega), ← e24, if_neg (by omega), if_neg (by omega), zup_id (show M24 14 3 = 0 by omega)]; rfl)⟩
          ·
            refine z_iconst 1 (zdec DX4_read 33 rfl) (by decide) ?_
            refine z_goto 68 (zdec DX4_read 34 rfl) rfl ?_
            refine z_putz (ki := 3) 14 4 (zdec DX4_read 36 rfl) rfl shp14 rfl (by decide) rfl rfl fl_SixWalls_LawText_20 (Or.inl rfl) (by omega) ?_
            refine z_aload_n 0 (zdec DX4_read 37 rfl) rfl rfl (by decide) ?_
            refine z_geti (ki := 3) 14 4 (zdec DX4_read 38 rfl) rfl shp14 rfl (by decide) rfl rfl fl_SixWalls_LawText_20 ?_
            rw [show (zup M24 14 3 1) 14 3 = 1 from by simp [zup, zcpy]]
            refine z_if_eq 81 (zdec DX4_read 39 rfl) rfl (fun h => absurd h (by decide)) (fun _ => ?_)
            refine z_goto 97 (zdec DX4_read 40 rfl) rfl ?_
            refine z_weak (L' := [(0, .inr (.inr 14))]) (by simp) ?_
            exact hx97 (zup M24 14 3 1) (by first | (rw [hI.2.2.2, show (121 - k).toNat = 0 by omega]; rfl) | (rw [hZ (by omega), ← e24, if_pos (by omega)]) | (rw [hZ (by omega), ← e24, if_neg (by omega), if_pos (by omega)]; rfl))
        ·
          refine z_goto 97 (zdec DX4_read 24 rfl) rfl ?_
          refine z_weak (L' := [(0, .inr (.inr 14))]) (by simp) ?_
          exact hx97 M24 (by first | (rw [hI.2.2.2, show (121 - k).toNat = 0 by omega]; rfl) | (rw [hZ (by omega), ← e24, if_pos (by omega)]) | (rw [hZ (by omega), ← e24, if_neg (by omega), if_pos (by omega)]; rfl))
set_option maxHeartbeats 4000000 in
theorem cX4_read {M : zMm} (hP : zP M) {q : Int} (hT : zTw M q) : zW mX4_read 91 (fun rv S' M' => S' = zS0 ∧ ((zrLns q 121 (zrd0 M) 14 3 ≠ 0 ∧ rv = some (.inl (zrLns q 121 (zrd0 M) 14 2)) ∧ M' = zrdA q M) ∨ (zrLns q 121 (zrd0 M) 14 3 = 0 ∧ rv = some (.inl (-1)) ∧ M' = zrdB q M))) (0, 0) zS0 0 (zargs 0 [.inr (.inr 14)]) [] M := by
  change zW _ _ _ _ _ 0 [(0, .inr (.inr 14))] [] M
  have hq0 := hT.1.1.1
  have t0 := hT.rd0 hP
  refine z_aload_n 0 (zdec DX4_read 0 rfl) rfl rfl (by decide) ?_
  refine z_iconst 0 (zdec DX4_read 1 rfl) (by decide) ?_
  refine z_puti (ki := 2) 14 4 (zdec DX4_read 2 rfl) rfl shp14 rfl (by decide) rfl rfl fl_SixWalls_LawText_17 (Or.inl rfl) ?_
  refine z_aload_n 0 (zdec DX4_read 3 rfl) rfl rfl (by decide) ?_
  refine z_iconst 0 (zdec DX4_read 4 rfl) (by decide) ?_
  refine z_putz (ki := 3) 14 4 (zdec DX4_read 5 rfl) rfl shp14 rfl (by decide) rfl rfl fl_SixWalls_LawText_20 (Or.inl rfl) (by omega) ?_
  refine z_aload_n 0 (zdec DX4_read 6 rfl) rfl rfl (by decide) ?_
  refine z_iconst 0 (zdec DX4_read 7 rfl) (by decide) ?_
  refine z_puti (ki := 9) 14 4 (zdec DX4_read 8 rfl) rfl shp14 rfl (by decide) rfl rfl fl_SixWalls_LawText_39 (Or.inl rfl) ?_
  refine z_iconst 0 (zdec DX4_read 9 rfl) (by decide) ?_
  refine z_istore_n (L' := [(0, .inr (.inr 14)), (1, .inl 0)]) (zdec DX4_read 10 rfl) rfl rfl (by decide) ?_
  refine lp_X4_read_17 (zrLns q 121 (zrd0 M)) (hx97 := fun M16 e16 => ?_) _ 0 (zup (zup (zup M 14 2 0) 14 3 0) 14 9 0) (Nat.lt_succ_self _) ⟨by omega, by omega, t0, rfl⟩
  have t16 : zTI M16 q := by rw [e16]; exact t0.lns 121
  have e16' : zrLns q 121 (zrd0 M) = M16 := e16.symm
  have hq2 : zQ (zup M16 14 1 0) q := zQ_of t16.q (zup_row (by decide))
  have hq3 : zQ M16 q := t16.q
  have w16 := t16.wr
  refine z_aload_n 0 (zdec DX4_read 49 rfl) rfl rfl (by decide) ?_
  refine z_iconst 0 (zdec DX4_read 50 rfl) (by decide) ?_
  refine z_puti (ki := 1) 14 4 (zdec DX4_read 51 rfl) rfl shp14 rfl (by decide) rfl rfl fl_SixWalls_LawText_13 (Or.inl rfl) ?_
  refine z_aload_n 0 (zdec DX4_read 52 rfl) rfl rfl (by decide) ?_
  refine z_geti (ki := 3) 14 4 (zdec DX4_read 53 rfl) rfl shp14 rfl (by decide) rfl rfl fl_SixWalls_LawText_20 ?_
  rw [show (zup M16 14 1 0) 14 3 = M16 14 3 from by simp [zup, zcpy]]
  refine z_if_eq 114 (zdec DX4_read 54 rfl) rfl (fun h106 => ?_) (fun h106 => ?_)
  ·
    refine z_aload_n 0 (zdec DX4_read 58 rfl) rfl rfl (by decide) ?_
    refine z_getr (rw1 := -24) (ki := 4) (r' := q) 14 4 (zdec DX4_read 59 rfl) rfl rfl shp14 rfl (by decide) rfl rfl fl_SixWalls_LawText_24 hq2.2.1 ?_
    refine z_astore_n (L' := [(0, .inr (.inr 14)), (1, .inr (.inr q))]) (zdec DX4_read 60 rfl) rfl (by omega) rfl (by decide) ?_
    refine z_aload_n 0 (zdec DX4_read 61 rfl) rfl rfl (by decide) ?_
    refine z_getr (rw1 := -24) (ki := 5) (r' := (q + 1)) 14 4 (zdec DX4_read 62 rfl) rfl rfl shp14 rfl (by decide) rfl rfl fl_SixWalls_LawText_27 hq2.2.2.1 ?_
    refine z_astore_n (L' := [(0, .inr (.inr 14)), (1, .inr (.inr q)), (2, .inr (.inr (q + 1)))]) (zdec DX4_read 63 rfl) rfl (by omega) rfl (by decide) ?_
    refine z_aload_n 0 (zdec DX4_read 64 rfl) rfl rfl (by decide) ?_
    refine z_aload_n 0 (zdec DX4_read 65 rfl) rfl rfl (by decide) ?_
    refine z_getr (rw1 := -24) (ki := 7) (r' := (34 - q)) 14 4 (zdec DX4_read 66 rfl) rfl rfl shp14 rfl (by decide) rfl rfl fl_SixWalls_LawText_33 hq2.2.2.2.1 ?_
    refine z_putr (rw1 := -24) (ki := 4) 14 4 (zdec DX4_read 67 rfl) rfl rfl shp14 rfl (by decide) rfl rfl fl_SixWalls_LawText_24 (Or.inl rfl) ?_
    refine z_aload_n 0 (zdec DX4_read 68 rfl) rfl rfl (by decide) ?_
    refine z_aload_n 0 (zdec DX4_read 69 rfl) rfl rfl (by decide) ?_
    refine z_getr (rw1 := -24) (ki := 8) (r' := (35 - q)) 14 4 (zdec DX4_read 70 rfl) rfl rfl shp14 rfl (by decide) rfl rfl fl_SixWalls_LawText_36 (by rw [zup_ne (by decide)]; exact hq2.2.2.2.2) ?_
    refine z_putr (rw1 := -24) (ki := 5) 14 4 (zdec DX4_read 71 rfl) rfl rfl shp14 rfl (by decide) rfl rfl fl_SixWalls_LawText_27 (Or.inl rfl) ?_
    refine z_aload_n 0 (zdec DX4_read 72 rfl) rfl rfl (by decide) ?_
    refine z_aload_n 0 (zdec DX4_read 73 rfl) rfl rfl (by decide) ?_
    refine z_geti (ki := 9) 14 4 (zdec DX4_read 74 rfl) rfl shp14 rfl (by decide) rfl rfl fl_SixWalls_LawText_39 ?_
    rw [show (zup (zup (zup M16 14 1 0) (-24) 4 (34 - q)) (-24) 5 (35 - q)) 14 9 = M16 14 9 from by simp [zup, zcpy]]
    refine z_puti (ki := 6) 14 4 (zdec DX4_read 75 rfl) rfl shp14 rfl (by decide) rfl rfl fl_SixWalls_LawText_30 (Or.inl rfl) ?_
    refine z_aload_n 0 (zdec DX4_read 76 rfl) rfl rfl (by decide) ?_
    refine z_aload_n 1 (zdec DX4_read 77 rfl) rfl rfl (by omega) ?_
    refine z_putr (rw1 := -24) (ki := 7) 14 4 (zdec DX4_read 78 rfl) rfl rfl shp14 rfl (by decide) rfl rfl fl_SixWalls_LawText_33 (Or.inl rfl) ?_
    refine z_aload_n 0 (zdec DX4_read 79 rfl) rfl rfl (by decide) ?_
    refine z_aload_n 2 (zdec DX4_read 80 rfl) rfl rfl (by omega) ?_
    refine z_putr (rw1 := -24) (ki := 8) 14 4 (zdec DX4_read 81 rfl) rfl rfl shp14 rfl (by decide) rfl rfl fl_SixWalls_LawText_36 (Or.inl rfl) ?_
    refine z_iconst (-1) (zdec DX4_read 82 rfl) (by decide) ?_
    exact z_iret (zdec DX4_read 83 rfl) rfl (⟨rfl, Or.inr ⟨(by rw [e16']; omega), rfl, (by unfold zrdB zrdA; rw [e16'])⟩⟩)
  ·
    refine z_aload_n 0 (zdec DX4_read 55 rfl) rfl rfl (by decide) ?_
    refine z_geti (ki := 2) 14 4 (zdec DX4_read 56 rfl) rfl shp14 rfl (by decide) rfl rfl fl_SixWalls_LawText_17 ?_
    rw [show (zup M16 14 1 0) 14 2 = M16 14 2 from by simp [zup, zcpy]]
    exact z_iret (zdec DX4_read 57 rfl) rfl (⟨rfl, Or.inl ⟨(by rw [e16']; exact h106), (by rw [e16']), (by unfold zrdA; rw [e16'])⟩⟩)
set_option maxHeartbeats 4000000 in
theorem cX9_feed {M : zMm} (hP : zP M) (hf : 0 ≤ M 14 1 ∧ M 14 1 ≤ 120) (v : Int) : zW mX9_feed 3 (fun rv S' M' => S' = zS0 ∧ rv = some (.inl (if 0 ≤ v ∧ v ≤ 255 then (if M 14 1 < 120 then M 14 1 + 1 else -3) else -1)) ∧ M' = if (0 ≤ v ∧ v ≤ 255) ∧ M 14 1 < 120 then zup (zup M 15 (M 14 1) v) 14 1 (M 14 1 + 1) else M) (0, 0) zS0 0 (zargs 0 [.inr (.inr 0), .inl v]) [] M := by
  change zW _ _ _ _ _ 0 [(0, .inr (.inr 0)), (1, .inl v)] [] M
  refine z_iload_n 1 (zdec DX9_feed 0 rfl) rfl rfl ?_
  refine z_iconst 0 (zdec DX9_feed 1 rfl) (by decide) ?_
  refine z_sipush 255 (zdec DX9_feed 2 rfl) (by decide) ?_
  refine z_invs mX9_within [.inl v, .inl 0, .inl 255] (zdec DX9_feed 3 rfl) (Or.inl ml_SixWalls_76) okX9_within rfl rfl (Nat.le_of_ble_eq_true rfl) (Nat.le_of_ble_eq_true rfl) (b' := (0, 0)) ⟨Nat.le_refl 0, Nat.le_refl 0⟩ (Nat.le_of_ble_eq_true rfl) (cX9_within v 0 255) (fun rv9 S9 M5 h9 => ?_)
  obtain ⟨rfl, rfl, rfl⟩ := h9
  change zW _ _ _ _ _ 8 [(0, .inr (.inr 0)), (1, .inl v)] [.inl (zb (0 ≤ v ∧ v ≤ 255))] M
  refine z_if_ne 13 (zdec DX9_feed 4 rfl) rfl (fun h8 => ?_) (fun h8 => ?_)
  ·
    have hq8 := zb_ne0.mp h8
    refine z_aload_n 0 (zdec DX9_feed 7 rfl) rfl rfl (by decide) ?_
    refine z_getr (rw1 := -10) (ki := 1) (r' := 14) 0 9 (zdec DX9_feed 8 rfl) rfl rfl shp0 rfl (by decide) rfl rfl fl_SixWalls_19 (zPa hP 1 rfl) ?_
    refine z_iload_n 1 (zdec DX9_feed 9 rfl) rfl rfl ?_
    refine z_inv mX4_take 14 4 [.inl v] (zdec DX9_feed 10 rfl) ml_SixWalls_184 okX4_take rfl shp14 rfl rfl rfl rfl (Nat.le_of_ble_eq_true rfl) (Nat.le_of_ble_eq_true rfl) (b' := (0, 0)) ⟨Nat.le_refl 0, Nat.le_refl 0⟩ (Nat.le_of_ble_eq_true rfl) (cX4_take hP hf.1 v) (fun rv9 S9 M18 h9 => ?_)
    obtain ⟨rfl, rfl, e18⟩ := h9
    have hP18 : zP M18 := by rw [e18]; split; exact zP_up (zP_up hP (by decide)) (by decide); exact hP
    change zW _ _ _ _ _ 21 [(0, .inr (.inr 0)), (1, .inl v)] [.inl (zb (M 14 1 < 120))] M18
    refine z_if_eq 34 (zdec DX9_feed 11 rfl) rfl (fun h21 => ?_) (fun h21 => ?_)
    ·
      have hq21 := zb_eq0.mp h21
      rw [if_neg hq21] at e18
      refine z_bipush (-3) (zdec DX9_feed 16 rfl) (by decide) ?_
      exact z_iret (zdec DX9_feed 17 rfl) rfl (⟨rfl, zri (by rw [if_pos hq8, if_neg hq21]), (by rw [if_neg (fun e => hq21 e.2), e18])⟩)
    ·
      have hq21 := zb_ne0.mp h21
      rw [if_pos hq21] at e18
      refine z_aload_n 0 (zdec DX9_feed 12 rfl) rfl rfl (by decide) ?_
      refine z_getr (rw1 := -10) (ki := 1) (r' := 14) 0 9 (zdec DX9_feed 13 rfl) rfl rfl shp0 rfl (by decide) rfl rfl fl_SixWalls_19 (zPa hP18 1 rfl) ?_
      refine z_inv mX4_fed 14 4 [] (zdec DX9_feed 14 rfl) ml_SixWalls_187 okX4_fed rfl shp14 rfl rfl rfl rfl (Nat.le_of_ble_eq_true rfl) (Nat.le_of_ble_eq_true rfl) (b' := (0, 0)) ⟨Nat.le_refl 0, Nat.le_refl 0⟩ (Nat.le_of_ble_eq_true rfl) (cX4_fed hP18) (fun rv9 S9 M28 h9 => ?_)
      obtain ⟨rfl, rfl, rfl⟩ := h9
      change zW _ _ _ _ _ 31 [(0, .inr (.inr 0)), (1, .inl v)] [.inl (M18 14 1)] M18
      refine z_goto 36 (zdec DX9_feed 15 rfl) rfl ?_
      exact z_iret (zdec DX9_feed 17 rfl) rfl (⟨rfl, zri (by rw [if_pos hq8, if_pos hq21, e18, zup_self]), (by rw [if_pos ⟨hq8, hq21⟩, e18])⟩)
  ·
    refine z_iconst (-1) (zdec DX9_feed 5 rfl) (by decide) ?_
    exact z_iret (zdec DX9_feed 6 rfl) rfl (⟨rfl, zri (by rw [if_neg (fun e => h8 (zb_ne0.mpr e))]), (by rw [if_neg (fun e => h8 (zb_ne0.mpr e.1))])⟩)
set_option maxHeartbeats 4000000 in
theorem cX9_law {M : zMm} (hP : zP M) {q : Int} (hT : zTw M q) : zW mX9_law 92 (fun rv S' M' => S' = zS0 ∧ ((zrLns q 121 (zrd0 M) 14 3 ≠ 0 ∧ rv = some (.inl (-100 - zrLns q 121 (zrd0 M) 14 2)) ∧ M' = zrdA q M) ∨ (zrLns q 121 (zrd0 M) 14 3 = 0 ∧ rv = some (.inl 1) ∧ M' = zrdB q M))) (0, 0) zS0 0 (zargs 0 [.inr (.inr 0)]) [] M := by
  change zW _ _ _ _ _ 0 [(0, .inr (.inr 0))] [] M
  refine z_aload_n 0 (zdec DX9_law 0 rfl) rfl rfl (by decide) ?_
  refine z_getr (rw1 := -10) (ki := 1) (r' := 14) 0 9 (zdec DX9_law 1 rfl) rfl rfl shp0 rfl (by decide) rfl rfl fl_SixWalls_19 (zPa hP 1 rfl) ?_
  refine z_inv mX4_read 14 4 [] (zdec DX9_law 2 rfl) ml_SixWalls_191 okX4_read rfl shp14 rfl rfl rfl rfl (Nat.le_of_ble_eq_true rfl) (Nat.le_of_ble_eq_true rfl) (b' := (0, 0)) ⟨Nat.le_refl 0, Nat.le_refl 0⟩ (Nat.le_of_ble_eq_true rfl) (cX4_read hP hT) (fun rv9 S9 M4 h9 => ?_)
  obtain ⟨rfl, h4⟩ := h9
  have ha : 0 ≤ zrLns q 121 (zrd0 M) 14 2 ∧ zrLns q 121 (zrd0 M) 14 2 ≤ 120 := by have := (hT.rd0 hP).lns 121 |>.at_; omega
  obtain ⟨r4, rfl⟩ : ∃ r, rv9 = some (.inl r) := by rcases h4 with h | h <;> exact ⟨_, h.2.1⟩
  have hr4 : (r4 = zrLns q 121 (zrd0 M) 14 2 ∧ zrLns q 121 (zrd0 M) 14 3 ≠ 0 ∧ M4 = zrdA q M) ∨ (r4 = -1 ∧ zrLns q 121 (zrd0 M) 14 3 = 0 ∧ M4 = zrdB q M) := by rcases h4 with h | h; (exact Or.inl ⟨by simpa using h.2.1, h.1, h.2.2⟩); (exact Or.inr ⟨by simpa using h.2.1, h.1, h.2.2⟩)
  change zW _ _ _ _ _ 7 [(0, .inr (.inr 0))] [.inl r4] M4
  refine z_istore_n (L' := [(0, .inr (.inr 0)), (1, .inl r4)]) (zdec DX9_law 3 rfl) rfl rfl (by decide) ?_
  refine z_iload_n 1 (zdec DX9_law 4 rfl) rfl rfl ?_
  refine z_if_ge 16 (zdec DX9_law 5 rfl) rfl (fun h9 => ?_) (fun h9 => ?_)
  ·
    refine z_bipush (-100) (zdec DX9_law 8 rfl) (by decide) ?_
    refine z_iload_n 1 (zdec DX9_law 9 rfl) rfl rfl ?_
    refine z_isub (zdec DX9_law 10 rfl) (by unfold z32; omega) ?_
    exact z_iret (zdec DX9_law 11 rfl) rfl (⟨rfl, Or.inl (by rcases hr4 with h | h; (exact ⟨h.2.1, by rw [h.1], h.2.2⟩); (exfalso; omega))⟩)
  ·
    refine z_iconst 1 (zdec DX9_law 6 rfl) (by decide) ?_
    refine z_goto 20 (zdec DX9_law 7 rfl) rfl ?_
    exact z_iret (zdec DX9_law 11 rfl) rfl (⟨rfl, Or.inr (by rcases hr4 with h | h; (exfalso; omega); (exact ⟨h.2.1, rfl, h.2.2⟩))⟩)
