/-! the reference: feed, law, what goes through a wall, a day -/
def zlwB (M M' : zMm) : Prop := zonly 56 M M' ∧ M' 56 12 = 0 ∧ ∀ j : Int, j ≠ 12 → j < 15 ∨ 19 < j → M' 56 j = M 56 j
def zlwG (M M' : zMm) : Prop := (∀ c : Int, c ≠ 56 → c ≠ 66 → M' c = M c) ∧ M' 56 12 = 0 ∧ M' 56 14 = M 56 12 ∧ (∀ j : Int, j ≠ 12 → j ≠ 14 → j < 15 ∨ 19 < j → M' 56 j = M 56 j) ∧ ∀ k : Int, 0 ≤ k → k < M 56 12 → M' 66 k = M 65 k
theorem zoQ.P {M M2 : zMm} (h : zoQ M M2) (hP : zP M) : zP M2 := h.1.P (by decide) hP
/-- the text in force has no fault -/
def zTR (M : zMm) : Prop := M 56 14 = -1 ∨ ((0 ≤ M 56 14 ∧ M 56 14 ≤ 120) ∧ (zpLs (M 66) (M 56 14) 121 0 []).2.1 = false)
def zlwR (M : zMm) (w d a b : Int) : Int := if 0 ≤ M 56 14 then zvls (fun g => znmd g d (M 57 (32 + w)) (M 57 (65 + w)) a b) (zpLs (M 66) (M 56 14) 121 0 []).2.2 else d / (M 57 (32 + w) + 1) / 6 + M 57 (65 + w)
def zoH (M M2 : zMm) : Prop := (∀ c : Int, c ≠ 56 → c ≠ 67 → M2 c = M c) ∧ ∀ j : Int, j < 15 ∨ 19 < j → M2 56 j = M 56 j
theorem zoH.rf {M : zMm} : zoH M M := ⟨fun _ _ _ => rfl, fun _ _ => rfl⟩
theorem zoH.up {M M2 : zMm} {k v : Int} (h : zoH M M2) : zoH M (zup M2 67 k v) := ⟨fun c a b => (zup_row b).trans (h.1 c a b), fun j a => (congrFun (zup_row (by decide)) j).trans (h.2 j a)⟩
theorem zoH.P {M M2 : zMm} (h : zoH M M2) (hP : zP M) : zP M2 := zP_of hP fun r hr => h.1 r (by omega) (by omega)
def zoD (M M2 : zMm) : Prop := (∀ c : Int, c ≠ 56 → c ≠ 67 → c ≠ 68 → c ≠ 69 → c ≠ 70 → c ≠ 71 → M2 c = M c) ∧ ∀ j : Int, j < 15 ∨ 19 < j → M2 56 j = M 56 j
theorem zoD.rf {M : zMm} : zoD M M := ⟨fun _ _ _ _ _ _ _ => rfl, fun _ _ => rfl⟩
theorem zoD.tr {M M1 M2 : zMm} (h : zoD M M1) (h2 : zoD M1 M2) : zoD M M2 := ⟨fun c a b d e f g => (h2.1 c a b d e f g).trans (h.1 c a b d e f g), fun j a => (h2.2 j a).trans (h.2 j a)⟩
theorem zoD.on {M M1 M2 : zMm} (h : zoD M M1) (h2 : zoH M1 M2) : zoD M M2 := ⟨fun c a b d e f g => (h2.1 c a b).trans (h.1 c a b d e f g), fun j a => (h2.2 j a).trans (h.2 j a)⟩
theorem zoD.up {M M2 : zMm} {r k v : Int} (h : zoD M M2) (hr : r = 68 ∨ r = 69 ∨ r = 70 ∨ r = 71) : zoD M (zup M2 r k v) := ⟨fun c a b d e f g => (zup_row (by omega)).trans (h.1 c a b d e f g), fun j a => (congrFun (zup_row (by omega)) j).trans (h.2 j a)⟩
theorem zoD.P {M M2 : zMm} (h : zoD M M2) (hP : zP M) : zP M2 := zP_of hP fun r hr => h.1 r (by omega) (by omega) (by omega) (by omega) (by omega) (by omega)
theorem zoD.r {M M2 : zMm} (h : zoD M M2) (c : Int) (hc : c < 56 ∨ (56 < c ∧ c < 67) ∨ 71 < c) : M2 c = M c := h.1 c (by omega) (by omega) (by omega) (by omega) (by omega) (by omega)
theorem zoD.g {M M2 : zMm} (h : zoD M M2) (hg : zGr M) : zGr M2 := hg.of (h.r 61 (by omega)) (h.r 62 (by omega))
theorem zoD.R {M M2 : zMm} (h : zoD M M2) (hR : zRr M) : zRr M2 := hR.of (h.r 57 (by omega)) (h.r 63 (by omega)) (h.r 64 (by omega))
theorem zoD.T {M M2 : zMm} (h : zoD M M2) (hT : zTR M) : zTR M2 := by
  unfold zTR
  rw [h.r 66 (by omega), h.2 14 (by omega)]
  exact hT
theorem zlwR_of {M M2 : zMm} (e1 : M2 57 = M 57) (e2 : M2 66 = M 66) (e3 : M2 56 14 = M 56 14) : zlwR M2 = zlwR M := by
  funext w d a b
  unfold zlwR
  rw [e1, e2, e3]
theorem zoD.lw {M M2 : zMm} (h : zoD M M2) : zlwR M2 = zlwR M := zlwR_of (h.r 57 (by omega)) (h.r 66 (by omega)) (h.2 14 (by omega))
def zflR (M : zMm) (T : Int → Int) (w : Int) : Int := if T (zhigh w) ≤ T (zlow w) then zcap (T (zlow w) - T (zhigh w)) (zlwR M w (T (zlow w) - T (zhigh w)) (T (zlow w)) (T (zhigh w))) else -(zcap (T (zhigh w) - T (zlow w)) (zlwR M w (T (zhigh w) - T (zlow w)) (T (zhigh w)) (T (zlow w))))
theorem zflR_H {M M2 : zMm} {T T' : Int → Int} (h : zoD M M2) (hT : zH T' T) (w : Int) : zflR M2 T' w = zflR M T w := by
  have lb := zlow_b w
  have lh := zhigh_b w
  unfold zflR
  rw [h.lw, hT _ lb.1 lb.2, hT _ lh.1 lh.2]
theorem zflR_b {M : zMm} {T : Int → Int} (h : zbW T) (w : Int) : -49 ≤ zflR M T w ∧ zflR M T w ≤ 49 := by
  have b1 := h _ (zlow_b w).1 (zlow_b w).2
  have b2 := h _ (zhigh_b w).1 (zhigh_b w).2
  unfold zflR
  split
  · have := zcap_b (l := zlwR M w (T (zlow w) - T (zhigh w)) (T (zlow w)) (T (zhigh w))) (d := T (zlow w) - T (zhigh w)) ⟨by omega, by omega⟩
    omega
  · have := zcap_b (l := zlwR M w (T (zhigh w) - T (zlow w)) (T (zhigh w)) (T (zlow w))) (d := T (zhigh w) - T (zlow w)) ⟨by omega, by omega⟩
    omega
def zgw (fl : Int → Int) (G : Int → Int) (w : Int) : Int → Int := zpu (zpu G (zlow w) (G (zlow w) - fl w)) (zhigh w) (zpu G (zlow w) (G (zlow w) - fl w) (zhigh w) + fl w)
def znx0 (s : zMm) (T : Int → Int) (h : Int) : Int := T h + s 57 h - s 57 131 * (6 - zsid h)
def znx (s : zMm) (T : Int → Int) (n : Int) : Int → Int := zfo (zgw (zflR s T)) (znx0 s T) n
def zdyR (s : zMm) (T : Int → Int) : Int → Int := fun h => zmax 0 (zmin 99 (znx s T 33 h))
theorem zbW.dyR {s : zMm} {T : Int → Int} : zbW (zdyR s T) := by
  intro h h0 h1
  unfold zdyR zmax zmin
  split <;> split <;> omega
theorem znx_b {s : zMm} {T : Int → Int} (hR : zRr s) (hT : zbW T) : ∀ (n : Nat) (h : Int), 0 ≤ h → h < 16 → -54 - 100 * (n : Int) ≤ zfold (zgw (zflR s T)) (znx0 s T) n h ∧ zfold (zgw (zflR s T)) (znx0 s T) n h ≤ 108 + 100 * (n : Int) := by
  intro n
  induction n with
  | zero =>
    intro h h0 h1
    have hf := hR.2.2.1
    have hs := zsid_b h
    have hh := hR.1 h h0 h1
    have ht := hT h h0 h1
    have e1 : 0 ≤ s 57 131 * (6 - zsid h) := Int.mul_nonneg hf.1 (by omega)
    have e2 : s 57 131 * (6 - zsid h) ≤ 9 * (6 - zsid h) := Int.mul_le_mul_of_nonneg_right hf.2 (by omega)
    show _ ≤ T h + s 57 h - s 57 131 * (6 - zsid h) ∧ T h + s 57 h - s 57 131 * (6 - zsid h) ≤ _
    omega
  | succ n ih =>
    intro h h0 h1
    have lb := zlow_b n
    have lh := zhigh_b n
    have i1 := ih _ lb.1 lb.2
    have i2 := ih _ lh.1 lh.2
    have i3 := ih h h0 h1
    have hf := zflR_b (M := s) hT n
    show _ ≤ zgw (zflR s T) (zfold (zgw (zflR s T)) (znx0 s T) n) n h ∧ zgw (zflR s T) (zfold (zgw (zflR s T)) (znx0 s T) n) n h ≤ _
    generalize zfold (zgw (zflR s T)) (znx0 s T) n = G at *
    unfold zgw zpu
    split
    · split <;> omega
    · split <;> omega
theorem znx_s {s : zMm} {T : Int → Int} {w : Int} (h : 0 ≤ w) : znx s T (w + 1) = zgw (zflR s T) (znx s T w) w := zfo_s _ _ h
theorem zgw_H {fl f g : Int → Int} (h : zH f g) (w : Int) : zH (zgw fl f w) (zgw fl g w) := by
  have lb := zlow_b w
  have lh := zhigh_b w
  have h1 := h.pu (k := zlow w) (v := f (zlow w) - fl w) (v' := g (zlow w) - fl w) (by rw [h _ lb.1 lb.2])
  exact h1.pu (by rw [h1 _ lh.1 lh.2])
theorem zcap_w {d v : Int} (hd : 0 ≤ d) : zcap d v = if v < 0 then 0 else if d / 2 < v then d / 2 else v := by
  unfold zcap zmax zmin
  repeat' split
  all_goals omega
set_option maxHeartbeats 4000000 in
theorem cX10_feed {M : zMm} (hP : zP M) (hf : 0 ≤ M 56 12 ∧ M 56 12 ≤ 120) (v : Int) : zW mX10_feed 2 (fun rv S' M' => S' = zS0 ∧ rv = some (.inl (if 0 ≤ v ∧ v ≤ 255 then (if M 56 12 < 120 then M 56 12 + 1 else -3) else -1)) ∧ M' = if (0 ≤ v ∧ v ≤ 255) ∧ M 56 12 < 120 then zup (zup M 65 (M 56 12) v) 56 12 (M 56 12 + 1) else M) (0, 0) zS0 0 (zargs 0 [.inr (.inr 56), .inl v]) [] M := by
  change zW _ _ _ _ _ 0 [(0, .inr (.inr 56)), (1, .inl v)] [] M
  refine z_iload_n 1 (zdec DX10_feed 0 rfl) rfl rfl ?_
  refine z_i2l (zdec DX10_feed 1 rfl) ?_
  refine z_lconst 0 (zdec DX10_feed 2 rfl) rfl ?_
  refine z_ldc2 255 (zdec DX10_feed 3 rfl) kl_SixWallsModel_180 rfl ⟨by decide, by decide⟩ ?_
  refine z_invs mX10_within [.inr (.inl v), .inr (.inl 0), .inr (.inl 255)] (zdec DX10_feed 4 rfl) (Or.inl ml_SixWallsModel_112) okX10_within rfl rfl (Nat.le_of_ble_eq_true rfl) (Nat.le_of_ble_eq_true rfl) (b' := (0, 0)) ⟨Nat.le_refl 0, Nat.le_refl 0⟩ (Nat.le_of_ble_eq_true rfl) (cX10_within v 0 255) (fun rv9 S9 M6 h9 => ?_)
  obtain ⟨rfl, rfl, rfl⟩ := h9
  change zW _ _ _ _ _ 9 [(0, .inr (.inr 56)), (1, .inl v)] [.inl (zb (0 ≤ v ∧ v ≤ 255))] M
  refine z_if_ne 14 (zdec DX10_feed 5 rfl) rfl (fun h9 => ?_) (fun h9 => ?_)
  ·
    have q9 := zb_ne0.mp h9
    refine z_aload_n 0 (zdec DX10_feed 8 rfl) rfl rfl (by decide) ?_
    refine z_geti (ki := 12) 56 10 (zdec DX10_feed 9 rfl) rfl shp56 rfl (by decide) rfl rfl fl_SixWallsModel_182 ?_
    refine z_bipush 120 (zdec DX10_feed 10 rfl) (by decide) ?_
    refine z_icmp_ne 26 (zdec DX10_feed 11 rfl) rfl (fun h20 => ?_) (fun h20 => ?_)
    ·
      refine z_aload_n 0 (zdec DX10_feed 14 rfl) rfl rfl (by decide) ?_
      refine z_getr (rw1 := -66) (ki := 11) (r' := 65) 56 10 (zdec DX10_feed 15 rfl) rfl rfl shp56 rfl (by decide) rfl rfl fl_SixWallsModel_35 (zPa hP 65 rfl) ?_
      refine z_aload_n 0 (zdec DX10_feed 16 rfl) rfl rfl (by decide) ?_
      refine z_geti (ki := 12) 56 10 (zdec DX10_feed 17 rfl) rfl shp56 rfl (by decide) rfl rfl fl_SixWallsModel_182 ?_
      refine z_iload_n 1 (zdec DX10_feed 18 rfl) rfl rfl ?_
      refine z_iast 65 (zdec DX10_feed 19 rfl) rfl shp65 ⟨by omega, by omega⟩ ?_
      refine z_aload_n 0 (zdec DX10_feed 20 rfl) rfl rfl (by decide) ?_
      refine z_dup (zdec DX10_feed 21 rfl) rfl ?_
      refine z_geti (ki := 12) 56 10 (zdec DX10_feed 22 rfl) rfl shp56 rfl (by decide) rfl rfl fl_SixWallsModel_182 ?_
      rw [show (zup M 65 (M 56 12) v) 56 12 = M 56 12 from by simp [zup, zcpy]]
      refine z_iconst 1 (zdec DX10_feed 23 rfl) (by decide) ?_
      refine z_iadd (zdec DX10_feed 24 rfl) (by unfold z32; omega) ?_
      refine z_puti (ki := 12) 56 10 (zdec DX10_feed 25 rfl) rfl shp56 rfl (by decide) rfl rfl fl_SixWallsModel_182 (Or.inl rfl) ?_
      refine z_aload_n 0 (zdec DX10_feed 26 rfl) rfl rfl (by decide) ?_
      refine z_geti (ki := 12) 56 10 (zdec DX10_feed 27 rfl) rfl shp56 rfl (by decide) rfl rfl fl_SixWallsModel_182 ?_
      rw [show (zup (zup M 65 (M 56 12) v) 56 12 ((M 56 12) + 1)) 56 12 = (M 56 12) + 1 from by simp [zup, zcpy]]
      exact z_iret (zdec DX10_feed 28 rfl) rfl (by first | exact ⟨rfl, zri (by rw [if_neg q9]), (by rw [if_neg (fun e => q9 e.1)])⟩ | exact ⟨rfl, zri (by rw [if_pos q9, if_neg (by omega)]), (by rw [if_neg (by omega)])⟩ | exact ⟨rfl, zri (by rw [if_pos q9, if_pos (by omega)]), (by rw [if_pos ⟨q9, by omega⟩])⟩)
    ·
      refine z_bipush (-3) (zdec DX10_feed 12 rfl) (by decide) ?_
      exact z_iret (zdec DX10_feed 13 rfl) rfl (by first | exact ⟨rfl, zri (by rw [if_neg q9]), (by rw [if_neg (fun e => q9 e.1)])⟩ | exact ⟨rfl, zri (by rw [if_pos q9, if_neg (by omega)]), (by rw [if_neg (by omega)])⟩ | exact ⟨rfl, zri (by rw [if_pos q9, if_pos (by omega)]), (by rw [if_pos ⟨q9, by omega⟩])⟩)
  ·
    have q9 : ¬ (0 ≤ v ∧ v ≤ 255) := fun e => h9 (zb_ne0.mpr e)
    refine z_iconst (-1) (zdec DX10_feed 6 rfl) (by decide) ?_
    exact z_iret (zdec DX10_feed 7 rfl) rfl (by first | exact ⟨rfl, zri (by rw [if_neg q9]), (by rw [if_neg (fun e => q9 e.1)])⟩ | exact ⟨rfl, zri (by rw [if_pos q9, if_neg (by omega)]), (by rw [if_neg (by omega)])⟩ | exact ⟨rfl, zri (by rw [if_pos q9, if_pos (by omega)]), (by rw [if_pos ⟨q9, by omega⟩])⟩)
set_option maxHeartbeats 4000000 in
theorem lp_X10_law_37 {Q : zPost} {M M6 : zMm} (hP : zP M) (hf : 0 ≤ M 56 12 ∧ M 56 12 ≤ 120) (oq : zoQ M M6) (hx60 : ∀ (M2 : zMm), ((∀ c : Int, c ≠ 56 → c ≠ 66 → M2 c = M c) ∧ (M2 56 12 = 0 ∧ ∀ j : Int, j ≠ 12 → j < 15 ∨ 19 < j → M2 56 j = M 56 j) ∧ ∀ i : Int, 0 ≤ i → i < M 56 12 → M2 66 i = M 65 i) → zW mX10_law 47 Q (0, 0) zS0 60 [(0, .inr (.inr 56)), (2, .inl (M 56 12))] [] M2) : ∀ (n : Nat) (k : Int) (M2 : zMm), (M 56 12 - k).toNat < n → (0 ≤ k ∧ k ≤ M 56 12 ∧ (∀ c : Int, c ≠ 56 → c ≠ 66 → M2 c = M c) ∧ (M2 56 12 = 0 ∧ ∀ j : Int, j ≠ 12 → j < 15 ∨ 19 < j → M2 56 j = M 56 j) ∧ ∀ i : Int, 0 ≤ i → i < k → M2 66 i = M 65 i) → zW mX10_law 47 Q (0, 0) zS0 37 [(0, .inr (.inr 56)), (2, .inl (M 56 12)), (3, .inl k)] [] M2 := by
  intro n
  induction n with
  | zero => intro k M2 hn; exact absurd hn (Nat.not_lt_zero _)
  | succ n ih =>
    intro k M2 hn hI
    refine z_iload_n 2 (zdec DX10_law 22 rfl) rfl rfl ?_
    refine z_iload_n 1 (zdec DX10_law 23 rfl) rfl rfl ?_
    refine z_icmp_ge 60 (zdec DX10_law 24 rfl) rfl (fun h39 => ?_) (fun h39 => ?_)
    ·
      refine z_weak (L' := [(0, .inr (.inr 56)), (2, .inl (M 56 12))]) (by simp) ?_
      exact hx60 M2 ⟨hI.2.2.1, hI.2.2.2.1, fun i a b => hI.2.2.2.2 i a (by omega)⟩
    ·
      refine z_aload_n 0 (zdec DX10_law 25 rfl) rfl rfl (by decide) ?_
      refine z_getr (rw1 := -66) (ki := 13) (r' := 66) 56 10 (zdec DX10_law 26 rfl) rfl rfl shp56 rfl (by decide) rfl rfl fl_SixWallsModel_38 (zPa (zP_of hP fun r hr => hI.2.2.1 r (by omega) (by omega)) 66 rfl) ?_
      refine z_iload_n 2 (zdec DX10_law 27 rfl) rfl rfl ?_
      refine z_aload_n 0 (zdec DX10_law 28 rfl) rfl rfl (by decide) ?_
      refine z_getr (rw1 := -66) (ki := 11) (r' := 65) 56 10 (zdec DX10_law 29 rfl) rfl rfl shp56 rfl (by decide) rfl rfl fl_SixWallsModel_35 (zPa (zP_of hP fun r hr => hI.2.2.1 r (by omega) (by omega)) 65 rfl) ?_
      refine z_iload_n 2 (zdec DX10_law 30 rfl) rfl rfl ?_
      refine z_iald 65 (zdec DX10_law 31 rfl) rfl shp65 ⟨by omega, by omega⟩ ?_
      refine z_iast 66 (zdec DX10_law 32 rfl) rfl shp66 ⟨by omega, by omega⟩ ?_
      refine z_iinc (L' := [(0, .inr (.inr 56)), (2, .inl (M 56 12)), (3, .inl (k + 1))]) 2 (zdec DX10_law 33 rfl) rfl (by unfold z32; omega) rfl (by decide) ?_
      refine z_goto 37 (zdec DX10_law 34 rfl) rfl ?_
      exact ih (k + 1) (zup M2 66 k (M2 65 k)) (by omega) ⟨by omega, by omega, (fun c a b => by rw [zup_row b]; exact hI.2.2.1 c a b), ⟨by rw [zup_row (by decide)]; exact hI.2.2.2.1.1, fun j a b => by rw [zup_row (by decide)]; exact hI.2.2.2.1.2 j a b⟩, fun i a b => (by by_cases e : i = k; (subst e; rw [zup_self]; exact congrFun (hI.2.2.1 65 (by decide) (by decide)) i); (rw [zup_ne e]; exact hI.2.2.2.2 i a (by omega)))⟩
set_option maxHeartbeats 4000000 in
theorem cX10_law {M : zMm} (hP : zP M) (hf : 0 ≤ M 56 12 ∧ M 56 12 ≤ 120) : zW mX10_law 47 (fun rv S' M' => S' = zS0 ∧ (0 ≤ (zpLs (M 65) (M 56 12) 121 0 []).1 ∧ (zpLs (M 65) (M 56 12) 121 0 []).1 ≤ 120) ∧ (((zpLs (M 65) (M 56 12) 121 0 []).2.1 = true ∧ rv = some (.inl (-100 - (zpLs (M 65) (M 56 12) 121 0 []).1)) ∧ zlwB M M') ∨ ((zpLs (M 65) (M 56 12) 121 0 []).2.1 = false ∧ rv = some (.inl 1) ∧ zlwG M M'))) (0, 0) zS0 0 (zargs 0 [.inr (.inr 56)]) [] M := by
  change zW _ _ _ _ _ 0 [(0, .inr (.inr 56))] [] M
  refine z_aload_n 0 (zdec DX10_law 0 rfl) rfl rfl (by decide) ?_
  refine z_iconst (-1) (zdec DX10_law 1 rfl) (by decide) ?_
  refine z_aload_n 0 (zdec DX10_law 2 rfl) rfl rfl (by decide) ?_
  refine z_geti (ki := 12) 56 10 (zdec DX10_law 3 rfl) rfl shp56 rfl (by decide) rfl rfl fl_SixWallsModel_182 ?_
  refine z_inv mX10_workOut 56 10 [.inl (-1), .inl (M 56 12)] (zdec DX10_law 4 rfl) ml_SixWallsModel_231 okX10_workOut rfl shp56 rfl rfl rfl rfl (Nat.le_of_ble_eq_true rfl) (Nat.le_of_ble_eq_true rfl) (b' := (0, 0)) ⟨Nat.le_refl 0, Nat.le_refl 0⟩ (Nat.le_of_ble_eq_true rfl) (cX10_workOut hP (-1) (M 56 12) (Or.inl rfl) hf) (fun rv9 S9 M6 h9 => ?_)
  obtain ⟨rfl, x, rfl, oq, e18, eb, ev⟩ := h9
  have e12 := oq.2 12 (by omega)
  have esr : zsrcT M (-1) = M 65 := if_pos (by decide)
  rw [esr] at e18 eb ev
  change zW _ _ _ _ _ 9 [(0, .inr (.inr 56))] [.inl x] M6
  refine z_istore_n (L' := [(0, .inr (.inr 56)), (1, .inl x)]) (zdec DX10_law 5 rfl) rfl rfl (by decide) ?_
  refine z_aload_n 0 (zdec DX10_law 6 rfl) rfl rfl (by decide) ?_
  refine z_geti (ki := 12) 56 10 (zdec DX10_law 7 rfl) rfl shp56 rfl (by decide) rfl rfl fl_SixWallsModel_182 ?_
  rw [e12]
  refine z_istore_n (L' := [(0, .inr (.inr 56)), (1, .inl x), (2, .inl (M 56 12))]) (zdec DX10_law 8 rfl) rfl rfl (by decide) ?_
  refine z_aload_n 0 (zdec DX10_law 9 rfl) rfl rfl (by decide) ?_
  refine z_iconst 0 (zdec DX10_law 10 rfl) (by decide) ?_
  refine z_puti (ki := 12) 56 10 (zdec DX10_law 11 rfl) rfl shp56 rfl (by decide) rfl rfl fl_SixWallsModel_182 (Or.inl rfl) ?_
  refine z_aload_n 0 (zdec DX10_law 12 rfl) rfl rfl (by decide) ?_
  refine z_geti (ki := 18) 56 10 (zdec DX10_law 13 rfl) rfl shp56 rfl (by decide) rfl rfl fl_SixWallsModel_194 ?_
  rw [show (zup M6 56 12 0) 56 18 = M6 56 18 from by simp [zup, zcpy]]
  refine z_if_lt 35 (zdec DX10_law 14 rfl) rfl (fun h24 => ?_) (fun h24 => ?_)
  ·
    refine z_iconst 0 (zdec DX10_law 20 rfl) (by decide) ?_
    refine z_istore_n (L' := [(0, .inr (.inr 56)), (1, .inl x), (2, .inl (M 56 12)), (3, .inl 0)]) (zdec DX10_law 21 rfl) rfl rfl (by decide) ?_
    refine z_weak (L' := [(0, .inr (.inr 56)), (2, .inl (M 56 12)), (3, .inl 0)]) (by simp) ?_
    refine lp_X10_law_37 hP hf oq (hx60 := fun M2 hx => ?_) _ 0 (zup M6 56 12 0) (Nat.lt_succ_self _) ⟨by omega, hf.1, (fun c a b => by rw [zup_row a]; exact oq.1 c a), ⟨zup_self _ _ _ _, fun j a b => by rw [zup_ne a]; exact oq.2 j b⟩, fun i a b => by omega⟩
    refine z_aload_n 0 (zdec DX10_law 35 rfl) rfl rfl (by decide) ?_
    refine z_iload_n 1 (zdec DX10_law 36 rfl) rfl rfl ?_
    refine z_puti (ki := 14) 56 10 (zdec DX10_law 37 rfl) rfl shp56 rfl (by decide) rfl rfl fl_SixWallsModel_93 (Or.inl rfl) ?_
    refine z_iconst 1 (zdec DX10_law 38 rfl) (by decide) ?_
    exact z_iret (zdec DX10_law 39 rfl) rfl (by refine ⟨rfl, eb, Or.inr ?_⟩; cases e : (zpLs (M 65) (M 56 12) 121 0 []).2.1 with | true => (rw [e, if_pos rfl] at e18; omega) | false => exact ⟨rfl, rfl, (fun c a b => by rw [zup_row a]; exact hx.1 c a b), (by rw [zup_ne (by decide)]; exact hx.2.1.1), zup_self _ _ _ _, (fun j a b d => by rw [zup_ne b]; exact hx.2.1.2 j a d), (fun i a b => by rw [zup_row (by decide)]; exact hx.2.2 i a b)⟩)
  ·
    refine z_bipush (-100) (zdec DX10_law 15 rfl) (by decide) ?_
    refine z_aload_n 0 (zdec DX10_law 16 rfl) rfl rfl (by decide) ?_
    refine z_geti (ki := 18) 56 10 (zdec DX10_law 17 rfl) rfl shp56 rfl (by decide) rfl rfl fl_SixWallsModel_194 ?_
    rw [show (zup M6 56 12 0) 56 18 = M6 56 18 from by simp [zup, zcpy]]
    refine z_isub (zdec DX10_law 18 rfl) (by unfold z32; omega) ?_
    exact z_iret (zdec DX10_law 19 rfl) rfl (by refine ⟨rfl, eb, Or.inl ?_⟩; cases e : (zpLs (M 65) (M 56 12) 121 0 []).2.1 with | false => (rw [e, if_neg (by simp)] at e18; omega) | true => (rw [e, if_pos rfl] at e18; exact ⟨rfl, by rw [e18], oq.1.up, zup_self _ _ _ _, fun j a b => by rw [zup_ne a]; exact oq.2 j b⟩))
set_option maxHeartbeats 4000000 in
theorem cX10_throughOf {M : zMm} (hP : zP M) (hR : zRr M) (hT : zTR M) (w a b : Int) (hw : 0 ≤ w ∧ w < 33) (hab : 0 ≤ b ∧ b ≤ a ∧ a ≤ 99) : zW mX10_throughOf 48 (fun rv S' M' => S' = zS0 ∧ rv = some (.inl (zcap (a - b) (zlwR M w (a - b) a b))) ∧ zoH M M') (0, 0) zS0 0 (zargs 0 [.inr (.inr 56), .inl w, .inl a, .inl b]) [] M := by
  change zW _ _ _ _ _ 0 [(0, .inr (.inr 56)), (1, .inl w), (2, .inl a), (3, .inl b)] [] M
  have hbw := hR.2.1 w hw.1 hw.2
  have hdv : 0 ≤ (a - b) / (M 57 (32 + w) + 1) ∧ (a - b) / (M 57 (32 + w) + 1) ≤ a - b := ⟨Int.ediv_nonneg (by omega) (by omega), Int.ediv_le_self _ (by omega)⟩
  refine z_iload_n 2 (zdec DX10_throughOf 0 rfl) rfl rfl ?_
  refine z_iload_n 3 (zdec DX10_throughOf 1 rfl) rfl rfl ?_
  refine z_isub (zdec DX10_throughOf 2 rfl) (by unfold z32; omega) ?_
  refine z_istore (L' := [(0, .inr (.inr 56)), (1, .inl w), (2, .inl a), (3, .inl b), (4, .inl (a - b))]) (zdec DX10_throughOf 3 rfl) rfl (by decide) ?_
  refine z_aload_n 0 (zdec DX10_throughOf 4 rfl) rfl rfl (by decide) ?_
  refine z_getr (rw1 := -66) (ki := 0) (r' := 57) 56 10 (zdec DX10_throughOf 5 rfl) rfl rfl shp56 rfl (by decide) rfl rfl fl_SixWallsModel_9 (zPa hP 57 rfl) ?_
  refine z_bipush 32 (zdec DX10_throughOf 6 rfl) (by decide) ?_
  refine z_iload_n 1 (zdec DX10_throughOf 7 rfl) rfl rfl ?_
  refine z_iadd (zdec DX10_throughOf 8 rfl) (by unfold z32; omega) ?_
  refine z_iald 57 (zdec DX10_throughOf 9 rfl) rfl shp57 ⟨by omega, by omega⟩ ?_
  refine z_istore (L' := [(0, .inr (.inr 56)), (1, .inl w), (2, .inl a), (3, .inl b), (4, .inl (a - b)), (5, .inl (M 57 (32 + w)))]) (zdec DX10_throughOf 10 rfl) rfl (by decide) ?_
  refine z_iload 4 (zdec DX10_throughOf 11 rfl) rfl ?_
  refine z_iload 5 (zdec DX10_throughOf 12 rfl) rfl ?_
  refine z_iconst 1 (zdec DX10_throughOf 13 rfl) (by decide) ?_
  refine z_iadd (zdec DX10_throughOf 14 rfl) (by unfold z32; omega) ?_
  refine z_idivp (zdec DX10_throughOf 15 rfl) (by omega) (by omega) ?_
  refine z_bipush 6 (zdec DX10_throughOf 16 rfl) (by decide) ?_
  refine z_idivp (zdec DX10_throughOf 17 rfl) (by omega) (by omega) ?_
  refine z_aload_n 0 (zdec DX10_throughOf 18 rfl) rfl rfl (by decide) ?_
  refine z_getr (rw1 := -66) (ki := 0) (r' := 57) 56 10 (zdec DX10_throughOf 19 rfl) rfl rfl shp56 rfl (by decide) rfl rfl fl_SixWallsModel_9 (zPa hP 57 rfl) ?_
  refine z_bipush 65 (zdec DX10_throughOf 20 rfl) (by decide) ?_
  refine z_iload_n 1 (zdec DX10_throughOf 21 rfl) rfl rfl ?_
  refine z_iadd (zdec DX10_throughOf 22 rfl) (by unfold z32; omega) ?_
  refine z_iald 57 (zdec DX10_throughOf 23 rfl) rfl shp57 ⟨by omega, by omega⟩ ?_
  refine z_iadd (zdec DX10_throughOf 24 rfl) (by unfold z32; omega) ?_
  refine z_istore (L' := [(0, .inr (.inr 56)), (1, .inl w), (2, .inl a), (3, .inl b), (4, .inl (a - b)), (5, .inl (M 57 (32 + w))), (6, .inl ((((a - b) / ((M 57 (32 + w)) + 1)) / 6) + (M 57 (65 + w))))]) (zdec DX10_throughOf 25 rfl) rfl (by decide) ?_
  refine z_aload_n 0 (zdec DX10_throughOf 26 rfl) rfl rfl (by decide) ?_
  refine z_geti (ki := 14) 56 10 (zdec DX10_throughOf 27 rfl) rfl shp56 rfl (by decide) rfl rfl fl_SixWallsModel_93 ?_
  refine z_if_lt 101 (zdec DX10_throughOf 28 rfl) rfl (fun h42 => ?_) (fun h42 => ?_)
  ·
    have el : zlwR M w (a - b) a b = (a - b) / (M 57 (32 + w) + 1) / 6 + M 57 (65 + w) := by unfold zlwR; rw [if_neg (by omega)]
    have oh : zoH M M := zoH.rf
    refine z_iload 6 (zdec DX10_throughOf 65 rfl) rfl ?_
    refine z_if_ge 110 (zdec DX10_throughOf 66 rfl) rfl (fun h103 => ?_) (fun h103 => ?_)
    ·
      refine z_iload 6 (zdec DX10_throughOf 69 rfl) rfl ?_
      refine z_iload 4 (zdec DX10_throughOf 70 rfl) rfl ?_
      refine z_iconst 2 (zdec DX10_throughOf 71 rfl) (by decide) ?_
      refine z_idivp (zdec DX10_throughOf 72 rfl) (by omega) (by omega) ?_
      refine z_icmp_le 126 (zdec DX10_throughOf 73 rfl) rfl (fun h116 => ?_) (fun h116 => ?_)
      ·
        refine z_iload 6 (zdec DX10_throughOf 78 rfl) rfl ?_
        exact z_iret (zdec DX10_throughOf 79 rfl) rfl (⟨rfl, zri (by rw [zcap_w (by omega), el]; first | rfl | (rw [if_pos (by omega)]; first | done | rfl) | (rw [if_neg (by omega)]; first | done | rfl) | (rw [if_pos (by omega), if_pos (by omega)]; first | done | rfl) | (rw [if_pos (by omega), if_neg (by omega)]; first | done | rfl) | (rw [if_neg (by omega), if_pos (by omega)]; first | done | rfl) | (rw [if_neg (by omega), if_neg (by omega)]; first | done | rfl) | (rw [if_neg (by omega), if_neg (by omega), if_pos (by omega)]; first | done | rfl) | (rw [if_neg (by omega), if_neg (by omega), if_neg (by omega)]; first | done | rfl)), oh⟩)
      ·
        refine z_iload 4 (zdec DX10_throughOf 74 rfl) rfl ?_
        refine z_iconst 2 (zdec DX10_throughOf 75 rfl) (by decide) ?_
        refine z_idivp (zdec DX10_throughOf 76 rfl) (by omega) (by omega) ?_
        refine z_goto 128 (zdec DX10_throughOf 77 rfl) rfl ?_
        exact z_iret (zdec DX10_throughOf 79 rfl) rfl (⟨rfl, zri (by rw [zcap_w (by omega), el]; first | rfl | (rw [if_pos (by omega)]; first | done | rfl) | (rw [if_neg (by omega)]; first | done | rfl) | (rw [if_pos (by omega), if_pos (by omega)]; first | done | rfl) | (rw [if_pos (by omega), if_neg (by omega)]; first | done | rfl) | (rw [if_neg (by omega), if_pos (by omega)]; first | done | rfl) | (rw [if_neg (by omega), if_neg (by omega)]; first | done | rfl) | (rw [if_neg (by omega), if_neg (by omega), if_pos (by omega)]; first | done | rfl) | (rw [if_neg (by omega), if_neg (by omega), if_neg (by omega)]; first | done | rfl)), oh⟩)
    ·
      refine z_iconst 0 (zdec DX10_throughOf 67 rfl) (by decide) ?_
      refine z_goto 128 (zdec DX10_throughOf 68 rfl) rfl ?_
      exact z_iret (zdec DX10_throughOf 79 rfl) rfl (⟨rfl, zri (by rw [zcap_w (by omega), el]; first | rfl | (rw [if_pos (by omega)]; first | done | rfl) | (rw [if_neg (by omega)]; first | done | rfl) | (rw [if_pos (by omega), if_pos (by omega)]; first | done | rfl) | (rw [if_pos (by omega), if_neg (by omega)]; first | done | rfl) | (rw [if_neg (by omega), if_pos (by omega)]; first | done | rfl) | (rw [if_neg (by omega), if_neg (by omega)]; first | done | rfl) | (rw [if_neg (by omega), if_neg (by omega), if_pos (by omega)]; first | done | rfl) | (rw [if_neg (by omega), if_neg (by omega), if_neg (by omega)]; first | done | rfl)), oh⟩)
  ·
    refine z_aload_n 0 (zdec DX10_throughOf 29 rfl) rfl rfl (by decide) ?_
    refine z_getr (rw1 := -66) (ki := 20) (r' := 67) 56 10 (zdec DX10_throughOf 30 rfl) rfl rfl shp56 rfl (by decide) rfl rfl fl_SixWallsModel_41 (zPa hP 67 rfl) ?_
    refine z_iconst 0 (zdec DX10_throughOf 31 rfl) (by decide) ?_
    refine z_iload 4 (zdec DX10_throughOf 32 rfl) rfl ?_
    refine z_iast 67 (zdec DX10_throughOf 33 rfl) rfl shp67 ⟨by omega, by omega⟩ ?_
    refine z_aload_n 0 (zdec DX10_throughOf 34 rfl) rfl rfl (by decide) ?_
    refine z_getr (rw1 := -66) (ki := 20) (r' := 67) 56 10 (zdec DX10_throughOf 35 rfl) rfl rfl shp56 rfl (by decide) rfl rfl fl_SixWallsModel_41 (zPa (zP_up hP (by decide)) 67 rfl) ?_
    refine z_iconst 1 (zdec DX10_throughOf 36 rfl) (by decide) ?_
    refine z_iload 5 (zdec DX10_throughOf 37 rfl) rfl ?_
    refine z_iast 67 (zdec DX10_throughOf 38 rfl) rfl shp67 ⟨by omega, by omega⟩ ?_
    refine z_aload_n 0 (zdec DX10_throughOf 39 rfl) rfl rfl (by decide) ?_
    refine z_getr (rw1 := -66) (ki := 20) (r' := 67) 56 10 (zdec DX10_throughOf 40 rfl) rfl rfl shp56 rfl (by decide) rfl rfl fl_SixWallsModel_41 (zPa (zP_up (zP_up hP (by decide)) (by decide)) 67 rfl) ?_
    refine z_iconst 2 (zdec DX10_throughOf 41 rfl) (by decide) ?_
    refine z_aload_n 0 (zdec DX10_throughOf 42 rfl) rfl rfl (by decide) ?_
    refine z_getr (rw1 := -66) (ki := 0) (r' := 57) 56 10 (zdec DX10_throughOf 43 rfl) rfl rfl shp56 rfl (by decide) rfl rfl fl_SixWallsModel_9 (zPa (zP_up (zP_up hP (by decide)) (by decide)) 57 rfl) ?_
    refine z_bipush 65 (zdec DX10_throughOf 44 rfl) (by decide) ?_
    refine z_iload_n 1 (zdec DX10_throughOf 45 rfl) rfl rfl ?_
    refine z_iadd (zdec DX10_throughOf 46 rfl) (by unfold z32; omega) ?_
    refine z_iald 57 (zdec DX10_throughOf 47 rfl) rfl shp57 ⟨by omega, by omega⟩ ?_
    rw [show (zup (zup M 67 0 (a - b)) 67 1 (M 57 (32 + w))) 57 (65 + w) = M 57 (65 + w) from by simp [zup, zcpy]]
    refine z_iast 67 (zdec DX10_throughOf 48 rfl) rfl shp67 ⟨by omega, by omega⟩ ?_
    refine z_aload_n 0 (zdec DX10_throughOf 49 rfl) rfl rfl (by decide) ?_
    refine z_getr (rw1 := -66) (ki := 20) (r' := 67) 56 10 (zdec DX10_throughOf 50 rfl) rfl rfl shp56 rfl (by decide) rfl rfl fl_SixWallsModel_41 (zPa (zP_up (zP_up (zP_up hP (by decide)) (by decide)) (by decide)) 67 rfl) ?_
    refine z_iconst 3 (zdec DX10_throughOf 51 rfl) (by decide) ?_
    refine z_iload_n 2 (zdec DX10_throughOf 52 rfl) rfl rfl ?_
    refine z_iast 67 (zdec DX10_throughOf 53 rfl) rfl shp67 ⟨by omega, by omega⟩ ?_
    refine z_aload_n 0 (zdec DX10_throughOf 54 rfl) rfl rfl (by decide) ?_
    refine z_getr (rw1 := -66) (ki := 20) (r' := 67) 56 10 (zdec DX10_throughOf 55 rfl) rfl rfl shp56 rfl (by decide) rfl rfl fl_SixWallsModel_41 (zPa (zP_up (zP_up (zP_up (zP_up hP (by decide)) (by decide)) (by decide)) (by decide)) 67 rfl) ?_
    refine z_iconst 4 (zdec DX10_throughOf 56 rfl) (by decide) ?_
    refine z_iload_n 3 (zdec DX10_throughOf 57 rfl) rfl rfl ?_
    refine z_iast 67 (zdec DX10_throughOf 58 rfl) rfl shp67 ⟨by omega, by omega⟩ ?_
    refine z_aload_n 0 (zdec DX10_throughOf 59 rfl) rfl rfl (by decide) ?_
    refine z_iconst 0 (zdec DX10_throughOf 60 rfl) (by decide) ?_
    refine z_aload_n 0 (zdec DX10_throughOf 61 rfl) rfl rfl (by decide) ?_
    refine z_geti (ki := 14) 56 10 (zdec DX10_throughOf 62 rfl) rfl shp56 rfl (by decide) rfl rfl fl_SixWallsModel_93 ?_
    rw [show (zup (zup (zup (zup (zup M 67 0 (a - b)) 67 1 (M 57 (32 + w))) 67 2 (M 57 (65 + w))) 67 3 a) 67 4 b) 56 14 = M 56 14 from by simp [zup, zcpy]]
    refine z_inv mX10_workOut 56 10 [.inl 0, .inl (M 56 14)] (zdec DX10_throughOf 63 rfl) ml_SixWallsModel_231 okX10_workOut rfl shp56 rfl rfl rfl rfl (Nat.le_of_ble_eq_true rfl) (Nat.le_of_ble_eq_true rfl) (b' := (0, 0)) ⟨Nat.le_refl 0, Nat.le_refl 0⟩ (Nat.le_of_ble_eq_true rfl) (cX10_workOut (zP_up (zP_up (zP_up (zP_up (zP_up hP (by decide)) (by decide)) (by decide)) (by decide)) (by decide)) 0 (M 56 14) (Or.inr rfl) (by rcases hT with e | ⟨e, _⟩; omega; exact e)) (fun rv9 S9 M96 h9 => ?_)
    obtain ⟨rfl, x, rfl, oq, e18, eb, ev⟩ := h9
    have ht2 := hT.resolve_left (by omega)
    have h66 : zsrcT (zup (zup (zup (zup (zup M 67 0 (a - b)) 67 1 (M 57 (32 + w))) 67 2 (M 57 (65 + w))) 67 3 a) 67 4 b) 0 = M 66 := by
      rw [show zsrcT (zup (zup (zup (zup (zup M 67 0 (a - b)) 67 1 (M 57 (32 + w))) 67 2 (M 57 (65 + w))) 67 3 a) 67 4 b) 0 = (zup (zup (zup (zup (zup M 67 0 (a - b)) 67 1 (M 57 (32 + w))) 67 2 (M 57 (65 + w))) 67 3 a) 67 4 b) 66 from if_neg (by decide), zup_row (by decide), zup_row (by decide), zup_row (by decide), zup_row (by decide), zup_row (by decide)]
    have hvn : zvn (zup (zup (zup (zup (zup M 67 0 (a - b)) 67 1 (M 57 (32 + w))) 67 2 (M 57 (65 + w))) 67 3 a) 67 4 b) = fun g => znmd g (a - b) (M 57 (32 + w)) (M 57 (65 + w)) a b := by
      funext g
      unfold zvn
      simp only [zup_self, zup_ne (show (0 : Int) ≠ 1 by decide), zup_ne (show (0 : Int) ≠ 2 by decide), zup_ne (show (0 : Int) ≠ 3 by decide), zup_ne (show (0 : Int) ≠ 4 by decide), zup_ne (show (1 : Int) ≠ 2 by decide), zup_ne (show (1 : Int) ≠ 3 by decide), zup_ne (show (1 : Int) ≠ 4 by decide), zup_ne (show (2 : Int) ≠ 3 by decide), zup_ne (show (2 : Int) ≠ 4 by decide), zup_ne (show (3 : Int) ≠ 4 by decide)]
    rw [h66] at ev
    have ev2 := ev ht2.2
    rw [hvn] at ev2
    have oh : zoH M M96 := by
      have o5 : zoH M (zup (zup (zup (zup (zup M 67 0 (a - b)) 67 1 (M 57 (32 + w))) 67 2 (M 57 (65 + w))) 67 3 a) 67 4 b) := zoH.rf.up.up.up.up.up
      exact ⟨fun c a1 b1 => (oq.1 c a1).trans (o5.1 c a1 b1), fun j a1 => (oq.2 j a1).trans (o5.2 j a1)⟩
    have el : zlwR M w (a - b) a b = x := by unfold zlwR; rw [if_pos ht2.1.1, ev2]
    change zW _ _ _ _ _ 99 [(0, .inr (.inr 56)), (1, .inl w), (2, .inl a), (3, .inl b), (4, .inl (a - b)), (5, .inl (M 57 (32 + w))), (6, .inl ((((a - b) / ((M 57 (32 + w)) + 1)) / 6) + (M 57 (65 + w))))] [.inl x] M96
    refine z_istore (L' := [(0, .inr (.inr 56)), (1, .inl w), (2, .inl a), (3, .inl b), (4, .inl (a - b)), (5, .inl (M 57 (32 + w))), (6, .inl x)]) (zdec DX10_throughOf 64 rfl) rfl (by decide) ?_
    refine z_iload 6 (zdec DX10_throughOf 65 rfl) rfl ?_
    refine z_if_ge 110 (zdec DX10_throughOf 66 rfl) rfl (fun h103 => ?_) (fun h103 => ?_)
    ·
      refine z_iload 6 (zdec DX10_throughOf 69 rfl) rfl ?_
      refine z_iload 4 (zdec DX10_throughOf 70 rfl) rfl ?_
      refine z_iconst 2 (zdec DX10_throughOf 71 rfl) (by decide) ?_
      refine z_idivp (zdec DX10_throughOf 72 rfl) (by omega) (by omega) ?_
      refine z_icmp_le 126 (zdec DX10_throughOf 73 rfl) rfl (fun h116 => ?_) (fun h116 => ?_)
      ·
        refine z_iload 6 (zdec DX10_throughOf 78 rfl) rfl ?_
        exact z_iret (zdec DX10_throughOf 79 rfl) rfl (⟨rfl, zri (by rw [zcap_w (by omega), el]; first | rfl | (rw [if_pos (by omega)]; first | done | rfl) | (rw [if_neg (by omega)]; first | done | rfl) | (rw [if_pos (by omega), if_pos (by omega)]; first | done | rfl) | (rw [if_pos (by omega), if_neg (by omega)]; first | done | rfl) | (rw [if_neg (by omega), if_pos (by omega)]; first | done | rfl) | (rw [if_neg (by omega), if_neg (by omega)]; first | done | rfl) | (rw [if_neg (by omega), if_neg (by omega), if_pos (by omega)]; first | done | rfl) | (rw [if_neg (by omega), if_neg (by omega), if_neg (by omega)]; first | done | rfl)), oh⟩)
      ·
        refine z_iload 4 (zdec DX10_throughOf 74 rfl) rfl ?_
        refine z_iconst 2 (zdec DX10_throughOf 75 rfl) (by decide) ?_
        refine z_idivp (zdec DX10_throughOf 76 rfl) (by omega) (by omega) ?_
        refine z_goto 128 (zdec DX10_throughOf 77 rfl) rfl ?_
        exact z_iret (zdec DX10_throughOf 79 rfl) rfl (⟨rfl, zri (by rw [zcap_w (by omega), el]; first | rfl | (rw [if_pos (by omega)]; first | done | rfl) | (rw [if_neg (by omega)]; first | done | rfl) | (rw [if_pos (by omega), if_pos (by omega)]; first | done | rfl) | (rw [if_pos (by omega), if_neg (by omega)]; first | done | rfl) | (rw [if_neg (by omega), if_pos (by omega)]; first | done | rfl) | (rw [if_neg (by omega), if_neg (by omega)]; first | done | rfl) | (rw [if_neg (by omega), if_neg (by omega), if_pos (by omega)]; first | done | rfl) | (rw [if_neg (by omega), if_neg (by omega), if_neg (by omega)]; first | done | rfl)), oh⟩)
    ·
      refine z_iconst 0 (zdec DX10_throughOf 67 rfl) (by decide) ?_
      refine z_goto 128 (zdec DX10_throughOf 68 rfl) rfl ?_
      exact z_iret (zdec DX10_throughOf 79 rfl) rfl (⟨rfl, zri (by rw [zcap_w (by omega), el]; first | rfl | (rw [if_pos (by omega)]; first | done | rfl) | (rw [if_neg (by omega)]; first | done | rfl) | (rw [if_pos (by omega), if_pos (by omega)]; first | done | rfl) | (rw [if_pos (by omega), if_neg (by omega)]; first | done | rfl) | (rw [if_neg (by omega), if_pos (by omega)]; first | done | rfl) | (rw [if_neg (by omega), if_neg (by omega)]; first | done | rfl) | (rw [if_neg (by omega), if_neg (by omega), if_pos (by omega)]; first | done | rfl) | (rw [if_neg (by omega), if_neg (by omega), if_neg (by omega)]; first | done | rfl)), oh⟩)
set_option maxHeartbeats 4000000 in
theorem cX10_flowOf {M : zMm} (hP : zP M) (hg : zGr M) (hR : zRr M) (hT : zTR M) (hb : zbW (M 68)) (w : Int) (hw : 0 ≤ w ∧ w < 33) : zW mX10_flowOf 49 (fun rv S' M' => S' = zS0 ∧ rv = some (.inl (zflR M (M 68) w)) ∧ zoH M M') (0, 0) zS0 0 (zargs 0 [.inr (.inr 56), .inl w]) [] M := by
  change zW _ _ _ _ _ 0 [(0, .inr (.inr 56)), (1, .inl w)] [] M
  have lb := zlow_b w
  have lh := zhigh_b w
  have bl := hb _ lb.1 lb.2
  have bh := hb _ lh.1 lh.2
  refine z_aload_n 0 (zdec DX10_flowOf 0 rfl) rfl rfl (by decide) ?_
  refine z_getr (rw1 := -66) (ki := 21) (r' := 68) 56 10 (zdec DX10_flowOf 1 rfl) rfl rfl shp56 rfl (by decide) rfl rfl fl_SixWallsModel_44 (zPa hP 68 rfl) ?_
  refine z_aload_n 0 (zdec DX10_flowOf 2 rfl) rfl rfl (by decide) ?_
  refine z_getr (rw1 := -66) (ki := 7) (r' := 61) 56 10 (zdec DX10_flowOf 3 rfl) rfl rfl shp56 rfl (by decide) rfl rfl fl_SixWallsModel_22 (zPa hP 61 rfl) ?_
  refine z_iload_n 1 (zdec DX10_flowOf 4 rfl) rfl rfl ?_
  refine z_iald 61 (zdec DX10_flowOf 5 rfl) rfl shp61 ⟨by omega, by omega⟩ ?_
  rw [(hg w (by omega) (by omega)).1]
  refine z_iald 68 (zdec DX10_flowOf 6 rfl) rfl shp68 ⟨by omega, by omega⟩ ?_
  refine z_istore_n (L' := [(0, .inr (.inr 56)), (1, .inl w), (2, .inl (M 68 (zlow w)))]) (zdec DX10_flowOf 7 rfl) rfl rfl (by decide) ?_
  refine z_aload_n 0 (zdec DX10_flowOf 8 rfl) rfl rfl (by decide) ?_
  refine z_getr (rw1 := -66) (ki := 21) (r' := 68) 56 10 (zdec DX10_flowOf 9 rfl) rfl rfl shp56 rfl (by decide) rfl rfl fl_SixWallsModel_44 (zPa hP 68 rfl) ?_
  refine z_aload_n 0 (zdec DX10_flowOf 10 rfl) rfl rfl (by decide) ?_
  refine z_getr (rw1 := -66) (ki := 8) (r' := 62) 56 10 (zdec DX10_flowOf 11 rfl) rfl rfl shp56 rfl (by decide) rfl rfl fl_SixWallsModel_25 (zPa hP 62 rfl) ?_
  refine z_iload_n 1 (zdec DX10_flowOf 12 rfl) rfl rfl ?_
  refine z_iald 62 (zdec DX10_flowOf 13 rfl) rfl shp62 ⟨by omega, by omega⟩ ?_
  rw [(hg w (by omega) (by omega)).2]
  refine z_iald 68 (zdec DX10_flowOf 14 rfl) rfl shp68 ⟨by omega, by omega⟩ ?_
  refine z_istore_n (L' := [(0, .inr (.inr 56)), (1, .inl w), (2, .inl (M 68 (zlow w))), (3, .inl (M 68 (zhigh w)))]) (zdec DX10_flowOf 15 rfl) rfl rfl (by decide) ?_
  refine z_iload_n 2 (zdec DX10_flowOf 16 rfl) rfl rfl ?_
  refine z_iload_n 3 (zdec DX10_flowOf 17 rfl) rfl rfl ?_
  refine z_icmp_lt 39 (zdec DX10_flowOf 18 rfl) rfl (fun h26 => ?_) (fun h26 => ?_)
  ·
    refine z_aload_n 0 (zdec DX10_flowOf 25 rfl) rfl rfl (by decide) ?_
    refine z_iload_n 1 (zdec DX10_flowOf 26 rfl) rfl rfl ?_
    refine z_iload_n 3 (zdec DX10_flowOf 27 rfl) rfl rfl ?_
    refine z_iload_n 2 (zdec DX10_flowOf 28 rfl) rfl rfl ?_
    refine z_inv mX10_throughOf 56 10 [.inl w, .inl (M 68 (zhigh w)), .inl (M 68 (zlow w))] (zdec DX10_flowOf 29 rfl) ml_SixWallsModel_234 okX10_throughOf rfl shp56 rfl rfl rfl rfl (Nat.le_of_ble_eq_true rfl) (Nat.le_of_ble_eq_true rfl) (b' := (0, 0)) ⟨Nat.le_refl 0, Nat.le_refl 0⟩ (Nat.le_of_ble_eq_true rfl) (cX10_throughOf hP hR hT w (M 68 (zhigh w)) (M 68 (zlow w)) hw ⟨by omega, by omega, by omega⟩) (fun rv9 S9 M43 h9 => ?_)
    obtain ⟨rfl, rfl, oh⟩ := h9
    have hcb := zcap_b (l := zlwR M w (M 68 (zhigh w) - M 68 (zlow w)) (M 68 (zhigh w)) (M 68 (zlow w))) (d := M 68 (zhigh w) - M 68 (zlow w)) ⟨by omega, by omega⟩
    change zW _ _ _ _ _ 46 [(0, .inr (.inr 56)), (1, .inl w), (2, .inl (M 68 (zlow w))), (3, .inl (M 68 (zhigh w)))] [.inl (zcap ((M 68 (zhigh w)) - (M 68 (zlow w))) (zlwR M w ((M 68 (zhigh w)) - (M 68 (zlow w))) ((M 68 (zhigh w))) ((M 68 (zlow w)))))] M43
    refine z_ineg (zdec DX10_flowOf 30 rfl) (by unfold z32; omega) ?_
    exact z_iret (zdec DX10_flowOf 31 rfl) rfl (⟨rfl, zri (by unfold zflR; first | (rw [if_pos (by omega)]; done) | (rw [if_neg (by omega)]; done)), oh⟩)
  ·
    refine z_aload_n 0 (zdec DX10_flowOf 19 rfl) rfl rfl (by decide) ?_
    refine z_iload_n 1 (zdec DX10_flowOf 20 rfl) rfl rfl ?_
    refine z_iload_n 2 (zdec DX10_flowOf 21 rfl) rfl rfl ?_
    refine z_iload_n 3 (zdec DX10_flowOf 22 rfl) rfl rfl ?_
    refine z_inv mX10_throughOf 56 10 [.inl w, .inl (M 68 (zlow w)), .inl (M 68 (zhigh w))] (zdec DX10_flowOf 23 rfl) ml_SixWallsModel_234 okX10_throughOf rfl shp56 rfl rfl rfl rfl (Nat.le_of_ble_eq_true rfl) (Nat.le_of_ble_eq_true rfl) (b' := (0, 0)) ⟨Nat.le_refl 0, Nat.le_refl 0⟩ (Nat.le_of_ble_eq_true rfl) (cX10_throughOf hP hR hT w (M 68 (zlow w)) (M 68 (zhigh w)) hw ⟨by omega, by omega, by omega⟩) (fun rv9 S9 M33 h9 => ?_)
    obtain ⟨rfl, rfl, oh⟩ := h9
    change zW _ _ _ _ _ 36 [(0, .inr (.inr 56)), (1, .inl w), (2, .inl (M 68 (zlow w))), (3, .inl (M 68 (zhigh w)))] [.inl (zcap ((M 68 (zlow w)) - (M 68 (zhigh w))) (zlwR M w ((M 68 (zlow w)) - (M 68 (zhigh w))) ((M 68 (zlow w))) ((M 68 (zhigh w)))))] M33
    refine z_goto 47 (zdec DX10_flowOf 24 rfl) rfl ?_
    exact z_iret (zdec DX10_flowOf 31 rfl) rfl (⟨rfl, zri (by unfold zflR; first | (rw [if_pos (by omega)]; done) | (rw [if_neg (by omega)]; done)), oh⟩)
set_option maxHeartbeats 4000000 in
theorem lp_X10_begins1_28 {Q : zPost} {M : zMm} (hP : zP M) (hg : zGr M) (hx47 : ∀ (M2 : zMm), (zoD M M2 ∧ zH (M2 68) (M 63) ∧ ∀ w : Int, 0 ≤ w → w < 33 → M2 71 w = 0) → zW mX10_begins1 1 Q (0, 0) zS0 47 [] [] M2) : ∀ (n : Nat) (w : Int) (M2 : zMm), (33 - w).toNat < n → (0 ≤ w ∧ w ≤ 33 ∧ zoD M M2 ∧ zH (M2 68) (M 63) ∧ ∀ k : Int, 0 ≤ k → k < w → M2 71 k = 0) → zW mX10_begins1 1 Q (0, 0) zS0 28 [(0, .inr (.inr 56)), (1, .inl w)] [] M2 := by
  intro n
  induction n with
  | zero => intro w M2 hn; exact absurd hn (Nat.not_lt_zero _)
  | succ n ih =>
    intro w M2 hn hI
    refine z_iload_n 1 (zdec DX10_begins1 17 rfl) rfl rfl ?_
    refine z_bipush 33 (zdec DX10_begins1 18 rfl) (by decide) ?_
    refine z_icmp_ge 47 (zdec DX10_begins1 19 rfl) rfl (fun h31 => ?_) (fun h31 => ?_)
    ·
      refine z_weak (L' := []) (by simp) ?_
      exact hx47 M2 ⟨hI.2.2.1, hI.2.2.2.1, fun k a b => hI.2.2.2.2 k a (by omega)⟩
    ·
      refine z_aload_n 0 (zdec DX10_begins1 20 rfl) rfl rfl (by decide) ?_
      refine z_getr (rw1 := -66) (ki := 24) (r' := 71) 56 10 (zdec DX10_begins1 21 rfl) rfl rfl shp56 rfl (by decide) rfl rfl fl_SixWallsModel_53 (zPa (hI.2.2.1.P hP) 71 rfl) ?_
      refine z_iload_n 1 (zdec DX10_begins1 22 rfl) rfl rfl ?_
      refine z_iconst 0 (zdec DX10_begins1 23 rfl) (by decide) ?_
      refine z_iast 71 (zdec DX10_begins1 24 rfl) rfl shp71 ⟨by omega, by omega⟩ ?_
      refine z_iinc (L' := [(0, .inr (.inr 56)), (1, .inl (w + 1))]) 1 (zdec DX10_begins1 25 rfl) rfl (by unfold z32; omega) rfl (by decide) ?_
      refine z_goto 28 (zdec DX10_begins1 26 rfl) rfl ?_
      exact ih (w + 1) (zup M2 71 w 0) (by omega) ⟨by omega, by omega, hI.2.2.1.up (by omega), (by rw [zup_row (by decide)]; exact hI.2.2.2.1), fun k a b => (by by_cases e : k = w; (subst e; rw [zup_self]); (rw [zup_ne e]; exact hI.2.2.2.2 k a (by omega)))⟩
set_option maxHeartbeats 4000000 in
theorem lp_X10_begins1_2 {Q : zPost} {M : zMm} (hP : zP M) (hg : zGr M) (hx26 : ∀ (M2 : zMm), (zoD M M2 ∧ zH (M2 68) (M 63)) → zW mX10_begins1 1 Q (0, 0) zS0 26 [(0, .inr (.inr 56))] [] M2) : ∀ (n : Nat) (h : Int) (M2 : zMm), (16 - h).toNat < n → (0 ≤ h ∧ h ≤ 16 ∧ zoD M M2 ∧ ∀ k : Int, 0 ≤ k → k < h → M2 68 k = M 63 k) → zW mX10_begins1 1 Q (0, 0) zS0 2 [(0, .inr (.inr 56)), (1, .inl h)] [] M2 := by
  intro n
  induction n with
  | zero => intro h M2 hn; exact absurd hn (Nat.not_lt_zero _)
  | succ n ih =>
    intro h M2 hn hI
    refine z_iload_n 1 (zdec DX10_begins1 2 rfl) rfl rfl ?_
    refine z_bipush 16 (zdec DX10_begins1 3 rfl) (by decide) ?_
    refine z_icmp_ge 26 (zdec DX10_begins1 4 rfl) rfl (fun h5 => ?_) (fun h5 => ?_)
    ·
      refine z_weak (L' := [(0, .inr (.inr 56))]) (by simp) ?_
      exact hx26 M2 ⟨hI.2.2.1, fun k a b => hI.2.2.2 k a (by omega)⟩
    ·
      refine z_aload_n 0 (zdec DX10_begins1 5 rfl) rfl rfl (by decide) ?_
      refine z_getr (rw1 := -66) (ki := 21) (r' := 68) 56 10 (zdec DX10_begins1 6 rfl) rfl rfl shp56 rfl (by decide) rfl rfl fl_SixWallsModel_44 (zPa (hI.2.2.1.P hP) 68 rfl) ?_
      refine z_iload_n 1 (zdec DX10_begins1 7 rfl) rfl rfl ?_
      refine z_aload_n 0 (zdec DX10_begins1 8 rfl) rfl rfl (by decide) ?_
      refine z_getr (rw1 := -66) (ki := 9) (r' := 63) 56 10 (zdec DX10_begins1 9 rfl) rfl rfl shp56 rfl (by decide) rfl rfl fl_SixWallsModel_28 (zPa (hI.2.2.1.P hP) 63 rfl) ?_
      refine z_iload_n 1 (zdec DX10_begins1 10 rfl) rfl rfl ?_
      refine z_iald 63 (zdec DX10_begins1 11 rfl) rfl shp63 ⟨by omega, by omega⟩ ?_
      refine z_iast 68 (zdec DX10_begins1 12 rfl) rfl shp68 ⟨by omega, by omega⟩ ?_
      refine z_iinc (L' := [(0, .inr (.inr 56)), (1, .inl (h + 1))]) 1 (zdec DX10_begins1 13 rfl) rfl (by unfold z32; omega) rfl (by decide) ?_
      refine z_goto 2 (zdec DX10_begins1 14 rfl) rfl ?_
      exact ih (h + 1) (zup M2 68 h (M2 63 h)) (by omega) ⟨by omega, by omega, hI.2.2.1.up (by omega), fun k a b => (by by_cases e : k = h; (subst e; rw [zup_self]; exact congrFun (hI.2.2.1.r 63 (by omega)) k); (rw [zup_ne e]; exact hI.2.2.2 k a (by omega)))⟩
set_option maxHeartbeats 4000000 in
theorem cX10_begins1 {M : zMm} (hP : zP M) (hg : zGr M) : zW mX10_begins1 1 (fun rv S' M' => S' = zS0 ∧ rv = none ∧ zoD M M' ∧ zH (M' 68) (M 63) ∧ ∀ w : Int, 0 ≤ w → w < 33 → M' 71 w = 0) (0, 0) zS0 0 (zargs 0 [.inr (.inr 56)]) [] M := by
  change zW _ _ _ _ _ 0 [(0, .inr (.inr 56))] [] M
  refine z_iconst 0 (zdec DX10_begins1 0 rfl) (by decide) ?_
  refine z_istore_n (L' := [(0, .inr (.inr 56)), (1, .inl 0)]) (zdec DX10_begins1 1 rfl) rfl rfl (by decide) ?_
  refine lp_X10_begins1_2 hP hg (hx26 := fun M2 hx => ?_) _ 0 M (Nat.lt_succ_self _) ⟨by omega, by omega, zoD.rf, fun k a b => by omega⟩
  refine z_iconst 0 (zdec DX10_begins1 15 rfl) (by decide) ?_
  refine z_istore_n (L' := [(0, .inr (.inr 56)), (1, .inl 0)]) (zdec DX10_begins1 16 rfl) rfl rfl (by decide) ?_
  refine lp_X10_begins1_28 hP hg (hx47 := fun M2 hy => ?_) _ 0 M2 (Nat.lt_succ_self _) ⟨by omega, by omega, hx.1, hx.2, fun k a b => by omega⟩
  exact z_vret (zdec DX10_begins1 27 rfl) rfl (⟨rfl, rfl, hy⟩)
set_option maxHeartbeats 4000000 in
theorem lp_X10_dayGoes_135 {Q : zPost} {s : zMm} (hP : zP s) (hg : zGr s) (hR : zRr s) (hT : zTR s) (T G0 : Int → Int) (bT : zbW T) (bG : ∀ w : Int, 0 ≤ w → w < 33 → -100000 ≤ G0 w ∧ G0 w ≤ 100000)  (hx208 : ∀ (ch : Int) (M2 : zMm), (zoD s M2 ∧ zH (M2 68) (zdyR s T) ∧ (∀ k : Int, 0 ≤ k → k < 33 → M2 70 k = zflR s T k ∧ M2 71 k = G0 k + zflR s T k) ∧ ((ch = 1 ∧ zchg T (zdyR s T) 16) ∨ (ch = 0 ∧ ¬ zchg T (zdyR s T) 16))) → zW mX10_dayGoes 50 Q (0, 0) zS0 208 [(1, .inl ch)] [] M2) : ∀ (n : Nat) (ch : Int) (h : Int) (M2 : zMm), (16 - h).toNat < n → (0 ≤ h ∧ h ≤ 16 ∧ zoD s M2 ∧ (∀ k : Int, 0 ≤ k → k < 16 → M2 68 k = if k < h then zdyR s T k else T k) ∧ zH (M2 69) (znx s T 33) ∧ (∀ k : Int, 0 ≤ k → k < 33 → M2 70 k = zflR s T k ∧ M2 71 k = G0 k + zflR s T k) ∧ ((ch = 1 ∧ zchg T (zdyR s T) h) ∨ (ch = 0 ∧ ¬ zchg T (zdyR s T) h))) → zW mX10_dayGoes 50 Q (0, 0) zS0 135 [(0, .inr (.inr 56)), (1, .inl ch), (2, .inl h)] [] M2 := by
  intro n
  induction n with
  | zero => intro ch h M2 hn; exact absurd hn (Nat.not_lt_zero _)
  | succ n ih =>
    intro ch h M2 hn hI
    have et := hI.2.2.2.1 h hI.1
    have eg := hI.2.2.2.2.1 h hI.1
    rw [if_neg (Int.lt_irrefl h)] at et
    refine z_iload_n 2 (zdec DX10_dayGoes 88 rfl) rfl rfl ?_
    refine z_bipush 16 (zdec DX10_dayGoes 89 rfl) (by decide) ?_
    refine z_icmp_ge 208 (zdec DX10_dayGoes 90 rfl) rfl (fun h138 => ?_) (fun h138 => ?_)
    ·
      refine z_weak (L' := [(1, .inl ch)]) (by simp) ?_
      exact hx208 ch M2 (by have e : h = 16 := (by omega); subst e; exact ⟨hI.2.2.1, fun k h0 h1 => (by rw [hI.2.2.2.1 k h0 h1, if_pos h1]), hI.2.2.2.2.2.1, hI.2.2.2.2.2.2⟩)
    ·
      refine z_aload_n 0 (zdec DX10_dayGoes 91 rfl) rfl rfl (by decide) ?_
      refine z_getr (rw1 := -66) (ki := 22) (r' := 69) 56 10 (zdec DX10_dayGoes 92 rfl) rfl rfl shp56 rfl (by decide) rfl rfl fl_SixWallsModel_47 (zPa (hI.2.2.1.P hP) 69 rfl) ?_
      refine z_iload_n 2 (zdec DX10_dayGoes 93 rfl) rfl rfl ?_
      refine z_iald 69 (zdec DX10_dayGoes 94 rfl) rfl shp69 ⟨by omega, by omega⟩ ?_
      refine z_if_ge 154 (zdec DX10_dayGoes 95 rfl) rfl (fun h147 => ?_) (fun h147 => ?_)
      ·
        refine z_aload_n 0 (zdec DX10_dayGoes 98 rfl) rfl rfl (by decide) ?_
        refine z_getr (rw1 := -66) (ki := 22) (r' := 69) 56 10 (zdec DX10_dayGoes 99 rfl) rfl rfl shp56 rfl (by decide) rfl rfl fl_SixWallsModel_47 (zPa (hI.2.2.1.P hP) 69 rfl) ?_
        refine z_iload_n 2 (zdec DX10_dayGoes 100 rfl) rfl rfl ?_
        refine z_iald 69 (zdec DX10_dayGoes 101 rfl) rfl shp69 ⟨by omega, by omega⟩ ?_
        refine z_bipush 99 (zdec DX10_dayGoes 102 rfl) (by decide) ?_
        refine z_icmp_le 170 (zdec DX10_dayGoes 103 rfl) rfl (fun h162 => ?_) (fun h162 => ?_)
        ·
          refine z_aload_n 0 (zdec DX10_dayGoes 106 rfl) rfl rfl (by decide) ?_
          refine z_getr (rw1 := -66) (ki := 22) (r' := 69) 56 10 (zdec DX10_dayGoes 107 rfl) rfl rfl shp56 rfl (by decide) rfl rfl fl_SixWallsModel_47 (zPa (hI.2.2.1.P hP) 69 rfl) ?_
          refine z_iload_n 2 (zdec DX10_dayGoes 108 rfl) rfl rfl ?_
          refine z_iald 69 (zdec DX10_dayGoes 109 rfl) rfl shp69 ⟨by omega, by omega⟩ ?_
          refine z_istore_n (L' := [(0, .inr (.inr 56)), (1, .inl ch), (2, .inl h), (3, .inl (M2 69 h))]) (zdec DX10_dayGoes 110 rfl) rfl rfl (by decide) ?_
          have ev : (M2 69 h) = zdyR s T h := by unfold zdyR zmax zmin; rw [← eg (by omega)]; (repeat' split) <;> omega
          refine z_iload_n 1 (zdec DX10_dayGoes 111 rfl) rfl rfl ?_
          refine z_iload_n 3 (zdec DX10_dayGoes 112 rfl) rfl rfl ?_
          refine z_aload_n 0 (zdec DX10_dayGoes 113 rfl) rfl rfl (by decide) ?_
          refine z_getr (rw1 := -66) (ki := 21) (r' := 68) 56 10 (zdec DX10_dayGoes 114 rfl) rfl rfl shp56 rfl (by decide) rfl rfl fl_SixWallsModel_44 (zPa (hI.2.2.1.P hP) 68 rfl) ?_
          refine z_iload_n 2 (zdec DX10_dayGoes 115 rfl) rfl rfl ?_
          refine z_iald 68 (zdec DX10_dayGoes 116 rfl) rfl shp68 ⟨by omega, by omega⟩ ?_
          refine z_icmp_eq 192 (zdec DX10_dayGoes 117 rfl) rfl (fun h185 => ?_) (fun h185 => ?_)
          ·
            refine z_iconst 0 (zdec DX10_dayGoes 120 rfl) (by decide) ?_
            refine z_ior (zdec DX10_dayGoes 121 rfl) ?_
            refine z_istore_n (L' := [(0, .inr (.inr 56)), (1, .inl (zor ch 0)), (2, .inl h), (3, .inl (M2 69 h))]) (zdec DX10_dayGoes 122 rfl) rfl rfl (by decide) ?_
            have hcc : ((zor ch 0) = 1 ∧ zchg T (zdyR s T) (h + 1)) ∨ ((zor ch 0) = 0 ∧ ¬ zchg T (zdyR s T) (h + 1)) := by
              rw [zchg_s hI.1]
              rcases hI.2.2.2.2.2.2 with ⟨a, b⟩ | ⟨a, b⟩
              · rw [a]; exact Or.inl ⟨by first | rfl | decide, Or.inl b⟩
              · rw [a]; first | exact Or.inl ⟨by first | rfl | decide, Or.inr (fun e => by have := et (by omega); omega)⟩ | exact Or.inr ⟨by first | rfl | decide, fun c => c.elim b (fun e => e (by have := et (by omega); omega))⟩
            refine z_aload_n 0 (zdec DX10_dayGoes 123 rfl) rfl rfl (by decide) ?_
            refine z_getr (rw1 := -66) (ki := 21) (r' := 68) 56 10 (zdec DX10_dayGoes 124 rfl) rfl rfl shp56 rfl (by decide) rfl rfl fl_SixWallsModel_44 (zPa (hI.2.2.1.P hP) 68 rfl) ?_
            refine z_iload_n 2 (zdec DX10_dayGoes 125 rfl) rfl rfl ?_
            refine z_iload_n 3 (zdec DX10_dayGoes 126 rfl) rfl rfl ?_
            refine z_iast 68 (zdec DX10_dayGoes 127 rfl) rfl shp68 ⟨by omega, by omega⟩ ?_
            refine z_iinc (L' := [(0, .inr (.inr 56)), (1, .inl (zor ch 0)), (2, .inl (h + 1)), (3, .inl (M2 69 h))]) 2 (zdec DX10_dayGoes 128 rfl) rfl (by unfold z32; omega) rfl (by decide) ?_
            refine z_goto 135 (zdec DX10_dayGoes 129 rfl) rfl ?_
            refine z_weak (L' := [(0, .inr (.inr 56)), (1, .inl (zor ch 0)), (2, .inl (h + 1))]) (by simp) ?_
            exact ih (zor ch 0) (h + 1) (zup M2 68 h (M2 69 h)) (by omega) ⟨by omega, by omega, hI.2.2.1.up (by omega), (fun k a b => by by_cases e : k = h; (subst e; rw [zup_self, if_pos (by omega)]; exact ev); (rw [zup_ne e, hI.2.2.2.1 k a b]; by_cases l : k < h; (rw [if_pos l, if_pos (by omega)]); (rw [if_neg l, if_neg (by omega)]))), (by rw [zup_row (by decide)]; exact hI.2.2.2.2.1), (by rw [zup_row (by decide), zup_row (by decide)]; exact hI.2.2.2.2.2.1), hcc⟩
          ·
            refine z_iconst 1 (zdec DX10_dayGoes 118 rfl) (by decide) ?_
            refine z_goto 193 (zdec DX10_dayGoes 119 rfl) rfl ?_
            refine z_ior (zdec DX10_dayGoes 121 rfl) ?_
            refine z_istore_n (L' := [(0, .inr (.inr 56)), (1, .inl (zor ch 1)), (2, .inl h), (3, .inl (M2 69 h))]) (zdec DX10_dayGoes 122 rfl) rfl rfl (by decide) ?_
            have hcc : ((zor ch 1) = 1 ∧ zchg T (zdyR s T) (h + 1)) ∨ ((zor ch 1) = 0 ∧ ¬ zchg T (zdyR s T) (h + 1)) := by
              rw [zchg_s hI.1]
              rcases hI.2.2.2.2.2.2 with ⟨a, b⟩ | ⟨a, b⟩
              · rw [a]; exact Or.inl ⟨by first | rfl | decide, Or.inl b⟩
              · rw [a]; first | exact Or.inl ⟨by first | rfl | decide, Or.inr (fun e => by have := et (by omega); omega)⟩ | exact Or.inr ⟨by first | rfl | decide, fun c => c.elim b (fun e => e (by have := et (by omega); omega))⟩
            refine z_aload_n 0 (zdec DX10_dayGoes 123 rfl) rfl rfl (by decide) ?_
            refine z_getr (rw1 := -66) (ki := 21) (r' := 68) 56 10 (zdec DX10_dayGoes 124 rfl) rfl rfl shp56 rfl (by decide) rfl rfl fl_SixWallsModel_44 (zPa (hI.2.2.1.P hP) 68 rfl) ?_
            refine z_iload_n 2 (zdec DX10_dayGoes 125 rfl) rfl rfl ?_
            refine z_iload_n 3 (zdec DX10_dayGoes 126 rfl) rfl rfl ?_
            refine z_iast 68 (zdec DX10_dayGoes 127 rfl) rfl shp68 ⟨by omega, by omega⟩ ?_
            refine z_iinc (L' := [(0, .inr (.inr 56)), (1, .inl (zor ch 1)), (2, .inl (h + 1)), (3, .inl (M2 69 h))]) 2 (zdec DX10_dayGoes 128 rfl) rfl (by unfold z32; omega) rfl (by decide) ?_
            refine z_goto 135 (zdec DX10_dayGoes 129 rfl) rfl ?_
            refine z_weak (L' := [(0, .inr (.inr 56)), (1, .inl (zor ch 1)), (2, .inl (h + 1))]) (by simp) ?_
            exact ih (zor ch 1) (h + 1) (zup M2 68 h (M2 69 h)) (by omega) ⟨by omega, by omega, hI.2.2.1.up (by omega), (fun k a b => by by_cases e : k = h; (subst e; rw [zup_self, if_pos (by omega)]; exact ev); (rw [zup_ne e, hI.2.2.2.1 k a b]; by_cases l : k < h; (rw [if_pos l, if_pos (by omega)]); (rw [if_neg l, if_neg (by omega)]))), (by rw [zup_row (by decide)]; exact hI.2.2.2.2.1), (by rw [zup_row (by decide), zup_row (by decide)]; exact hI.2.2.2.2.2.1), hcc⟩
        ·
          refine z_bipush 99 (zdec DX10_dayGoes 104 rfl) (by decide) ?_
          refine z_goto 176 (zdec DX10_dayGoes 105 rfl) rfl ?_
          refine z_istore_n (L' := [(0, .inr (.inr 56)), (1, .inl ch), (2, .inl h), (3, .inl 99)]) (zdec DX10_dayGoes 110 rfl) rfl rfl (by decide) ?_
          have ev : 99 = zdyR s T h := by unfold zdyR zmax zmin; rw [← eg (by omega)]; (repeat' split) <;> omega
          refine z_iload_n 1 (zdec DX10_dayGoes 111 rfl) rfl rfl ?_
          refine z_iload_n 3 (zdec DX10_dayGoes 112 rfl) rfl rfl ?_
          refine z_aload_n 0 (zdec DX10_dayGoes 113 rfl) rfl rfl (by decide) ?_
          refine z_getr (rw1 := -66) (ki := 21) (r' := 68) 56 10 (zdec DX10_dayGoes 114 rfl) rfl rfl shp56 rfl (by decide) rfl rfl fl_SixWallsModel_44 (zPa (hI.2.2.1.P hP) 68 rfl) ?_
          refine z_iload_n 2 (zdec DX10_dayGoes 115 rfl) rfl rfl ?_
          refine z_iald 68 (zdec DX10_dayGoes 116 rfl) rfl shp68 ⟨by omega, by omega⟩ ?_
          refine z_icmp_eq 192 (zdec DX10_dayGoes 117 rfl) rfl (fun h185 => ?_) (fun h185 => ?_)
          ·
            refine z_iconst 0 (zdec DX10_dayGoes 120 rfl) (by decide) ?_
            refine z_ior (zdec DX10_dayGoes 121 rfl) ?_
            refine z_istore_n (L' := [(0, .inr (.inr 56)), (1, .inl (zor ch 0)), (2, .inl h), (3, .inl 99)]) (zdec DX10_dayGoes 122 rfl) rfl rfl (by decide) ?_
            have hcc : ((zor ch 0) = 1 ∧ zchg T (zdyR s T) (h + 1)) ∨ ((zor ch 0) = 0 ∧ ¬ zchg T (zdyR s T) (h + 1)) := by
              rw [zchg_s hI.1]
              rcases hI.2.2.2.2.2.2 with ⟨a, b⟩ | ⟨a, b⟩
              · rw [a]; exact Or.inl ⟨by first | rfl | decide, Or.inl b⟩
              · rw [a]; first | exact Or.inl ⟨by first | rfl | decide, Or.inr (fun e => by have := et (by omega); omega)⟩ | exact Or.inr ⟨by first | rfl | decide, fun c => c.elim b (fun e => e (by have := et (by omega); omega))⟩
            refine z_aload_n 0 (zdec DX10_dayGoes 123 rfl) rfl rfl (by decide) ?_
            refine z_getr (rw1 := -66) (ki := 21) (r' := 68) 56 10 (zdec DX10_dayGoes 124 rfl) rfl rfl shp56 rfl (by decide) rfl rfl fl_SixWallsModel_44 (zPa (hI.2.2.1.P hP) 68 rfl) ?_
            refine z_iload_n 2 (zdec DX10_dayGoes 125 rfl) rfl rfl ?_
            refine z_iload_n 3 (zdec DX10_dayGoes 126 rfl) rfl rfl ?_
            refine z_iast 68 (zdec DX10_dayGoes 127 rfl) rfl shp68 ⟨by omega, by omega⟩ ?_
            refine z_iinc (L' := [(0, .inr (.inr 56)), (1, .inl (zor ch 0)), (2, .inl (h + 1)), (3, .inl 99)]) 2 (zdec DX10_dayGoes 128 rfl) rfl (by unfold z32; omega) rfl (by decide) ?_
            refine z_goto 135 (zdec DX10_dayGoes 129 rfl) rfl ?_
            refine z_weak (L' := [(0, .inr (.inr 56)), (1, .inl (zor ch 0)), (2, .inl (h + 1))]) (by simp) ?_
            exact ih (zor ch 0) (h + 1) (zup M2 68 h 99) (by omega) ⟨by omega, by omega, hI.2.2.1.up (by omega), (fun k a b => by by_cases e : k = h; (subst e; rw [zup_self, if_pos (by omega)]; exact ev); (rw [zup_ne e, hI.2.2.2.1 k a b]; by_cases l : k < h; (rw [if_pos l, if_pos (by omega)]); (rw [if_neg l, if_neg (by omega)]))), (by rw [zup_row (by decide)]; exact hI.2.2.2.2.1), (by rw [zup_row (by decide), zup_row (by decide)]; exact hI.2.2.2.2.2.1), hcc⟩
          ·
            refine z_iconst 1 (zdec DX10_dayGoes 118 rfl) (by decide) ?_
            refine z_goto 193 (zdec DX10_dayGoes 119 rfl) rfl ?_
            refine z_ior (zdec DX10_dayGoes 121 rfl) ?_
            refine z_istore_n (L' := [(0, .inr (.inr 56)), (1, .inl (zor ch 1)), (2, .inl h), (3, .inl 99)]) (zdec DX10_dayGoes 122 rfl) rfl rfl (by decide) ?_
            have hcc : ((zor ch 1) = 1 ∧ zchg T (zdyR s T) (h + 1)) ∨ ((zor ch 1) = 0 ∧ ¬ zchg T (zdyR s T) (h + 1)) := by
              rw [zchg_s hI.1]
              rcases hI.2.2.2.2.2.2 with ⟨a, b⟩ | ⟨a, b⟩
              · rw [a]; exact Or.inl ⟨by first | rfl | decide, Or.inl b⟩
              · rw [a]; first | exact Or.inl ⟨by first | rfl | decide, Or.inr (fun e => by have := et (by omega); omega)⟩ | exact Or.inr ⟨by first | rfl | decide, fun c => c.elim b (fun e => e (by have := et (by omega); omega))⟩
            refine z_aload_n 0 (zdec DX10_dayGoes 123 rfl) rfl rfl (by decide) ?_
            refine z_getr (rw1 := -66) (ki := 21) (r' := 68) 56 10 (zdec DX10_dayGoes 124 rfl) rfl rfl shp56 rfl (by decide) rfl rfl fl_SixWallsModel_44 (zPa (hI.2.2.1.P hP) 68 rfl) ?_
            refine z_iload_n 2 (zdec DX10_dayGoes 125 rfl) rfl rfl ?_
            refine z_iload_n 3 (zdec DX10_dayGoes 126 rfl) rfl rfl ?_
            refine z_iast 68 (zdec DX10_dayGoes 127 rfl) rfl shp68 ⟨by omega, by omega⟩ ?_
            refine z_iinc (L' := [(0, .inr (.inr 56)), (1, .inl (zor ch 1)), (2, .inl (h + 1)), (3, .inl 99)]) 2 (zdec DX10_dayGoes 128 rfl) rfl (by unfold z32; omega) rfl (by decide) ?_
            refine z_goto 135 (zdec DX10_dayGoes 129 rfl) rfl ?_
            refine z_weak (L' := [(0, .inr (.inr 56)), (1, .inl (zor ch 1)), (2, .inl (h + 1))]) (by simp) ?_
            exact ih (zor ch 1) (h + 1) (zup M2 68 h 99) (by omega) ⟨by omega, by omega, hI.2.2.1.up (by omega), (fun k a b => by by_cases e : k = h; (subst e; rw [zup_self, if_pos (by omega)]; exact ev); (rw [zup_ne e, hI.2.2.2.1 k a b]; by_cases l : k < h; (rw [if_pos l, if_pos (by omega)]); (rw [if_neg l, if_neg (by omega)]))), (by rw [zup_row (by decide)]; exact hI.2.2.2.2.1), (by rw [zup_row (by decide), zup_row (by decide)]; exact hI.2.2.2.2.2.1), hcc⟩
      ·
        refine z_iconst 0 (zdec DX10_dayGoes 96 rfl) (by decide) ?_
        refine z_goto 176 (zdec DX10_dayGoes 97 rfl) rfl ?_
        refine z_istore_n (L' := [(0, .inr (.inr 56)), (1, .inl ch), (2, .inl h), (3, .inl 0)]) (zdec DX10_dayGoes 110 rfl) rfl rfl (by decide) ?_
        have ev : 0 = zdyR s T h := by unfold zdyR zmax zmin; rw [← eg (by omega)]; (repeat' split) <;> omega
        refine z_iload_n 1 (zdec DX10_dayGoes 111 rfl) rfl rfl ?_
        refine z_iload_n 3 (zdec DX10_dayGoes 112 rfl) rfl rfl ?_
        refine z_aload_n 0 (zdec DX10_dayGoes 113 rfl) rfl rfl (by decide) ?_
        refine z_getr (rw1 := -66) (ki := 21) (r' := 68) 56 10 (zdec DX10_dayGoes 114 rfl) rfl rfl shp56 rfl (by decide) rfl rfl fl_SixWallsModel_44 (zPa (hI.2.2.1.P hP) 68 rfl) ?_
        refine z_iload_n 2 (zdec DX10_dayGoes 115 rfl) rfl rfl ?_
        refine z_iald 68 (zdec DX10_dayGoes 116 rfl) rfl shp68 ⟨by omega, by omega⟩ ?_
        refine z_icmp_eq 192 (zdec DX10_dayGoes 117 rfl) rfl (fun h185 => ?_) (fun h185 => ?_)
        ·
          refine z_iconst 0 (zdec DX10_dayGoes 120 rfl) (by decide) ?_
          refine z_ior (zdec DX10_dayGoes 121 rfl) ?_
          refine z_istore_n (L' := [(0, .inr (.inr 56)), (1, .inl (zor ch 0)), (2, .inl h), (3, .inl 0)]) (zdec DX10_dayGoes 122 rfl) rfl rfl (by decide) ?_
          have hcc : ((zor ch 0) = 1 ∧ zchg T (zdyR s T) (h + 1)) ∨ ((zor ch 0) = 0 ∧ ¬ zchg T (zdyR s T) (h + 1)) := by
            rw [zchg_s hI.1]
            rcases hI.2.2.2.2.2.2 with ⟨a, b⟩ | ⟨a, b⟩
            · rw [a]; exact Or.inl ⟨by first | rfl | decide, Or.inl b⟩
            · rw [a]; first | exact Or.inl ⟨by first | rfl | decide, Or.inr (fun e => by have := et (by omega); omega)⟩ | exact Or.inr ⟨by first | rfl | decide, fun c => c.elim b (fun e => e (by have := et (by omega); omega))⟩
          refine z_aload_n 0 (zdec DX10_dayGoes 123 rfl) rfl rfl (by decide) ?_
          refine z_getr (rw1 := -66) (ki := 21) (r' := 68) 56 10 (zdec DX10_dayGoes 124 rfl) rfl rfl shp56 rfl (by decide) rfl rfl fl_SixWallsModel_44 (zPa (hI.2.2.1.P hP) 68 rfl) ?_
          refine z_iload_n 2 (zdec DX10_dayGoes 125 rfl) rfl rfl ?_
          refine z_iload_n 3 (zdec DX10_dayGoes 126 rfl) rfl rfl ?_
          refine z_iast 68 (zdec DX10_dayGoes 127 rfl) rfl shp68 ⟨by omega, by omega⟩ ?_
          refine z_iinc (L' := [(0, .inr (.inr 56)), (1, .inl (zor ch 0)), (2, .inl (h + 1)), (3, .inl 0)]) 2 (zdec DX10_dayGoes 128 rfl) rfl (by unfold z32; omega) rfl (by decide) ?_
          refine z_goto 135 (zdec DX10_dayGoes 129 rfl) rfl ?_
          refine z_weak (L' := [(0, .inr (.inr 56)), (1, .inl (zor ch 0)), (2, .inl (h + 1))]) (by simp) ?_
          exact ih (zor ch 0) (h + 1) (zup M2 68 h 0) (by omega) ⟨by omega, by omega, hI.2.2.1.up (by omega), (fun k a b => by by_cases e : k = h; (subst e; rw [zup_self, if_pos (by omega)]; exact ev); (rw [zup_ne e, hI.2.2.2.1 k a b]; by_cases l : k < h; (rw [if_pos l, if_pos (by omega)]); (rw [if_neg l, if_neg (by omega)]))), (by rw [zup_row (by decide)]; exact hI.2.2.2.2.1), (by rw [zup_row (by decide), zup_row (by decide)]; exact hI.2.2.2.2.2.1), hcc⟩
        ·
          refine z_iconst 1 (zdec DX10_dayGoes 118 rfl) (by decide) ?_
          refine z_goto 193 (zdec DX10_dayGoes 119 rfl) rfl ?_
          refine z_ior (zdec DX10_dayGoes 121 rfl) ?_
          refine z_istore_n (L' := [(0, .inr (.inr 56)), (1, .inl (zor ch 1)), (2, .inl h), (3, .inl 0)]) (zdec DX10_dayGoes 122 rfl) rfl rfl (by decide) ?_
          have hcc : ((zor ch 1) = 1 ∧ zchg T (zdyR s T) (h + 1)) ∨ ((zor ch 1) = 0 ∧ ¬ zchg T (zdyR s T) (h + 1)) := by
            rw [zchg_s hI.1]
            rcases hI.2.2.2.2.2.2 with ⟨a, b⟩ | ⟨a, b⟩
            · rw [a]; exact Or.inl ⟨by first | rfl | decide, Or.inl b⟩
            · rw [a]; first | exact Or.inl ⟨by first | rfl | decide, Or.inr (fun e => by have := et (by omega); omega)⟩ | exact Or.inr ⟨by first | rfl | decide, fun c => c.elim b (fun e => e (by have := et (by omega); omega))⟩
          refine z_aload_n 0 (zdec DX10_dayGoes 123 rfl) rfl rfl (by decide) ?_
          refine z_getr (rw1 := -66) (ki := 21) (r' := 68) 56 10 (zdec DX10_dayGoes 124 rfl) rfl rfl shp56 rfl (by decide) rfl rfl fl_SixWallsModel_44 (zPa (hI.2.2.1.P hP) 68 rfl) ?_
          refine z_iload_n 2 (zdec DX10_dayGoes 125 rfl) rfl rfl ?_
          refine z_iload_n 3 (zdec DX10_dayGoes 126 rfl) rfl rfl ?_
          refine z_iast 68 (zdec DX10_dayGoes 127 rfl) rfl shp68 ⟨by omega, by omega⟩ ?_
          refine z_iinc (L' := [(0, .inr (.inr 56)), (1, .inl (zor ch 1)), (2, .inl (h + 1)), (3, .inl 0)]) 2 (zdec DX10_dayGoes 128 rfl) rfl (by unfold z32; omega) rfl (by decide) ?_
          refine z_goto 135 (zdec DX10_dayGoes 129 rfl) rfl ?_
          refine z_weak (L' := [(0, .inr (.inr 56)), (1, .inl (zor ch 1)), (2, .inl (h + 1))]) (by simp) ?_
          exact ih (zor ch 1) (h + 1) (zup M2 68 h 0) (by omega) ⟨by omega, by omega, hI.2.2.1.up (by omega), (fun k a b => by by_cases e : k = h; (subst e; rw [zup_self, if_pos (by omega)]; exact ev); (rw [zup_ne e, hI.2.2.2.1 k a b]; by_cases l : k < h; (rw [if_pos l, if_pos (by omega)]); (rw [if_neg l, if_neg (by omega)]))), (by rw [zup_row (by decide)]; exact hI.2.2.2.2.1), (by rw [zup_row (by decide), zup_row (by decide)]; exact hI.2.2.2.2.2.1), hcc⟩
set_option maxHeartbeats 4000000 in
theorem lp_X10_dayGoes_53 {Q : zPost} {s : zMm} (hP : zP s) (hg : zGr s) (hR : zRr s) (hT : zTR s) (T G0 : Int → Int) (bT : zbW T) (bG : ∀ w : Int, 0 ≤ w → w < 33 → -100000 ≤ G0 w ∧ G0 w ≤ 100000)  (hx131 : ∀ (M2 : zMm), (zoD s M2 ∧ zH (M2 68) T ∧ zH (M2 69) (znx s T 33) ∧ ∀ k : Int, 0 ≤ k → k < 33 → M2 70 k = zflR s T k ∧ M2 71 k = G0 k + zflR s T k) → zW mX10_dayGoes 50 Q (0, 0) zS0 131 [(0, .inr (.inr 56))] [] M2) : ∀ (n : Nat) (w : Int) (M2 : zMm), (33 - w).toNat < n → (0 ≤ w ∧ w ≤ 33 ∧ zoD s M2 ∧ zH (M2 68) T ∧ (∀ k : Int, 0 ≤ k → k < 33 → M2 71 k = if k < w then G0 k + zflR s T k else G0 k) ∧ zH (M2 69) (znx s T w) ∧ ∀ k : Int, 0 ≤ k → k < w → M2 70 k = zflR s T k) → zW mX10_dayGoes 50 Q (0, 0) zS0 53 [(0, .inr (.inr 56)), (1, .inl w)] [] M2 := by
  intro n
  induction n with
  | zero => intro w M2 hn; exact absurd hn (Nat.not_lt_zero _)
  | succ n ih =>
    intro w M2 hn hI
    have hg2 : zGr M2 := hI.2.2.1.g hg
    have hR2 : zRr M2 := hI.2.2.1.R hR
    have hT2 : zTR M2 := hI.2.2.1.T hT
    have r57 : M2 57 = s 57 := hI.2.2.1.r 57 (by omega)
    have lb := zlow_b w
    have lh := zhigh_b w
    have ef := zflR_H hI.2.2.1 hI.2.2.2.1 w
    have bf := zflR_b (M := s) bT w
    have bl : -54 - 100 * (w.toNat : Int) ≤ M2 69 (zlow w) ∧ M2 69 (zlow w) ≤ 108 + 100 * (w.toNat : Int) := by rw [hI.2.2.2.2.2.1 _ lb.1 lb.2]; exact znx_b hR bT w.toNat _ lb.1 lb.2
    have bh : -54 - 100 * (w.toNat : Int) ≤ M2 69 (zhigh w) ∧ M2 69 (zhigh w) ≤ 108 + 100 * (w.toNat : Int) := by rw [hI.2.2.2.2.2.1 _ lh.1 lh.2]; exact znx_b hR bT w.toNat _ lh.1 lh.2
    have bgw := bG w hI.1
    have e71 := hI.2.2.2.2.1 w hI.1
    rw [if_neg (Int.lt_irrefl w)] at e71
    refine z_iload_n 1 (zdec DX10_dayGoes 33 rfl) rfl rfl ?_
    refine z_bipush 33 (zdec DX10_dayGoes 34 rfl) (by decide) ?_
    refine z_icmp_ge 131 (zdec DX10_dayGoes 35 rfl) rfl (fun h56 => ?_) (fun h56 => ?_)
    ·
      refine z_weak (L' := [(0, .inr (.inr 56))]) (by simp) ?_
      exact hx131 M2 (by have e : w = 33 := (by omega); subst e; exact ⟨hI.2.2.1, hI.2.2.2.1, hI.2.2.2.2.2.1, fun k a b => ⟨hI.2.2.2.2.2.2 k a b, (by rw [hI.2.2.2.2.1 k a b, if_pos b])⟩⟩)
    ·
      refine z_aload_n 0 (zdec DX10_dayGoes 36 rfl) rfl rfl (by decide) ?_
      refine z_getr (rw1 := -66) (ki := 23) (r' := 70) 56 10 (zdec DX10_dayGoes 37 rfl) rfl rfl shp56 rfl (by decide) rfl rfl fl_SixWallsModel_50 (zPa (hI.2.2.1.P hP) 70 rfl) ?_
      refine z_iload_n 1 (zdec DX10_dayGoes 38 rfl) rfl rfl ?_
      refine z_aload_n 0 (zdec DX10_dayGoes 39 rfl) rfl rfl (by decide) ?_
      refine z_iload_n 1 (zdec DX10_dayGoes 40 rfl) rfl rfl ?_
      refine z_inv mX10_flowOf 56 10 [.inl w] (zdec DX10_dayGoes 41 rfl) ml_SixWallsModel_159 okX10_flowOf rfl shp56 rfl rfl rfl rfl (Nat.le_of_ble_eq_true rfl) (Nat.le_of_ble_eq_true rfl) (b' := (0, 0)) ⟨Nat.le_refl 0, Nat.le_refl 0⟩ (Nat.le_of_ble_eq_true rfl) (cX10_flowOf (hI.2.2.1.P hP) hg2 hR2 hT2 (zbWc hI.2.2.2.1 bT) w ⟨by omega, by omega⟩) (fun rv9 S9 M66 h9 => ?_)
      obtain ⟨rfl, rfl, oh⟩ := h9
      have e69 : M66 69 = M2 69 := oh.1 69 (by decide) (by decide)
      have e71b : M66 71 = M2 71 := oh.1 71 (by decide) (by decide)
      rw [← e69] at bl bh
      rw [← e71b] at e71
      have hg66 : zGr M66 := hg2.of (oh.1 61 (by decide) (by decide)) (oh.1 62 (by decide) (by decide))
      obtain ⟨F, eF⟩ : ∃ F, F = zflR s T w := ⟨_, rfl⟩
      rw [← eF] at bf ef
      change zW _ _ _ _ _ 69 [(0, .inr (.inr 56)), (1, .inl w)] [.inl (zflR M2 (M2 68) w), .inl w, .inr (.inr 70)] M66
      rw [ef]
      refine z_iast 70 (zdec DX10_dayGoes 42 rfl) rfl shp70 ⟨by omega, by omega⟩ ?_
      refine z_aload_n 0 (zdec DX10_dayGoes 43 rfl) rfl rfl (by decide) ?_
      refine z_getr (rw1 := -66) (ki := 24) (r' := 71) 56 10 (zdec DX10_dayGoes 44 rfl) rfl rfl shp56 rfl (by decide) rfl rfl fl_SixWallsModel_53 (zPa (zP_up (oh.P (hI.2.2.1.P hP)) (by decide)) 71 rfl) ?_
      refine z_iload_n 1 (zdec DX10_dayGoes 45 rfl) rfl rfl ?_
      refine z_dup2 (zdec DX10_dayGoes 46 rfl) rfl rfl ?_
      refine z_iald 71 (zdec DX10_dayGoes 47 rfl) rfl shp71 ⟨by omega, by omega⟩ ?_
      rw [show (zup M66 70 w F) 71 w = M66 71 w from by simp [zup, zcpy]]
      refine z_aload_n 0 (zdec DX10_dayGoes 48 rfl) rfl rfl (by decide) ?_
      refine z_getr (rw1 := -66) (ki := 23) (r' := 70) 56 10 (zdec DX10_dayGoes 49 rfl) rfl rfl shp56 rfl (by decide) rfl rfl fl_SixWallsModel_50 (zPa (zP_up (oh.P (hI.2.2.1.P hP)) (by decide)) 70 rfl) ?_
      refine z_iload_n 1 (zdec DX10_dayGoes 50 rfl) rfl rfl ?_
      refine z_iald 70 (zdec DX10_dayGoes 51 rfl) rfl shp70 ⟨by omega, by omega⟩ ?_
      rw [show (zup M66 70 w F) 70 w = F from by simp [zup, zcpy]]
      refine z_iadd (zdec DX10_dayGoes 52 rfl) (by unfold z32; omega) ?_
      refine z_iast 71 (zdec DX10_dayGoes 53 rfl) rfl shp71 ⟨by omega, by omega⟩ ?_
      refine z_aload_n 0 (zdec DX10_dayGoes 54 rfl) rfl rfl (by decide) ?_
      refine z_getr (rw1 := -66) (ki := 22) (r' := 69) 56 10 (zdec DX10_dayGoes 55 rfl) rfl rfl shp56 rfl (by decide) rfl rfl fl_SixWallsModel_47 (zPa (zP_up (zP_up (oh.P (hI.2.2.1.P hP)) (by decide)) (by decide)) 69 rfl) ?_
      refine z_aload_n 0 (zdec DX10_dayGoes 56 rfl) rfl rfl (by decide) ?_
      refine z_getr (rw1 := -66) (ki := 7) (r' := 61) 56 10 (zdec DX10_dayGoes 57 rfl) rfl rfl shp56 rfl (by decide) rfl rfl fl_SixWallsModel_22 (zPa (zP_up (zP_up (oh.P (hI.2.2.1.P hP)) (by decide)) (by decide)) 61 rfl) ?_
      refine z_iload_n 1 (zdec DX10_dayGoes 58 rfl) rfl rfl ?_
      refine z_iald 61 (zdec DX10_dayGoes 59 rfl) rfl shp61 ⟨by omega, by omega⟩ ?_
      rw [show (zup (zup M66 70 w F) 71 w ((M66 71 w) + F)) 61 w = M66 61 w from by simp [zup, zcpy]]
      rw [(hg66 w hI.1 (by omega)).1]
      refine z_dup2 (zdec DX10_dayGoes 60 rfl) rfl rfl ?_
      refine z_iald 69 (zdec DX10_dayGoes 61 rfl) rfl shp69 ⟨by omega, by omega⟩ ?_
      rw [show (zup (zup M66 70 w F) 71 w ((M66 71 w) + F)) 69 (zlow w) = M66 69 (zlow w) from by simp [zup, zcpy]]
      refine z_aload_n 0 (zdec DX10_dayGoes 62 rfl) rfl rfl (by decide) ?_
      refine z_getr (rw1 := -66) (ki := 23) (r' := 70) 56 10 (zdec DX10_dayGoes 63 rfl) rfl rfl shp56 rfl (by decide) rfl rfl fl_SixWallsModel_50 (zPa (zP_up (zP_up (oh.P (hI.2.2.1.P hP)) (by decide)) (by decide)) 70 rfl) ?_
      refine z_iload_n 1 (zdec DX10_dayGoes 64 rfl) rfl rfl ?_
      refine z_iald 70 (zdec DX10_dayGoes 65 rfl) rfl shp70 ⟨by omega, by omega⟩ ?_
      rw [show (zup (zup M66 70 w F) 71 w ((M66 71 w) + F)) 70 w = F from by simp [zup, zcpy]]
      refine z_isub (zdec DX10_dayGoes 66 rfl) (by unfold z32; omega) ?_
      refine z_iast 69 (zdec DX10_dayGoes 67 rfl) rfl shp69 ⟨by omega, by omega⟩ ?_
      refine z_aload_n 0 (zdec DX10_dayGoes 68 rfl) rfl rfl (by decide) ?_
      refine z_getr (rw1 := -66) (ki := 22) (r' := 69) 56 10 (zdec DX10_dayGoes 69 rfl) rfl rfl shp56 rfl (by decide) rfl rfl fl_SixWallsModel_47 (zPa (zP_up (zP_up (zP_up (oh.P (hI.2.2.1.P hP)) (by decide)) (by decide)) (by decide)) 69 rfl) ?_
      refine z_aload_n 0 (zdec DX10_dayGoes 70 rfl) rfl rfl (by decide) ?_
      refine z_getr (rw1 := -66) (ki := 8) (r' := 62) 56 10 (zdec DX10_dayGoes 71 rfl) rfl rfl shp56 rfl (by decide) rfl rfl fl_SixWallsModel_25 (zPa (zP_up (zP_up (zP_up (oh.P (hI.2.2.1.P hP)) (by decide)) (by decide)) (by decide)) 62 rfl) ?_
      refine z_iload_n 1 (zdec DX10_dayGoes 72 rfl) rfl rfl ?_
      refine z_iald 62 (zdec DX10_dayGoes 73 rfl) rfl shp62 ⟨by omega, by omega⟩ ?_
      rw [show (zup (zup (zup M66 70 w F) 71 w ((M66 71 w) + F)) 69 (zlow w) ((M66 69 (zlow w)) - F)) 62 w = M66 62 w from by simp [zup, zcpy]]
      rw [(hg66 w hI.1 (by omega)).2]
      refine z_dup2 (zdec DX10_dayGoes 74 rfl) rfl rfl ?_
      refine z_iald 69 (zdec DX10_dayGoes 75 rfl) rfl shp69 ⟨by omega, by omega⟩ ?_
      obtain ⟨g, eg⟩ : ∃ g, g = ((zup (zup (zup M66 70 w F) 71 w ((M66 71 w) + F)) 69 (zlow w) ((M66 69 (zlow w)) - F)) 69 (zhigh w)) := ⟨_, rfl⟩
      rw [← eg]
      have bgg : -10000 ≤ g ∧ g ≤ 10000 := by rw [eg]; by_cases hlh : zhigh w = zlow w; (rw [hlh, zup_self]; omega); (rw [zup_ne hlh, zup_row (by decide), zup_row (by decide)]; omega)
      refine z_aload_n 0 (zdec DX10_dayGoes 76 rfl) rfl rfl (by decide) ?_
      refine z_getr (rw1 := -66) (ki := 23) (r' := 70) 56 10 (zdec DX10_dayGoes 77 rfl) rfl rfl shp56 rfl (by decide) rfl rfl fl_SixWallsModel_50 (zPa (zP_up (zP_up (zP_up (oh.P (hI.2.2.1.P hP)) (by decide)) (by decide)) (by decide)) 70 rfl) ?_
      refine z_iload_n 1 (zdec DX10_dayGoes 78 rfl) rfl rfl ?_
      refine z_iald 70 (zdec DX10_dayGoes 79 rfl) rfl shp70 ⟨by omega, by omega⟩ ?_
      rw [show (zup (zup (zup M66 70 w F) 71 w ((M66 71 w) + F)) 69 (zlow w) ((M66 69 (zlow w)) - F)) 70 w = F from by simp [zup, zcpy]]
      refine z_iadd (zdec DX10_dayGoes 80 rfl) (by unfold z32; omega) ?_
      refine z_iast 69 (zdec DX10_dayGoes 81 rfl) rfl shp69 ⟨by omega, by omega⟩ ?_
      refine z_iinc (L' := [(0, .inr (.inr 56)), (1, .inl (w + 1))]) 1 (zdec DX10_dayGoes 82 rfl) rfl (by unfold z32; omega) rfl (by decide) ?_
      refine z_goto 53 (zdec DX10_dayGoes 83 rfl) rfl ?_
      exact ih (w + 1) (zup (zup (zup (zup M66 70 w F) 71 w ((M66 71 w) + F)) 69 (zlow w) ((M66 69 (zlow w)) - F)) 69 (zhigh w) (g + F)) (by omega) ⟨by omega, by omega, (((((hI.2.2.1.on oh).up (by omega)).up (by omega)).up (by omega)).up (by omega)), (by rw [zup_row (by decide), zup_row (by decide), zup_row (by decide), zup_row (by decide), oh.1 68 (by decide) (by decide)]; exact hI.2.2.2.1), (fun k a b => by rw [zup_row (c' := 71) (by decide), zup_row (c' := 71) (by decide)]; by_cases e : k = w; (subst e; rw [zup_self, if_pos (by omega), e71 (by omega), eF]); (rw [zup_ne e, zup_row (c' := 71) (by decide), oh.1 71 (by decide) (by decide), hI.2.2.2.2.1 k a b]; by_cases l : k < w; (rw [if_pos l, if_pos (by omega)]); (rw [if_neg l, if_neg (by omega)]))), (by rw [znx_s hI.1]; refine fun k h0 h1 => (congrFun ?_ k).trans (zgw_H hI.2.2.2.2.2.1 w k h0 h1); rw [eg]; unfold zgw; rw [zup_zpu, zup_zpu, zup_row (c' := 69) (by decide), zup_row (c' := 69) (by decide), e69, ← eF]), (fun k a b => by rw [zup_row (c' := 70) (by decide), zup_row (c' := 70) (by decide), zup_row (c' := 70) (by decide)]; by_cases e : k = w; (subst e; rw [zup_self, eF]); (rw [zup_ne e, oh.1 70 (by decide) (by decide)]; exact hI.2.2.2.2.2.2 k a (by omega)))⟩
set_option maxHeartbeats 4000000 in
theorem lp_X10_dayGoes_2 {Q : zPost} {s : zMm} (hP : zP s) (hg : zGr s) (hR : zRr s) (hT : zTR s) (T G0 : Int → Int) (bT : zbW T) (bG : ∀ w : Int, 0 ≤ w → w < 33 → -100000 ≤ G0 w ∧ G0 w ≤ 100000)  (hx51 : ∀ (M2 : zMm), (zoD s M2 ∧ zH (M2 68) T ∧ (∀ w : Int, 0 ≤ w → w < 33 → M2 71 w = G0 w) ∧ zH (M2 69) (znx s T 0)) → zW mX10_dayGoes 50 Q (0, 0) zS0 51 [(0, .inr (.inr 56))] [] M2) : ∀ (n : Nat) (h : Int) (M2 : zMm), (16 - h).toNat < n → (0 ≤ h ∧ h ≤ 16 ∧ zoD s M2 ∧ zH (M2 68) T ∧ (∀ w : Int, 0 ≤ w → w < 33 → M2 71 w = G0 w) ∧ ∀ k : Int, 0 ≤ k → k < h → M2 69 k = znx0 s T k) → zW mX10_dayGoes 50 Q (0, 0) zS0 2 [(0, .inr (.inr 56)), (1, .inl h)] [] M2 := by
  intro n
  induction n with
  | zero => intro h M2 hn; exact absurd hn (Nat.not_lt_zero _)
  | succ n ih =>
    intro h M2 hn hI
    have hg2 : zGr M2 := hI.2.2.1.g hg
    have hR2 : zRr M2 := hI.2.2.1.R hR
    have hT2 : zTR M2 := hI.2.2.1.T hT
    have r57 : M2 57 = s 57 := hI.2.2.1.r 57 (by omega)
    have hh := hI.2.2.2.1 h hI.1
    have ht := bT h hI.1
    have hbh := hR2.1 h hI.1
    have hf := hR2.2.2.1
    have hsb := zsid_b h
    have e1 : 0 ≤ M2 57 131 * (6 - zsid h) := Int.mul_nonneg hf.1 (by omega)
    have e2 : M2 57 131 * (6 - zsid h) ≤ 9 * (6 - zsid h) := Int.mul_le_mul_of_nonneg_right hf.2 (by omega)
    refine z_iload_n 1 (zdec DX10_dayGoes 2 rfl) rfl rfl ?_
    refine z_bipush 16 (zdec DX10_dayGoes 3 rfl) (by decide) ?_
    refine z_icmp_ge 51 (zdec DX10_dayGoes 4 rfl) rfl (fun h5 => ?_) (fun h5 => ?_)
    ·
      refine z_weak (L' := [(0, .inr (.inr 56))]) (by simp) ?_
      exact hx51 M2 ⟨hI.2.2.1, hI.2.2.2.1, hI.2.2.2.2.1, fun k h0 h1 => hI.2.2.2.2.2 k h0 (by omega)⟩
    ·
      refine z_aload_n 0 (zdec DX10_dayGoes 5 rfl) rfl rfl (by decide) ?_
      refine z_getr (rw1 := -66) (ki := 22) (r' := 69) 56 10 (zdec DX10_dayGoes 6 rfl) rfl rfl shp56 rfl (by decide) rfl rfl fl_SixWallsModel_47 (zPa (hI.2.2.1.P hP) 69 rfl) ?_
      refine z_iload_n 1 (zdec DX10_dayGoes 7 rfl) rfl rfl ?_
      refine z_aload_n 0 (zdec DX10_dayGoes 8 rfl) rfl rfl (by decide) ?_
      refine z_getr (rw1 := -66) (ki := 21) (r' := 68) 56 10 (zdec DX10_dayGoes 9 rfl) rfl rfl shp56 rfl (by decide) rfl rfl fl_SixWallsModel_44 (zPa (hI.2.2.1.P hP) 68 rfl) ?_
      refine z_iload_n 1 (zdec DX10_dayGoes 10 rfl) rfl rfl ?_
      refine z_iald 68 (zdec DX10_dayGoes 11 rfl) rfl shp68 ⟨by omega, by omega⟩ ?_
      refine z_aload_n 0 (zdec DX10_dayGoes 12 rfl) rfl rfl (by decide) ?_
      refine z_getr (rw1 := -66) (ki := 0) (r' := 57) 56 10 (zdec DX10_dayGoes 13 rfl) rfl rfl shp56 rfl (by decide) rfl rfl fl_SixWallsModel_9 (zPa (hI.2.2.1.P hP) 57 rfl) ?_
      refine z_iload_n 1 (zdec DX10_dayGoes 14 rfl) rfl rfl ?_
      refine z_iald 57 (zdec DX10_dayGoes 15 rfl) rfl shp57 ⟨by omega, by omega⟩ ?_
      refine z_iadd (zdec DX10_dayGoes 16 rfl) (by unfold z32; omega) ?_
      refine z_aload_n 0 (zdec DX10_dayGoes 17 rfl) rfl rfl (by decide) ?_
      refine z_getr (rw1 := -66) (ki := 0) (r' := 57) 56 10 (zdec DX10_dayGoes 18 rfl) rfl rfl shp56 rfl (by decide) rfl rfl fl_SixWallsModel_9 (zPa (hI.2.2.1.P hP) 57 rfl) ?_
      refine z_sipush 131 (zdec DX10_dayGoes 19 rfl) (by decide) ?_
      refine z_iald 57 (zdec DX10_dayGoes 20 rfl) rfl shp57 ⟨by omega, by omega⟩ ?_
      refine z_bipush 6 (zdec DX10_dayGoes 21 rfl) (by decide) ?_
      refine z_aload_n 0 (zdec DX10_dayGoes 22 rfl) rfl rfl (by decide) ?_
      refine z_iload_n 1 (zdec DX10_dayGoes 23 rfl) rfl rfl ?_
      refine z_inv mX10_neighboursOf 56 10 [.inl h] (zdec DX10_dayGoes 24 rfl) ml_SixWallsModel_143 okX10_neighboursOf rfl shp56 rfl rfl rfl rfl (Nat.le_of_ble_eq_true rfl) (Nat.le_of_ble_eq_true rfl) (b' := (0, 0)) ⟨Nat.le_refl 0, Nat.le_refl 0⟩ (Nat.le_of_ble_eq_true rfl) (cX10_neighboursOf (hI.2.2.1.P hP) hg2 h) (fun rv9 S9 M38 h9 => ?_)
      obtain ⟨rfl, rfl, rfl⟩ := h9
      change zW _ _ _ _ _ 41 [(0, .inr (.inr 56)), (1, .inl h)] [.inl (znb h 33), .inl 6, .inl (M2 57 131), .inl ((M2 68 h) + (M2 57 h)), .inl h, .inr (.inr 69)] M2
      rw [znb_sidI (by omega) (by omega)]
      refine z_isub (zdec DX10_dayGoes 25 rfl) (by unfold z32; omega) ?_
      refine z_imul (zdec DX10_dayGoes 26 rfl) (by unfold z32; omega) ?_
      refine z_isub (zdec DX10_dayGoes 27 rfl) (by unfold z32; omega) ?_
      refine z_iast 69 (zdec DX10_dayGoes 28 rfl) rfl shp69 ⟨by omega, by omega⟩ ?_
      refine z_iinc (L' := [(0, .inr (.inr 56)), (1, .inl (h + 1))]) 1 (zdec DX10_dayGoes 29 rfl) rfl (by unfold z32; omega) rfl (by decide) ?_
      refine z_goto 2 (zdec DX10_dayGoes 30 rfl) rfl ?_
      exact ih (h + 1) (zup M2 69 h (((M2 68 h) + (M2 57 h)) - ((M2 57 131) * (6 - (zsid h))))) (by omega) ⟨by omega, by omega, hI.2.2.1.up (by omega), (by rw [zup_row (by decide)]; exact hI.2.2.2.1), (by rw [zup_row (by decide)]; exact hI.2.2.2.2.1), fun k h0 h1 => (by by_cases hk : k = h; (subst hk; rw [zup_self]; unfold znx0; rw [← r57, ← hh (by omega)]); (rw [zup_ne hk]; exact hI.2.2.2.2.2 k h0 (by omega)))⟩
set_option maxHeartbeats 4000000 in
theorem cX10_dayGoes {s : zMm} (hP : zP s) (hg : zGr s) (hR : zRr s) (hT : zTR s) (T G0 : Int → Int) (bT : zbW T) (bG : ∀ w : Int, 0 ≤ w → w < 33 → -100000 ≤ G0 w ∧ G0 w ≤ 100000) {M : zMm} (hM : zoD s M) (h68 : zH (M 68) T) (h71 : ∀ w : Int, 0 ≤ w → w < 33 → M 71 w = G0 w) : zW mX10_dayGoes 50 (fun rv S' M' => S' = zS0 ∧ zoD s M' ∧ zH (M' 68) (zdyR s T) ∧ (∀ w : Int, 0 ≤ w → w < 33 → M' 70 w = zflR s T w ∧ M' 71 w = G0 w + zflR s T w) ∧ ((rv = some (.inl 1) ∧ zchg T (zdyR s T) 16) ∨ (rv = some (.inl 0) ∧ ¬ zchg T (zdyR s T) 16))) (0, 0) zS0 0 (zargs 0 [.inr (.inr 56)]) [] M := by
  change zW _ _ _ _ _ 0 [(0, .inr (.inr 56))] [] M
  refine z_iconst 0 (zdec DX10_dayGoes 0 rfl) (by decide) ?_
  refine z_istore_n (L' := [(0, .inr (.inr 56)), (1, .inl 0)]) (zdec DX10_dayGoes 1 rfl) rfl rfl (by decide) ?_
  refine lp_X10_dayGoes_2 hP hg hR hT T G0 bT bG (hx51 := fun M2 hx => ?_) _ 0 M (Nat.lt_succ_self _) ⟨by omega, by omega, hM, h68, h71, fun k h0 h1 => by omega⟩
  refine z_iconst 0 (zdec DX10_dayGoes 31 rfl) (by decide) ?_
  refine z_istore_n (L' := [(0, .inr (.inr 56)), (1, .inl 0)]) (zdec DX10_dayGoes 32 rfl) rfl rfl (by decide) ?_
  refine lp_X10_dayGoes_53 hP hg hR hT T G0 bT bG (hx131 := fun M2 hy => ?_) _ 0 M2 (Nat.lt_succ_self _) ⟨by omega, by omega, hx.1, hx.2.1, (fun k a b => by rw [if_neg (by omega)]; exact hx.2.2.1 k a b), hx.2.2.2, fun k a b => by omega⟩
  refine z_iconst 0 (zdec DX10_dayGoes 84 rfl) (by decide) ?_
  refine z_istore_n (L' := [(0, .inr (.inr 56)), (1, .inl 0)]) (zdec DX10_dayGoes 85 rfl) rfl rfl (by decide) ?_
  refine z_iconst 0 (zdec DX10_dayGoes 86 rfl) (by decide) ?_
  refine z_istore_n (L' := [(0, .inr (.inr 56)), (1, .inl 0), (2, .inl 0)]) (zdec DX10_dayGoes 87 rfl) rfl rfl (by decide) ?_
  refine lp_X10_dayGoes_135 hP hg hR hT T G0 bT bG (hx208 := fun ch M2 hz => ?_) _ 0 0 M2 (Nat.lt_succ_self _) ⟨by omega, by omega, hy.1, (fun k h0 h1 => by rw [if_neg (by omega)]; exact hy.2.1 k h0 h1), hy.2.2.1, hy.2.2.2, Or.inr ⟨rfl, fun ⟨k, h0, h1, _⟩ => by omega⟩⟩
  refine z_iload_n 0 (zdec DX10_dayGoes 130 rfl) rfl rfl ?_
  exact z_zret (zdec DX10_dayGoes 131 rfl) rfl (by rcases hz.2.2.2 with ⟨a, _⟩ | ⟨a, _⟩ <;> omega) (⟨rfl, hz.1, hz.2.1, hz.2.2.1, (by rcases hz.2.2.2 with ⟨a, b⟩ | ⟨a, b⟩; (exact Or.inl ⟨by rw [a], b⟩); (exact Or.inr ⟨by rw [a], b⟩))⟩)
