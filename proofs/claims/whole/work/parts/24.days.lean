/-! contracts of Winter: days in thought -/
/-- what thinking leaves alone -/
def zoW (s M : zMm) : Prop := ∀ c : Int, c ≠ 20 → c ≠ 22 → c ≠ 23 → c ≠ 24 → c ≠ 25 → M c = s c
theorem zoW.rf {s : zMm} : zoW s s := fun _ _ _ _ _ _ => rfl
theorem zoW.on {s M M2 : zMm} (h : zoW s M) (h2 : zonly 20 M M2) : zoW s M2 := fun c a b d e f => (h2 c a).trans (h c a b d e f)
theorem zoW.tr {s M M2 : zMm} (h : zoW s M) (h2 : zoW M M2) : zoW s M2 := fun c a b d e f => (h2 c a b d e f).trans (h c a b d e f)
theorem zoW.up {s M : zMm} {r k v : Int} (h : zoW s M) (hr : r = 22 ∨ r = 23 ∨ r = 24 ∨ r = 25) : zoW s (zup M r k v) := fun c a b d e f => (zup_row (by omega)).trans (h c a b d e f)
theorem zoW.P {s M : zMm} (h : zoW s M) (hP : zP s) : zP M := zP_of hP fun r hr => h r (by omega) (by omega) (by omega) (by omega) (by omega)
theorem zoW.G {s M : zMm} (h : zoW s M) (hG : zG s) : zG M := zG_of hG fun k h0 h1 => h k (by omega) (by omega) (by omega) (by omega) (by omega)
theorem zoW.R {s M : zMm} (h : zoW s M) (hR : zRg s) : zRg M := zRg_of hR (h 1 (by omega) (by omega) (by omega) (by omega) (by omega)) fun k h0 h1 => h k (by omega) (by omega) (by omega) (by omega) (by omega)
theorem zoW.T {s M : zMm} {q : Int} (h : zoW s M) (hT : zTx s q) : zTx M q := by
  have hq := hT.1.1
  refine ⟨zQ_of hT.1 (h (-24) (by decide) (by decide) (by decide) (by decide) (by decide)), ?_, ?_⟩
  · rw [h 14 (by decide) (by decide) (by decide) (by decide) (by decide)]
    exact hT.2.1
  · rw [h (q + 1) (by omega) (by omega) (by omega) (by omega) (by omega)]
    exact hT.2.2
theorem zoW.flow {s M : zMm} {q : Int} (h : zoW s M) (hT : zTx s q) {T T' : Int → Int} (hE : zH T' T) (w : Int) : zflow M q T' w = zflow s q T w := by
  have hq := hT.1.1
  have e := zlaw_of (q := q) (congrFun (h 14 (by decide) (by decide) (by decide) (by decide) (by decide)) 6) (h q (by omega) (by omega) (by omega) (by omega) (by omega)) (h (q + 1) (by omega) (by omega) (by omega) (by omega) (by omega)) (h 11 (by decide) (by decide) (by decide) (by decide) (by decide)) (h 12 (by decide) (by decide) (by decide) (by decide) (by decide))
  have lb := zlow_b w
  have lh := zhigh_b w
  unfold zflow zflowd
  rw [hE _ lb.1 lb.2, hE _ lh.1 lh.2, e]
def zgn0 (s : zMm) (H : Int → Int) (h : Int) : Int := H h - s 1 12 * (6 - zsid h)
def zgn1 (s : zMm) (q : Int) (T G : Int → Int) (w : Int) : Int → Int := zpu (zpu G (zlow w) (G (zlow w) - zflow s q T w)) (zhigh w) (zpu G (zlow w) (G (zlow w) - zflow s q T w) (zhigh w) + zflow s q T w)
def zgn (s : zMm) (q : Int) (T H : Int → Int) (n : Int) : Int → Int := zfo (zgn1 s q T) (zgn0 s H) n
def zday (s : zMm) (q : Int) (H T : Int → Int) : Int → Int := fun h => zmax 0 (zmin 99 (T h + zgn s q T H 33 h))
def zchg (T T' : Int → Int) (n : Int) : Prop := ∃ h : Int, 0 ≤ h ∧ h < n ∧ T' h ≠ T h
def zbW (T : Int → Int) : Prop := ∀ h : Int, 0 ≤ h → h < 16 → 0 ≤ T h ∧ T h ≤ 99
def zbH (T : Int → Int) : Prop := ∀ h : Int, 0 ≤ h → h < 16 → 0 ≤ T h ∧ T h ≤ 9
theorem zbW.day {s : zMm} {q : Int} {H T : Int → Int} : zbW (zday s q H T) := by
  intro h h0 h1
  unfold zday zmax zmin
  split <;> split <;> omega
theorem zflow_b {s : zMm} {q : Int} {T : Int → Int} (h : zbW T) (w : Int) : -49 ≤ zflow s q T w ∧ zflow s q T w ≤ 49 := zflowd_b (h _ (zlow_b w).1 (zlow_b w).2) (h _ (zhigh_b w).1 (zhigh_b w).2)
theorem zgn_b {s : zMm} {q : Int} {T H : Int → Int} (hR : zRg s) (hT : zbW T) (hH : zbH H) : ∀ (n : Nat) (h : Int), 0 ≤ h → h < 16 → -54 - 100 * (n : Int) ≤ zfold (zgn1 s q T) (zgn0 s H) n h ∧ zfold (zgn1 s q T) (zgn0 s H) n h ≤ 9 + 100 * (n : Int) := by
  intro n
  induction n with
  | zero =>
    intro h h0 h1
    have hf := hR.2.2.1
    have hs := zsid_b h
    have hh := hH h h0 h1
    have e1 : 0 ≤ s 1 12 * (6 - zsid h) := Int.mul_nonneg hf.1 (by omega)
    have e2 : s 1 12 * (6 - zsid h) ≤ 9 * (6 - zsid h) := Int.mul_le_mul_of_nonneg_right hf.2 (by omega)
    show _ ≤ H h - s 1 12 * (6 - zsid h) ∧ H h - s 1 12 * (6 - zsid h) ≤ _
    omega
  | succ n ih =>
    intro h h0 h1
    have lb := zlow_b n
    have lh := zhigh_b n
    have i1 := ih _ lb.1 lb.2
    have i2 := ih _ lh.1 lh.2
    have i3 := ih h h0 h1
    have hf := zflow_b (s := s) (q := q) hT n
    show _ ≤ zgn1 s q T (zfold (zgn1 s q T) (zgn0 s H) n) n h ∧ zgn1 s q T (zfold (zgn1 s q T) (zgn0 s H) n) n h ≤ _
    generalize zfold (zgn1 s q T) (zgn0 s H) n = G at *
    unfold zgn1 zpu
    split
    · split <;> omega
    · split <;> omega
theorem zgn_s {s : zMm} {q : Int} {T H : Int → Int} {w : Int} (h : 0 ≤ w) : zgn s q T H (w + 1) = zgn1 s q T (zgn s q T H w) w := zfo_s _ _ h
theorem zH.pu {f g : Int → Int} (h : zH f g) {k v v' : Int} (e : v = v') : zH (zpu f k v) (zpu g k v') := by
  intro i h0 h1
  subst e
  by_cases hi : i = k
  · subst hi; rw [zpu_s, zpu_s]
  · rw [zpu_n hi, zpu_n hi]; exact h i h0 h1
theorem zgn1_H {s : zMm} {q : Int} {T f g : Int → Int} (h : zH f g) (w : Int) : zH (zgn1 s q T f w) (zgn1 s q T g w) := by
  have lb := zlow_b w
  have lh := zhigh_b w
  have h1 := h.pu (k := zlow w) (v := f (zlow w) - zflow s q T w) (v' := g (zlow w) - zflow s q T w) (by rw [h _ lb.1 lb.2])
  exact h1.pu (by rw [h1 _ lh.1 lh.2])
theorem zchg_s {T D : Int → Int} {h : Int} (h0 : 0 ≤ h) : zchg T D (h + 1) ↔ zchg T D h ∨ D h ≠ T h := by
  constructor
  · rintro ⟨k, k0, k1, k2⟩
    by_cases hk : k = h
    · subst hk; exact Or.inr k2
    · exact Or.inl ⟨k, k0, by omega, k2⟩
  · rintro (⟨k, k0, k1, k2⟩ | k2)
    · exact ⟨k, k0, by omega, k2⟩
    · exact ⟨h, h0, by omega, k2⟩
set_option maxHeartbeats 4000000 in
theorem lp_X8_pass_126 {Q : zPost} {s : zMm} (hP : zP s) {q : Int} (hG : zG s) (hR : zRg s) (hT : zTx s q) (H T : Int → Int) (bT : zbW T) (bH : zbH H)  (hx180 : ∀ (ch : Int) (M2 : zMm), (zoW s M2 ∧ zH (M2 22) (zday s q H T) ∧ zH (M2 23) H ∧ (∀ k : Int, 0 ≤ k → k < 33 → M2 24 k = zflow s q T k) ∧ ((ch = 1 ∧ zchg T (zday s q H T) 16) ∨ (ch = 0 ∧ ¬ zchg T (zday s q H T) 16))) → zW mX8_pass 6 Q (0, 0) zS0 180 [(1, .inl ch)] [] M2) : ∀ (n : Nat) (ch : Int) (h : Int) (M2 : zMm), (16 - h).toNat < n → (0 ≤ h ∧ h ≤ 16 ∧ zoW s M2 ∧ (∀ k : Int, 0 ≤ k → k < 16 → M2 22 k = if k < h then zday s q H T k else T k) ∧ zH (M2 23) H ∧ zH (M2 25) (zgn s q T H 33) ∧ (∀ k : Int, 0 ≤ k → k < 33 → M2 24 k = zflow s q T k) ∧ ((ch = 1 ∧ zchg T (zday s q H T) h) ∨ (ch = 0 ∧ ¬ zchg T (zday s q H T) h))) → zW mX8_pass 6 Q (0, 0) zS0 126 [(0, .inr (.inr 21)), (1, .inl ch), (2, .inl h)] [] M2 := by
  intro n
  induction n with
  | zero => intro ch h M2 hn; exact absurd hn (Nat.not_lt_zero _)
  | succ n ih =>
    intro ch h M2 hn hI
    have et := hI.2.2.2.1 h hI.1
    have bt := bT h hI.1
    have eg := hI.2.2.2.2.2.1 h hI.1
    have bg : h < 16 → -54 - 100 * 33 ≤ zgn s q T H 33 h ∧ zgn s q T H 33 h ≤ 9 + 100 * 33 := zgn_b (s := s) (q := q) hR bT bH 33 h hI.1
    rw [if_neg (Int.lt_irrefl h)] at et
    refine z_iload_n 2 (zdec DX8_pass 77 rfl) rfl rfl ?_
    refine z_bipush 16 (zdec DX8_pass 78 rfl) (by decide) ?_
    refine z_icmp_ge 180 (zdec DX8_pass 79 rfl) rfl (fun h129 => ?_) (fun h129 => ?_)
    ·
      refine z_weak (L' := [(1, .inl ch)]) (by simp) ?_
      exact hx180 ch M2 (by have e : h = 16 := (by omega); subst e; exact ⟨hI.2.2.1, fun k h0 h1 => (by rw [hI.2.2.2.1 k h0 h1, if_pos h1]), hI.2.2.2.2.1, hI.2.2.2.2.2.2.1, hI.2.2.2.2.2.2.2⟩)
    ·
      refine z_iconst 0 (zdec DX8_pass 80 rfl) (by decide) ?_
      refine z_bipush 99 (zdec DX8_pass 81 rfl) (by decide) ?_
      refine z_aload_n 0 (zdec DX8_pass 82 rfl) rfl rfl (by decide) ?_
      refine z_getr (rw1 := -31) (ki := 2) (r' := 22) 21 8 (zdec DX8_pass 83 rfl) rfl rfl shp21 rfl (by decide) rfl rfl fl_SixWalls_Winter_9 (zPa (hI.2.2.1.P hP) 25 rfl) ?_
      refine z_iload_n 2 (zdec DX8_pass 84 rfl) rfl rfl ?_
      refine z_iald 22 (zdec DX8_pass 85 rfl) rfl shp22 ⟨by omega, by omega⟩ ?_
      refine z_aload_n 0 (zdec DX8_pass 86 rfl) rfl rfl (by decide) ?_
      refine z_getr (rw1 := -31) (ki := 5) (r' := 25) 21 8 (zdec DX8_pass 87 rfl) rfl rfl shp21 rfl (by decide) rfl rfl fl_SixWalls_Winter_21 (zPa (hI.2.2.1.P hP) 28 rfl) ?_
      refine z_iload_n 2 (zdec DX8_pass 88 rfl) rfl rfl ?_
      refine z_iald 25 (zdec DX8_pass 89 rfl) rfl shp25 ⟨by omega, by omega⟩ ?_
      refine z_iadd (zdec DX8_pass 90 rfl) (by unfold z32; omega) ?_
      refine z_mmin (zdec DX8_pass 91 rfl) ml_SixWalls_Winter_69 (by decide) (Nat.le_of_ble_eq_true rfl) ?_
      refine z_mmax (zdec DX8_pass 92 rfl) ml_SixWalls_Winter_65 (by decide) (Nat.le_of_ble_eq_true rfl) ?_
      obtain ⟨v, ev⟩ : ∃ v, v = (if 0 < (if (M2 22 h) + (M2 25 h) < 99 then (M2 22 h) + (M2 25 h) else 99) then (if (M2 22 h) + (M2 25 h) < 99 then (M2 22 h) + (M2 25 h) else 99) else 0) := ⟨_, rfl⟩
      rw [← ev]
      have ev2 : v = zday s q H T h := by rw [ev]; unfold zday zmax zmin; rw [et (by omega), eg (by omega)]
      refine z_istore_n (L' := [(0, .inr (.inr 21)), (1, .inl ch), (2, .inl h), (3, .inl v)]) (zdec DX8_pass 93 rfl) rfl rfl (by decide) ?_
      refine z_iload_n 3 (zdec DX8_pass 94 rfl) rfl rfl ?_
      refine z_aload_n 0 (zdec DX8_pass 95 rfl) rfl rfl (by decide) ?_
      refine z_getr (rw1 := -31) (ki := 2) (r' := 22) 21 8 (zdec DX8_pass 96 rfl) rfl rfl shp21 rfl (by decide) rfl rfl fl_SixWalls_Winter_9 (zPa (hI.2.2.1.P hP) 25 rfl) ?_
      refine z_iload_n 2 (zdec DX8_pass 97 rfl) rfl rfl ?_
      refine z_iald 22 (zdec DX8_pass 98 rfl) rfl shp22 ⟨by omega, by omega⟩ ?_
      refine z_icmp_eq 167 (zdec DX8_pass 99 rfl) rfl (fun h162 => ?_) (fun h162 => ?_)
      ·
        refine z_aload_n 0 (zdec DX8_pass 102 rfl) rfl rfl (by decide) ?_
        refine z_getr (rw1 := -31) (ki := 2) (r' := 22) 21 8 (zdec DX8_pass 103 rfl) rfl rfl shp21 rfl (by decide) rfl rfl fl_SixWalls_Winter_9 (zPa (hI.2.2.1.P hP) 25 rfl) ?_
        refine z_iload_n 2 (zdec DX8_pass 104 rfl) rfl rfl ?_
        refine z_iload_n 3 (zdec DX8_pass 105 rfl) rfl rfl ?_
        refine z_iast 22 (zdec DX8_pass 106 rfl) rfl shp22 ⟨by omega, by omega⟩ ?_
        refine z_iinc (L' := [(0, .inr (.inr 21)), (1, .inl ch), (2, .inl (h + 1)), (3, .inl v)]) 2 (zdec DX8_pass 107 rfl) rfl (by unfold z32; omega) rfl (by decide) ?_
        refine z_goto 126 (zdec DX8_pass 108 rfl) rfl ?_
        refine z_weak (L' := [(0, .inr (.inr 21)), (1, .inl ch), (2, .inl (h + 1))]) (by simp) ?_
        exact ih ch (h + 1) (zup M2 22 h v) (by omega) ⟨by omega, by omega, hI.2.2.1.up (by omega), (fun k h0 h1 => by by_cases hk : k = h; (subst hk; rw [zup_self, if_pos (by omega)]; exact ev2); (rw [zup_ne hk, hI.2.2.2.1 k h0 h1]; by_cases hl : k < h; (rw [if_pos hl, if_pos (by omega)]); (rw [if_neg hl, if_neg (by omega)]))), (by intro k h0 h1; rw [zup_row (by decide)]; exact hI.2.2.2.2.1 k h0 h1), (by intro k h0 h1; rw [zup_row (by decide)]; exact hI.2.2.2.2.2.1 k h0 h1), (by intro k h0 h1; rw [zup_row (by decide)]; exact hI.2.2.2.2.2.2.1 k h0 h1), (by rw [zchg_s hI.1]; rcases hI.2.2.2.2.2.2.2 with ⟨a, b⟩ | ⟨a, b⟩; (exact Or.inl ⟨a, Or.inl b⟩); (exact Or.inr ⟨a, fun c => c.elim b (fun e => e (by rw [← ev2, h162]; exact et (by omega)))⟩))⟩
      ·
        refine z_iconst 1 (zdec DX8_pass 100 rfl) (by decide) ?_
        refine z_istore_n (L' := [(0, .inr (.inr 21)), (1, .inl 1), (2, .inl h), (3, .inl v)]) (zdec DX8_pass 101 rfl) rfl rfl (by decide) ?_
        refine z_aload_n 0 (zdec DX8_pass 102 rfl) rfl rfl (by decide) ?_
        refine z_getr (rw1 := -31) (ki := 2) (r' := 22) 21 8 (zdec DX8_pass 103 rfl) rfl rfl shp21 rfl (by decide) rfl rfl fl_SixWalls_Winter_9 (zPa (hI.2.2.1.P hP) 25 rfl) ?_
        refine z_iload_n 2 (zdec DX8_pass 104 rfl) rfl rfl ?_
        refine z_iload_n 3 (zdec DX8_pass 105 rfl) rfl rfl ?_
        refine z_iast 22 (zdec DX8_pass 106 rfl) rfl shp22 ⟨by omega, by omega⟩ ?_
        refine z_iinc (L' := [(0, .inr (.inr 21)), (1, .inl 1), (2, .inl (h + 1)), (3, .inl v)]) 2 (zdec DX8_pass 107 rfl) rfl (by unfold z32; omega) rfl (by decide) ?_
        refine z_goto 126 (zdec DX8_pass 108 rfl) rfl ?_
        refine z_weak (L' := [(0, .inr (.inr 21)), (1, .inl 1), (2, .inl (h + 1))]) (by simp) ?_
        exact ih 1 (h + 1) (zup M2 22 h v) (by omega) ⟨by omega, by omega, hI.2.2.1.up (by omega), (fun k h0 h1 => by by_cases hk : k = h; (subst hk; rw [zup_self, if_pos (by omega)]; exact ev2); (rw [zup_ne hk, hI.2.2.2.1 k h0 h1]; by_cases hl : k < h; (rw [if_pos hl, if_pos (by omega)]); (rw [if_neg hl, if_neg (by omega)]))), (by intro k h0 h1; rw [zup_row (by decide)]; exact hI.2.2.2.2.1 k h0 h1), (by intro k h0 h1; rw [zup_row (by decide)]; exact hI.2.2.2.2.2.1 k h0 h1), (by intro k h0 h1; rw [zup_row (by decide)]; exact hI.2.2.2.2.2.2.1 k h0 h1), (by rw [zchg_s hI.1]; exact Or.inl ⟨rfl, Or.inr (fun e => h162 (by rw [ev2, e]; exact (et (by omega)).symm))⟩)⟩
set_option maxHeartbeats 4000000 in
theorem lp_X8_pass_49 {Q : zPost} {s : zMm} (hP : zP s) {q : Int} (hG : zG s) (hR : zRg s) (hT : zTx s q) (H T : Int → Int) (bT : zbW T) (bH : zbH H)  (hx122 : ∀ (M2 : zMm), (zoW s M2 ∧ zH (M2 22) T ∧ zH (M2 23) H ∧ zH (M2 25) (zgn s q T H 33) ∧ ∀ k : Int, 0 ≤ k → k < 33 → M2 24 k = zflow s q T k) → zW mX8_pass 6 Q (0, 0) zS0 122 [(0, .inr (.inr 21))] [] M2) : ∀ (n : Nat) (w : Int) (M2 : zMm), (33 - w).toNat < n → (0 ≤ w ∧ w ≤ 33 ∧ zoW s M2 ∧ zH (M2 22) T ∧ zH (M2 23) H ∧ zH (M2 25) (zgn s q T H w) ∧ ∀ k : Int, 0 ≤ k → k < w → M2 24 k = zflow s q T k) → zW mX8_pass 6 Q (0, 0) zS0 49 [(0, .inr (.inr 21)), (1, .inl w)] [] M2 := by
  intro n
  induction n with
  | zero => intro w M2 hn; exact absurd hn (Nat.not_lt_zero _)
  | succ n ih =>
    intro w M2 hn hI
    have hG2 : zG M2 := hI.2.2.1.G hG
    have hR2 : zRg M2 := hI.2.2.1.R hR
    have hT2 : zTx M2 q := hI.2.2.1.T hT
    have lb := zlow_b w
    have lh := zhigh_b w
    have ef := hI.2.2.1.flow hT hI.2.2.2.1 w
    have bf := zflow_b (s := s) (q := q) bT w
    have bg := fun h a b => zgn_b (s := s) (q := q) hR bT bH w.toNat h a b
    have bl := bg _ lb.1 lb.2
    have bh := bg _ lh.1 lh.2
    have el : M2 25 (zlow w) = zfold (zgn1 s q T) (zgn0 s H) w.toNat (zlow w) := hI.2.2.2.2.2.1 _ lb.1 lb.2
    have eh : M2 25 (zhigh w) = zfold (zgn1 s q T) (zgn0 s H) w.toNat (zhigh w) := hI.2.2.2.2.2.1 _ lh.1 lh.2
    rw [← el] at bl
    rw [← eh] at bh
    have b22 : ∀ h : Int, 0 ≤ h → h < 16 → 0 ≤ M2 22 h ∧ M2 22 h ≤ 99 := fun h a b => by rw [hI.2.2.2.1 h a b]; exact bT h a b
    refine z_iload_n 1 (zdec DX8_pass 29 rfl) rfl rfl ?_
    refine z_bipush 33 (zdec DX8_pass 30 rfl) (by decide) ?_
    refine z_icmp_ge 122 (zdec DX8_pass 31 rfl) rfl (fun h52 => ?_) (fun h52 => ?_)
    ·
      refine z_weak (L' := [(0, .inr (.inr 21))]) (by simp) ?_
      exact hx122 M2 (by have e : w = 33 := (by omega); subst e; exact hI.2.2)
    ·
      refine z_aload_n 0 (zdec DX8_pass 32 rfl) rfl rfl (by decide) ?_
      refine z_getr (rw1 := -31) (ki := 4) (r' := 24) 21 8 (zdec DX8_pass 33 rfl) rfl rfl shp21 rfl (by decide) rfl rfl fl_SixWalls_Winter_18 (zPa (hI.2.2.1.P hP) 27 rfl) ?_
      refine z_iload_n 1 (zdec DX8_pass 34 rfl) rfl rfl ?_
      refine z_aload_n 0 (zdec DX8_pass 35 rfl) rfl rfl (by decide) ?_
      refine z_iload_n 1 (zdec DX8_pass 36 rfl) rfl rfl ?_
      refine z_aload_n 0 (zdec DX8_pass 37 rfl) rfl rfl (by decide) ?_
      refine z_getr (rw1 := -31) (ki := 2) (r' := 22) 21 8 (zdec DX8_pass 38 rfl) rfl rfl shp21 rfl (by decide) rfl rfl fl_SixWalls_Winter_9 (zPa (hI.2.2.1.P hP) 25 rfl) ?_
      refine z_inv mX8_flow 21 8 [.inl w, .inr (.inr 22)] (zdec DX8_pass 39 rfl) ml_SixWalls_Winter_94 okX8_flow rfl shp21 rfl rfl rfl rfl (Nat.le_of_ble_eq_true rfl) (Nat.le_of_ble_eq_true rfl) (b' := (0, 0)) ⟨Nat.le_refl 0, Nat.le_refl 0⟩ (Nat.le_of_ble_eq_true rfl) (cX8_flow (hI.2.2.1.P hP) hT2 hR2 hG2 w 22 ⟨by omega, by omega⟩ ⟨by decide, rfl⟩ b22) (fun rv9 S9 M66 h9 => ?_)
      obtain ⟨rfl, rfl, ho⟩ := h9
      have e25 : M66 25 = M2 25 := ho 25 (by decide)
      rw [← e25] at bl bh
      have hG66 : zG M66 := (hI.2.2.1.on ho).G hG
      obtain ⟨F, eF⟩ : ∃ F, F = zflow s q T w := ⟨_, rfl⟩
      rw [← eF] at bf ef
      change zW _ _ _ _ _ 69 [(0, .inr (.inr 21)), (1, .inl w)] [.inl (zflow M2 q (M2 22) w), .inl w, .inr (.inr 24)] M66
      rw [ef]
      refine z_iast 24 (zdec DX8_pass 40 rfl) rfl shp24 ⟨by omega, by omega⟩ ?_
      refine z_aload_n 0 (zdec DX8_pass 41 rfl) rfl rfl (by decide) ?_
      refine z_getr (rw1 := -31) (ki := 5) (r' := 25) 21 8 (zdec DX8_pass 42 rfl) rfl rfl shp21 rfl (by decide) rfl rfl fl_SixWalls_Winter_21 (zPa (zP_up (ho.P (by decide) (hI.2.2.1.P hP)) (by decide)) 28 rfl) ?_
      refine z_aload_n 0 (zdec DX8_pass 43 rfl) rfl rfl (by decide) ?_
      refine z_getr (rw1 := -31) (ki := 0) (r' := 1) 21 8 (zdec DX8_pass 44 rfl) rfl rfl shp21 rfl (by decide) rfl rfl fl_SixWalls_Winter_31 (zPa (zP_up (ho.P (by decide) (hI.2.2.1.P hP)) (by decide)) 23 rfl) ?_
      refine z_getr (rw1 := -11) (ki := 0) (r' := 2) 1 1 (zdec DX8_pass 45 rfl) rfl rfl shp1 rfl (by decide) rfl rfl fl_SixWalls_Winter_39 (zPa (zP_up (ho.P (by decide) (hI.2.2.1.P hP)) (by decide)) 9 rfl) ?_
      refine z_iload_n 1 (zdec DX8_pass 46 rfl) rfl rfl ?_
      refine z_iald 2 (zdec DX8_pass 47 rfl) rfl shp2 ⟨by omega, by omega⟩ ?_
      rw [show (zup M66 24 w F) 2 w = M66 2 w from by simp [zup, zcpy]]
      rw [hG66.low (by omega) (by omega)]
      refine z_dup2 (zdec DX8_pass 48 rfl) rfl rfl ?_
      refine z_iald 25 (zdec DX8_pass 49 rfl) rfl shp25 ⟨by omega, by omega⟩ ?_
      rw [show (zup M66 24 w F) 25 (zlow w) = M66 25 (zlow w) from by simp [zup, zcpy]]
      refine z_aload_n 0 (zdec DX8_pass 50 rfl) rfl rfl (by decide) ?_
      refine z_getr (rw1 := -31) (ki := 4) (r' := 24) 21 8 (zdec DX8_pass 51 rfl) rfl rfl shp21 rfl (by decide) rfl rfl fl_SixWalls_Winter_18 (zPa (zP_up (ho.P (by decide) (hI.2.2.1.P hP)) (by decide)) 27 rfl) ?_
      refine z_iload_n 1 (zdec DX8_pass 52 rfl) rfl rfl ?_
      refine z_iald 24 (zdec DX8_pass 53 rfl) rfl shp24 ⟨by omega, by omega⟩ ?_
      rw [show (zup M66 24 w F) 24 w = F from by simp [zup, zcpy]]
      refine z_isub (zdec DX8_pass 54 rfl) (by unfold z32; omega) ?_
      refine z_iast 25 (zdec DX8_pass 55 rfl) rfl shp25 ⟨by omega, by omega⟩ ?_
      refine z_aload_n 0 (zdec DX8_pass 56 rfl) rfl rfl (by decide) ?_
      refine z_getr (rw1 := -31) (ki := 5) (r' := 25) 21 8 (zdec DX8_pass 57 rfl) rfl rfl shp21 rfl (by decide) rfl rfl fl_SixWalls_Winter_21 (zPa (zP_up (zP_up (ho.P (by decide) (hI.2.2.1.P hP)) (by decide)) (by decide)) 28 rfl) ?_
      refine z_aload_n 0 (zdec DX8_pass 58 rfl) rfl rfl (by decide) ?_
      refine z_getr (rw1 := -31) (ki := 0) (r' := 1) 21 8 (zdec DX8_pass 59 rfl) rfl rfl shp21 rfl (by decide) rfl rfl fl_SixWalls_Winter_31 (zPa (zP_up (zP_up (ho.P (by decide) (hI.2.2.1.P hP)) (by decide)) (by decide)) 23 rfl) ?_
      refine z_getr (rw1 := -11) (ki := 1) (r' := 3) 1 1 (zdec DX8_pass 60 rfl) rfl rfl shp1 rfl (by decide) rfl rfl fl_SixWalls_Winter_44 (zPa (zP_up (zP_up (ho.P (by decide) (hI.2.2.1.P hP)) (by decide)) (by decide)) 10 rfl) ?_
      refine z_iload_n 1 (zdec DX8_pass 61 rfl) rfl rfl ?_
      refine z_iald 3 (zdec DX8_pass 62 rfl) rfl shp3 ⟨by omega, by omega⟩ ?_
      rw [show (zup (zup M66 24 w F) 25 (zlow w) ((M66 25 (zlow w)) - F)) 3 w = M66 3 w from by simp [zup, zcpy]]
      rw [hG66.high (by omega) (by omega)]
      refine z_dup2 (zdec DX8_pass 63 rfl) rfl rfl ?_
      refine z_iald 25 (zdec DX8_pass 64 rfl) rfl shp25 ⟨by omega, by omega⟩ ?_
      obtain ⟨g, eg⟩ : ∃ g, g = ((zup (zup M66 24 w F) 25 (zlow w) ((M66 25 (zlow w)) - F)) 25 (zhigh w)) := ⟨_, rfl⟩
      rw [← eg]
      have bgg : -10000 ≤ g ∧ g ≤ 10000 := by rw [eg]; by_cases hlh : zhigh w = zlow w; (rw [hlh, zup_self]; omega); (rw [zup_ne hlh, zup_row (by decide)]; omega)
      refine z_aload_n 0 (zdec DX8_pass 65 rfl) rfl rfl (by decide) ?_
      refine z_getr (rw1 := -31) (ki := 4) (r' := 24) 21 8 (zdec DX8_pass 66 rfl) rfl rfl shp21 rfl (by decide) rfl rfl fl_SixWalls_Winter_18 (zPa (zP_up (zP_up (ho.P (by decide) (hI.2.2.1.P hP)) (by decide)) (by decide)) 27 rfl) ?_
      refine z_iload_n 1 (zdec DX8_pass 67 rfl) rfl rfl ?_
      refine z_iald 24 (zdec DX8_pass 68 rfl) rfl shp24 ⟨by omega, by omega⟩ ?_
      rw [show (zup (zup M66 24 w F) 25 (zlow w) ((M66 25 (zlow w)) - F)) 24 w = F from by simp [zup, zcpy]]
      refine z_iadd (zdec DX8_pass 69 rfl) (by unfold z32; omega) ?_
      refine z_iast 25 (zdec DX8_pass 70 rfl) rfl shp25 ⟨by omega, by omega⟩ ?_
      refine z_iinc (L' := [(0, .inr (.inr 21)), (1, .inl (w + 1))]) 1 (zdec DX8_pass 71 rfl) rfl (by unfold z32; omega) rfl (by decide) ?_
      refine z_goto 49 (zdec DX8_pass 72 rfl) rfl ?_
      exact ih (w + 1) (zup (zup (zup M66 24 w F) 25 (zlow w) ((M66 25 (zlow w)) - F)) 25 (zhigh w) (g + F)) (by omega) ⟨by omega, by omega, ((hI.2.2.1.on ho).up (by omega)).up (by omega) |>.up (by omega), (by intro k h0 h1; rw [zup_row (by decide), zup_row (by decide), zup_row (by decide), ho 22 (by decide)]; exact hI.2.2.2.1 k h0 h1), (by intro k h0 h1; rw [zup_row (by decide), zup_row (by decide), zup_row (by decide), ho 23 (by decide)]; exact hI.2.2.2.2.1 k h0 h1), (by rw [zgn_s hI.1]; refine fun k h0 h1 => (congrFun ?_ k).trans (zgn1_H hI.2.2.2.2.2.1 w k h0 h1); rw [eg]; unfold zgn1; rw [zup_zpu, zup_zpu, zup_row (by decide), e25, ← eF]), fun k h0 h1 => (by rw [zup_row (by decide), zup_row (by decide)]; by_cases hk : k = w; (subst hk; rw [zup_self, eF]); (rw [zup_ne hk, ho 24 (by decide)]; exact hI.2.2.2.2.2.2 k h0 (by omega)))⟩
set_option maxHeartbeats 4000000 in
theorem lp_X8_pass_2 {Q : zPost} {s : zMm} (hP : zP s) {q : Int} (hG : zG s) (hR : zRg s) (hT : zTx s q) (H T : Int → Int) (bT : zbW T) (bH : zbH H)  (hx47 : ∀ (M2 : zMm), (zoW s M2 ∧ zH (M2 22) T ∧ zH (M2 23) H ∧ zH (M2 25) (zgn s q T H 0)) → zW mX8_pass 6 Q (0, 0) zS0 47 [(0, .inr (.inr 21))] [] M2) : ∀ (n : Nat) (h : Int) (M2 : zMm), (16 - h).toNat < n → (0 ≤ h ∧ h ≤ 16 ∧ zoW s M2 ∧ zH (M2 22) T ∧ zH (M2 23) H ∧ ∀ k : Int, 0 ≤ k → k < h → M2 25 k = zgn0 s H k) → zW mX8_pass 6 Q (0, 0) zS0 2 [(0, .inr (.inr 21)), (1, .inl h)] [] M2 := by
  intro n
  induction n with
  | zero => intro h M2 hn; exact absurd hn (Nat.not_lt_zero _)
  | succ n ih =>
    intro h M2 hn hI
    have hG2 : zG M2 := hI.2.2.1.G hG
    have hR2 : zRg M2 := hI.2.2.1.R hR
    have hT2 : zTx M2 q := hI.2.2.1.T hT
    have hh := hI.2.2.2.2.1 h hI.1
    have hbh := bH h hI.1
    have hf := hR2.2.2.1
    have hsb := zsid_b h
    have e1 : 0 ≤ M2 1 12 * (6 - zsid h) := Int.mul_nonneg hf.1 (by omega)
    have e2 : M2 1 12 * (6 - zsid h) ≤ 9 * (6 - zsid h) := Int.mul_le_mul_of_nonneg_right hf.2 (by omega)
    have ef : M2 1 = s 1 := hI.2.2.1 1 (by decide) (by decide) (by decide) (by decide) (by decide)
    refine z_iload_n 1 (zdec DX8_pass 2 rfl) rfl rfl ?_
    refine z_bipush 16 (zdec DX8_pass 3 rfl) (by decide) ?_
    refine z_icmp_ge 47 (zdec DX8_pass 4 rfl) rfl (fun h5 => ?_) (fun h5 => ?_)
    ·
      refine z_weak (L' := [(0, .inr (.inr 21))]) (by simp) ?_
      exact hx47 M2 ⟨hI.2.2.1, hI.2.2.2.1, hI.2.2.2.2.1, fun k h0 h1 => hI.2.2.2.2.2 k h0 (by omega)⟩
    ·
      refine z_aload_n 0 (zdec DX8_pass 5 rfl) rfl rfl (by decide) ?_
      refine z_getr (rw1 := -31) (ki := 5) (r' := 25) 21 8 (zdec DX8_pass 6 rfl) rfl rfl shp21 rfl (by decide) rfl rfl fl_SixWalls_Winter_21 (zPa (hI.2.2.1.P hP) 28 rfl) ?_
      refine z_iload_n 1 (zdec DX8_pass 7 rfl) rfl rfl ?_
      refine z_aload_n 0 (zdec DX8_pass 8 rfl) rfl rfl (by decide) ?_
      refine z_getr (rw1 := -31) (ki := 3) (r' := 23) 21 8 (zdec DX8_pass 9 rfl) rfl rfl shp21 rfl (by decide) rfl rfl fl_SixWalls_Winter_15 (zPa (hI.2.2.1.P hP) 26 rfl) ?_
      refine z_iload_n 1 (zdec DX8_pass 10 rfl) rfl rfl ?_
      refine z_iald 23 (zdec DX8_pass 11 rfl) rfl shp23 ⟨by omega, by omega⟩ ?_
      refine z_aload_n 0 (zdec DX8_pass 12 rfl) rfl rfl (by decide) ?_
      refine z_getr (rw1 := -31) (ki := 0) (r' := 1) 21 8 (zdec DX8_pass 13 rfl) rfl rfl shp21 rfl (by decide) rfl rfl fl_SixWalls_Winter_31 (zPa (hI.2.2.1.P hP) 23 rfl) ?_
      refine z_geti (ki := 12) 1 1 (zdec DX8_pass 14 rfl) rfl shp1 rfl (by decide) rfl rfl fl_SixWalls_Winter_88 ?_
      refine z_bipush 6 (zdec DX8_pass 15 rfl) (by decide) ?_
      refine z_aload_n 0 (zdec DX8_pass 16 rfl) rfl rfl (by decide) ?_
      refine z_getr (rw1 := -31) (ki := 0) (r' := 1) 21 8 (zdec DX8_pass 17 rfl) rfl rfl shp21 rfl (by decide) rfl rfl fl_SixWalls_Winter_31 (zPa (hI.2.2.1.P hP) 23 rfl) ?_
      refine z_getr (rw1 := -11) (ki := 2) (r' := 4) 1 1 (zdec DX8_pass 18 rfl) rfl rfl shp1 rfl (by decide) rfl rfl fl_SixWalls_Winter_91 (zPa (hI.2.2.1.P hP) 11 rfl) ?_
      refine z_iload_n 1 (zdec DX8_pass 19 rfl) rfl rfl ?_
      refine z_iald 4 (zdec DX8_pass 20 rfl) rfl shp4 ⟨by omega, by omega⟩ ?_
      rw [hG2.sid (by omega) (by omega)]
      refine z_isub (zdec DX8_pass 21 rfl) (by unfold z32; omega) ?_
      refine z_imul (zdec DX8_pass 22 rfl) (by unfold z32; omega) ?_
      refine z_isub (zdec DX8_pass 23 rfl) (by unfold z32; omega) ?_
      refine z_iast 25 (zdec DX8_pass 24 rfl) rfl shp25 ⟨by omega, by omega⟩ ?_
      refine z_iinc (L' := [(0, .inr (.inr 21)), (1, .inl (h + 1))]) 1 (zdec DX8_pass 25 rfl) rfl (by unfold z32; omega) rfl (by decide) ?_
      refine z_goto 2 (zdec DX8_pass 26 rfl) rfl ?_
      exact ih (h + 1) (zup M2 25 h ((M2 23 h) - ((M2 1 12) * (6 - (zsid h))))) (by omega) ⟨by omega, by omega, hI.2.2.1.up (by omega), hI.2.2.2.1, hI.2.2.2.2.1, fun k h0 h1 => (by by_cases hk : k = h; (subst hk; rw [zup_self]; unfold zgn0; rw [← ef, ← hh (by omega)]); (rw [zup_ne hk]; exact hI.2.2.2.2.2 k h0 (by omega)))⟩
set_option maxHeartbeats 4000000 in
theorem cX8_pass {s : zMm} (hP : zP s) {q : Int} (hG : zG s) (hR : zRg s) (hT : zTx s q) (H T : Int → Int) (bT : zbW T) (bH : zbH H) {M : zMm} (hM : zoW s M) (h22 : zH (M 22) T) (h23 : zH (M 23) H) : zW mX8_pass 6 (fun rv S' M' => S' = zS0 ∧ zoW s M' ∧ zH (M' 22) (zday s q H T) ∧ zH (M' 23) H ∧ (∀ w : Int, 0 ≤ w → w < 33 → M' 24 w = zflow s q T w) ∧ ((rv = some (.inl 1) ∧ zchg T (zday s q H T) 16) ∨ (rv = some (.inl 0) ∧ ¬ zchg T (zday s q H T) 16))) (0, 0) zS0 0 (zargs 0 [.inr (.inr 21)]) [] M := by
  change zW _ _ _ _ _ 0 [(0, .inr (.inr 21))] [] M
  refine z_iconst 0 (zdec DX8_pass 0 rfl) (by decide) ?_
  refine z_istore_n (L' := [(0, .inr (.inr 21)), (1, .inl 0)]) (zdec DX8_pass 1 rfl) rfl rfl (by decide) ?_
  refine lp_X8_pass_2 hP hG hR hT H T bT bH (hx47 := fun M2 hx => ?_) _ 0 M (Nat.lt_succ_self _) ⟨by omega, by omega, hM, h22, h23, fun k h0 h1 => by omega⟩
  refine z_iconst 0 (zdec DX8_pass 27 rfl) (by decide) ?_
  refine z_istore_n (L' := [(0, .inr (.inr 21)), (1, .inl 0)]) (zdec DX8_pass 28 rfl) rfl rfl (by decide) ?_
  refine lp_X8_pass_49 hP hG hR hT H T bT bH (hx122 := fun M2 hy => ?_) _ 0 M2 (Nat.lt_succ_self _) ⟨by omega, by omega, hx.1, hx.2.1, hx.2.2.1, hx.2.2.2, fun k h0 h1 => by omega⟩
  refine z_iconst 0 (zdec DX8_pass 73 rfl) (by decide) ?_
  refine z_istore_n (L' := [(0, .inr (.inr 21)), (1, .inl 0)]) (zdec DX8_pass 74 rfl) rfl rfl (by decide) ?_
  refine z_iconst 0 (zdec DX8_pass 75 rfl) (by decide) ?_
  refine z_istore_n (L' := [(0, .inr (.inr 21)), (1, .inl 0), (2, .inl 0)]) (zdec DX8_pass 76 rfl) rfl rfl (by decide) ?_
  refine lp_X8_pass_126 hP hG hR hT H T bT bH (hx180 := fun ch M2 hz => ?_) _ 0 0 M2 (Nat.lt_succ_self _) ⟨by omega, by omega, hy.1, (fun k h0 h1 => by rw [if_neg (by omega)]; exact hy.2.1 k h0 h1), hy.2.2.1, hy.2.2.2.1, hy.2.2.2.2, Or.inr ⟨rfl, fun ⟨k, h0, h1, _⟩ => by omega⟩⟩
  refine z_iload_n 0 (zdec DX8_pass 109 rfl) rfl rfl ?_
  exact z_zret (zdec DX8_pass 110 rfl) rfl (by omega) (⟨rfl, hz.1, hz.2.1, hz.2.2.1, hz.2.2.2.1, (by rcases hz.2.2.2.2 with ⟨a, b⟩ | ⟨a, b⟩; (exact Or.inl ⟨by rw [a], b⟩); (exact Or.inr ⟨by rw [a], b⟩))⟩)
