/-! the reference: the fewest doors -/
/-- the lived in get out -/
def zdo (M : zMm) (x : Int) : Prop := ∀ h : Int, 0 ≤ h → h < 16 → M 64 h = 1 → zOut (zopD M x) h
/-- the sets of n more of the walls below last -/
def zCd (M : zMm) : Nat → Int → Int → Int → Prop
  | 0, _, set, x => x = set ∧ zdo M set
  | n + 1, last, set, x => ∃ w : Int, 0 ≤ w ∧ w < last ∧ M 57 (65 + w) = 0 ∧ zCd M n w (zlor set (zlshl 1 w)) x
def zBst (C : Int → Prop) (b b' : Int) : Prop := (b' = b ∨ C b') ∧ (0 ≤ b → 0 ≤ b' ∧ b' ≤ b) ∧ (∀ x : Int, C x → 0 ≤ b' ∧ b' ≤ x) ∧ (-1 ≤ b → -1 ≤ b')
theorem zBst.no {C : Int → Prop} {b : Int} (h : ∀ x, ¬ C x) : zBst C b b := ⟨Or.inl rfl, fun h => ⟨h, Int.le_refl _⟩, fun x q => absurd q (h x), fun q => q⟩
theorem zBst.tr {C D E : Int → Prop} {b b1 b2 : Int} (h : zBst C b b1) (h2 : zBst D b1 b2) (e : ∀ x, E x ↔ C x ∨ D x) : zBst E b b2 := by
  obtain ⟨a1, a2, a3, a4⟩ := h
  obtain ⟨c1, c2, c3, c4⟩ := h2
  refine ⟨?_, fun q => ?_, fun x q => ?_, fun q => c4 (a4 q)⟩
  · rcases c1 with rfl | c1
    · rcases a1 with a1 | a1
      · exact Or.inl a1
      · exact Or.inr ((e _).mpr (Or.inl a1))
    · exact Or.inr ((e _).mpr (Or.inr c1))
  · have := a2 q
    have := c2 this.1
    omega
  · rcases (e x).mp q with q | q
    · have := a3 x q
      have := c2 this.1
      omega
    · exact c3 x q
theorem zBst.c {C D : Int → Prop} {b b1 : Int} (h : zBst C b b1) (e : ∀ x, D x ↔ C x) : zBst D b b1 := ⟨h.1.elim Or.inl fun q => Or.inr ((e _).mpr q), h.2.1, fun x q => h.2.2.1 x ((e x).mp q), h.2.2.2⟩
def zoO (M M2 : zMm) : Prop := zonly 56 M M2 ∧ ∀ j : Int, j ≠ 29 → M2 56 j = M 56 j
theorem zoO.rf {M : zMm} : zoO M M := ⟨zonly.rf, fun _ _ => rfl⟩
theorem zoO.tr {M M1 M2 : zMm} (h : zoO M M1) (h2 : zoO M1 M2) : zoO M M2 := ⟨h.1.tr h2.1, fun j q => (h2.2 j q).trans (h.2 j q)⟩
theorem zoO.up {M M2 : zMm} {v : Int} (h : zoO M M2) : zoO M (zup M2 56 29 v) := ⟨h.1.up, fun j q => (zup_ne q).trans (h.2 j q)⟩
theorem zoO.P {M M2 : zMm} (h : zoO M M2) (hP : zP M) : zP M2 := h.1.P (by decide) hP
theorem zoO.g {M M2 : zMm} (h : zoO M M2) (hg : zGr M) : zGr M2 := hg.of (h.1 61 (by decide)) (h.1 62 (by decide))
theorem zoO.R {M M2 : zMm} (h : zoO M M2) (hR : zRr M) : zRr M2 := hR.of (h.1 57 (by decide)) (h.1 63 (by decide)) (h.1 64 (by decide))
theorem zopD_of {M M2 : zMm} (e : M2 57 = M 57) : zopD M2 = zopD M := by
  funext x w
  unfold zopD
  rw [e]
theorem zdo_of {M M2 : zMm} (e : M2 57 = M 57) (e2 : M2 64 = M 64) : zdo M2 = zdo M := by
  funext x
  unfold zdo
  rw [zopD_of e, e2]
theorem zCd_of {M M2 : zMm} (e : M2 57 = M 57) (e2 : M2 64 = M 64) : ∀ (n : Nat) (last set x : Int), zCd M2 n last set x ↔ zCd M n last set x := by
  intro n
  induction n with
  | zero => intro last set x; unfold zCd; rw [zdo_of e e2]
  | succ n ih =>
    intro last set x
    unfold zCd
    rw [e]
    simp only [ih]
/-- a longer set -/
theorem zlor_b {x w : Int} (hx : 0 ≤ x ∧ x < 8589934592) (hw : 0 ≤ w ∧ w < 33) : 0 ≤ zlor x (zlshl 1 w) ∧ zlor x (zlshl 1 w) < 8589934592 := by
  have e1 := zlshl_pw ⟨w.toNat, by omega⟩
  rw [show ((w.toNat : Nat) : Int) = w by omega] at e1
  have hp : (2 : Nat) ^ w.toNat ≤ 2 ^ 32 := Nat.pow_le_pow_right (by decide) (by omega)
  have hpi : (((2 : Nat) ^ w.toNat : Nat) : Int) = 2 ^ w.toNat := by simp
  have e2 := zlor_n (a := x.toNat) (b := 2 ^ w.toNat) (by omega) (by omega)
  rw [show ((x.toNat : Nat) : Int) = x by omega, hpi, ← e1] at e2
  have h1 : x.toNat ||| 2 ^ w.toNat < 2 ^ 33 := Nat.or_lt_two_pow (by omega) (by omega)
  rw [e2]
  omega
theorem zbl_lor {x w : Int} (hx : 0 ≤ x ∧ x < 8589934592) (hw : 0 ≤ w ∧ w < 33) (i : Nat) : zbl (zlor x (zlshl 1 w)) i = (zbl x i || decide (w = (i : Int))) := by
  have e1 := zlshl_pw ⟨w.toNat, by omega⟩
  rw [show ((w.toNat : Nat) : Int) = w by omega] at e1
  have hp : (2 : Nat) ^ w.toNat ≤ 2 ^ 32 := Nat.pow_le_pow_right (by decide) (by omega)
  have hpi : (((2 : Nat) ^ w.toNat : Nat) : Int) = 2 ^ w.toNat := by simp
  have e2 := zlor_n (a := x.toNat) (b := 2 ^ w.toNat) (by omega) (by omega)
  rw [show ((x.toNat : Nat) : Int) = x by omega, hpi, ← e1] at e2
  have h1 : x.toNat ||| 2 ^ w.toNat < 2 ^ 33 := Nat.or_lt_two_pow (by omega) (by omega)
  rw [e2, zbl_nat i (by omega), zbl_tn i (by omega), Nat.testBit_or, Nat.testBit_two_pow]
  congr 1
  by_cases q : w.toNat = i
  · rw [decide_eq_true q, decide_eq_true (by omega)]
  · rw [decide_eq_false q, decide_eq_false (by omega)]
theorem zCd_b {M : zMm} : ∀ (n : Nat) (last set x : Int), last ≤ 33 → (0 ≤ set ∧ set < 8589934592) → zCd M n last set x → 0 ≤ x ∧ x < 8589934592 := by
  intro n
  induction n with
  | zero => intro last set x _ hs h; rw [h.1]; exact hs
  | succ n ih =>
    intro last set x hl hs h
    obtain ⟨w, h0, h1, _, h3⟩ := h
    exact ih w _ x (by omega) (zlor_b hs ⟨h0, by omega⟩) h3
/-- with all walls open all get out -/
theorem zedge : ∀ h : Fin 16, zsid (h.val : Int) < 6 ∨ ∃ w : Fin 33, (zlow (w.val : Int) = (h.val : Int) ∧ zsid (zhigh (w.val : Int)) < 6) ∨ (zhigh (w.val : Int) = (h.val : Int) ∧ zsid (zlow (w.val : Int)) < 6) := by decide +kernel
theorem zout_all {D : Int → Prop} (hD : ∀ w : Int, 0 ≤ w → w < 33 → D w) {h : Int} (h0 : 0 ≤ h) (h1 : h < 16) : zOut D h := by
  intro P p1 p2
  have e := zedge ⟨h.toNat, by omega⟩
  simp only [show ((h.toNat : Nat) : Int) = h by omega] at e
  rcases e with e | ⟨w, ⟨e1, e2⟩ | ⟨e1, e2⟩⟩
  · exact p1 h h0 h1 e
  · have := p2 w.val (by omega) (by omega) (hD _ (by omega) (by omega))
    rw [e1] at this
    exact this.mpr (p1 _ (zhigh_b _).1 (zhigh_b _).2 e2)
  · have := p2 w.val (by omega) (by omega) (hD _ (by omega) (by omega))
    rw [e1] at this
    exact this.mp (p1 _ (zlow_b _).1 (zlow_b _).2 e2)
theorem zCd_ex {M : zMm} (hR : zRr M) : ∀ (m : Nat) (set : Int), m ≤ 33 → (0 ≤ set ∧ set < 8589934592) → (∀ w : Int, (m : Int) ≤ w → w < 33 → zopD M set w) → ∃ n : Nat, n ≤ m ∧ ∃ x, ∀ last : Int, (m : Int) ≤ last → zCd M n last set x := by
  intro m
  induction m with
  | zero =>
    intro set _ hs h
    exact ⟨0, Nat.le_refl _, set, fun _ _ => ⟨rfl, fun k h0 h1 _ => zout_all (fun w a b => h w (by omega) b) h0 h1⟩⟩
  | succ m ih =>
    intro set hm hs h
    have hb := (hR.2.1 (m : Int) (by omega) (by omega)).2.1
    by_cases hd : M 57 (65 + (m : Int)) = 0
    · have b := zlor_b hs (w := (m : Int)) ⟨by omega, by omega⟩
      obtain ⟨n, hn, x, hx⟩ := ih (zlor set (zlshl 1 (m : Int))) (by omega) b (fun w a c => by
        by_cases e : w = m
        · subst e
          right
          rw [zbl_lor hs ⟨by omega, by omega⟩]
          simp
        · rcases h w (by omega) c with q | q
          · exact Or.inl q
          · right
            rw [zbl_lor hs ⟨by omega, by omega⟩, q]
            rfl)
      exact ⟨n + 1, by omega, x, fun last hl => ⟨m, by omega, by omega, hd, hx m (Int.le_refl _)⟩⟩
    · obtain ⟨n, hn, x, hx⟩ := ih set (by omega) hs (fun w a c => by
        by_cases e : w = m
        · subst e; exact Or.inl (by omega)
        · exact h w (by omega) c)
      exact ⟨n, by omega, x, fun last hl => hx last (by omega)⟩
theorem zCd_all {M : zMm} (hR : zRr M) : ∃ n : Nat, n ≤ 33 ∧ ∃ x, zCd M n 33 0 x := by
  obtain ⟨n, hn, x, hx⟩ := zCd_ex hR 33 0 (Nat.le_refl _) (by decide) (fun w a b => by omega)
  exact ⟨n, hn, x, hx 33 (Int.le_refl _)⟩
set_option maxHeartbeats 4000000 in
theorem cX10_opens0 {M : zMm} (hP : zP M) (hg : zGr M) (hR : zRr M) (last x : Int) (hl : 0 ≤ last ∧ last ≤ 33) (hx : 0 ≤ x ∧ x < 8589934592) : zW mX10_opens 3 (fun rv S' M' => S' = zS0 ∧ rv = none ∧ zoO M M' ∧ zBst (fun y => zCd M 0 last x y) (M 56 29) (M' 56 29)) (0, 0) zS0 0 (zargs 0 [.inr (.inr 56), .inl last, .inl 0, .inr (.inl x)]) [] M := by
  change zW _ _ _ _ _ 0 [(0, .inr (.inr 56)), (1, .inl last), (2, .inl 0), (3, .inr (.inl x))] [] M
  refine z_iload_n 2 (zdec DX10_opens 0 rfl) rfl rfl ?_
  refine z_if_ne 62 (zdec DX10_opens 1 rfl) rfl (fun h => absurd h (by decide)) (fun _ => ?_)
  refine z_aload_n 0 (zdec DX10_opens 2 rfl) rfl rfl (by decide) ?_
  refine z_inv mX10_livedIn 56 10 [] (zdec DX10_opens 3 rfl) ml_SixWallsModel_270 okX10_livedIn rfl shp56 rfl rfl rfl rfl (Nat.le_of_ble_eq_true rfl) (Nat.le_of_ble_eq_true rfl) (b' := (0, 0)) ⟨Nat.le_refl 0, Nat.le_refl 0⟩ (Nat.le_of_ble_eq_true rfl) (cX10_livedIn hP hg hR) (fun rv9 S9 M5 h9 => ?_)
  obtain ⟨rfl, rfl, r1, rfl, k1⟩ := h9
  change zW _ _ _ _ _ 8 [(0, .inr (.inr 56)), (1, .inl last), (2, .inl 0), (3, .inr (.inl x))] [.inl r1] M
  refine z_aload_n 0 (zdec DX10_opens 4 rfl) rfl rfl (by decide) ?_
  refine z_lload_n 3 (zdec DX10_opens 5 rfl) rfl rfl ?_
  refine z_inv mX10_outWith 56 10 [.inr (.inl x)] (zdec DX10_opens 6 rfl) ml_SixWallsModel_273 okX10_outWith rfl shp56 rfl rfl rfl rfl (Nat.le_of_ble_eq_true rfl) (Nat.le_of_ble_eq_true rfl) (b' := (0, 0)) ⟨Nat.le_refl 0, Nat.le_refl 0⟩ (Nat.le_of_ble_eq_true rfl) (cX10_outWith hP hg hR x) (fun rv9 S9 M10 h9 => ?_)
  obtain ⟨rfl, rfl, r2, rfl, k2⟩ := h9
  change zW _ _ _ _ _ 13 [(0, .inr (.inr 56)), (1, .inl last), (2, .inl 0), (3, .inr (.inl x))] [.inl r2, .inl r1] M
  refine z_iconst (-1) (zdec DX10_opens 7 rfl) (by decide) ?_
  refine z_ixor (zdec DX10_opens 8 rfl) ?_
  refine z_iand (zdec DX10_opens 9 rfl) ?_
  have k3 := zst_z (zst_andn k1 k2)
  refine z_if_ne 23 (zdec DX10_opens 10 rfl) rfl (fun h16 => ?_) (fun h16 => ?_)
  ·
    have q16 : ¬ zdo M x := fun q => h16 (k3.mpr fun i a b c => c.2 (q i a b c.1))
    refine z_iconst 0 (zdec DX10_opens 13 rfl) (by decide) ?_
    refine z_istore (L' := [(0, .inr (.inr 56)), (1, .inl last), (2, .inl 0), (3, .inr (.inl x)), (5, .inl 0)]) (zdec DX10_opens 14 rfl) rfl (by decide) ?_
    refine z_aload_n 0 (zdec DX10_opens 15 rfl) rfl rfl (by decide) ?_
    refine z_iload 4 (zdec DX10_opens 16 rfl) rfl ?_
    refine z_if_eq 54 (zdec DX10_opens 17 rfl) rfl (fun _ => ?_) (fun h => absurd h (by decide))
    refine z_aload_n 0 (zdec DX10_opens 30 rfl) rfl rfl (by decide) ?_
    refine z_getl (ki := 29) 56 10 (zdec DX10_opens 31 rfl) rfl shp56 rfl (by decide) rfl rfl fl_SixWallsModel_280 ?_
    refine z_putl (ki := 29) 56 10 (zdec DX10_opens 32 rfl) rfl shp56 rfl (by decide) rfl rfl fl_SixWallsModel_280 (Or.inl rfl) ?_
    exact z_vret (zdec DX10_opens 33 rfl) rfl (by refine ⟨rfl, rfl, zoO.rf.up, ?_⟩; rw [zup_self]; first | exact zBst.no (fun y q => q16 q.2) | exact ⟨Or.inl rfl, fun q => ⟨q, Int.le_refl _⟩, (fun y q => by rw [q.1]; omega), fun q => q⟩ | exact ⟨Or.inr ⟨rfl, q16⟩, (fun q => by omega), (fun y q => by rw [q.1]; omega), (fun q => by omega)⟩)
  ·
    have q16 : zdo M x := fun i a b c => Classical.byContradiction fun d => k3.mp (by omega) i a b ⟨c, d⟩
    refine z_iconst 1 (zdec DX10_opens 11 rfl) (by decide) ?_
    refine z_goto 24 (zdec DX10_opens 12 rfl) rfl ?_
    refine z_istore (L' := [(0, .inr (.inr 56)), (1, .inl last), (2, .inl 0), (3, .inr (.inl x)), (5, .inl 1)]) (zdec DX10_opens 14 rfl) rfl (by decide) ?_
    refine z_aload_n 0 (zdec DX10_opens 15 rfl) rfl rfl (by decide) ?_
    refine z_iload 4 (zdec DX10_opens 16 rfl) rfl ?_
    refine z_if_eq 54 (zdec DX10_opens 17 rfl) rfl (fun h => absurd h (by decide)) (fun _ => ?_)
    refine z_aload_n 0 (zdec DX10_opens 18 rfl) rfl rfl (by decide) ?_
    refine z_getl (ki := 29) 56 10 (zdec DX10_opens 19 rfl) rfl shp56 rfl (by decide) rfl rfl fl_SixWallsModel_280 ?_
    refine z_lconst 0 (zdec DX10_opens 20 rfl) rfl ?_
    refine z_lcmp (zdec DX10_opens 21 rfl) ?_
    refine z_if_lt 50 (zdec DX10_opens 22 rfl) rfl (fun h38 => ?_) (fun h38 => ?_)
    ·
      have q38 : M 56 29 < 0 := by unfold zcmp at h38; (repeat split at h38) <;> omega
      refine z_lload_n 3 (zdec DX10_opens 28 rfl) rfl rfl ?_
      refine z_goto 58 (zdec DX10_opens 29 rfl) rfl ?_
      refine z_putl (ki := 29) 56 10 (zdec DX10_opens 32 rfl) rfl shp56 rfl (by decide) rfl rfl fl_SixWallsModel_280 (Or.inl rfl) ?_
      exact z_vret (zdec DX10_opens 33 rfl) rfl (by refine ⟨rfl, rfl, zoO.rf.up, ?_⟩; rw [zup_self]; first | exact zBst.no (fun y q => q16 q.2) | exact ⟨Or.inl rfl, fun q => ⟨q, Int.le_refl _⟩, (fun y q => by rw [q.1]; omega), fun q => q⟩ | exact ⟨Or.inr ⟨rfl, q16⟩, (fun q => by omega), (fun y q => by rw [q.1]; omega), (fun q => by omega)⟩)
    ·
      have q38 : 0 ≤ M 56 29 := by unfold zcmp at h38; (repeat split at h38) <;> omega
      refine z_lload_n 3 (zdec DX10_opens 23 rfl) rfl rfl ?_
      refine z_aload_n 0 (zdec DX10_opens 24 rfl) rfl rfl (by decide) ?_
      refine z_getl (ki := 29) 56 10 (zdec DX10_opens 25 rfl) rfl shp56 rfl (by decide) rfl rfl fl_SixWallsModel_280 ?_
      refine z_lcmp (zdec DX10_opens 26 rfl) ?_
      refine z_if_ge 54 (zdec DX10_opens 27 rfl) rfl (fun h47 => ?_) (fun h47 => ?_)
      ·
        have q47 : M 56 29 ≤ x := by unfold zcmp at h47; (repeat split at h47) <;> omega
        refine z_aload_n 0 (zdec DX10_opens 30 rfl) rfl rfl (by decide) ?_
        refine z_getl (ki := 29) 56 10 (zdec DX10_opens 31 rfl) rfl shp56 rfl (by decide) rfl rfl fl_SixWallsModel_280 ?_
        refine z_putl (ki := 29) 56 10 (zdec DX10_opens 32 rfl) rfl shp56 rfl (by decide) rfl rfl fl_SixWallsModel_280 (Or.inl rfl) ?_
        exact z_vret (zdec DX10_opens 33 rfl) rfl (by refine ⟨rfl, rfl, zoO.rf.up, ?_⟩; rw [zup_self]; first | exact zBst.no (fun y q => q16 q.2) | exact ⟨Or.inl rfl, fun q => ⟨q, Int.le_refl _⟩, (fun y q => by rw [q.1]; omega), fun q => q⟩ | exact ⟨Or.inr ⟨rfl, q16⟩, (fun q => by omega), (fun y q => by rw [q.1]; omega), (fun q => by omega)⟩)
      ·
        have q47 : x < M 56 29 := by unfold zcmp at h47; (repeat split at h47) <;> omega
        refine z_lload_n 3 (zdec DX10_opens 28 rfl) rfl rfl ?_
        refine z_goto 58 (zdec DX10_opens 29 rfl) rfl ?_
        refine z_putl (ki := 29) 56 10 (zdec DX10_opens 32 rfl) rfl shp56 rfl (by decide) rfl rfl fl_SixWallsModel_280 (Or.inl rfl) ?_
        exact z_vret (zdec DX10_opens 33 rfl) rfl (by refine ⟨rfl, rfl, zoO.rf.up, ?_⟩; rw [zup_self]; first | exact zBst.no (fun y q => q16 q.2) | exact ⟨Or.inl rfl, fun q => ⟨q, Int.le_refl _⟩, (fun y q => by rw [q.1]; omega), fun q => q⟩ | exact ⟨Or.inr ⟨rfl, q16⟩, (fun q => by omega), (fun y q => by rw [q.1]; omega), (fun q => by omega)⟩)
set_option maxHeartbeats 4000000 in
theorem lp_X10_opens_65 {Q : zPost} (f : Nat) (hF : ∀ (M : zMm) (last x : Int), zP M → zGr M → zRr M → 0 ≤ last → last ≤ 33 → 0 ≤ x → x < 8589934592 → zW mX10_opens (f + 3) (fun rv S' M' => S' = zS0 ∧ rv = none ∧ zoO M M' ∧ zBst (fun y => zCd M f last x y) (M 56 29) (M' 56 29)) (0, 0) zS0 0 (zargs 0 [.inr (.inr 56), .inl last, .inl (f : Int), .inr (.inl x)]) [] M) (hf : f < 40) {M : zMm} (hP : zP M) (hg : zGr M) (hR : zRr M) (last x : Int) (hl : 0 ≤ last ∧ last ≤ 33) (hx : 0 ≤ x ∧ x < 8589934592) (hx105 : ∀ (M2 : zMm), (zoO M M2 ∧ zBst (fun y => zCd M (f + 1) last x y) (M 56 29) (M2 56 29)) → zW mX10_opens (f + 4) Q (0, 0) zS0 105 [] [] M2) : ∀ (n : Nat) (w : Int) (M2 : zMm), (last - w).toNat < n → (0 ≤ w ∧ w ≤ last ∧ zoO M M2 ∧ zBst (fun y => ∃ v : Int, 0 ≤ v ∧ v < w ∧ M 57 (65 + v) = 0 ∧ zCd M f v (zlor x (zlshl 1 v)) y) (M 56 29) (M2 56 29)) → zW mX10_opens (f + 4) Q (0, 0) zS0 65 [(0, .inr (.inr 56)), (1, .inl last), (2, .inl ((f : Int) + 1)), (3, .inr (.inl x)), (5, .inl w)] [] M2 := by
  intro n
  induction n with
  | zero => intro w M2 hn; exact absurd hn (Nat.not_lt_zero _)
  | succ n ih =>
    intro w M2 hn hI
    have r57 : M2 57 = M 57 := hI.2.2.1.1 57 (by decide)
    have r64 : M2 64 = M 64 := hI.2.2.1.1 64 (by decide)
    refine z_iload 4 (zdec DX10_opens 36 rfl) rfl ?_
    refine z_iload_n 1 (zdec DX10_opens 37 rfl) rfl rfl ?_
    refine z_icmp_ge 105 (zdec DX10_opens 38 rfl) rfl (fun h68 => ?_) (fun h68 => ?_)
    ·
      refine z_weak (L' := []) (by simp) ?_
      exact hx105 M2 ⟨hI.2.2.1, (by have e : w = last := (by omega); subst e; exact hI.2.2.2)⟩
    ·
      refine z_aload_n 0 (zdec DX10_opens 39 rfl) rfl rfl (by decide) ?_
      refine z_getr (rw1 := -66) (ki := 0) (r' := 57) 56 10 (zdec DX10_opens 40 rfl) rfl rfl shp56 rfl (by decide) rfl rfl fl_SixWallsModel_9 (zPa (hI.2.2.1.P hP) 57 rfl) ?_
      refine z_bipush 65 (zdec DX10_opens 41 rfl) (by decide) ?_
      refine z_iload 4 (zdec DX10_opens 42 rfl) rfl ?_
      refine z_iadd (zdec DX10_opens 43 rfl) (by unfold z32; omega) ?_
      refine z_iald 57 (zdec DX10_opens 44 rfl) rfl shp57 ⟨by omega, by omega⟩ ?_
      refine z_if_ne 99 (zdec DX10_opens 45 rfl) rfl (fun h81 => ?_) (fun h81 => ?_)
      ·
        refine z_iinc (L' := [(0, .inr (.inr 56)), (1, .inl last), (2, .inl ((f : Int) + 1)), (3, .inr (.inl x)), (5, .inl (w + 1))]) 4 (zdec DX10_opens 57 rfl) rfl (by unfold z32; omega) rfl (by decide) ?_
        refine z_goto 65 (zdec DX10_opens 58 rfl) rfl ?_
        exact ih (w + 1) M2 (by omega) ⟨by omega, by omega, hI.2.2.1, hI.2.2.2.c (fun y => ⟨fun ⟨v, a, b, c, d⟩ => ⟨v, a, (by by_cases e : v = w; (subst e; rw [r57] at h81; exact absurd c h81); omega), c, d⟩, fun ⟨v, a, b, c, d⟩ => ⟨v, a, by omega, c, d⟩⟩)⟩
      ·
        refine z_aload_n 0 (zdec DX10_opens 46 rfl) rfl rfl (by decide) ?_
        refine z_iload 4 (zdec DX10_opens 47 rfl) rfl ?_
        refine z_iload_n 2 (zdec DX10_opens 48 rfl) rfl rfl ?_
        refine z_iconst 1 (zdec DX10_opens 49 rfl) (by decide) ?_
        refine z_isub (zdec DX10_opens 50 rfl) (by unfold z32; omega) ?_
        rw [show ((f : Int) + 1) - 1 = (f : Int) by omega]
        refine z_lload_n 3 (zdec DX10_opens 51 rfl) rfl rfl ?_
        refine z_lconst 1 (zdec DX10_opens 52 rfl) rfl ?_
        refine z_iload 4 (zdec DX10_opens 53 rfl) rfl ?_
        refine z_lshl (zdec DX10_opens 54 rfl) ?_
        refine z_lor (zdec DX10_opens 55 rfl) ?_
        refine z_inv mX10_opens 56 10 [.inl w, .inl (f : Int), .inr (.inl (zlor x (zlshl 1 w)))] (zdec DX10_opens 56 rfl) ml_SixWallsModel_284 okX10_opens rfl shp56 rfl rfl rfl rfl (Nat.le_of_ble_eq_true rfl) (by omega) (b' := (0, 0)) ⟨Nat.le_refl 0, Nat.le_refl 0⟩ (Nat.le_of_ble_eq_true rfl) (hF _ _ _ (hI.2.2.1.P hP) (hI.2.2.1.g hg) (hI.2.2.1.R hR) hI.1 (by omega) (zlor_b hx ⟨hI.1, by omega⟩).1 (zlor_b hx ⟨hI.1, by omega⟩).2) (fun rv9 S9 M96 h9 => ?_)
        obtain ⟨rfl, rfl, x1, x2⟩ := h9
        change zW _ _ _ _ _ 99 [(0, .inr (.inr 56)), (1, .inl last), (2, .inl ((f : Int) + 1)), (3, .inr (.inl x)), (5, .inl w)] [] M96
        refine z_iinc (L' := [(0, .inr (.inr 56)), (1, .inl last), (2, .inl ((f : Int) + 1)), (3, .inr (.inl x)), (5, .inl (w + 1))]) 4 (zdec DX10_opens 57 rfl) rfl (by unfold z32; omega) rfl (by decide) ?_
        refine z_goto 65 (zdec DX10_opens 58 rfl) rfl ?_
        exact ih (w + 1) M96 (by omega) ⟨by omega, by omega, hI.2.2.1.tr x1, hI.2.2.2.tr (x2.c fun y => (zCd_of r57 r64 f w _ y).symm) (fun y => ⟨fun ⟨v, a, b, c, d⟩ => (by by_cases e : v = w; (subst e; exact Or.inr d); exact Or.inl ⟨v, a, by omega, c, d⟩), fun q => q.elim (fun ⟨v, a, b, c, d⟩ => ⟨v, a, by omega, c, d⟩) (fun d => ⟨w, hI.1, by omega, by rw [← r57]; omega, d⟩)⟩)⟩
set_option maxHeartbeats 4000000 in
theorem cX10_opensS (f : Nat) (hF : ∀ (M : zMm) (last x : Int), zP M → zGr M → zRr M → 0 ≤ last → last ≤ 33 → 0 ≤ x → x < 8589934592 → zW mX10_opens (f + 3) (fun rv S' M' => S' = zS0 ∧ rv = none ∧ zoO M M' ∧ zBst (fun y => zCd M f last x y) (M 56 29) (M' 56 29)) (0, 0) zS0 0 (zargs 0 [.inr (.inr 56), .inl last, .inl (f : Int), .inr (.inl x)]) [] M) (hf : f < 40) {M : zMm} (hP : zP M) (hg : zGr M) (hR : zRr M) (last x : Int) (hl : 0 ≤ last ∧ last ≤ 33) (hx : 0 ≤ x ∧ x < 8589934592) : zW mX10_opens (f + 4) (fun rv S' M' => S' = zS0 ∧ rv = none ∧ zoO M M' ∧ zBst (fun y => zCd M (f + 1) last x y) (M 56 29) (M' 56 29)) (0, 0) zS0 0 (zargs 0 [.inr (.inr 56), .inl last, .inl ((f : Int) + 1), .inr (.inl x)]) [] M := by
  change zW _ _ _ _ _ 0 [(0, .inr (.inr 56)), (1, .inl last), (2, .inl ((f : Int) + 1)), (3, .inr (.inl x))] [] M
  refine z_iload_n 2 (zdec DX10_opens 0 rfl) rfl rfl ?_
  refine z_if_ne 62 (zdec DX10_opens 1 rfl) rfl (fun h1 => ?_) (fun h => absurd (by omega) h)
  refine z_iconst 0 (zdec DX10_opens 34 rfl) (by decide) ?_
  refine z_istore (L' := [(0, .inr (.inr 56)), (1, .inl last), (2, .inl ((f : Int) + 1)), (3, .inr (.inl x)), (5, .inl 0)]) (zdec DX10_opens 35 rfl) rfl (by decide) ?_
  refine lp_X10_opens_65 f hF hf hP hg hR last x hl hx (hx105 := fun M2 hx2 => ?_) _ 0 M (Nat.lt_succ_self _) ⟨by omega, by omega, zoO.rf, zBst.no (fun y ⟨v, a, b, _⟩ => by omega)⟩
  exact z_vret (zdec DX10_opens 59 rfl) rfl (⟨rfl, rfl, hx2.1, hx2.2⟩)
theorem cX10_opens : ∀ (f : Nat), f ≤ 40 → ∀ (M : zMm) (last x : Int), zP M → zGr M → zRr M → 0 ≤ last → last ≤ 33 → 0 ≤ x → x < 8589934592 → zW mX10_opens (f + 3) (fun rv S' M' => S' = zS0 ∧ rv = none ∧ zoO M M' ∧ zBst (fun y => zCd M f last x y) (M 56 29) (M' 56 29)) (0, 0) zS0 0 (zargs 0 [.inr (.inr 56), .inl last, .inl (f : Int), .inr (.inl x)]) [] M := by
  intro f
  induction f with
  | zero => intro _ M last x hP hg hR h0 h1 h2 h3; exact cX10_opens0 hP hg hR last x ⟨h0, h1⟩ ⟨h2, h3⟩
  | succ f ih => intro hf M last x hP hg hR h0 h1 h2 h3; exact cX10_opensS f (ih (by omega)) (by omega) hP hg hR last x ⟨h0, h1⟩ ⟨h2, h3⟩
set_option maxHeartbeats 4000000 in
theorem lp_X10_opened_31 {Q : zPost} {M : zMm} (hP : zP M) (hg : zGr M) (hR : zRr M) (v : Int) (hx54 : ∀ (n2 : Int) (M2 : zMm), (0 ≤ M2 56 29 ∧ zoO M M2 ∧ (0 ≤ n2 ∧ n2 ≤ 33) ∧ (∀ j : Nat, (j : Int) < n2 → ∀ y, ¬ zCd M j 33 0 y) ∧ zCd M n2.toNat 33 0 (M2 56 29) ∧ (∀ y, zCd M n2.toNat 33 0 y → M2 56 29 ≤ y)) → zW mX10_opened 46 Q (0, 0) zS0 54 [(0, .inr (.inr 56)), (1, .inl v), (2, .inl n2)] [] M2) : ∀ (n : Nat) (n2 : Int) (M2 : zMm), (33 - n2).toNat < n → ((0 ≤ n2 ∧ n2 ≤ 33) ∧ zoO M M2 ∧ (∀ j : Nat, (j : Int) < n2 → ∀ y, ¬ zCd M j 33 0 y) ∧ zBst (fun y => zCd M n2.toNat 33 0 y) (-1) (M2 56 29)) → zW mX10_opened 46 Q (0, 0) zS0 31 [(0, .inr (.inr 56)), (1, .inl v), (2, .inl n2)] [] M2 := by
  intro n
  induction n with
  | zero => intro n2 M2 hn; exact absurd hn (Nat.not_lt_zero _)
  | succ n ih =>
    intro n2 M2 hn hI
    refine z_aload_n 0 (zdec DX10_opened 18 rfl) rfl rfl (by decide) ?_
    refine z_getl (ki := 29) 56 10 (zdec DX10_opened 19 rfl) rfl shp56 rfl (by decide) rfl rfl fl_SixWallsModel_280 ?_
    refine z_lconst 0 (zdec DX10_opened 20 rfl) rfl ?_
    refine z_lcmp (zdec DX10_opened 21 rfl) ?_
    refine z_if_ge 54 (zdec DX10_opened 22 rfl) rfl (fun h37 => ?_) (fun h37 => ?_)
    ·
      have q37 : 0 ≤ M2 56 29 := by unfold zcmp at h37; (repeat split at h37) <;> omega
      exact hx54 n2 M2 ⟨q37, hI.2.1, hI.1, hI.2.2.1, hI.2.2.2.1.resolve_left (by omega), fun y q => (hI.2.2.2.2.2.1 y q).2⟩
    ·
      have q37 : M2 56 29 < 0 := by unfold zcmp at h37; (repeat split at h37) <;> omega
      have hlt : n2 < 33 := by
        obtain ⟨m, hm, y, hy⟩ := zCd_all hR
        by_cases e : (m : Int) < n2
        · exact absurd hy (hI.2.2.1 m e y)
        · by_cases e2 : (m : Int) = n2
          · have := hI.2.2.2.2.2.1 y (by show zCd M n2.toNat 33 0 y; rw [show n2.toNat = m by omega]; exact hy)
            omega
          · omega
      refine z_iinc (L' := [(0, .inr (.inr 56)), (1, .inl v), (2, .inl (n2 + 1))]) 2 (zdec DX10_opened 23 rfl) rfl (by unfold z32; omega) rfl (by decide) ?_
      refine z_aload_n 0 (zdec DX10_opened 24 rfl) rfl rfl (by decide) ?_
      refine z_bipush 33 (zdec DX10_opened 25 rfl) (by decide) ?_
      refine z_iload_n 2 (zdec DX10_opened 26 rfl) rfl rfl ?_
      refine z_lconst 0 (zdec DX10_opened 27 rfl) rfl ?_
      refine z_inv mX10_opens 56 10 [.inl 33, .inl (n2 + 1), .inr (.inl 0)] (zdec DX10_opened 28 rfl) ml_SixWallsModel_284 okX10_opens rfl shp56 rfl rfl rfl rfl (Nat.le_of_ble_eq_true rfl) (Nat.le_of_ble_eq_true rfl) (b' := (0, 0)) ⟨Nat.le_refl 0, Nat.le_refl 0⟩ (Nat.le_of_ble_eq_true rfl) (show zW mX10_opens 45 _ _ _ _ _ _ _ from by have q := z_deep (show (n2 + 1).toNat + 3 ≤ 45 by omega) (cX10_opens (n2 + 1).toNat (by omega) M2 33 0 (hI.2.1.P hP) (hI.2.1.g hg) (hI.2.1.R hR) (by decide) (by decide) (by decide) (by decide)); rw [show (((n2 + 1).toNat : Nat) : Int) = n2 + 1 by omega] at q; exact q) (fun rv9 S9 M48 h9 => ?_)
      obtain ⟨rfl, rfl, x1, x2⟩ := h9
      skip
      change zW _ _ _ _ _ 51 [(0, .inr (.inr 56)), (1, .inl v), (2, .inl (n2 + 1))] [] M48
      refine z_goto 31 (zdec DX10_opened 29 rfl) rfl ?_
      exact ih (n2 + 1) M48 (by omega) ⟨⟨by omega, by omega⟩, hI.2.1.tr x1, (fun j a y => by by_cases e : (j : Int) < n2; (exact hI.2.2.1 j e y); (intro q; have e2 : j = n2.toNat := (by omega); subst e2; have := (hI.2.2.2.2.2.1 y q).1; omega)), (by have e : M2 56 29 = -1 := (by have := hI.2.2.2.2.2.2 (by decide); omega); rw [e] at x2; exact x2.c fun y => (zCd_of (hI.2.1.1 57 (by decide)) (hI.2.1.1 64 (by decide)) _ 33 0 y).symm)⟩
set_option maxHeartbeats 4000000 in
theorem cX10_opened {M : zMm} (hP : zP M) (hg : zGr M) (hR : zRr M) (v : Int) : zW mX10_opened 46 (fun rv S' M' => S' = zS0 ∧ zoO M M' ∧ ((¬ (0 ≤ v ∧ v ≤ 1) ∧ rv = some (.inr (.inl (-9223372036854775808)))) ∨ ((0 ≤ v ∧ v ≤ 1) ∧ ∃ (n : Nat) (b : Int), n ≤ 33 ∧ (∀ j : Nat, j < n → ∀ y, ¬ zCd M j 33 0 y) ∧ zCd M n 33 0 b ∧ (∀ y, zCd M n 33 0 y → b ≤ y) ∧ rv = some (.inr (.inl (if v = 0 then (n : Int) else b)))))) (0, 0) zS0 0 (zargs 0 [.inr (.inr 56), .inl v]) [] M := by
  change zW _ _ _ _ _ 0 [(0, .inr (.inr 56)), (1, .inl v)] [] M
  refine z_iload_n 1 (zdec DX10_opened 0 rfl) rfl rfl ?_
  refine z_i2l (zdec DX10_opened 1 rfl) ?_
  refine z_lconst 0 (zdec DX10_opened 2 rfl) rfl ?_
  refine z_lconst 1 (zdec DX10_opened 3 rfl) rfl ?_
  refine z_invs mX10_within [.inr (.inl v), .inr (.inl 0), .inr (.inl 1)] (zdec DX10_opened 4 rfl) (Or.inl ml_SixWallsModel_112) okX10_within rfl rfl (Nat.le_of_ble_eq_true rfl) (Nat.le_of_ble_eq_true rfl) (b' := (0, 0)) ⟨Nat.le_refl 0, Nat.le_refl 0⟩ (Nat.le_of_ble_eq_true rfl) (cX10_within v 0 1) (fun rv9 S9 M4 h9 => ?_)
  obtain ⟨rfl, rfl, rfl⟩ := h9
  change zW _ _ _ _ _ 7 [(0, .inr (.inr 56)), (1, .inl v)] [.inl (zb (0 ≤ v ∧ v ≤ 1))] M
  refine z_if_ne 14 (zdec DX10_opened 5 rfl) rfl (fun h7 => ?_) (fun h7 => ?_)
  ·
    have q7 := zb_ne0.mp h7
    refine z_aload_n 0 (zdec DX10_opened 8 rfl) rfl rfl (by decide) ?_
    refine z_ldc2 (-1) (zdec DX10_opened 9 rfl) kl_SixWallsModel_292 rfl ⟨by decide, by decide⟩ ?_
    refine z_putl (ki := 29) 56 10 (zdec DX10_opened 10 rfl) rfl shp56 rfl (by decide) rfl rfl fl_SixWallsModel_280 (Or.inl rfl) ?_
    refine z_iconst 0 (zdec DX10_opened 11 rfl) (by decide) ?_
    refine z_istore_n (L' := [(0, .inr (.inr 56)), (1, .inl v), (2, .inl 0)]) (zdec DX10_opened 12 rfl) rfl rfl (by decide) ?_
    refine z_aload_n 0 (zdec DX10_opened 13 rfl) rfl rfl (by decide) ?_
    refine z_bipush 33 (zdec DX10_opened 14 rfl) (by decide) ?_
    refine z_iload_n 2 (zdec DX10_opened 15 rfl) rfl rfl ?_
    refine z_lconst 0 (zdec DX10_opened 16 rfl) rfl ?_
    refine z_inv mX10_opens 56 10 [.inl 33, .inl 0, .inr (.inl 0)] (zdec DX10_opened 17 rfl) ml_SixWallsModel_284 okX10_opens rfl shp56 rfl rfl rfl rfl (Nat.le_of_ble_eq_true rfl) (Nat.le_of_ble_eq_true rfl) (b' := (0, 0)) ⟨Nat.le_refl 0, Nat.le_refl 0⟩ (Nat.le_of_ble_eq_true rfl) (show zW mX10_opens 45 _ _ _ _ _ _ _ from by have q := z_deep (show ((0 : Int)).toNat + 3 ≤ 45 by omega) (cX10_opens ((0 : Int)).toNat (by omega) (zup M 56 29 (-1)) 33 0 (zP_up hP (by decide)) (zoO.rf.up.g hg) (zoO.rf.up.R hR) (by decide) (by decide) (by decide) (by decide)); rw [show ((((0 : Int)).toNat : Nat) : Int) = (0 : Int) by omega] at q; exact q) (fun rv9 S9 M28 h9 => ?_)
    obtain ⟨rfl, rfl, x1, x2⟩ := h9
    have o1 := zoO.rf.up.tr x1
    change zW _ _ _ _ _ 31 [(0, .inr (.inr 56)), (1, .inl v), (2, .inl 0)] [] M28
    refine lp_X10_opened_31 hP hg hR v (hx54 := fun n2 M2 hx => ?_) _ 0 M28 (Nat.lt_succ_self _) ⟨⟨by omega, by omega⟩, o1, (fun j a => by omega), (by have e : zup M 56 29 (-1) 56 29 = -1 := zup_self _ _ _ _; rw [e] at x2; exact x2.c fun y => (zCd_of (zup_row (by decide)) (zup_row (by decide)) 0 33 0 y).symm)⟩
    refine z_iload_n 1 (zdec DX10_opened 30 rfl) rfl rfl ?_
    refine z_if_ne 63 (zdec DX10_opened 31 rfl) rfl (fun h55 => ?_) (fun h55 => ?_)
    ·
      refine z_aload_n 0 (zdec DX10_opened 35 rfl) rfl rfl (by decide) ?_
      refine z_getl (ki := 29) 56 10 (zdec DX10_opened 36 rfl) rfl shp56 rfl (by decide) rfl rfl fl_SixWallsModel_280 ?_
      exact z_lret (zdec DX10_opened 37 rfl) rfl (⟨rfl, hx.2.1, Or.inr ⟨q7, n2.toNat, M2 56 29, by omega, fun j a y => hx.2.2.2.1 j (by omega) y, hx.2.2.2.2.1, hx.2.2.2.2.2, (by first | (rw [if_pos (by omega), show ((n2.toNat : Nat) : Int) = n2 by omega]; done) | (rw [if_neg (by omega)]; done))⟩⟩)
    ·
      refine z_iload_n 2 (zdec DX10_opened 32 rfl) rfl rfl ?_
      refine z_i2l (zdec DX10_opened 33 rfl) ?_
      refine z_goto 67 (zdec DX10_opened 34 rfl) rfl ?_
      exact z_lret (zdec DX10_opened 37 rfl) rfl (⟨rfl, hx.2.1, Or.inr ⟨q7, n2.toNat, M2 56 29, by omega, fun j a y => hx.2.2.2.1 j (by omega) y, hx.2.2.2.2.1, hx.2.2.2.2.2, (by first | (rw [if_pos (by omega), show ((n2.toNat : Nat) : Int) = n2 by omega]; done) | (rw [if_neg (by omega)]; done))⟩⟩)
  ·
    have q7 : ¬ (0 ≤ v ∧ v ≤ 1) := fun e => h7 (zb_ne0.mpr e)
    refine z_ldc2 (-9223372036854775808) (zdec DX10_opened 6 rfl) kl_SixWallsModel_290 rfl ⟨by decide, by decide⟩ ?_
    exact z_lret (zdec DX10_opened 7 rfl) rfl (⟨rfl, zoO.rf, Or.inl ⟨q7, rfl⟩⟩)
