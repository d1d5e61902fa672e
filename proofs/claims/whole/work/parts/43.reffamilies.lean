/-! the reference: families -/
theorem zup57 {M : zMm} {p v k : Int} : zup M 57 p v 57 k = if k = p then v else M 57 k := by
  unfold zup
  by_cases h : k = p
  · rw [if_pos ⟨rfl, h⟩, if_pos h]
  · rw [if_neg (fun q => h q.2), if_neg h]
/-- what may stand at a place of 57 -/
def zmR (p v : Int) : Prop := (0 ≤ p → p < 65 → 0 ≤ v ∧ v ≤ 9) ∧ (65 ≤ p → p < 98 → 0 ≤ v ∧ v ≤ 1) ∧ (98 ≤ p → p < 131 → 0 ≤ v ∧ v ≤ 5) ∧ (p = 131 → 0 ≤ v ∧ v ≤ 9) ∧ (p = 132 → 6 ≤ v ∧ v ≤ 54)
theorem zRr.up {M : zMm} {p v : Int} (h : zRr M) (hv : zmR p v) : zRr (zup M 57 p v) := by
  obtain ⟨a, b, c, d⟩ := h
  unfold zmR at hv
  refine ⟨fun k h0 h1 => ?_, fun k h0 h1 => ?_, ?_, ?_⟩
  · have := a k h0 h1
    rw [zup_row (c' := 64) (by decide), zup_row (c' := 63) (by decide), zup57, zup57]
    refine ⟨this.1, ?_, this.2.2.1, ?_⟩ <;> split <;> omega
  · have := b k h0 h1
    rw [zup57, zup57, zup57]
    refine ⟨?_, ?_, ?_⟩ <;> split <;> omega
  · rw [zup57]; split <;> omega
  · rw [zup57]; split <;> omega
theorem zRr.up64 {M : zMm} {p v : Int} (h : zRr M) (hv : 0 ≤ v ∧ v ≤ 1) : zRr (zup M 64 p v) := by
  obtain ⟨a, b, c, d⟩ := h
  refine ⟨fun k h0 h1 => ?_, fun k h0 h1 => ?_, ?_, ?_⟩
  · have := a k h0 h1
    rw [zup_row (c' := 57) (by decide), zup_row (c' := 63) (by decide), zup_zpu]
    refine ⟨?_, this.2⟩
    unfold zpu
    split <;> omega
  · rw [zup_row (c' := 57) (by decide)]; exact b k h0 h1
  · rw [zup_row (c' := 57) (by decide)]; exact c
  · rw [zup_row (c' := 57) (by decide)]; exact d
theorem zst_sum {x : Int} {T : Int → Int} (h : zst x (fun i => T i = 1) 16) (hT : ∀ i : Int, 0 ≤ i → i < 16 → 0 ≤ T i ∧ T i ≤ 1) : zpn 62 x.toNat = zsum T 16 := by
  rw [zst_cnt h]
  refine zsum_c fun i h0 h1 => ?_
  have := hT i h0 h1
  split <;> omega
theorem zwo_b {a b : Int} (ha : 0 ≤ a ∧ a < 16) (hb : 0 ≤ b ∧ b < 16) : zwo a b < 33 := by rw [zwo_wbI ha hb]; exact zwb_lt a b
def zoF (M M2 : zMm) : Prop := ∀ c : Int, c ≠ 57 → c ≠ 64 → M2 c = M c
theorem zoF.rf {M : zMm} : zoF M M := fun _ _ _ => rfl
theorem zoF.tr {M M1 M2 : zMm} (h : zoF M M1) (h2 : zoF M1 M2) : zoF M M2 := fun c a b => (h2 c a b).trans (h c a b)
theorem zoF.up {M M2 : zMm} {r k v : Int} (h : zoF M M2) (hr : r = 57 ∨ r = 64) : zoF M (zup M2 r k v) := fun c a b => (zup_row (by omega)).trans (h c a b)
theorem zoF.P {M M2 : zMm} (h : zoF M M2) (hP : zP M) : zP M2 := zP_of hP fun r hr => h r (by omega) (by omega)
theorem zoF.g {M M2 : zMm} (h : zoF M M2) (hg : zGr M) : zGr M2 := hg.of (h 61 (by decide) (by decide)) (h 62 (by decide) (by decide))
/-- who takes; who is born; where the feud is; a year in a house -/
def zwt1 (M : zMm) (h best o : Int) : Int := if (M 64 o ≠ 0 ∧ 0 ≤ zwo h o) ∧ (best < 0 ∨ M 57 (16 + best) < M 57 (16 + o)) then o else best
def zwtR (M : zMm) (h : Int) : Int := zfo (zwt1 M h) (-2) 16
def zboR (M : zMm) (h : Int) : Int := zff (fun o => o) (fun o => M 64 o = 0 ∧ 0 ≤ zwo h o) 16
def zfeR (M : zMm) (h : Int) : Int := zff (fun w => w) (fun w => (zlow w = h ∨ zhigh w = h) ∧ M 57 (65 + w) = 1) 33
def zbirM (M : zMm) (h : Int) : zMm := if zboR M h < 0 then M else zup (zup M 64 (zboR M h) 1) 57 (16 + zboR M h) (M 57 (16 + h))
def zfeuM (M : zMm) (h : Int) : zMm := if zfeR M h < 0 then M else zup M 57 (65 + zfeR M h) 0
def zbefM (M : zMm) (h d : Int) : zMm := if d = 0 then zbirM M h else if d = 1 then zfeuM M h else if d = 2 then zup M 57 h (M 57 h + if M 57 h < 9 then 1 else 0) else if d = 3 then zup M 57 h (M 57 h - if 0 < M 57 h then 1 else 0) else M
def zyrM (st : zMm × Int) (h : Int) : zMm × Int := if st.1 64 h = 0 then st else (zbefM st.1 h (zw (Int.tmod (zushr (zdraw st.2) 8) 12)), zdraw st.2)
def zgrM (st : zMm × Int) (n : Int) : zMm × Int := zfo (fun st _ => zfo zyrM st 16) st n
theorem zff_b {p : Int → Prop} [DecidablePred p] : ∀ n : Nat, -1 ≤ zff (fun o => o) p n ∧ zff (fun o => o) p n < n ∧ (0 ≤ zff (fun o => o) p n → p (zff (fun o => o) p n)) := by
  intro n
  induction n with
  | zero => exact ⟨Int.le_refl _, (by decide : (-1 : Int) < 0), fun h => absurd h (by show ¬ (0 : Int) ≤ -1; decide)⟩
  | succ n ih =>
    have e : zff (fun o => o) p ((n + 1 : Nat) : Int) = if zff (fun o => o) p n = -1 ∧ p n then (n : Int) else zff (fun o => o) p n := rfl
    rw [e]
    split
    · rename_i h
      exact ⟨by omega, by omega, fun _ => h.2⟩
    · exact ⟨ih.1, by omega, ih.2.2⟩
theorem zbirM_o {M : zMm} (h : Int) : zoF M (zbirM M h) := by
  unfold zbirM
  split
  · exact zoF.rf
  · exact (zoF.rf.up (Or.inr rfl)).up (Or.inl rfl)
theorem zbirM_R {M : zMm} (hR : zRr M) {h : Int} (hh : 0 ≤ h ∧ h < 16) : zRr (zbirM M h) := by
  unfold zbirM
  have b := zff_b (p := fun o => M 64 o = 0 ∧ 0 ≤ zwo h o) 16
  have e : zboR M h = zff (fun o => o) (fun o => M 64 o = 0 ∧ 0 ≤ zwo h o) ((16 : Nat) : Int) := rfl
  rw [← e] at b
  have q := hR.1 h hh.1 hh.2
  split
  · exact hR
  · exact (hR.up64 (by omega)).up (by unfold zmR; omega)
theorem zfeuM_o {M : zMm} (h : Int) : zoF M (zfeuM M h) := by
  unfold zfeuM
  split
  · exact zoF.rf
  · exact zoF.rf.up (Or.inl rfl)
theorem zfeuM_R {M : zMm} (hR : zRr M) (h : Int) : zRr (zfeuM M h) := by
  unfold zfeuM
  have b := zff_b (p := fun w => (zlow w = h ∨ zhigh w = h) ∧ M 57 (65 + w) = 1) 33
  have e : zfeR M h = zff (fun o => o) (fun w => (zlow w = h ∨ zhigh w = h) ∧ M 57 (65 + w) = 1) ((33 : Nat) : Int) := rfl
  rw [← e] at b
  split
  · exact hR
  · exact hR.up (by unfold zmR; omega)
theorem zbefM_o {M : zMm} (h d : Int) : zoF M (zbefM M h d) := by
  unfold zbefM
  split
  · exact zbirM_o h
  · split
    · exact zfeuM_o h
    · split
      · exact zoF.rf.up (Or.inl rfl)
      · split
        · exact zoF.rf.up (Or.inl rfl)
        · exact zoF.rf
theorem zbefM_R {M : zMm} (hR : zRr M) {h : Int} (hh : 0 ≤ h ∧ h < 16) (d : Int) : zRr (zbefM M h d) := by
  have q := hR.1 h hh.1 hh.2
  unfold zbefM
  split
  · exact zbirM_R hR hh
  · split
    · exact zfeuM_R hR h
    · split
      · exact hR.up (by unfold zmR; split <;> omega)
      · split
        · exact hR.up (by unfold zmR; split <;> omega)
        · exact hR
theorem zyrM_o {st : zMm × Int} (h : Int) : zoF st.1 (zyrM st h).1 := by
  unfold zyrM
  split
  · exact zoF.rf
  · exact zbefM_o _ _
theorem zyrM_R {st : zMm × Int} (hR : zRr st.1) {h : Int} (hh : 0 ≤ h ∧ h < 16) : zRr (zyrM st h).1 := by
  unfold zyrM
  split
  · exact hR
  · exact zbefM_R hR hh _
set_option maxHeartbeats 4000000 in
theorem cX10_empty {M : zMm} (hP : zP M) (hg : zGr M) (hR : zRr M) (h : Int) : zW mX10_empty 3 (fun rv S' M' => S' = zS0 ∧ ((¬ (0 ≤ h ∧ h < 16) ∧ rv = some (.inl (-1)) ∧ M = M') ∨ ((0 ≤ h ∧ h < 16) ∧ M 64 h = 0 ∧ rv = some (.inl (-5)) ∧ M = M') ∨ ((0 ≤ h ∧ h < 16) ∧ M 64 h ≠ 0 ∧ rv = some (.inl (zsum (zpu (M 64) h 0) 16)) ∧ M' = zup (zup M 64 h 0) 57 h 0))) (0, 0) zS0 0 (zargs 0 [.inr (.inr 56), .inl h]) [] M := by
  change zW _ _ _ _ _ 0 [(0, .inr (.inr 56)), (1, .inl h)] [] M
  refine z_iload_n 1 (zdec DX10_empty 0 rfl) rfl rfl ?_
  refine z_invs mX10_isHouse [.inl h] (zdec DX10_empty 1 rfl) (Or.inl ml_SixWallsModel_118) okX10_isHouse rfl rfl (Nat.le_of_ble_eq_true rfl) (Nat.le_of_ble_eq_true rfl) (b' := (0, 0)) ⟨Nat.le_refl 0, Nat.le_refl 0⟩ (Nat.le_of_ble_eq_true rfl) (cX10_isHouse h) (fun rv9 S9 M1 h9 => ?_)
  obtain ⟨rfl, rfl, rfl⟩ := h9
  change zW _ _ _ _ _ 4 [(0, .inr (.inr 56)), (1, .inl h)] [.inl (zb (0 ≤ h ∧ h < 16))] M
  refine z_if_ne 9 (zdec DX10_empty 2 rfl) rfl (fun h4 => ?_) (fun h4 => ?_)
  ·
    have q4 := zb_ne0.mp h4
    refine z_aload_n 0 (zdec DX10_empty 5 rfl) rfl rfl (by decide) ?_
    refine z_getr (rw1 := -66) (ki := 10) (r' := 64) 56 10 (zdec DX10_empty 6 rfl) rfl rfl shp56 rfl (by decide) rfl rfl fl_SixWallsModel_31 (zPa hP 64 rfl) ?_
    refine z_iload_n 1 (zdec DX10_empty 7 rfl) rfl rfl ?_
    refine z_zald 64 (zdec DX10_empty 8 rfl) rfl shp64 ⟨by omega, by omega⟩ (fun hz14 => ?_)
    refine z_if_ne 21 (zdec DX10_empty 9 rfl) rfl (fun h15 => ?_) (fun h15 => ?_)
    ·
      refine z_aload_n 0 (zdec DX10_empty 12 rfl) rfl rfl (by decide) ?_
      refine z_getr (rw1 := -66) (ki := 10) (r' := 64) 56 10 (zdec DX10_empty 13 rfl) rfl rfl shp56 rfl (by decide) rfl rfl fl_SixWallsModel_31 (zPa hP 64 rfl) ?_
      refine z_iload_n 1 (zdec DX10_empty 14 rfl) rfl rfl ?_
      refine z_iconst 0 (zdec DX10_empty 15 rfl) (by decide) ?_
      refine z_zast 64 (zdec DX10_empty 16 rfl) rfl shp64 ⟨by omega, by omega⟩ (by omega) ?_
      refine z_aload_n 0 (zdec DX10_empty 17 rfl) rfl rfl (by decide) ?_
      refine z_getr (rw1 := -66) (ki := 0) (r' := 57) 56 10 (zdec DX10_empty 18 rfl) rfl rfl shp56 rfl (by decide) rfl rfl fl_SixWallsModel_9 (zPa (zP_up hP (by decide)) 57 rfl) ?_
      refine z_iload_n 1 (zdec DX10_empty 19 rfl) rfl rfl ?_
      refine z_iconst 0 (zdec DX10_empty 20 rfl) (by decide) ?_
      refine z_iast 57 (zdec DX10_empty 21 rfl) rfl shp57 ⟨by omega, by omega⟩ ?_
      have hR2 : zRr (zup (zup M 64 h 0) 57 h 0) := (hR.up64 (by omega)).up (by unfold zmR; omega)
      refine z_aload_n 0 (zdec DX10_empty 22 rfl) rfl rfl (by decide) ?_
      refine z_inv mX10_livedIn 56 10 [] (zdec DX10_empty 23 rfl) ml_SixWallsModel_270 okX10_livedIn rfl shp56 rfl rfl rfl rfl (Nat.le_of_ble_eq_true rfl) (Nat.le_of_ble_eq_true rfl) (b' := (0, 0)) ⟨Nat.le_refl 0, Nat.le_refl 0⟩ (Nat.le_of_ble_eq_true rfl) (cX10_livedIn (zP_up (zP_up hP (by decide)) (by decide)) (hg.of (by rw [zup_row (by decide), zup_row (by decide)]) (by rw [zup_row (by decide), zup_row (by decide)])) hR2) (fun rv9 S9 M36 h9 => ?_)
      obtain ⟨rfl, rfl, r1, rfl, k1⟩ := h9
      have b1 := k1.1
      have e1 := zst_sum k1 (fun i a b => (hR2.1 i a b).1)
      change zW _ _ _ _ _ 39 [(0, .inr (.inr 56)), (1, .inl h)] [.inl r1] (zup (zup M 64 h 0) 57 h 0)
      refine z_i2l (zdec DX10_empty 24 rfl) ?_
      refine z_invs mX10_bitsOf [.inr (.inl r1)] (zdec DX10_empty 25 rfl) (Or.inl ml_SixWallsModel_277) okX10_bitsOf rfl rfl (Nat.le_of_ble_eq_true rfl) (Nat.le_of_ble_eq_true rfl) (b' := (0, 0)) ⟨Nat.le_refl 0, Nat.le_refl 0⟩ (Nat.le_of_ble_eq_true rfl) (cX10_bitsOf r1 ⟨by omega, by omega⟩) (fun rv9 S9 M40 h9 => ?_)
      obtain ⟨rfl, rfl, rfl⟩ := h9
      change zW _ _ _ _ _ 43 [(0, .inr (.inr 56)), (1, .inl h)] [.inl (zpn 62 (r1).toNat)] (zup (zup M 64 h 0) 57 h 0)
      exact z_iret (zdec DX10_empty 26 rfl) rfl (⟨rfl, Or.inr (Or.inr ⟨q4, by omega, zri (by rw [e1, zup_row (by decide), zup_zpu]), rfl⟩)⟩)
    ·
      refine z_bipush (-5) (zdec DX10_empty 10 rfl) (by decide) ?_
      exact z_iret (zdec DX10_empty 11 rfl) rfl (⟨rfl, Or.inr (Or.inl ⟨q4, by omega, rfl, rfl⟩)⟩)
  ·
    have q4 : ¬ (0 ≤ h ∧ h < 16) := fun e => h4 (zb_ne0.mpr e)
    refine z_iconst (-1) (zdec DX10_empty 3 rfl) (by decide) ?_
    exact z_iret (zdec DX10_empty 4 rfl) rfl (⟨rfl, Or.inl ⟨q4, rfl, rfl⟩⟩)
set_option maxHeartbeats 4000000 in
theorem lp_X10_whoTakes_5 {Q : zPost} {M : zMm} (hP : zP M) (hg : zGr M) (hR : zRr M) (h : Int) (hh : 0 ≤ h ∧ h < 16) (hx78 : ∀ (b : Int), (b = zwtR M h ∧ (-2 ≤ b ∧ b < 16 ∧ b ≠ -1) ∧ (b < 0 ∨ 0 ≤ zwo h b)) → zW mX10_whoTakes 2 Q (0, 0) zS0 78 [(2, .inl b)] [] M) : ∀ (n : Nat) (b : Int) (o : Int), (16 - o).toNat < n → (0 ≤ o ∧ o ≤ 16 ∧ (-2 ≤ b ∧ b < 16 ∧ b ≠ -1) ∧ (b < 0 ∨ 0 ≤ zwo h b) ∧ b = zfo (zwt1 M h) (-2) o) → zW mX10_whoTakes 2 Q (0, 0) zS0 5 [(0, .inr (.inr 56)), (1, .inl h), (2, .inl b), (3, .inl o)] [] M := by
  intro n
  induction n with
  | zero => intro b o hn; exact absurd hn (Nat.not_lt_zero _)
  | succ n ih =>
    intro b o hn hI
    refine z_iload_n 3 (zdec DX10_whoTakes 4 rfl) rfl rfl ?_
    refine z_bipush 16 (zdec DX10_whoTakes 5 rfl) (by decide) ?_
    refine z_icmp_ge 78 (zdec DX10_whoTakes 6 rfl) rfl (fun h8 => ?_) (fun h8 => ?_)
    ·
      refine z_weak (L' := [(2, .inl b)]) (by simp) ?_
      exact hx78 b ⟨by rw [hI.2.2.2.2, show o = 16 by omega]; rfl, hI.2.2.1, hI.2.2.2.1⟩
    ·
      refine z_aload_n 0 (zdec DX10_whoTakes 7 rfl) rfl rfl (by decide) ?_
      refine z_getr (rw1 := -66) (ki := 10) (r' := 64) 56 10 (zdec DX10_whoTakes 8 rfl) rfl rfl shp56 rfl (by decide) rfl rfl fl_SixWallsModel_31 (zPa hP 64 rfl) ?_
      refine z_iload_n 3 (zdec DX10_whoTakes 9 rfl) rfl rfl ?_
      refine z_zald 64 (zdec DX10_whoTakes 10 rfl) rfl shp64 ⟨by omega, by omega⟩ (fun hz16 => ?_)
      refine z_if_eq 33 (zdec DX10_whoTakes 11 rfl) rfl (fun h17 => ?_) (fun h17 => ?_)
      ·
        refine z_iconst 0 (zdec DX10_whoTakes 19 rfl) (by decide) ?_
        refine z_istore (L' := [(0, .inr (.inr 56)), (1, .inl h), (2, .inl b), (3, .inl o), (4, .inl 0)]) (zdec DX10_whoTakes 20 rfl) rfl (by decide) ?_
        refine z_iload 4 (zdec DX10_whoTakes 21 rfl) rfl ?_
        refine z_if_eq 70 (zdec DX10_whoTakes 22 rfl) rfl (fun _ => ?_) (fun h => absurd h (by decide))
        refine z_iload_n 2 (zdec DX10_whoTakes 40 rfl) rfl rfl ?_
        refine z_istore_n (L' := [(0, .inr (.inr 56)), (1, .inl h), (2, .inl b), (3, .inl o), (4, .inl 0)]) (zdec DX10_whoTakes 41 rfl) rfl rfl (by decide) ?_
        refine z_iinc (L' := [(0, .inr (.inr 56)), (1, .inl h), (2, .inl b), (3, .inl (o + 1)), (4, .inl 0)]) 3 (zdec DX10_whoTakes 42 rfl) rfl (by unfold z32; omega) rfl (by decide) ?_
        refine z_goto 5 (zdec DX10_whoTakes 43 rfl) rfl ?_
        refine z_weak (L' := [(0, .inr (.inr 56)), (1, .inl h), (2, .inl b), (3, .inl (o + 1))]) (by simp) ?_
        exact ih b (o + 1) (by omega) (by refine ⟨by omega, by omega, by omega, ?_, ?_⟩; (first | exact hI.2.2.2.1 | exact Or.inr q26); (rw [zfo_s _ _ hI.1, ← hI.2.2.2.2]; unfold zwt1; first | (rw [if_pos ⟨⟨by omega, q26⟩, by omega⟩]; done) | (rw [if_neg (by omega)]; done)))
      ·
        refine z_aload_n 0 (zdec DX10_whoTakes 12 rfl) rfl rfl (by decide) ?_
        refine z_iload_n 1 (zdec DX10_whoTakes 13 rfl) rfl rfl ?_
        refine z_iload_n 3 (zdec DX10_whoTakes 14 rfl) rfl rfl ?_
        refine z_inv mX10_wallOf 56 10 [.inl h, .inl o] (zdec DX10_whoTakes 15 rfl) ml_SixWallsModel_125 okX10_wallOf rfl shp56 rfl rfl rfl rfl (Nat.le_of_ble_eq_true rfl) (Nat.le_of_ble_eq_true rfl) (b' := (0, 0)) ⟨Nat.le_refl 0, Nat.le_refl 0⟩ (Nat.le_of_ble_eq_true rfl) (cX10_wallOf hP hg h o) (fun rv9 S9 M23 h9 => ?_)
        obtain ⟨rfl, rfl, rfl⟩ := h9
        change zW _ _ _ _ _ 26 [(0, .inr (.inr 56)), (1, .inl h), (2, .inl b), (3, .inl o)] [.inl (if zwo h o < 0 then -2 else zwo h o)] M
        refine z_if_lt 33 (zdec DX10_whoTakes 16 rfl) rfl (fun h26 => ?_) (fun h26 => ?_)
        ·
          have q26 : zwo h o < 0 := by split at h26 <;> omega
          refine z_iconst 0 (zdec DX10_whoTakes 19 rfl) (by decide) ?_
          refine z_istore (L' := [(0, .inr (.inr 56)), (1, .inl h), (2, .inl b), (3, .inl o), (4, .inl 0)]) (zdec DX10_whoTakes 20 rfl) rfl (by decide) ?_
          refine z_iload 4 (zdec DX10_whoTakes 21 rfl) rfl ?_
          refine z_if_eq 70 (zdec DX10_whoTakes 22 rfl) rfl (fun _ => ?_) (fun h => absurd h (by decide))
          refine z_iload_n 2 (zdec DX10_whoTakes 40 rfl) rfl rfl ?_
          refine z_istore_n (L' := [(0, .inr (.inr 56)), (1, .inl h), (2, .inl b), (3, .inl o), (4, .inl 0)]) (zdec DX10_whoTakes 41 rfl) rfl rfl (by decide) ?_
          refine z_iinc (L' := [(0, .inr (.inr 56)), (1, .inl h), (2, .inl b), (3, .inl (o + 1)), (4, .inl 0)]) 3 (zdec DX10_whoTakes 42 rfl) rfl (by unfold z32; omega) rfl (by decide) ?_
          refine z_goto 5 (zdec DX10_whoTakes 43 rfl) rfl ?_
          refine z_weak (L' := [(0, .inr (.inr 56)), (1, .inl h), (2, .inl b), (3, .inl (o + 1))]) (by simp) ?_
          exact ih b (o + 1) (by omega) (by refine ⟨by omega, by omega, by omega, ?_, ?_⟩; (first | exact hI.2.2.2.1 | exact Or.inr q26); (rw [zfo_s _ _ hI.1, ← hI.2.2.2.2]; unfold zwt1; first | (rw [if_pos ⟨⟨by omega, q26⟩, by omega⟩]; done) | (rw [if_neg (by omega)]; done)))
        ·
          have q26 : 0 ≤ zwo h o := by split at h26 <;> omega
          refine z_iconst 1 (zdec DX10_whoTakes 17 rfl) (by decide) ?_
          refine z_goto 34 (zdec DX10_whoTakes 18 rfl) rfl ?_
          refine z_istore (L' := [(0, .inr (.inr 56)), (1, .inl h), (2, .inl b), (3, .inl o), (4, .inl 1)]) (zdec DX10_whoTakes 20 rfl) rfl (by decide) ?_
          refine z_iload 4 (zdec DX10_whoTakes 21 rfl) rfl ?_
          refine z_if_eq 70 (zdec DX10_whoTakes 22 rfl) rfl (fun h => absurd h (by decide)) (fun _ => ?_)
          refine z_iload_n 2 (zdec DX10_whoTakes 23 rfl) rfl rfl ?_
          refine z_if_lt 66 (zdec DX10_whoTakes 24 rfl) rfl (fun h42 => ?_) (fun h42 => ?_)
          ·
            refine z_iload_n 3 (zdec DX10_whoTakes 38 rfl) rfl rfl ?_
            refine z_goto 71 (zdec DX10_whoTakes 39 rfl) rfl ?_
            refine z_istore_n (L' := [(0, .inr (.inr 56)), (1, .inl h), (2, .inl o), (3, .inl o), (4, .inl 1)]) (zdec DX10_whoTakes 41 rfl) rfl rfl (by decide) ?_
            refine z_iinc (L' := [(0, .inr (.inr 56)), (1, .inl h), (2, .inl o), (3, .inl (o + 1)), (4, .inl 1)]) 3 (zdec DX10_whoTakes 42 rfl) rfl (by unfold z32; omega) rfl (by decide) ?_
            refine z_goto 5 (zdec DX10_whoTakes 43 rfl) rfl ?_
            refine z_weak (L' := [(0, .inr (.inr 56)), (1, .inl h), (2, .inl o), (3, .inl (o + 1))]) (by simp) ?_
            exact ih o (o + 1) (by omega) (by refine ⟨by omega, by omega, by omega, ?_, ?_⟩; (first | exact hI.2.2.2.1 | exact Or.inr q26); (rw [zfo_s _ _ hI.1, ← hI.2.2.2.2]; unfold zwt1; first | (rw [if_pos ⟨⟨by omega, q26⟩, by omega⟩]; done) | (rw [if_neg (by omega)]; done)))
          ·
            refine z_aload_n 0 (zdec DX10_whoTakes 25 rfl) rfl rfl (by decide) ?_
            refine z_getr (rw1 := -66) (ki := 0) (r' := 57) 56 10 (zdec DX10_whoTakes 26 rfl) rfl rfl shp56 rfl (by decide) rfl rfl fl_SixWallsModel_9 (zPa hP 57 rfl) ?_
            refine z_bipush 16 (zdec DX10_whoTakes 27 rfl) (by decide) ?_
            refine z_iload_n 3 (zdec DX10_whoTakes 28 rfl) rfl rfl ?_
            refine z_iadd (zdec DX10_whoTakes 29 rfl) (by unfold z32; omega) ?_
            refine z_iald 57 (zdec DX10_whoTakes 30 rfl) rfl shp57 ⟨by omega, by omega⟩ ?_
            refine z_aload_n 0 (zdec DX10_whoTakes 31 rfl) rfl rfl (by decide) ?_
            refine z_getr (rw1 := -66) (ki := 0) (r' := 57) 56 10 (zdec DX10_whoTakes 32 rfl) rfl rfl shp56 rfl (by decide) rfl rfl fl_SixWallsModel_9 (zPa hP 57 rfl) ?_
            refine z_bipush 16 (zdec DX10_whoTakes 33 rfl) (by decide) ?_
            refine z_iload_n 2 (zdec DX10_whoTakes 34 rfl) rfl rfl ?_
            refine z_iadd (zdec DX10_whoTakes 35 rfl) (by unfold z32; omega) ?_
            refine z_iald 57 (zdec DX10_whoTakes 36 rfl) rfl shp57 ⟨by omega, by omega⟩ ?_
            refine z_icmp_le 70 (zdec DX10_whoTakes 37 rfl) rfl (fun h63 => ?_) (fun h63 => ?_)
            ·
              refine z_iload_n 2 (zdec DX10_whoTakes 40 rfl) rfl rfl ?_
              refine z_istore_n (L' := [(0, .inr (.inr 56)), (1, .inl h), (2, .inl b), (3, .inl o), (4, .inl 1)]) (zdec DX10_whoTakes 41 rfl) rfl rfl (by decide) ?_
              refine z_iinc (L' := [(0, .inr (.inr 56)), (1, .inl h), (2, .inl b), (3, .inl (o + 1)), (4, .inl 1)]) 3 (zdec DX10_whoTakes 42 rfl) rfl (by unfold z32; omega) rfl (by decide) ?_
              refine z_goto 5 (zdec DX10_whoTakes 43 rfl) rfl ?_
              refine z_weak (L' := [(0, .inr (.inr 56)), (1, .inl h), (2, .inl b), (3, .inl (o + 1))]) (by simp) ?_
              exact ih b (o + 1) (by omega) (by refine ⟨by omega, by omega, by omega, ?_, ?_⟩; (first | exact hI.2.2.2.1 | exact Or.inr q26); (rw [zfo_s _ _ hI.1, ← hI.2.2.2.2]; unfold zwt1; first | (rw [if_pos ⟨⟨by omega, q26⟩, by omega⟩]; done) | (rw [if_neg (by omega)]; done)))
            ·
              refine z_iload_n 3 (zdec DX10_whoTakes 38 rfl) rfl rfl ?_
              refine z_goto 71 (zdec DX10_whoTakes 39 rfl) rfl ?_
              refine z_istore_n (L' := [(0, .inr (.inr 56)), (1, .inl h), (2, .inl o), (3, .inl o), (4, .inl 1)]) (zdec DX10_whoTakes 41 rfl) rfl rfl (by decide) ?_
              refine z_iinc (L' := [(0, .inr (.inr 56)), (1, .inl h), (2, .inl o), (3, .inl (o + 1)), (4, .inl 1)]) 3 (zdec DX10_whoTakes 42 rfl) rfl (by unfold z32; omega) rfl (by decide) ?_
              refine z_goto 5 (zdec DX10_whoTakes 43 rfl) rfl ?_
              refine z_weak (L' := [(0, .inr (.inr 56)), (1, .inl h), (2, .inl o), (3, .inl (o + 1))]) (by simp) ?_
              exact ih o (o + 1) (by omega) (by refine ⟨by omega, by omega, by omega, ?_, ?_⟩; (first | exact hI.2.2.2.1 | exact Or.inr q26); (rw [zfo_s _ _ hI.1, ← hI.2.2.2.2]; unfold zwt1; first | (rw [if_pos ⟨⟨by omega, q26⟩, by omega⟩]; done) | (rw [if_neg (by omega)]; done)))
set_option maxHeartbeats 4000000 in
theorem cX10_whoTakes {M : zMm} (hP : zP M) (hg : zGr M) (hR : zRr M) (h : Int) (hh : 0 ≤ h ∧ h < 16) : zW mX10_whoTakes 2 (fun rv S' M' => S' = zS0 ∧ M = M' ∧ rv = some (.inl (zwtR M h)) ∧ -2 ≤ zwtR M h ∧ zwtR M h < 16 ∧ zwtR M h ≠ -1 ∧ (zwtR M h < 0 ∨ 0 ≤ zwo h (zwtR M h))) (0, 0) zS0 0 (zargs 0 [.inr (.inr 56), .inl h]) [] M := by
  change zW _ _ _ _ _ 0 [(0, .inr (.inr 56)), (1, .inl h)] [] M
  refine z_bipush (-2) (zdec DX10_whoTakes 0 rfl) (by decide) ?_
  refine z_istore_n (L' := [(0, .inr (.inr 56)), (1, .inl h), (2, .inl (-2))]) (zdec DX10_whoTakes 1 rfl) rfl rfl (by decide) ?_
  refine z_iconst 0 (zdec DX10_whoTakes 2 rfl) (by decide) ?_
  refine z_istore_n (L' := [(0, .inr (.inr 56)), (1, .inl h), (2, .inl (-2)), (3, .inl 0)]) (zdec DX10_whoTakes 3 rfl) rfl rfl (by decide) ?_
  refine lp_X10_whoTakes_5 hP hg hR h hh (hx78 := fun b hx => ?_) _ (-2) 0 (Nat.lt_succ_self _) ⟨by omega, by omega, by omega, Or.inl (by omega), rfl⟩
  refine z_iload_n 0 (zdec DX10_whoTakes 44 rfl) rfl rfl ?_
  exact z_iret (zdec DX10_whoTakes 45 rfl) rfl (⟨rfl, rfl, zri hx.1, (by rw [← hx.1]; exact ⟨hx.2.1.1, hx.2.1.2.1, hx.2.1.2.2, hx.2.2⟩)⟩)
set_option maxHeartbeats 4000000 in
theorem cX10_takes {M : zMm} (hP : zP M) (hg : zGr M) (hR : zRr M) (h k : Int) : zW mX10_takes 3 (fun rv S' M' => S' = zS0 ∧ ((¬ ((0 ≤ h ∧ h < 16) ∧ 0 ≤ k ∧ k ≤ 1) ∧ rv = some (.inl (-1)) ∧ M = M') ∨ (((0 ≤ h ∧ h < 16) ∧ 0 ≤ k ∧ k ≤ 1) ∧ M 64 h ≠ 0 ∧ rv = some (.inl (-5)) ∧ M = M') ∨ (((0 ≤ h ∧ h < 16) ∧ 0 ≤ k ∧ k ≤ 1) ∧ M 64 h = 0 ∧ rv = some (.inl (zwtR M h)) ∧ (-2 ≤ zwtR M h ∧ zwtR M h < 16 ∧ zwtR M h ≠ -1) ∧ ((¬ (k = 1 ∧ 0 ≤ zwtR M h) ∧ M = M') ∨ ((k = 1 ∧ 0 ≤ zwtR M h) ∧ 0 ≤ zwo h (zwtR M h) ∧ M' = zup (zup (zup M 64 h 1) 57 (16 + h) (M 57 (16 + zwtR M h))) 57 (65 + zwo h (zwtR M h)) 1))))) (0, 0) zS0 0 (zargs 0 [.inr (.inr 56), .inl h, .inl k]) [] M := by
  change zW _ _ _ _ _ 0 [(0, .inr (.inr 56)), (1, .inl h), (2, .inl k)] [] M
  refine z_iload_n 1 (zdec DX10_takes 0 rfl) rfl rfl ?_
  refine z_invs mX10_isHouse [.inl h] (zdec DX10_takes 1 rfl) (Or.inl ml_SixWallsModel_118) okX10_isHouse rfl rfl (Nat.le_of_ble_eq_true rfl) (Nat.le_of_ble_eq_true rfl) (b' := (0, 0)) ⟨Nat.le_refl 0, Nat.le_refl 0⟩ (Nat.le_of_ble_eq_true rfl) (cX10_isHouse h) (fun rv9 S9 M1 h9 => ?_)
  obtain ⟨rfl, rfl, rfl⟩ := h9
  change zW _ _ _ _ _ 4 [(0, .inr (.inr 56)), (1, .inl h), (2, .inl k)] [.inl (zb (0 ≤ h ∧ h < 16))] M
  refine z_if_eq 17 (zdec DX10_takes 2 rfl) rfl (fun h4 => ?_) (fun h4 => ?_)
  ·
    have q4 := zb_eq0.mp h4
    refine z_iconst (-1) (zdec DX10_takes 9 rfl) (by decide) ?_
    exact z_iret (zdec DX10_takes 10 rfl) rfl (⟨rfl, Or.inl ⟨fun e => (by first | exact q4 e.1 | exact q14 e.2), rfl, rfl⟩⟩)
  ·
    have q4 := zb_ne0.mp h4
    refine z_iload_n 2 (zdec DX10_takes 3 rfl) rfl rfl ?_
    refine z_i2l (zdec DX10_takes 4 rfl) ?_
    refine z_lconst 0 (zdec DX10_takes 5 rfl) rfl ?_
    refine z_lconst 1 (zdec DX10_takes 6 rfl) rfl ?_
    refine z_invs mX10_within [.inr (.inl k), .inr (.inl 0), .inr (.inl 1)] (zdec DX10_takes 7 rfl) (Or.inl ml_SixWallsModel_112) okX10_within rfl rfl (Nat.le_of_ble_eq_true rfl) (Nat.le_of_ble_eq_true rfl) (b' := (0, 0)) ⟨Nat.le_refl 0, Nat.le_refl 0⟩ (Nat.le_of_ble_eq_true rfl) (cX10_within k 0 1) (fun rv9 S9 M11 h9 => ?_)
    obtain ⟨rfl, rfl, rfl⟩ := h9
    change zW _ _ _ _ _ 14 [(0, .inr (.inr 56)), (1, .inl h), (2, .inl k)] [.inl (zb (0 ≤ k ∧ k ≤ 1))] M
    refine z_if_ne 19 (zdec DX10_takes 8 rfl) rfl (fun h14 => ?_) (fun h14 => ?_)
    ·
      have q14 := zb_ne0.mp h14
      refine z_aload_n 0 (zdec DX10_takes 11 rfl) rfl rfl (by decide) ?_
      refine z_getr (rw1 := -66) (ki := 10) (r' := 64) 56 10 (zdec DX10_takes 12 rfl) rfl rfl shp56 rfl (by decide) rfl rfl fl_SixWallsModel_31 (zPa hP 64 rfl) ?_
      refine z_iload_n 1 (zdec DX10_takes 13 rfl) rfl rfl ?_
      refine z_zald 64 (zdec DX10_takes 14 rfl) rfl shp64 ⟨by omega, by omega⟩ (fun hz24 => ?_)
      refine z_if_eq 31 (zdec DX10_takes 15 rfl) rfl (fun h25 => ?_) (fun h25 => ?_)
      ·
        refine z_aload_n 0 (zdec DX10_takes 18 rfl) rfl rfl (by decide) ?_
        refine z_iload_n 1 (zdec DX10_takes 19 rfl) rfl rfl ?_
        refine z_inv mX10_whoTakes 56 10 [.inl h] (zdec DX10_takes 20 rfl) ml_SixWallsModel_305 okX10_whoTakes rfl shp56 rfl rfl rfl rfl (Nat.le_of_ble_eq_true rfl) (Nat.le_of_ble_eq_true rfl) (b' := (0, 0)) ⟨Nat.le_refl 0, Nat.le_refl 0⟩ (Nat.le_of_ble_eq_true rfl) (cX10_whoTakes hP hg hR h q4) (fun rv9 S9 M33 h9 => ?_)
        obtain ⟨rfl, rfl, rfl, y1, y2, y3, y4⟩ := h9
        obtain ⟨u, eu⟩ : ∃ u, u = zwtR M h := ⟨_, rfl⟩
        rw [← eu] at y1 y2 y3 y4
        rw [← eu]
        change zW _ _ _ _ _ 36 [(0, .inr (.inr 56)), (1, .inl h), (2, .inl k)] [.inl u] M
        refine z_istore_n (L' := [(0, .inr (.inr 56)), (1, .inl h), (2, .inl k), (3, .inl u)]) (zdec DX10_takes 21 rfl) rfl rfl (by decide) ?_
        refine z_iload_n 2 (zdec DX10_takes 22 rfl) rfl rfl ?_
        refine z_iconst 1 (zdec DX10_takes 23 rfl) (by decide) ?_
        refine z_icmp_ne 86 (zdec DX10_takes 24 rfl) rfl (fun h39 => ?_) (fun h39 => ?_)
        ·
          refine z_iload_n 3 (zdec DX10_takes 54 rfl) rfl rfl ?_
          exact z_iret (zdec DX10_takes 55 rfl) rfl (by refine ⟨rfl, Or.inr (Or.inr ⟨⟨q4, q14⟩, by omega, rfl, ⟨y1, y2, y3⟩, ?_⟩)⟩; first | exact Or.inl ⟨by omega, rfl⟩ | exact Or.inr ⟨⟨by omega, by omega⟩, y5, rfl⟩)
        ·
          refine z_iload_n 3 (zdec DX10_takes 25 rfl) rfl rfl ?_
          refine z_if_lt 86 (zdec DX10_takes 26 rfl) rfl (fun h43 => ?_) (fun h43 => ?_)
          ·
            refine z_iload_n 3 (zdec DX10_takes 54 rfl) rfl rfl ?_
            exact z_iret (zdec DX10_takes 55 rfl) rfl (by refine ⟨rfl, Or.inr (Or.inr ⟨⟨q4, q14⟩, by omega, rfl, ⟨y1, y2, y3⟩, ?_⟩)⟩; first | exact Or.inl ⟨by omega, rfl⟩ | exact Or.inr ⟨⟨by omega, by omega⟩, y5, rfl⟩)
          ·
            refine z_aload_n 0 (zdec DX10_takes 27 rfl) rfl rfl (by decide) ?_
            refine z_getr (rw1 := -66) (ki := 10) (r' := 64) 56 10 (zdec DX10_takes 28 rfl) rfl rfl shp56 rfl (by decide) rfl rfl fl_SixWallsModel_31 (zPa hP 64 rfl) ?_
            refine z_iload_n 1 (zdec DX10_takes 29 rfl) rfl rfl ?_
            refine z_iconst 1 (zdec DX10_takes 30 rfl) (by decide) ?_
            refine z_zast 64 (zdec DX10_takes 31 rfl) rfl shp64 ⟨by omega, by omega⟩ (by omega) ?_
            refine z_aload_n 0 (zdec DX10_takes 32 rfl) rfl rfl (by decide) ?_
            refine z_getr (rw1 := -66) (ki := 0) (r' := 57) 56 10 (zdec DX10_takes 33 rfl) rfl rfl shp56 rfl (by decide) rfl rfl fl_SixWallsModel_9 (zPa (zP_up hP (by decide)) 57 rfl) ?_
            refine z_bipush 16 (zdec DX10_takes 34 rfl) (by decide) ?_
            refine z_iload_n 1 (zdec DX10_takes 35 rfl) rfl rfl ?_
            refine z_iadd (zdec DX10_takes 36 rfl) (by unfold z32; omega) ?_
            refine z_aload_n 0 (zdec DX10_takes 37 rfl) rfl rfl (by decide) ?_
            refine z_getr (rw1 := -66) (ki := 0) (r' := 57) 56 10 (zdec DX10_takes 38 rfl) rfl rfl shp56 rfl (by decide) rfl rfl fl_SixWallsModel_9 (zPa (zP_up hP (by decide)) 57 rfl) ?_
            refine z_bipush 16 (zdec DX10_takes 39 rfl) (by decide) ?_
            refine z_iload_n 3 (zdec DX10_takes 40 rfl) rfl rfl ?_
            refine z_iadd (zdec DX10_takes 41 rfl) (by unfold z32; omega) ?_
            refine z_iald 57 (zdec DX10_takes 42 rfl) rfl shp57 ⟨by omega, by omega⟩ ?_
            rw [show (zup M 64 h 1) 57 (16 + u) = M 57 (16 + u) from by simp [zup, zcpy]]
            refine z_iast 57 (zdec DX10_takes 43 rfl) rfl shp57 ⟨by omega, by omega⟩ ?_
            refine z_aload_n 0 (zdec DX10_takes 44 rfl) rfl rfl (by decide) ?_
            refine z_getr (rw1 := -66) (ki := 0) (r' := 57) 56 10 (zdec DX10_takes 45 rfl) rfl rfl shp56 rfl (by decide) rfl rfl fl_SixWallsModel_9 (zPa (zP_up (zP_up hP (by decide)) (by decide)) 57 rfl) ?_
            refine z_bipush 65 (zdec DX10_takes 46 rfl) (by decide) ?_
            refine z_aload_n 0 (zdec DX10_takes 47 rfl) rfl rfl (by decide) ?_
            refine z_iload_n 1 (zdec DX10_takes 48 rfl) rfl rfl ?_
            refine z_iload_n 3 (zdec DX10_takes 49 rfl) rfl rfl ?_
            refine z_inv mX10_wallOf 56 10 [.inl h, .inl u] (zdec DX10_takes 50 rfl) ml_SixWallsModel_125 okX10_wallOf rfl shp56 rfl rfl rfl rfl (Nat.le_of_ble_eq_true rfl) (Nat.le_of_ble_eq_true rfl) (b' := (0, 0)) ⟨Nat.le_refl 0, Nat.le_refl 0⟩ (Nat.le_of_ble_eq_true rfl) (cX10_wallOf (zP_up (zP_up hP (by decide)) (by decide)) (hg.of (by rw [zup_row (by decide), zup_row (by decide)]) (by rw [zup_row (by decide), zup_row (by decide)])) h u) (fun rv9 S9 M80 h9 => ?_)
            obtain ⟨rfl, rfl, rfl⟩ := h9
            have y5 : 0 ≤ zwo h u := y4.resolve_left (by omega)
            have y6 := zwo_b (a := h) (b := u) q4 ⟨by omega, by omega⟩
            change zW _ _ _ _ _ 83 [(0, .inr (.inr 56)), (1, .inl h), (2, .inl k), (3, .inl u)] [.inl (if zwo h u < 0 then -2 else zwo h u), .inl 65, .inr (.inr 57)] (zup (zup M 64 h 1) 57 (16 + h) (M 57 (16 + u)))
            rw [if_neg (show ¬ zwo h u < 0 by omega)]
            refine z_iadd (zdec DX10_takes 51 rfl) (by unfold z32; omega) ?_
            refine z_iconst 1 (zdec DX10_takes 52 rfl) (by decide) ?_
            refine z_iast 57 (zdec DX10_takes 53 rfl) rfl shp57 ⟨by omega, by omega⟩ ?_
            refine z_iload_n 3 (zdec DX10_takes 54 rfl) rfl rfl ?_
            exact z_iret (zdec DX10_takes 55 rfl) rfl (by refine ⟨rfl, Or.inr (Or.inr ⟨⟨q4, q14⟩, by omega, rfl, ⟨y1, y2, y3⟩, ?_⟩)⟩; first | exact Or.inl ⟨by omega, rfl⟩ | exact Or.inr ⟨⟨by omega, by omega⟩, y5, rfl⟩)
      ·
        refine z_bipush (-5) (zdec DX10_takes 16 rfl) (by decide) ?_
        exact z_iret (zdec DX10_takes 17 rfl) rfl (⟨rfl, Or.inr (Or.inl ⟨⟨q4, q14⟩, by omega, rfl, rfl⟩)⟩)
    ·
      have q14 : ¬ (0 ≤ k ∧ k ≤ 1) := fun e => h14 (zb_ne0.mpr e)
      refine z_iconst (-1) (zdec DX10_takes 9 rfl) (by decide) ?_
      exact z_iret (zdec DX10_takes 10 rfl) rfl (⟨rfl, Or.inl ⟨fun e => (by first | exact q4 e.1 | exact q14 e.2), rfl, rfl⟩⟩)
set_option maxHeartbeats 4000000 in
theorem lp_X10_isBorn_2 {M : zMm} (hP : zP M) (hg : zGr M) (hR : zRr M) (h : Int) (hh : 0 ≤ h ∧ h < 16) (hx58 : (zboR M h = -1) → zW mX10_isBorn 2 (fun rv S' M' => S' = zS0 ∧ rv = none ∧ M' = zbirM M h) (0, 0) zS0 58 [] [] M) : ∀ (n : Nat) (o : Int), (16 - o).toNat < n → (0 ≤ o ∧ o ≤ 16 ∧ ∀ j : Int, 0 ≤ j → j < o → ¬ (M 64 j = 0 ∧ 0 ≤ zwo h j)) → zW mX10_isBorn 2 (fun rv S' M' => S' = zS0 ∧ rv = none ∧ M' = zbirM M h) (0, 0) zS0 2 [(0, .inr (.inr 56)), (1, .inl h), (2, .inl o)] [] M := by
  intro n
  induction n with
  | zero => intro o hn; exact absurd hn (Nat.not_lt_zero _)
  | succ n ih =>
    intro o hn hI
    refine z_iload_n 2 (zdec DX10_isBorn 2 rfl) rfl rfl ?_
    refine z_bipush 16 (zdec DX10_isBorn 3 rfl) (by decide) ?_
    refine z_icmp_ge 58 (zdec DX10_isBorn 4 rfl) rfl (fun h5 => ?_) (fun h5 => ?_)
    ·
      refine z_weak (L' := []) (by simp) ?_
      exact hx58  (zff_no (g := fun w => w) (p := fun o => M 64 o = 0 ∧ 0 ≤ zwo h o) fun j a b => hI.2.2 j a (by omega))
    ·
      refine z_aload_n 0 (zdec DX10_isBorn 5 rfl) rfl rfl (by decide) ?_
      refine z_getr (rw1 := -66) (ki := 10) (r' := 64) 56 10 (zdec DX10_isBorn 6 rfl) rfl rfl shp56 rfl (by decide) rfl rfl fl_SixWallsModel_31 (zPa hP 64 rfl) ?_
      refine z_iload_n 2 (zdec DX10_isBorn 7 rfl) rfl rfl ?_
      refine z_zald 64 (zdec DX10_isBorn 8 rfl) rfl shp64 ⟨by omega, by omega⟩ (fun hz13 => ?_)
      refine z_if_ne 52 (zdec DX10_isBorn 9 rfl) rfl (fun h14 => ?_) (fun h14 => ?_)
      ·
        refine z_iinc (L' := [(0, .inr (.inr 56)), (1, .inl h), (2, .inl (o + 1))]) 2 (zdec DX10_isBorn 33 rfl) rfl (by unfold z32; omega) rfl (by decide) ?_
        refine z_goto 2 (zdec DX10_isBorn 34 rfl) rfl ?_
        exact ih (o + 1) (by omega) ⟨by omega, by omega, fun j a b => (by by_cases e : j = o; (subst e; omega); exact hI.2.2 j a (by omega))⟩
      ·
        refine z_aload_n 0 (zdec DX10_isBorn 10 rfl) rfl rfl (by decide) ?_
        refine z_iload_n 1 (zdec DX10_isBorn 11 rfl) rfl rfl ?_
        refine z_iload_n 2 (zdec DX10_isBorn 12 rfl) rfl rfl ?_
        refine z_inv mX10_wallOf 56 10 [.inl h, .inl o] (zdec DX10_isBorn 13 rfl) ml_SixWallsModel_125 okX10_wallOf rfl shp56 rfl rfl rfl rfl (Nat.le_of_ble_eq_true rfl) (Nat.le_of_ble_eq_true rfl) (b' := (0, 0)) ⟨Nat.le_refl 0, Nat.le_refl 0⟩ (Nat.le_of_ble_eq_true rfl) (cX10_wallOf hP hg h o) (fun rv9 S9 M20 h9 => ?_)
        obtain ⟨rfl, rfl, rfl⟩ := h9
        change zW _ _ _ _ _ 23 [(0, .inr (.inr 56)), (1, .inl h), (2, .inl o)] [.inl (if zwo h o < 0 then -2 else zwo h o)] M
        refine z_if_lt 52 (zdec DX10_isBorn 14 rfl) rfl (fun h23 => ?_) (fun h23 => ?_)
        ·
          have q23 : zwo h o < 0 := by split at h23 <;> omega
          refine z_iinc (L' := [(0, .inr (.inr 56)), (1, .inl h), (2, .inl (o + 1))]) 2 (zdec DX10_isBorn 33 rfl) rfl (by unfold z32; omega) rfl (by decide) ?_
          refine z_goto 2 (zdec DX10_isBorn 34 rfl) rfl ?_
          exact ih (o + 1) (by omega) ⟨by omega, by omega, fun j a b => (by by_cases e : j = o; (subst e; omega); exact hI.2.2 j a (by omega))⟩
        ·
          have q23 : 0 ≤ zwo h o := by split at h23 <;> omega
          refine z_aload_n 0 (zdec DX10_isBorn 15 rfl) rfl rfl (by decide) ?_
          refine z_getr (rw1 := -66) (ki := 10) (r' := 64) 56 10 (zdec DX10_isBorn 16 rfl) rfl rfl shp56 rfl (by decide) rfl rfl fl_SixWallsModel_31 (zPa hP 64 rfl) ?_
          refine z_iload_n 2 (zdec DX10_isBorn 17 rfl) rfl rfl ?_
          refine z_iconst 1 (zdec DX10_isBorn 18 rfl) (by decide) ?_
          refine z_zast 64 (zdec DX10_isBorn 19 rfl) rfl shp64 ⟨by omega, by omega⟩ (by omega) ?_
          refine z_aload_n 0 (zdec DX10_isBorn 20 rfl) rfl rfl (by decide) ?_
          refine z_getr (rw1 := -66) (ki := 0) (r' := 57) 56 10 (zdec DX10_isBorn 21 rfl) rfl rfl shp56 rfl (by decide) rfl rfl fl_SixWallsModel_9 (zPa (zP_up hP (by decide)) 57 rfl) ?_
          refine z_bipush 16 (zdec DX10_isBorn 22 rfl) (by decide) ?_
          refine z_iload_n 2 (zdec DX10_isBorn 23 rfl) rfl rfl ?_
          refine z_iadd (zdec DX10_isBorn 24 rfl) (by unfold z32; omega) ?_
          refine z_aload_n 0 (zdec DX10_isBorn 25 rfl) rfl rfl (by decide) ?_
          refine z_getr (rw1 := -66) (ki := 0) (r' := 57) 56 10 (zdec DX10_isBorn 26 rfl) rfl rfl shp56 rfl (by decide) rfl rfl fl_SixWallsModel_9 (zPa (zP_up hP (by decide)) 57 rfl) ?_
          refine z_bipush 16 (zdec DX10_isBorn 27 rfl) (by decide) ?_
          refine z_iload_n 1 (zdec DX10_isBorn 28 rfl) rfl rfl ?_
          refine z_iadd (zdec DX10_isBorn 29 rfl) (by unfold z32; omega) ?_
          refine z_iald 57 (zdec DX10_isBorn 30 rfl) rfl shp57 ⟨by omega, by omega⟩ ?_
          rw [show (zup M 64 o 1) 57 (16 + h) = M 57 (16 + h) from by simp [zup, zcpy]]
          refine z_iast 57 (zdec DX10_isBorn 31 rfl) rfl shp57 ⟨by omega, by omega⟩ ?_
          exact z_vret (zdec DX10_isBorn 32 rfl) rfl (by have e : zboR M h = o := zff_hit (g := fun w => w) (p := fun o => M 64 o = 0 ∧ 0 ≤ zwo h o) ⟨hI.1, by omega⟩ (by show o ≠ -1; omega) hI.2.2 ⟨by omega, q23⟩; refine ⟨rfl, rfl, ?_⟩; unfold zbirM; rw [e, if_neg (by omega)])
set_option maxHeartbeats 4000000 in
theorem cX10_isBorn {M : zMm} (hP : zP M) (hg : zGr M) (hR : zRr M) (h : Int) (hh : 0 ≤ h ∧ h < 16) : zW mX10_isBorn 2 (fun rv S' M' => S' = zS0 ∧ rv = none ∧ M' = zbirM M h) (0, 0) zS0 0 (zargs 0 [.inr (.inr 56), .inl h]) [] M := by
  change zW _ _ _ _ _ 0 [(0, .inr (.inr 56)), (1, .inl h)] [] M
  refine z_iconst 0 (zdec DX10_isBorn 0 rfl) (by decide) ?_
  refine z_istore_n (L' := [(0, .inr (.inr 56)), (1, .inl h), (2, .inl 0)]) (zdec DX10_isBorn 1 rfl) rfl rfl (by decide) ?_
  refine lp_X10_isBorn_2 hP hg hR h hh (hx58 := fun hx => ?_) _ 0 (Nat.lt_succ_self _) ⟨by omega, by omega, fun j a b => by omega⟩
  exact z_vret (zdec DX10_isBorn 35 rfl) rfl (⟨rfl, rfl, by unfold zbirM; rw [hx, if_pos (by decide)]⟩)
set_option maxHeartbeats 4000000 in
theorem lp_X10_feuds_2 {M : zMm} (hP : zP M) (hg : zGr M) (hR : zRr M) (h : Int) (hh : 0 ≤ h ∧ h < 16) (hx58 : (zfeR M h = -1) → zW mX10_feuds 2 (fun rv S' M' => S' = zS0 ∧ rv = none ∧ M' = zfeuM M h) (0, 0) zS0 58 [] [] M) : ∀ (n : Nat) (w : Int), (33 - w).toNat < n → (0 ≤ w ∧ w ≤ 33 ∧ ∀ j : Int, 0 ≤ j → j < w → ¬ ((zlow j = h ∨ zhigh j = h) ∧ M 57 (65 + j) = 1)) → zW mX10_feuds 2 (fun rv S' M' => S' = zS0 ∧ rv = none ∧ M' = zfeuM M h) (0, 0) zS0 2 [(0, .inr (.inr 56)), (1, .inl h), (2, .inl w)] [] M := by
  intro n
  induction n with
  | zero => intro w hn; exact absurd hn (Nat.not_lt_zero _)
  | succ n ih =>
    intro w hn hI
    refine z_iload_n 2 (zdec DX10_feuds 2 rfl) rfl rfl ?_
    refine z_bipush 33 (zdec DX10_feuds 3 rfl) (by decide) ?_
    refine z_icmp_ge 58 (zdec DX10_feuds 4 rfl) rfl (fun h5 => ?_) (fun h5 => ?_)
    ·
      refine z_weak (L' := []) (by simp) ?_
      exact hx58  (zff_no (g := fun w => w) (p := fun w => (zlow w = h ∨ zhigh w = h) ∧ M 57 (65 + w) = 1) fun j a b => hI.2.2 j a (by omega))
    ·
      refine z_aload_n 0 (zdec DX10_feuds 5 rfl) rfl rfl (by decide) ?_
      refine z_getr (rw1 := -66) (ki := 7) (r' := 61) 56 10 (zdec DX10_feuds 6 rfl) rfl rfl shp56 rfl (by decide) rfl rfl fl_SixWallsModel_22 (zPa hP 61 rfl) ?_
      refine z_iload_n 2 (zdec DX10_feuds 7 rfl) rfl rfl ?_
      refine z_iald 61 (zdec DX10_feuds 8 rfl) rfl shp61 ⟨by omega, by omega⟩ ?_
      rw [(hg w (by omega) (by omega)).1]
      refine z_iload_n 1 (zdec DX10_feuds 9 rfl) rfl rfl ?_
      refine z_icmp_eq 28 (zdec DX10_feuds 10 rfl) rfl (fun h15 => ?_) (fun h15 => ?_)
      ·
        refine z_aload_n 0 (zdec DX10_feuds 17 rfl) rfl rfl (by decide) ?_
        refine z_getr (rw1 := -66) (ki := 0) (r' := 57) 56 10 (zdec DX10_feuds 18 rfl) rfl rfl shp56 rfl (by decide) rfl rfl fl_SixWallsModel_9 (zPa hP 57 rfl) ?_
        refine z_bipush 65 (zdec DX10_feuds 19 rfl) (by decide) ?_
        refine z_iload_n 2 (zdec DX10_feuds 20 rfl) rfl rfl ?_
        refine z_iadd (zdec DX10_feuds 21 rfl) (by unfold z32; omega) ?_
        refine z_iald 57 (zdec DX10_feuds 22 rfl) rfl shp57 ⟨by omega, by omega⟩ ?_
        refine z_iconst 1 (zdec DX10_feuds 23 rfl) (by decide) ?_
        refine z_icmp_ne 52 (zdec DX10_feuds 24 rfl) rfl (fun h38 => ?_) (fun h38 => ?_)
        ·
          refine z_iinc (L' := [(0, .inr (.inr 56)), (1, .inl h), (2, .inl (w + 1))]) 2 (zdec DX10_feuds 33 rfl) rfl (by unfold z32; omega) rfl (by decide) ?_
          refine z_goto 2 (zdec DX10_feuds 34 rfl) rfl ?_
          exact ih (w + 1) (by omega) ⟨by omega, by omega, fun j a b => (by by_cases e : j = w; (subst e; omega); exact hI.2.2 j a (by omega))⟩
        ·
          refine z_aload_n 0 (zdec DX10_feuds 25 rfl) rfl rfl (by decide) ?_
          refine z_getr (rw1 := -66) (ki := 0) (r' := 57) 56 10 (zdec DX10_feuds 26 rfl) rfl rfl shp56 rfl (by decide) rfl rfl fl_SixWallsModel_9 (zPa hP 57 rfl) ?_
          refine z_bipush 65 (zdec DX10_feuds 27 rfl) (by decide) ?_
          refine z_iload_n 2 (zdec DX10_feuds 28 rfl) rfl rfl ?_
          refine z_iadd (zdec DX10_feuds 29 rfl) (by unfold z32; omega) ?_
          refine z_iconst 0 (zdec DX10_feuds 30 rfl) (by decide) ?_
          refine z_iast 57 (zdec DX10_feuds 31 rfl) rfl shp57 ⟨by omega, by omega⟩ ?_
          exact z_vret (zdec DX10_feuds 32 rfl) rfl (by have e : zfeR M h = w := zff_hit (g := fun w => w) (p := fun w => (zlow w = h ∨ zhigh w = h) ∧ M 57 (65 + w) = 1) ⟨hI.1, by omega⟩ (by show w ≠ -1; omega) hI.2.2 ⟨by omega, by omega⟩; refine ⟨rfl, rfl, ?_⟩; unfold zfeuM; rw [e, if_neg (by omega)])
      ·
        refine z_aload_n 0 (zdec DX10_feuds 11 rfl) rfl rfl (by decide) ?_
        refine z_getr (rw1 := -66) (ki := 8) (r' := 62) 56 10 (zdec DX10_feuds 12 rfl) rfl rfl shp56 rfl (by decide) rfl rfl fl_SixWallsModel_25 (zPa hP 62 rfl) ?_
        refine z_iload_n 2 (zdec DX10_feuds 13 rfl) rfl rfl ?_
        refine z_iald 62 (zdec DX10_feuds 14 rfl) rfl shp62 ⟨by omega, by omega⟩ ?_
        rw [(hg w (by omega) (by omega)).2]
        refine z_iload_n 1 (zdec DX10_feuds 15 rfl) rfl rfl ?_
        refine z_icmp_ne 52 (zdec DX10_feuds 16 rfl) rfl (fun h25 => ?_) (fun h25 => ?_)
        ·
          refine z_iinc (L' := [(0, .inr (.inr 56)), (1, .inl h), (2, .inl (w + 1))]) 2 (zdec DX10_feuds 33 rfl) rfl (by unfold z32; omega) rfl (by decide) ?_
          refine z_goto 2 (zdec DX10_feuds 34 rfl) rfl ?_
          exact ih (w + 1) (by omega) ⟨by omega, by omega, fun j a b => (by by_cases e : j = w; (subst e; omega); exact hI.2.2 j a (by omega))⟩
        ·
          refine z_aload_n 0 (zdec DX10_feuds 17 rfl) rfl rfl (by decide) ?_
          refine z_getr (rw1 := -66) (ki := 0) (r' := 57) 56 10 (zdec DX10_feuds 18 rfl) rfl rfl shp56 rfl (by decide) rfl rfl fl_SixWallsModel_9 (zPa hP 57 rfl) ?_
          refine z_bipush 65 (zdec DX10_feuds 19 rfl) (by decide) ?_
          refine z_iload_n 2 (zdec DX10_feuds 20 rfl) rfl rfl ?_
          refine z_iadd (zdec DX10_feuds 21 rfl) (by unfold z32; omega) ?_
          refine z_iald 57 (zdec DX10_feuds 22 rfl) rfl shp57 ⟨by omega, by omega⟩ ?_
          refine z_iconst 1 (zdec DX10_feuds 23 rfl) (by decide) ?_
          refine z_icmp_ne 52 (zdec DX10_feuds 24 rfl) rfl (fun h38 => ?_) (fun h38 => ?_)
          ·
            refine z_iinc (L' := [(0, .inr (.inr 56)), (1, .inl h), (2, .inl (w + 1))]) 2 (zdec DX10_feuds 33 rfl) rfl (by unfold z32; omega) rfl (by decide) ?_
            refine z_goto 2 (zdec DX10_feuds 34 rfl) rfl ?_
            exact ih (w + 1) (by omega) ⟨by omega, by omega, fun j a b => (by by_cases e : j = w; (subst e; omega); exact hI.2.2 j a (by omega))⟩
          ·
            refine z_aload_n 0 (zdec DX10_feuds 25 rfl) rfl rfl (by decide) ?_
            refine z_getr (rw1 := -66) (ki := 0) (r' := 57) 56 10 (zdec DX10_feuds 26 rfl) rfl rfl shp56 rfl (by decide) rfl rfl fl_SixWallsModel_9 (zPa hP 57 rfl) ?_
            refine z_bipush 65 (zdec DX10_feuds 27 rfl) (by decide) ?_
            refine z_iload_n 2 (zdec DX10_feuds 28 rfl) rfl rfl ?_
            refine z_iadd (zdec DX10_feuds 29 rfl) (by unfold z32; omega) ?_
            refine z_iconst 0 (zdec DX10_feuds 30 rfl) (by decide) ?_
            refine z_iast 57 (zdec DX10_feuds 31 rfl) rfl shp57 ⟨by omega, by omega⟩ ?_
            exact z_vret (zdec DX10_feuds 32 rfl) rfl (by have e : zfeR M h = w := zff_hit (g := fun w => w) (p := fun w => (zlow w = h ∨ zhigh w = h) ∧ M 57 (65 + w) = 1) ⟨hI.1, by omega⟩ (by show w ≠ -1; omega) hI.2.2 ⟨by omega, by omega⟩; refine ⟨rfl, rfl, ?_⟩; unfold zfeuM; rw [e, if_neg (by omega)])
set_option maxHeartbeats 4000000 in
theorem cX10_feuds {M : zMm} (hP : zP M) (hg : zGr M) (hR : zRr M) (h : Int) (hh : 0 ≤ h ∧ h < 16) : zW mX10_feuds 2 (fun rv S' M' => S' = zS0 ∧ rv = none ∧ M' = zfeuM M h) (0, 0) zS0 0 (zargs 0 [.inr (.inr 56), .inl h]) [] M := by
  change zW _ _ _ _ _ 0 [(0, .inr (.inr 56)), (1, .inl h)] [] M
  refine z_iconst 0 (zdec DX10_feuds 0 rfl) (by decide) ?_
  refine z_istore_n (L' := [(0, .inr (.inr 56)), (1, .inl h), (2, .inl 0)]) (zdec DX10_feuds 1 rfl) rfl rfl (by decide) ?_
  refine lp_X10_feuds_2 hP hg hR h hh (hx58 := fun hx => ?_) _ 0 (Nat.lt_succ_self _) ⟨by omega, by omega, fun j a b => by omega⟩
  exact z_vret (zdec DX10_feuds 35 rfl) rfl (⟨rfl, rfl, by unfold zfeuM; rw [hx, if_pos (by decide)]⟩)
theorem zyr_go {M0 M3 M4 : zMm} {z0 z3 z4 h : Int} (hI : 0 ≤ h ∧ h ≤ 16 ∧ zoF M0 M3 ∧ zRr M3 ∧ (M3, z3) = zfo zyrM (M0, z0) h) (hh : h < 16) (e : (M4, z4) = zyrM (M3, z3) h) : 0 ≤ h + 1 ∧ h + 1 ≤ 16 ∧ zoF M0 M4 ∧ zRr M4 ∧ (M4, z4) = zfo zyrM (M0, z0) (h + 1) := by
  have o1 := zyrM_o (st := (M3, z3)) h
  have r1 := zyrM_R (st := (M3, z3)) hI.2.2.2.1 ⟨hI.1, hh⟩
  rw [← e] at o1 r1
  exact ⟨by omega, by omega, hI.2.2.1.tr o1, r1, by rw [zfo_s _ _ hI.1, ← hI.2.2.2.2]; exact e⟩
theorem zyr_liv {M3 M4 : zMm} {z3 h d : Int} (hl : M3 64 h ≠ 0) (ed : d = zw (Int.tmod (zushr (zdraw z3) 8) 12)) (em : M4 = zbefM M3 h d) : (M4, zdraw z3) = zyrM (M3, z3) h := by
  unfold zyrM
  rw [if_neg hl, em, ed]
theorem zyr_emp {M3 : zMm} {z3 h : Int} (hl : M3 64 h = 0) : (M3, z3) = zyrM (M3, z3) h := by
  unfold zyrM
  rw [if_pos hl]
set_option maxHeartbeats 4000000 in
theorem lp_X10_years_28 {Q : zPost} {M0 : zMm} (hP : zP M0) (hg : zGr M0) (hR : zRr M0) (z0 ny k : Int) (hx178 : ∀ (z3 : Int) (M3 : zMm), (zoF M0 M3 ∧ zRr M3 ∧ (M3, z3) = zfo zyrM (M0, z0) 16) → zW mX10_years 4 Q (0, 0) zS0 178 [(0, .inr (.inr 56)), (2, .inl ny), (3, .inl z3), (4, .inl k)] [] M3) : ∀ (n : Nat) (z3 : Int) (h : Int) (M3 : zMm), (16 - h).toNat < n → (0 ≤ h ∧ h ≤ 16 ∧ zoF M0 M3 ∧ zRr M3 ∧ (M3, z3) = zfo zyrM (M0, z0) h) → zW mX10_years 4 Q (0, 0) zS0 28 [(0, .inr (.inr 56)), (2, .inl ny), (3, .inl z3), (4, .inl k), (5, .inl h)] [] M3 := by
  intro n
  induction n with
  | zero => intro z3 h M3 hn; exact absurd hn (Nat.not_lt_zero _)
  | succ n ih =>
    intro z3 h M3 hn hI
    have hbh := hI.2.2.2.1.1 h hI.1
    refine z_iload 4 (zdec DX10_years 17 rfl) rfl ?_
    refine z_bipush 16 (zdec DX10_years 18 rfl) (by decide) ?_
    refine z_icmp_ge 178 (zdec DX10_years 19 rfl) rfl (fun h32 => ?_) (fun h32 => ?_)
    ·
      refine z_weak (L' := [(0, .inr (.inr 56)), (2, .inl ny), (3, .inl z3), (4, .inl k)]) (by simp) ?_
      exact hx178 z3 M3 (by have e : h = 16 := (by omega); subst e; exact hI.2.2)
    ·
      refine z_aload_n 0 (zdec DX10_years 20 rfl) rfl rfl (by decide) ?_
      refine z_getr (rw1 := -66) (ki := 10) (r' := 64) 56 10 (zdec DX10_years 21 rfl) rfl rfl shp56 rfl (by decide) rfl rfl fl_SixWallsModel_31 (zPa (hI.2.2.1.P hP) 64 rfl) ?_
      refine z_iload 4 (zdec DX10_years 22 rfl) rfl ?_
      refine z_zald 64 (zdec DX10_years 23 rfl) rfl shp64 ⟨by omega, by omega⟩ (fun hz41 => ?_)
      refine z_if_ne 48 (zdec DX10_years 24 rfl) rfl (fun h42 => ?_) (fun h42 => ?_)
      ·
        refine z_iload_n 2 (zdec DX10_years 26 rfl) rfl rfl ?_
        refine z_ldcw 1103515245 (zdec DX10_years 27 rfl) kc_SixWallsModel_308 rfl ⟨by decide, by decide⟩ ?_
        refine z_imulw (zdec DX10_years 28 rfl) ?_
        refine z_sipush 12345 (zdec DX10_years 29 rfl) (by decide) ?_
        refine z_iaddw (zdec DX10_years 30 rfl) ?_
        change zW _ _ _ _ _ _ _ (.inl (zdraw z3) :: _) _
        refine z_istore_n (L' := [(0, .inr (.inr 56)), (2, .inl ny), (3, .inl (zdraw z3)), (4, .inl k), (5, .inl h)]) (zdec DX10_years 31 rfl) rfl rfl (by decide) ?_
        refine z_iload_n 2 (zdec DX10_years 32 rfl) rfl rfl ?_
        refine z_bipush 8 (zdec DX10_years 33 rfl) (by decide) ?_
        refine z_iushr (zdec DX10_years 34 rfl) ?_
        refine z_bipush 12 (zdec DX10_years 35 rfl) (by decide) ?_
        refine z_iremw (zdec DX10_years 36 rfl) (by omega) ?_
        obtain ⟨d, ed⟩ : ∃ x, x = (zw (Int.tmod (zushr (zdraw z3) 8) 12)) := ⟨_, rfl⟩
        rw [← ed]
        refine z_tsw (zdec DX10_years 37 rfl) (by decide) (fun j off hj he => ?_) (fun hd => ?_)
        · match j, hj, he with
          | 0, hj, he =>
            cases hj
            refine ⟨96, rfl, ?_⟩
            have h65 : d = 0 := by simpa using he
            refine z_aload_n 0 (zdec DX10_years 38 rfl) rfl rfl (by decide) ?_
            refine z_iload 4 (zdec DX10_years 39 rfl) rfl ?_
            refine z_inv mX10_isBorn 56 10 [.inl h] (zdec DX10_years 40 rfl) ml_SixWallsModel_309 okX10_isBorn rfl shp56 rfl rfl rfl rfl (Nat.le_of_ble_eq_true rfl) (Nat.le_of_ble_eq_true rfl) (b' := (0, 0)) ⟨Nat.le_refl 0, Nat.le_refl 0⟩ (Nat.le_of_ble_eq_true rfl) (cX10_isBorn (hI.2.2.1.P hP) (hI.2.2.1.g hg) hI.2.2.2.1 h ⟨by omega, by omega⟩) (fun rv9 S9 M99 h9 => ?_)
            obtain ⟨rfl, rfl, x1⟩ := h9
            change zW _ _ _ _ _ 102 [(0, .inr (.inr 56)), (2, .inl ny), (3, .inl (zdraw z3)), (4, .inl k), (5, .inl h)] [] M99
            refine z_goto 172 (zdec DX10_years 41 rfl) rfl ?_
            refine z_iinc (L' := [(0, .inr (.inr 56)), (2, .inl ny), (3, .inl (zdraw z3)), (4, .inl k), (5, .inl (h + 1))]) 4 (zdec DX10_years 79 rfl) rfl (by unfold z32; omega) rfl (by decide) ?_
            refine z_goto 28 (zdec DX10_years 80 rfl) rfl ?_
            exact ih (zdraw z3) (h + 1) M99 (by omega) (zyr_go hI (by omega) (zyr_liv (by omega) ed (by unfold zbefM; first | (rw [if_pos (by omega)]; exact x1) | (rw [if_neg (by omega), if_pos (by omega)]; exact x1) | (rw [if_neg (by omega), if_neg (by omega), if_pos (by omega), if_pos (by omega)]; done) | (rw [if_neg (by omega), if_neg (by omega), if_pos (by omega), if_neg (by omega)]; done) | (rw [if_neg (by omega), if_neg (by omega), if_neg (by omega), if_pos (by omega), if_pos (by omega)]; done) | (rw [if_neg (by omega), if_neg (by omega), if_neg (by omega), if_pos (by omega), if_neg (by omega)]; done) | (rw [if_neg (by omega), if_neg (by omega), if_neg (by omega), if_neg (by omega)]; done))))
          | 1, hj, he =>
            cases hj
            refine ⟨105, rfl, ?_⟩
            have h65 : d = 1 := by simpa using he
            refine z_aload_n 0 (zdec DX10_years 42 rfl) rfl rfl (by decide) ?_
            refine z_iload 4 (zdec DX10_years 43 rfl) rfl ?_
            refine z_inv mX10_feuds 56 10 [.inl h] (zdec DX10_years 44 rfl) ml_SixWallsModel_312 okX10_feuds rfl shp56 rfl rfl rfl rfl (Nat.le_of_ble_eq_true rfl) (Nat.le_of_ble_eq_true rfl) (b' := (0, 0)) ⟨Nat.le_refl 0, Nat.le_refl 0⟩ (Nat.le_of_ble_eq_true rfl) (cX10_feuds (hI.2.2.1.P hP) (hI.2.2.1.g hg) hI.2.2.2.1 h ⟨by omega, by omega⟩) (fun rv9 S9 M108 h9 => ?_)
            obtain ⟨rfl, rfl, x1⟩ := h9
            change zW _ _ _ _ _ 111 [(0, .inr (.inr 56)), (2, .inl ny), (3, .inl (zdraw z3)), (4, .inl k), (5, .inl h)] [] M108
            refine z_goto 172 (zdec DX10_years 45 rfl) rfl ?_
            refine z_iinc (L' := [(0, .inr (.inr 56)), (2, .inl ny), (3, .inl (zdraw z3)), (4, .inl k), (5, .inl (h + 1))]) 4 (zdec DX10_years 79 rfl) rfl (by unfold z32; omega) rfl (by decide) ?_
            refine z_goto 28 (zdec DX10_years 80 rfl) rfl ?_
            exact ih (zdraw z3) (h + 1) M108 (by omega) (zyr_go hI (by omega) (zyr_liv (by omega) ed (by unfold zbefM; first | (rw [if_pos (by omega)]; exact x1) | (rw [if_neg (by omega), if_pos (by omega)]; exact x1) | (rw [if_neg (by omega), if_neg (by omega), if_pos (by omega), if_pos (by omega)]; done) | (rw [if_neg (by omega), if_neg (by omega), if_pos (by omega), if_neg (by omega)]; done) | (rw [if_neg (by omega), if_neg (by omega), if_neg (by omega), if_pos (by omega), if_pos (by omega)]; done) | (rw [if_neg (by omega), if_neg (by omega), if_neg (by omega), if_pos (by omega), if_neg (by omega)]; done) | (rw [if_neg (by omega), if_neg (by omega), if_neg (by omega), if_neg (by omega)]; done))))
          | 2, hj, he =>
            cases hj
            refine ⟨114, rfl, ?_⟩
            have h65 : d = 2 := by simpa using he
            refine z_aload_n 0 (zdec DX10_years 46 rfl) rfl rfl (by decide) ?_
            refine z_getr (rw1 := -66) (ki := 0) (r' := 57) 56 10 (zdec DX10_years 47 rfl) rfl rfl shp56 rfl (by decide) rfl rfl fl_SixWallsModel_9 (zPa (hI.2.2.1.P hP) 57 rfl) ?_
            refine z_iload 4 (zdec DX10_years 48 rfl) rfl ?_
            refine z_dup2 (zdec DX10_years 49 rfl) rfl rfl ?_
            refine z_iald 57 (zdec DX10_years 50 rfl) rfl shp57 ⟨by omega, by omega⟩ ?_
            refine z_aload_n 0 (zdec DX10_years 51 rfl) rfl rfl (by decide) ?_
            refine z_getr (rw1 := -66) (ki := 0) (r' := 57) 56 10 (zdec DX10_years 52 rfl) rfl rfl shp56 rfl (by decide) rfl rfl fl_SixWallsModel_9 (zPa (hI.2.2.1.P hP) 57 rfl) ?_
            refine z_iload 4 (zdec DX10_years 53 rfl) rfl ?_
            refine z_iald 57 (zdec DX10_years 54 rfl) rfl shp57 ⟨by omega, by omega⟩ ?_
            refine z_bipush 9 (zdec DX10_years 55 rfl) (by decide) ?_
            refine z_icmp_ge 138 (zdec DX10_years 56 rfl) rfl (fun h131 => ?_) (fun h131 => ?_)
            ·
              refine z_iconst 0 (zdec DX10_years 59 rfl) (by decide) ?_
              refine z_iadd (zdec DX10_years 60 rfl) (by unfold z32; omega) ?_
              refine z_iast 57 (zdec DX10_years 61 rfl) rfl shp57 ⟨by omega, by omega⟩ ?_
              refine z_goto 172 (zdec DX10_years 62 rfl) rfl ?_
              refine z_iinc (L' := [(0, .inr (.inr 56)), (2, .inl ny), (3, .inl (zdraw z3)), (4, .inl k), (5, .inl (h + 1))]) 4 (zdec DX10_years 79 rfl) rfl (by unfold z32; omega) rfl (by decide) ?_
              refine z_goto 28 (zdec DX10_years 80 rfl) rfl ?_
              exact ih (zdraw z3) (h + 1) (zup M3 57 h ((M3 57 h) + 0)) (by omega) (zyr_go hI (by omega) (zyr_liv (by omega) ed (by unfold zbefM; first | (rw [if_pos (by omega)]; exact x1) | (rw [if_neg (by omega), if_pos (by omega)]; exact x1) | (rw [if_neg (by omega), if_neg (by omega), if_pos (by omega), if_pos (by omega)]; done) | (rw [if_neg (by omega), if_neg (by omega), if_pos (by omega), if_neg (by omega)]; done) | (rw [if_neg (by omega), if_neg (by omega), if_neg (by omega), if_pos (by omega), if_pos (by omega)]; done) | (rw [if_neg (by omega), if_neg (by omega), if_neg (by omega), if_pos (by omega), if_neg (by omega)]; done) | (rw [if_neg (by omega), if_neg (by omega), if_neg (by omega), if_neg (by omega)]; done))))
            ·
              refine z_iconst 1 (zdec DX10_years 57 rfl) (by decide) ?_
              refine z_goto 139 (zdec DX10_years 58 rfl) rfl ?_
              refine z_iadd (zdec DX10_years 60 rfl) (by unfold z32; omega) ?_
              refine z_iast 57 (zdec DX10_years 61 rfl) rfl shp57 ⟨by omega, by omega⟩ ?_
              refine z_goto 172 (zdec DX10_years 62 rfl) rfl ?_
              refine z_iinc (L' := [(0, .inr (.inr 56)), (2, .inl ny), (3, .inl (zdraw z3)), (4, .inl k), (5, .inl (h + 1))]) 4 (zdec DX10_years 79 rfl) rfl (by unfold z32; omega) rfl (by decide) ?_
              refine z_goto 28 (zdec DX10_years 80 rfl) rfl ?_
              exact ih (zdraw z3) (h + 1) (zup M3 57 h ((M3 57 h) + 1)) (by omega) (zyr_go hI (by omega) (zyr_liv (by omega) ed (by unfold zbefM; first | (rw [if_pos (by omega)]; exact x1) | (rw [if_neg (by omega), if_pos (by omega)]; exact x1) | (rw [if_neg (by omega), if_neg (by omega), if_pos (by omega), if_pos (by omega)]; done) | (rw [if_neg (by omega), if_neg (by omega), if_pos (by omega), if_neg (by omega)]; done) | (rw [if_neg (by omega), if_neg (by omega), if_neg (by omega), if_pos (by omega), if_pos (by omega)]; done) | (rw [if_neg (by omega), if_neg (by omega), if_neg (by omega), if_pos (by omega), if_neg (by omega)]; done) | (rw [if_neg (by omega), if_neg (by omega), if_neg (by omega), if_neg (by omega)]; done))))
          | 3, hj, he =>
            cases hj
            refine ⟨144, rfl, ?_⟩
            have h65 : d = 3 := by simpa using he
            refine z_aload_n 0 (zdec DX10_years 63 rfl) rfl rfl (by decide) ?_
            refine z_getr (rw1 := -66) (ki := 0) (r' := 57) 56 10 (zdec DX10_years 64 rfl) rfl rfl shp56 rfl (by decide) rfl rfl fl_SixWallsModel_9 (zPa (hI.2.2.1.P hP) 57 rfl) ?_
            refine z_iload 4 (zdec DX10_years 65 rfl) rfl ?_
            refine z_dup2 (zdec DX10_years 66 rfl) rfl rfl ?_
            refine z_iald 57 (zdec DX10_years 67 rfl) rfl shp57 ⟨by omega, by omega⟩ ?_
            refine z_aload_n 0 (zdec DX10_years 68 rfl) rfl rfl (by decide) ?_
            refine z_getr (rw1 := -66) (ki := 0) (r' := 57) 56 10 (zdec DX10_years 69 rfl) rfl rfl shp56 rfl (by decide) rfl rfl fl_SixWallsModel_9 (zPa (hI.2.2.1.P hP) 57 rfl) ?_
            refine z_iload 4 (zdec DX10_years 70 rfl) rfl ?_
            refine z_iald 57 (zdec DX10_years 71 rfl) rfl shp57 ⟨by omega, by omega⟩ ?_
            refine z_if_le 166 (zdec DX10_years 72 rfl) rfl (fun h159 => ?_) (fun h159 => ?_)
            ·
              refine z_iconst 0 (zdec DX10_years 75 rfl) (by decide) ?_
              refine z_isub (zdec DX10_years 76 rfl) (by unfold z32; omega) ?_
              refine z_iast 57 (zdec DX10_years 77 rfl) rfl shp57 ⟨by omega, by omega⟩ ?_
              refine z_goto 172 (zdec DX10_years 78 rfl) rfl ?_
              refine z_iinc (L' := [(0, .inr (.inr 56)), (2, .inl ny), (3, .inl (zdraw z3)), (4, .inl k), (5, .inl (h + 1))]) 4 (zdec DX10_years 79 rfl) rfl (by unfold z32; omega) rfl (by decide) ?_
              refine z_goto 28 (zdec DX10_years 80 rfl) rfl ?_
              exact ih (zdraw z3) (h + 1) (zup M3 57 h ((M3 57 h) - 0)) (by omega) (zyr_go hI (by omega) (zyr_liv (by omega) ed (by unfold zbefM; first | (rw [if_pos (by omega)]; exact x1) | (rw [if_neg (by omega), if_pos (by omega)]; exact x1) | (rw [if_neg (by omega), if_neg (by omega), if_pos (by omega), if_pos (by omega)]; done) | (rw [if_neg (by omega), if_neg (by omega), if_pos (by omega), if_neg (by omega)]; done) | (rw [if_neg (by omega), if_neg (by omega), if_neg (by omega), if_pos (by omega), if_pos (by omega)]; done) | (rw [if_neg (by omega), if_neg (by omega), if_neg (by omega), if_pos (by omega), if_neg (by omega)]; done) | (rw [if_neg (by omega), if_neg (by omega), if_neg (by omega), if_neg (by omega)]; done))))
            ·
              refine z_iconst 1 (zdec DX10_years 73 rfl) (by decide) ?_
              refine z_goto 167 (zdec DX10_years 74 rfl) rfl ?_
              refine z_isub (zdec DX10_years 76 rfl) (by unfold z32; omega) ?_
              refine z_iast 57 (zdec DX10_years 77 rfl) rfl shp57 ⟨by omega, by omega⟩ ?_
              refine z_goto 172 (zdec DX10_years 78 rfl) rfl ?_
              refine z_iinc (L' := [(0, .inr (.inr 56)), (2, .inl ny), (3, .inl (zdraw z3)), (4, .inl k), (5, .inl (h + 1))]) 4 (zdec DX10_years 79 rfl) rfl (by unfold z32; omega) rfl (by decide) ?_
              refine z_goto 28 (zdec DX10_years 80 rfl) rfl ?_
              exact ih (zdraw z3) (h + 1) (zup M3 57 h ((M3 57 h) - 1)) (by omega) (zyr_go hI (by omega) (zyr_liv (by omega) ed (by unfold zbefM; first | (rw [if_pos (by omega)]; exact x1) | (rw [if_neg (by omega), if_pos (by omega)]; exact x1) | (rw [if_neg (by omega), if_neg (by omega), if_pos (by omega), if_pos (by omega)]; done) | (rw [if_neg (by omega), if_neg (by omega), if_pos (by omega), if_neg (by omega)]; done) | (rw [if_neg (by omega), if_neg (by omega), if_neg (by omega), if_pos (by omega), if_pos (by omega)]; done) | (rw [if_neg (by omega), if_neg (by omega), if_neg (by omega), if_pos (by omega), if_neg (by omega)]; done) | (rw [if_neg (by omega), if_neg (by omega), if_neg (by omega), if_neg (by omega)]; done))))
          | j + 4, hj, he => exact absurd (List.getElem?_eq_some_iff.mp hj).1 (by simp)
        · refine ⟨172, rfl, ?_⟩
          refine z_iinc (L' := [(0, .inr (.inr 56)), (2, .inl ny), (3, .inl (zdraw z3)), (4, .inl k), (5, .inl (h + 1))]) 4 (zdec DX10_years 79 rfl) rfl (by unfold z32; omega) rfl (by decide) ?_
          refine z_goto 28 (zdec DX10_years 80 rfl) rfl ?_
          exact ih (zdraw z3) (h + 1) M3 (by omega) (zyr_go hI (by omega) (zyr_liv (by omega) ed (by unfold zbefM; first | (rw [if_pos (by omega)]; exact x1) | (rw [if_neg (by omega), if_pos (by omega)]; exact x1) | (rw [if_neg (by omega), if_neg (by omega), if_pos (by omega), if_pos (by omega)]; done) | (rw [if_neg (by omega), if_neg (by omega), if_pos (by omega), if_neg (by omega)]; done) | (rw [if_neg (by omega), if_neg (by omega), if_neg (by omega), if_pos (by omega), if_pos (by omega)]; done) | (rw [if_neg (by omega), if_neg (by omega), if_neg (by omega), if_pos (by omega), if_neg (by omega)]; done) | (rw [if_neg (by omega), if_neg (by omega), if_neg (by omega), if_neg (by omega)]; done))))
      ·
        refine z_goto 172 (zdec DX10_years 25 rfl) rfl ?_
        refine z_iinc (L' := [(0, .inr (.inr 56)), (2, .inl ny), (3, .inl z3), (4, .inl k), (5, .inl (h + 1))]) 4 (zdec DX10_years 79 rfl) rfl (by unfold z32; omega) rfl (by decide) ?_
        refine z_goto 28 (zdec DX10_years 80 rfl) rfl ?_
        exact ih z3 (h + 1) M3 (by omega) (zyr_go hI (by omega) (zyr_emp (by omega)))
set_option maxHeartbeats 4000000 in
theorem lp_X10_years_19 {Q : zPost} {M : zMm} (hP : zP M) (hg : zGr M) (hR : zRr M) (z ny : Int) (hn : ny ≤ 20) (hx184 : ∀ (z2 : Int) (k : Int) (M2 : zMm), (zoF M M2 ∧ zRr M2 ∧ (M2, z2) = zgrM (M, z) k ∧ ny ≤ k ∧ (k ≤ ny ∨ k = 0)) → zW mX10_years 4 Q (0, 0) zS0 184 [(0, .inr (.inr 56)), (2, .inl ny), (3, .inl z2), (4, .inl k)] [] M2) : ∀ (n : Nat) (z2 : Int) (k : Int) (M2 : zMm), (ny - k).toNat < n → (0 ≤ k ∧ (k ≤ ny ∨ k = 0) ∧ zoF M M2 ∧ zRr M2 ∧ (M2, z2) = zgrM (M, z) k) → zW mX10_years 4 Q (0, 0) zS0 19 [(0, .inr (.inr 56)), (2, .inl ny), (3, .inl z2), (4, .inl k)] [] M2 := by
  intro n
  induction n with
  | zero => intro z2 k M2 hn; exact absurd hn (Nat.not_lt_zero _)
  | succ n ih =>
    intro z2 k M2 hn hI
    refine z_iload 3 (zdec DX10_years 12 rfl) rfl ?_
    refine z_iload_n 1 (zdec DX10_years 13 rfl) rfl rfl ?_
    refine z_icmp_ge 184 (zdec DX10_years 14 rfl) rfl (fun h22 => ?_) (fun h22 => ?_)
    ·
      exact hx184 z2 k M2 ⟨hI.2.2.1, hI.2.2.2.1, hI.2.2.2.2, by omega, hI.2.1⟩
    ·
      refine z_iconst 0 (zdec DX10_years 15 rfl) (by decide) ?_
      refine z_istore (L' := [(0, .inr (.inr 56)), (2, .inl ny), (3, .inl z2), (4, .inl k), (5, .inl 0)]) (zdec DX10_years 16 rfl) rfl (by decide) ?_
      refine lp_X10_years_28 (hI.2.2.1.P hP) (hI.2.2.1.g hg) hI.2.2.2.1 z2 ny k (hx178 := fun z3 M3 hy => ?_) _ z2 0 M2 (Nat.lt_succ_self _) ⟨by omega, by omega, zoF.rf, hI.2.2.2.1, rfl⟩
      refine z_iinc (L' := [(0, .inr (.inr 56)), (2, .inl ny), (3, .inl z3), (4, .inl (k + 1))]) 3 (zdec DX10_years 81 rfl) rfl (by unfold z32; omega) rfl (by decide) ?_
      refine z_goto 19 (zdec DX10_years 82 rfl) rfl ?_
      exact ih z3 (k + 1) M3 (by omega) ⟨by omega, by omega, hI.2.2.1.tr hy.1, hy.2.1, (by unfold zgrM; rw [zfo_s _ _ hI.1]; have e := hI.2.2.2.2; unfold zgrM at e; rw [← e]; exact hy.2.2)⟩
set_option maxHeartbeats 4000000 in
theorem cX10_years {M : zMm} (hP : zP M) (hg : zGr M) (hR : zRr M) (z ny : Int) : zW mX10_years 4 (fun rv S' M' => S' = zS0 ∧ ((¬ (1 ≤ ny ∧ ny ≤ 20) ∧ rv = some (.inl (-1)) ∧ M = M') ∨ ((1 ≤ ny ∧ ny ≤ 20) ∧ rv = some (.inl (zsum (M' 64) 16)) ∧ M' = (zgrM (M, z) ny).1 ∧ zoF M M' ∧ zRr M'))) (0, 0) zS0 0 (zargs 0 [.inr (.inr 56), .inl z, .inl ny]) [] M := by
  change zW _ _ _ _ _ 0 [(0, .inr (.inr 56)), (1, .inl z), (2, .inl ny)] [] M
  refine z_iload_n 2 (zdec DX10_years 0 rfl) rfl rfl ?_
  refine z_i2l (zdec DX10_years 1 rfl) ?_
  refine z_lconst 1 (zdec DX10_years 2 rfl) rfl ?_
  refine z_ldc2 20 (zdec DX10_years 3 rfl) kl_SixWallsModel_171 rfl ⟨by decide, by decide⟩ ?_
  refine z_invs mX10_within [.inr (.inl ny), .inr (.inl 1), .inr (.inl 20)] (zdec DX10_years 4 rfl) (Or.inl ml_SixWallsModel_112) okX10_within rfl rfl (Nat.le_of_ble_eq_true rfl) (Nat.le_of_ble_eq_true rfl) (b' := (0, 0)) ⟨Nat.le_refl 0, Nat.le_refl 0⟩ (Nat.le_of_ble_eq_true rfl) (cX10_within ny 1 20) (fun rv9 S9 M6 h9 => ?_)
  obtain ⟨rfl, rfl, rfl⟩ := h9
  change zW _ _ _ _ _ 9 [(0, .inr (.inr 56)), (1, .inl z), (2, .inl ny)] [.inl (zb (1 ≤ ny ∧ ny ≤ 20))] M
  refine z_if_ne 14 (zdec DX10_years 5 rfl) rfl (fun h9 => ?_) (fun h9 => ?_)
  ·
    have q9 := zb_ne0.mp h9
    refine z_iload_n 1 (zdec DX10_years 8 rfl) rfl rfl ?_
    refine z_istore_n (L' := [(0, .inr (.inr 56)), (1, .inl z), (2, .inl ny), (3, .inl z)]) (zdec DX10_years 9 rfl) rfl rfl (by decide) ?_
    refine z_iconst 0 (zdec DX10_years 10 rfl) (by decide) ?_
    refine z_istore (L' := [(0, .inr (.inr 56)), (1, .inl z), (2, .inl ny), (3, .inl z), (4, .inl 0)]) (zdec DX10_years 11 rfl) rfl (by decide) ?_
    refine z_weak (L' := [(0, .inr (.inr 56)), (2, .inl ny), (3, .inl z), (4, .inl 0)]) (by simp) ?_
    refine lp_X10_years_19 hP hg hR z ny q9.2 (hx184 := fun z2 k M2 hx => ?_) _ z 0 M (Nat.lt_succ_self _) ⟨by omega, Or.inr rfl, zoF.rf, hR, rfl⟩
    refine z_aload_n 0 (zdec DX10_years 83 rfl) rfl rfl (by decide) ?_
    refine z_inv mX10_livedIn 56 10 [] (zdec DX10_years 84 rfl) ml_SixWallsModel_270 okX10_livedIn rfl shp56 rfl rfl rfl rfl (Nat.le_of_ble_eq_true rfl) (Nat.le_of_ble_eq_true rfl) (b' := (0, 0)) ⟨Nat.le_refl 0, Nat.le_refl 0⟩ (Nat.le_of_ble_eq_true rfl) (cX10_livedIn (hx.1.P hP) (hx.1.g hg) hx.2.1) (fun rv9 S9 M185 h9 => ?_)
    obtain ⟨rfl, rfl, r1, rfl, k1⟩ := h9
    have b1 := k1.1
    have e1 := zst_sum k1 (fun i a b => (hx.2.1.1 i a b).1)
    change zW _ _ _ _ _ 188 [(0, .inr (.inr 56)), (2, .inl ny), (3, .inl z2), (4, .inl k)] [.inl r1] M2
    refine z_i2l (zdec DX10_years 85 rfl) ?_
    refine z_invs mX10_bitsOf [.inr (.inl r1)] (zdec DX10_years 86 rfl) (Or.inl ml_SixWallsModel_277) okX10_bitsOf rfl rfl (Nat.le_of_ble_eq_true rfl) (Nat.le_of_ble_eq_true rfl) (b' := (0, 0)) ⟨Nat.le_refl 0, Nat.le_refl 0⟩ (Nat.le_of_ble_eq_true rfl) (cX10_bitsOf r1 ⟨by omega, by omega⟩) (fun rv9 S9 M189 h9 => ?_)
    obtain ⟨rfl, rfl, rfl⟩ := h9
    change zW _ _ _ _ _ 192 [(0, .inr (.inr 56)), (2, .inl ny), (3, .inl z2), (4, .inl k)] [.inl (zpn 62 (r1).toNat)] M2
    exact z_iret (zdec DX10_years 87 rfl) rfl (⟨rfl, Or.inr ⟨q9, zri e1, (by have e2 := hx.2.2.1; rw [show k = ny by omega] at e2; rw [← e2]), hx.1, hx.2.1⟩⟩)
  ·
    have q9 : ¬ (1 ≤ ny ∧ ny ≤ 20) := fun e => h9 (zb_ne0.mpr e)
    refine z_iconst (-1) (zdec DX10_years 6 rfl) (by decide) ?_
    exact z_iret (zdec DX10_years 7 rfl) rfl (⟨rfl, Or.inl ⟨q9, rfl, rfl⟩⟩)
set_option maxHeartbeats 4000000 in
theorem lp_X10_allWarmth_4 {Q : zPost} {M : zMm} (hP : zP M) (hb : zbW (M 63)) (hx25 : ∀ (a : Int), (a = zsum (M 63) 16) → zW mX10_allWarmth 1 Q (0, 0) zS0 25 [(1, .inl a)] [] M) : ∀ (n : Nat) (a : Int) (h : Int), (16 - h).toNat < n → (0 ≤ h ∧ h ≤ 16 ∧ (0 ≤ a ∧ a ≤ 99 * h) ∧ a = zsum (M 63) h) → zW mX10_allWarmth 1 Q (0, 0) zS0 4 [(0, .inr (.inr 56)), (1, .inl a), (2, .inl h)] [] M := by
  intro n
  induction n with
  | zero => intro a h hn; exact absurd hn (Nat.not_lt_zero _)
  | succ n ih =>
    intro a h hn hI
    have hbh := hb h hI.1
    refine z_iload_n 2 (zdec DX10_allWarmth 4 rfl) rfl rfl ?_
    refine z_bipush 16 (zdec DX10_allWarmth 5 rfl) (by decide) ?_
    refine z_icmp_ge 25 (zdec DX10_allWarmth 6 rfl) rfl (fun h7 => ?_) (fun h7 => ?_)
    ·
      refine z_weak (L' := [(1, .inl a)]) (by simp) ?_
      exact hx25 a (by rw [hI.2.2.2, show h = 16 by omega])
    ·
      refine z_iload_n 1 (zdec DX10_allWarmth 7 rfl) rfl rfl ?_
      refine z_aload_n 0 (zdec DX10_allWarmth 8 rfl) rfl rfl (by decide) ?_
      refine z_getr (rw1 := -66) (ki := 9) (r' := 63) 56 10 (zdec DX10_allWarmth 9 rfl) rfl rfl shp56 rfl (by decide) rfl rfl fl_SixWallsModel_28 (zPa hP 63 rfl) ?_
      refine z_iload_n 2 (zdec DX10_allWarmth 10 rfl) rfl rfl ?_
      refine z_iald 63 (zdec DX10_allWarmth 11 rfl) rfl shp63 ⟨by omega, by omega⟩ ?_
      refine z_iadd (zdec DX10_allWarmth 12 rfl) (by unfold z32; omega) ?_
      refine z_istore_n (L' := [(0, .inr (.inr 56)), (1, .inl (a + (M 63 h))), (2, .inl h)]) (zdec DX10_allWarmth 13 rfl) rfl rfl (by decide) ?_
      refine z_iinc (L' := [(0, .inr (.inr 56)), (1, .inl (a + (M 63 h))), (2, .inl (h + 1))]) 2 (zdec DX10_allWarmth 14 rfl) rfl (by unfold z32; omega) rfl (by decide) ?_
      refine z_goto 4 (zdec DX10_allWarmth 15 rfl) rfl ?_
      exact ih (a + (M 63 h)) (h + 1) (by omega) ⟨by omega, by omega, by omega, by rw [zsum_s _ hI.1, hI.2.2.2]⟩
set_option maxHeartbeats 4000000 in
theorem cX10_allWarmth {M : zMm} (hP : zP M) (hb : zbW (M 63)) : zW mX10_allWarmth 1 (fun rv S' M' => S' = zS0 ∧ M = M' ∧ rv = some (.inl (zsum (M 63) 16))) (0, 0) zS0 0 (zargs 0 [.inr (.inr 56)]) [] M := by
  change zW _ _ _ _ _ 0 [(0, .inr (.inr 56))] [] M
  refine z_iconst 0 (zdec DX10_allWarmth 0 rfl) (by decide) ?_
  refine z_istore_n (L' := [(0, .inr (.inr 56)), (1, .inl 0)]) (zdec DX10_allWarmth 1 rfl) rfl rfl (by decide) ?_
  refine z_iconst 0 (zdec DX10_allWarmth 2 rfl) (by decide) ?_
  refine z_istore_n (L' := [(0, .inr (.inr 56)), (1, .inl 0), (2, .inl 0)]) (zdec DX10_allWarmth 3 rfl) rfl rfl (by decide) ?_
  refine lp_X10_allWarmth_4 hP hb (hx25 := fun a hx => ?_) _ 0 0 (Nat.lt_succ_self _) ⟨by omega, by omega, by omega, rfl⟩
  refine z_iload_n 0 (zdec DX10_allWarmth 16 rfl) rfl rfl ?_
  exact z_iret (zdec DX10_allWarmth 17 rfl) rfl (⟨rfl, rfl, zri hx⟩)
def zimR (M M' : zMm) : Prop := zH (M' 76) (M 63) ∧ zH (M' 77) (M 64) ∧ M' 56 31 = 1 ∧ (∀ j : Int, j ≠ 31 → M' 56 j = M 56 j) ∧ ∀ c : Int, c ≠ 56 → c ≠ 76 → c ≠ 77 → M' c = M c
def zbkR (M M' : zMm) : Prop := zH (M' 63) (M 76) ∧ zH (M' 64) (M 77) ∧ ∀ c : Int, c ≠ 63 → c ≠ 64 → M' c = M c
set_option maxHeartbeats 4000000 in
theorem lp_X10_image_7 {Q : zPost} {M : zMm} (hP : zP M) (hR : zRr M) (hx43 : ∀ (M2 : zMm), (zimR M M2) → zW mX10_image 2 Q (0, 0) zS0 43 [(0, .inr (.inr 56))] [] M2) : ∀ (n : Nat) (h : Int) (M2 : zMm), (16 - h).toNat < n → (0 ≤ h ∧ h ≤ 16 ∧ (∀ k : Int, 0 ≤ k → k < h → M2 76 k = M 63 k ∧ M2 77 k = M 64 k) ∧ M2 56 31 = 1 ∧ (∀ j : Int, j ≠ 31 → M2 56 j = M 56 j) ∧ ∀ c : Int, c ≠ 56 → c ≠ 76 → c ≠ 77 → M2 c = M c) → zW mX10_image 2 Q (0, 0) zS0 7 [(0, .inr (.inr 56)), (1, .inl h)] [] M2 := by
  intro n
  induction n with
  | zero => intro h M2 hn; exact absurd hn (Nat.not_lt_zero _)
  | succ n ih =>
    intro h M2 hn hI
    have r63 := congrFun (hI.2.2.2.2.2 63 (by decide) (by decide) (by decide)) h
    have r64 := congrFun (hI.2.2.2.2.2 64 (by decide) (by decide) (by decide)) h
    refine z_iload_n 1 (zdec DX10_image 5 rfl) rfl rfl ?_
    refine z_bipush 16 (zdec DX10_image 6 rfl) (by decide) ?_
    refine z_icmp_ge 43 (zdec DX10_image 7 rfl) rfl (fun h10 => ?_) (fun h10 => ?_)
    ·
      refine z_weak (L' := [(0, .inr (.inr 56))]) (by simp) ?_
      exact hx43 M2 (by have e : h = 16 := (by omega); subst e; exact ⟨fun k a b => (hI.2.2.1 k a b).1, fun k a b => (hI.2.2.1 k a b).2, hI.2.2.2⟩)
    ·
      refine z_aload_n 0 (zdec DX10_image 8 rfl) rfl rfl (by decide) ?_
      refine z_getr (rw1 := -66) (ki := 32) (r' := 76) 56 10 (zdec DX10_image 9 rfl) rfl rfl shp56 rfl (by decide) rfl rfl fl_SixWallsModel_68 (zPa (zP_of hP fun r hr => hI.2.2.2.2.2 r (by omega) (by omega) (by omega)) 76 rfl) ?_
      refine z_iload_n 1 (zdec DX10_image 10 rfl) rfl rfl ?_
      refine z_aload_n 0 (zdec DX10_image 11 rfl) rfl rfl (by decide) ?_
      refine z_getr (rw1 := -66) (ki := 9) (r' := 63) 56 10 (zdec DX10_image 12 rfl) rfl rfl shp56 rfl (by decide) rfl rfl fl_SixWallsModel_28 (zPa (zP_of hP fun r hr => hI.2.2.2.2.2 r (by omega) (by omega) (by omega)) 63 rfl) ?_
      refine z_iload_n 1 (zdec DX10_image 13 rfl) rfl rfl ?_
      refine z_iald 63 (zdec DX10_image 14 rfl) rfl shp63 ⟨by omega, by omega⟩ ?_
      refine z_iast 76 (zdec DX10_image 15 rfl) rfl shp76 ⟨by omega, by omega⟩ ?_
      refine z_aload_n 0 (zdec DX10_image 16 rfl) rfl rfl (by decide) ?_
      refine z_getr (rw1 := -66) (ki := 33) (r' := 77) 56 10 (zdec DX10_image 17 rfl) rfl rfl shp56 rfl (by decide) rfl rfl fl_SixWallsModel_71 (zPa (zP_up (zP_of hP fun r hr => hI.2.2.2.2.2 r (by omega) (by omega) (by omega)) (by decide)) 77 rfl) ?_
      refine z_iload_n 1 (zdec DX10_image 18 rfl) rfl rfl ?_
      refine z_aload_n 0 (zdec DX10_image 19 rfl) rfl rfl (by decide) ?_
      refine z_getr (rw1 := -66) (ki := 10) (r' := 64) 56 10 (zdec DX10_image 20 rfl) rfl rfl shp56 rfl (by decide) rfl rfl fl_SixWallsModel_31 (zPa (zP_up (zP_of hP fun r hr => hI.2.2.2.2.2 r (by omega) (by omega) (by omega)) (by decide)) 64 rfl) ?_
      refine z_iload_n 1 (zdec DX10_image 21 rfl) rfl rfl ?_
      refine z_zald 64 (zdec DX10_image 22 rfl) rfl shp64 ⟨by omega, by omega⟩ (fun hz35 => ?_)
      rw [show (zup M2 76 h (M2 63 h)) 64 h = M2 64 h from by simp [zup, zcpy]]
      rw [zup_row (by decide)] at hz35
      refine z_zast 77 (zdec DX10_image 23 rfl) rfl shp77 ⟨by omega, by omega⟩ (by omega) ?_
      refine z_iinc (L' := [(0, .inr (.inr 56)), (1, .inl (h + 1))]) 1 (zdec DX10_image 24 rfl) rfl (by unfold z32; omega) rfl (by decide) ?_
      refine z_goto 7 (zdec DX10_image 25 rfl) rfl ?_
      exact ih (h + 1) (zup (zup M2 76 h (M2 63 h)) 77 h (M2 64 h)) (by omega) ⟨by omega, by omega, (fun k a b => by rw [zup_row (c' := 76) (by decide), zup_zpu, zup_zpu, zup_row (c' := 77) (by decide)]; by_cases e : k = h; (subst e; rw [zpu_s, zpu_s]; exact ⟨r63, r64⟩); (rw [zpu_n e, zpu_n e]; exact hI.2.2.1 k a (by omega))), (by rw [zup_row (by decide), zup_row (by decide)]; exact hI.2.2.2.1), (fun j e => by rw [zup_row (by decide), zup_row (by decide)]; exact hI.2.2.2.2.1 j e), fun c a b d => by rw [zup_row d, zup_row b]; exact hI.2.2.2.2.2 c a b d⟩
set_option maxHeartbeats 4000000 in
theorem cX10_image {M : zMm} (hP : zP M) (hR : zRr M) : zW mX10_image 2 (fun rv S' M' => S' = zS0 ∧ rv = some (.inl (zsum (M 63) 16)) ∧ zimR M M') (0, 0) zS0 0 (zargs 0 [.inr (.inr 56)]) [] M := by
  change zW _ _ _ _ _ 0 [(0, .inr (.inr 56))] [] M
  refine z_aload_n 0 (zdec DX10_image 0 rfl) rfl rfl (by decide) ?_
  refine z_iconst 1 (zdec DX10_image 1 rfl) (by decide) ?_
  refine z_putz (ki := 31) 56 10 (zdec DX10_image 2 rfl) rfl shp56 rfl (by decide) rfl rfl fl_SixWallsModel_315 (Or.inl rfl) (by omega) ?_
  refine z_iconst 0 (zdec DX10_image 3 rfl) (by decide) ?_
  refine z_istore_n (L' := [(0, .inr (.inr 56)), (1, .inl 0)]) (zdec DX10_image 4 rfl) rfl rfl (by decide) ?_
  refine lp_X10_image_7 hP hR (hx43 := fun M2 hx => ?_) _ 0 (zup M 56 31 1) (Nat.lt_succ_self _) ⟨by omega, by omega, (fun k a b => by omega), zup_self _ _ _ _, (fun j e => zup_ne e), fun c a b d => zup_row a⟩
  refine z_aload_n 0 (zdec DX10_image 26 rfl) rfl rfl (by decide) ?_
  refine z_inv mX10_allWarmth 56 10 [] (zdec DX10_image 27 rfl) ml_SixWallsModel_319 okX10_allWarmth rfl shp56 rfl rfl rfl rfl (Nat.le_of_ble_eq_true rfl) (Nat.le_of_ble_eq_true rfl) (b' := (0, 0)) ⟨Nat.le_refl 0, Nat.le_refl 0⟩ (Nat.le_of_ble_eq_true rfl) (cX10_allWarmth (zP_of hP fun r hr => hx.2.2.2.2 r (by omega) (by omega) (by omega)) (by rw [hx.2.2.2.2 63 (by decide) (by decide) (by decide)]; exact fun k a b => (hR.1 k a b).2.2.1)) (fun rv9 S9 M44 h9 => ?_)
  obtain ⟨rfl, rfl, rfl⟩ := h9
  change zW _ _ _ _ _ 47 [(0, .inr (.inr 56))] [.inl (zsum (M2 63) 16)] M2
  exact z_iret (zdec DX10_image 28 rfl) rfl (⟨rfl, zri (by rw [hx.2.2.2.2 63 (by decide) (by decide) (by decide)]), hx⟩)
set_option maxHeartbeats 4000000 in
theorem lp_X10_back_12 {Q : zPost} {M : zMm} (hP : zP M) (hb : zbW (M 76)) (hx48 : ∀ (M2 : zMm), (zbkR M M2) → zW mX10_back 2 Q (0, 0) zS0 48 [(0, .inr (.inr 56))] [] M2) : ∀ (n : Nat) (h : Int) (M2 : zMm), (16 - h).toNat < n → (0 ≤ h ∧ h ≤ 16 ∧ (∀ k : Int, 0 ≤ k → k < h → M2 63 k = M 76 k ∧ M2 64 k = M 77 k) ∧ ∀ c : Int, c ≠ 63 → c ≠ 64 → M2 c = M c) → zW mX10_back 2 Q (0, 0) zS0 12 [(0, .inr (.inr 56)), (1, .inl h)] [] M2 := by
  intro n
  induction n with
  | zero => intro h M2 hn; exact absurd hn (Nat.not_lt_zero _)
  | succ n ih =>
    intro h M2 hn hI
    have r76 := congrFun (hI.2.2.2 76 (by decide) (by decide)) h
    have r77 := congrFun (hI.2.2.2 77 (by decide) (by decide)) h
    refine z_iload_n 1 (zdec DX10_back 7 rfl) rfl rfl ?_
    refine z_bipush 16 (zdec DX10_back 8 rfl) (by decide) ?_
    refine z_icmp_ge 48 (zdec DX10_back 9 rfl) rfl (fun h15 => ?_) (fun h15 => ?_)
    ·
      refine z_weak (L' := [(0, .inr (.inr 56))]) (by simp) ?_
      exact hx48 M2 (by have e : h = 16 := (by omega); subst e; exact ⟨fun k a b => (hI.2.2.1 k a b).1, fun k a b => (hI.2.2.1 k a b).2, hI.2.2.2⟩)
    ·
      refine z_aload_n 0 (zdec DX10_back 10 rfl) rfl rfl (by decide) ?_
      refine z_getr (rw1 := -66) (ki := 9) (r' := 63) 56 10 (zdec DX10_back 11 rfl) rfl rfl shp56 rfl (by decide) rfl rfl fl_SixWallsModel_28 (zPa (zP_of hP fun r hr => hI.2.2.2 r (by omega) (by omega)) 63 rfl) ?_
      refine z_iload_n 1 (zdec DX10_back 12 rfl) rfl rfl ?_
      refine z_aload_n 0 (zdec DX10_back 13 rfl) rfl rfl (by decide) ?_
      refine z_getr (rw1 := -66) (ki := 32) (r' := 76) 56 10 (zdec DX10_back 14 rfl) rfl rfl shp56 rfl (by decide) rfl rfl fl_SixWallsModel_68 (zPa (zP_of hP fun r hr => hI.2.2.2 r (by omega) (by omega)) 76 rfl) ?_
      refine z_iload_n 1 (zdec DX10_back 15 rfl) rfl rfl ?_
      refine z_iald 76 (zdec DX10_back 16 rfl) rfl shp76 ⟨by omega, by omega⟩ ?_
      refine z_iast 63 (zdec DX10_back 17 rfl) rfl shp63 ⟨by omega, by omega⟩ ?_
      refine z_aload_n 0 (zdec DX10_back 18 rfl) rfl rfl (by decide) ?_
      refine z_getr (rw1 := -66) (ki := 10) (r' := 64) 56 10 (zdec DX10_back 19 rfl) rfl rfl shp56 rfl (by decide) rfl rfl fl_SixWallsModel_31 (zPa (zP_up (zP_of hP fun r hr => hI.2.2.2 r (by omega) (by omega)) (by decide)) 64 rfl) ?_
      refine z_iload_n 1 (zdec DX10_back 20 rfl) rfl rfl ?_
      refine z_aload_n 0 (zdec DX10_back 21 rfl) rfl rfl (by decide) ?_
      refine z_getr (rw1 := -66) (ki := 33) (r' := 77) 56 10 (zdec DX10_back 22 rfl) rfl rfl shp56 rfl (by decide) rfl rfl fl_SixWallsModel_71 (zPa (zP_up (zP_of hP fun r hr => hI.2.2.2 r (by omega) (by omega)) (by decide)) 77 rfl) ?_
      refine z_iload_n 1 (zdec DX10_back 23 rfl) rfl rfl ?_
      refine z_zald 77 (zdec DX10_back 24 rfl) rfl shp77 ⟨by omega, by omega⟩ (fun hz40 => ?_)
      rw [show (zup M2 63 h (M2 76 h)) 77 h = M2 77 h from by simp [zup, zcpy]]
      rw [zup_row (by decide)] at hz40
      refine z_zast 64 (zdec DX10_back 25 rfl) rfl shp64 ⟨by omega, by omega⟩ (by omega) ?_
      refine z_iinc (L' := [(0, .inr (.inr 56)), (1, .inl (h + 1))]) 1 (zdec DX10_back 26 rfl) rfl (by unfold z32; omega) rfl (by decide) ?_
      refine z_goto 12 (zdec DX10_back 27 rfl) rfl ?_
      exact ih (h + 1) (zup (zup M2 63 h (M2 76 h)) 64 h (M2 77 h)) (by omega) ⟨by omega, by omega, (fun k a b => by rw [zup_row (c' := 63) (by decide), zup_zpu, zup_zpu, zup_row (c' := 64) (by decide)]; by_cases e : k = h; (subst e; rw [zpu_s, zpu_s]; exact ⟨r76, r77⟩); (rw [zpu_n e, zpu_n e]; exact hI.2.2.1 k a (by omega))), fun c a b => by rw [zup_row b, zup_row a]; exact hI.2.2.2 c a b⟩
set_option maxHeartbeats 4000000 in
theorem cX10_back {M : zMm} (hP : zP M) (hb : zbW (M 76)) : zW mX10_back 2 (fun rv S' M' => S' = zS0 ∧ ((M 56 31 = 0 ∧ rv = some (.inl (-5)) ∧ M = M') ∨ (M 56 31 ≠ 0 ∧ rv = some (.inl (zsum (M 76) 16)) ∧ zbkR M M'))) (0, 0) zS0 0 (zargs 0 [.inr (.inr 56)]) [] M := by
  change zW _ _ _ _ _ 0 [(0, .inr (.inr 56))] [] M
  refine z_aload_n 0 (zdec DX10_back 0 rfl) rfl rfl (by decide) ?_
  refine z_geti (ki := 31) 56 10 (zdec DX10_back 1 rfl) rfl shp56 rfl (by decide) rfl rfl fl_SixWallsModel_315 ?_
  refine z_if_ne 10 (zdec DX10_back 2 rfl) rfl (fun h4 => ?_) (fun h4 => ?_)
  ·
    refine z_iconst 0 (zdec DX10_back 5 rfl) (by decide) ?_
    refine z_istore_n (L' := [(0, .inr (.inr 56)), (1, .inl 0)]) (zdec DX10_back 6 rfl) rfl rfl (by decide) ?_
    refine lp_X10_back_12 hP hb (hx48 := fun M2 hx => ?_) _ 0 M (Nat.lt_succ_self _) ⟨by omega, by omega, (fun k a b => by omega), fun c a b => rfl⟩
    refine z_aload_n 0 (zdec DX10_back 28 rfl) rfl rfl (by decide) ?_
    refine z_inv mX10_allWarmth 56 10 [] (zdec DX10_back 29 rfl) ml_SixWallsModel_319 okX10_allWarmth rfl shp56 rfl rfl rfl rfl (Nat.le_of_ble_eq_true rfl) (Nat.le_of_ble_eq_true rfl) (b' := (0, 0)) ⟨Nat.le_refl 0, Nat.le_refl 0⟩ (Nat.le_of_ble_eq_true rfl) (cX10_allWarmth (zP_of hP fun r hr => hx.2.2 r (by omega) (by omega)) (zbWc hx.1 hb)) (fun rv9 S9 M49 h9 => ?_)
    obtain ⟨rfl, rfl, rfl⟩ := h9
    change zW _ _ _ _ _ 52 [(0, .inr (.inr 56))] [.inl (zsum (M2 63) 16)] M2
    exact z_iret (zdec DX10_back 30 rfl) rfl (⟨rfl, Or.inr ⟨h4, zri (zsum_H hx.1), hx⟩⟩)
  ·
    refine z_bipush (-5) (zdec DX10_back 3 rfl) (by decide) ?_
    exact z_iret (zdec DX10_back 4 rfl) rfl (⟨rfl, Or.inl ⟨by omega, rfl, rfl⟩⟩)
