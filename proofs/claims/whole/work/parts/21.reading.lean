/-! contracts of LawText: reading -/
def zadv (M : zMm) : zMm := zup M 14 2 (M 14 2 + 1)
def zbad (M : zMm) : zMm := zup M 14 3 1
def zrnN (f : Nat) (n : Int) (M : zMm) : Int × zMm := match f with
  | 0 => (n, M)
  | f + 1 => if 48 ≤ zpk M ∧ zpk M ≤ 57 then zrnN f (n * 10 + zpk M - 48) (zadv M) else (n, M)
theorem zrnN_s {f : Nat} {n : Int} {M : zMm} : zrnN (f + 1) n M = if 48 ≤ zpk M ∧ zpk M ≤ 57 then zrnN f (n * 10 + zpk M - 48) (zadv M) else (n, M) := rfl
def zrNum (q : Int) (M : zMm) : zMm := zemi (zrnN 4 0 M).2 q 110 (zrnN 4 0 M).1
def zrLp (R : zMm → zMm) (q l : Int) : Nat → zMm → zMm
  | 0, M => M
  | n + 1, M => if M 14 3 ≠ 0 ∨ zlev (zpk M) ≠ l then M else zrLp R q l n (zemi (R (zadv M)) q (zpk M) 0)
def zrOp (R : Int → Int → zMm → zMm) (q o : Int) (M : zMm) : zMm :=
  if 48 ≤ zpk M ∧ zpk M ≤ 57 then zrNum q M
  else if zpk M = 100 ∨ zpk M = 116 ∨ zpk M = 111 ∨ zpk M = 97 ∨ zpk M = 98 then zemi (zadv M) q (zpk M) 0
  else if 6 ≤ o ∨ (zpk M ≠ 40 ∧ zpk M ≠ 33 ∧ zpk M ≠ 45) then zbad M
  else if zpk M = 40 then (if R 0 (o + 1) (zadv M) 14 3 ≠ 0 ∨ zpk (R 0 (o + 1) (zadv M)) ≠ 41 then zbad (R 0 (o + 1) (zadv M)) else zadv (R 0 (o + 1) (zadv M)))
  else zemi (R 5 (o + 1) (zadv M)) q (if zpk M = 45 then 109 else zpk M) 0
def zrL (q : Int) : Nat → Int → Int → zMm → zMm
  | 0, _, _, M => M
  | f + 1, l, o, M => if 5 ≤ l then zrOp (zrL q f) q o M else zrLp (zrL q f (l + 1) o) q l (if l = 2 then 1 else 120) (zrL q f (l + 1) o M)
def zTI (M : zMm) (q : Int) : Prop := zP M ∧ zQ M q ∧ (0 ≤ M 14 2 ∧ M 14 2 ≤ M 14 1 ∧ M 14 1 ≤ 120) ∧ (0 ≤ M 14 9 ∧ M 14 9 ≤ 121) ∧ (0 ≤ M 14 3 ∧ M 14 3 ≤ 1) ∧ ∀ i : Int, 0 ≤ i → i < 121 → 0 ≤ M (35 - q) i ∧ M (35 - q) i ≤ 9999
theorem zTI.P {M : zMm} {q : Int} (h : zTI M q) : zP M := h.1
theorem zTI.q {M : zMm} {q : Int} (h : zTI M q) : zQ M q := h.2.1
theorem zTI.at_ {M : zMm} {q : Int} (h : zTI M q) : 0 ≤ M 14 2 ∧ M 14 2 ≤ M 14 1 ∧ M 14 1 ≤ 120 := h.2.2.1
theorem zTI.ns {M : zMm} {q : Int} (h : zTI M q) : 0 ≤ M 14 9 ∧ M 14 9 ≤ 121 := h.2.2.2.1
theorem zTI.wr {M : zMm} {q : Int} (h : zTI M q) : 0 ≤ M 14 3 ∧ M 14 3 ≤ 1 := h.2.2.2.2.1
theorem zTI.nn {M : zMm} {q : Int} (h : zTI M q) : ∀ i : Int, 0 ≤ i → i < 121 → 0 ≤ M (35 - q) i ∧ M (35 - q) i ≤ 9999 := h.2.2.2.2.2
theorem zup_14 {M : zMm} {k k' v : Int} (h : k' ≠ k) : zup M 14 k v 14 k' = M 14 k' := by
  unfold zup
  rw [if_neg (fun e => h e.2)]
theorem zTI.adv {M : zMm} {q : Int} (h : zTI M q) (hn : zpk M ≠ -1) : zTI (zadv M) q := by
  have hq := h.q.1
  have ha : M 14 2 < M 14 1 := by
    unfold zpk at hn
    split at hn
    · assumption
    · exact absurd rfl hn
  have h2 := h.at_
  unfold zadv
  refine ⟨zP_up h.P (by decide), zQ_of h.q (zup_row (by decide)), ?_, ?_, ?_, ?_⟩
  · rw [zup_self, zup_14 (by decide)]
    omega
  · rw [zup_14 (by decide)]
    exact h.ns
  · rw [zup_14 (by decide)]
    exact h.wr
  · rw [zup_row (by omega)]
    exact h.nn
theorem zTI.bad {M : zMm} {q : Int} (h : zTI M q) : zTI (zbad M) q := by
  have hq := h.q.1
  unfold zbad
  refine ⟨zP_up h.P (by decide), zQ_of h.q (zup_row (by decide)), ?_, ?_, ?_, ?_⟩
  · rw [zup_14 (by decide), zup_14 (by decide)]
    exact h.at_
  · rw [zup_14 (by decide)]
    exact h.ns
  · rw [zup_self]
    omega
  · rw [zup_row (by omega)]
    exact h.nn
theorem zpl_b {M : zMm} (h : 0 ≤ M 14 9) : 0 ≤ zpl M ∧ zpl M ≤ 120 := by
  unfold zpl
  split <;> omega
theorem zTI.emi {M : zMm} {q : Int} (h : zTI M q) (g : Int) {n : Int} (hn : 0 ≤ n ∧ n ≤ 9999) : zTI (zemi M q g n) q := by
  have hq := h.q.1
  have hb := zpl_b h.ns.1
  have e14 : ∀ k : Int, k ≠ 9 → zemi M q g n 14 k = M 14 k := by
    intro k hk
    unfold zemi
    rw [zup_14 hk, zup_row (by omega), zup_row (by omega)]
  refine ⟨?_, zQ_of h.q ?_, ?_, ?_, ?_, ?_⟩
  · unfold zemi
    exact zP_up (zP_up (zP_up h.P (by omega)) (by omega)) (by decide)
  · unfold zemi
    rw [zup_row (by decide), zup_row (by omega), zup_row (by omega)]
  · rw [e14 2 (by decide), e14 1 (by decide)]
    exact h.at_
  · unfold zemi
    rw [zup_self]
    omega
  · rw [e14 3 (by decide)]
    exact h.wr
  · intro i h0 h1
    unfold zemi
    rw [zup_row (by omega)]
    by_cases hi : i = zpl M
    · subst hi
      rw [zup_self]
      exact hn
    · rw [zup_ne hi, zup_row (by omega)]
      exact h.nn i h0 h1
theorem zrnN_TI {q : Int} : ∀ (f : Nat) (n b : Int) (M : zMm), zTI M q → 0 ≤ n → n ≤ b → (f = 4 → b = 0) → (f = 3 → b = 9) → (f = 2 → b = 99) → (f = 1 → b = 999) → (f = 0 → b = 9999) → f ≤ 4 → zTI (zrnN f n M).2 q ∧ 0 ≤ (zrnN f n M).1 ∧ (zrnN f n M).1 ≤ 9999 := by
  intro f
  induction f with
  | zero =>
    intro n b M h h0 h1 _ _ _ _ h5 _
    have := h5 rfl
    unfold zrnN
    exact ⟨h, h0, by omega⟩
  | succ f ih =>
    intro n b M h h0 h1 h4 h3 h2 h11 _ hf
    unfold zrnN
    split
    · next hd => exact ih _ (b * 10 + 9) _ (h.adv (by omega)) (by omega) (by omega) (by omega) (by omega) (by omega) (by omega) (by omega) (by omega)
    · exact ⟨h, h0, by rcases (show f = 0 ∨ f = 1 ∨ f = 2 ∨ f = 3 by omega) with rfl | rfl | rfl | rfl <;> omega⟩
theorem zTI.num {M : zMm} {q : Int} (h : zTI M q) : zTI (zrNum q M) q := by
  obtain ⟨h1, h2⟩ := zrnN_TI (q := q) 4 0 0 M h (by omega) (by omega) (by omega) (by omega) (by omega) (by omega) (by omega) (by omega)
  exact h1.emi _ h2
theorem zlev_ne {g l : Int} (h : ¬ zlev g ≠ l) (hl : 0 ≤ l) : g ≠ -1 := by
  intro e
  subst e
  exact h (by rw [show zlev (-1) = -1 by decide]; omega)
theorem zrLp_TI {R : zMm → zMm} {q l : Int} (hl : 0 ≤ l) (hR : ∀ M, zTI M q → zTI (R M) q) : ∀ (n : Nat) (M : zMm), zTI M q → zTI (zrLp R q l n M) q := by
  intro n
  induction n with
  | zero => intro M h; exact h
  | succ n ih =>
    intro M h
    unfold zrLp
    split
    · exact h
    · next hc => exact ih _ ((hR _ (h.adv (zlev_ne (fun e => hc (Or.inr e)) hl))).emi _ (by omega))
theorem zrL_TI {q : Int} : ∀ (f : Nat) (l o : Int) (M : zMm), 0 ≤ l → zTI M q → zTI (zrL q f l o M) q := by
  intro f
  induction f with
  | zero => intro l o M _ h; exact h
  | succ f ih =>
    intro l o M hl h
    unfold zrL
    split
    · unfold zrOp
      split
      · exact h.num
      · split
        · exact (h.adv (by omega)).emi _ (by omega)
        · split
          · exact h.bad
          · split
            · have h5 := ih 0 (o + 1) _ (by omega) (h.adv (by omega))
              split
              · exact h5.bad
              · next hc => exact h5.adv (by omega)
            · exact (ih 5 (o + 1) _ (by omega) (h.adv (by omega))).emi _ (by omega)
    · exact zrLp_TI hl (fun M h => ih _ _ _ (by omega) h) _ _ (ih _ _ _ (by omega) h)
set_option maxHeartbeats 4000000 in
theorem lp_X4_readNumber_4 {Q : zPost} {M : zMm} {q : Int} (hT : zTI M q) (hx48 : ∀ (nu : Int) (M2 : zMm), (zrnN 4 0 M = (nu, M2) ∧ zTI M2 q ∧ 0 ≤ nu ∧ nu ≤ 9999) → zW mX4_readNumber 3 Q (0, 0) zS0 48 [(0, .inr (.inr 14)), (1, .inl nu)] [] M2) : ∀ (n : Nat) (nu : Int) (k : Int) (M2 : zMm), (4 - k).toNat < n → ((0 ≤ k ∧ k ≤ 4) ∧ (0 ≤ nu ∧ (k = 0 → nu ≤ 0) ∧ (k = 1 → nu ≤ 9) ∧ (k = 2 → nu ≤ 99) ∧ (k = 3 → nu ≤ 999) ∧ nu ≤ 9999) ∧ zrnN 4 0 M = zrnN (4 - k).toNat nu M2 ∧ zTI M2 q) → zW mX4_readNumber 3 Q (0, 0) zS0 4 [(0, .inr (.inr 14)), (1, .inl nu), (2, .inl k)] [] M2 := by
  intro n
  induction n with
  | zero => intro nu k M2 hn; exact absurd hn (Nat.not_lt_zero _)
  | succ n ih =>
    intro nu k M2 hn hI
    have hat := hI.2.2.2.at_
    refine z_iload_n 2 (zdec DX4_readNumber 4 rfl) rfl rfl ?_
    refine z_iconst 4 (zdec DX4_readNumber 5 rfl) (by decide) ?_
    refine z_icmp_ge 48 (zdec DX4_readNumber 6 rfl) rfl (fun h6 => ?_) (fun h6 => ?_)
    ·
      refine z_weak (L' := [(0, .inr (.inr 14)), (1, .inl nu)]) (by simp) ?_
      exact hx48 nu M2 (by refine ⟨?_, hI.2.2.2, by omega, by omega⟩; rw [hI.2.2.1]; by_cases hk4 : k = 4; (subst hk4; rfl); (rw [show (4 - k).toNat = (4 - (k + 1)).toNat + 1 by omega]; rw [zrnN_s]; first | rw [if_neg (fun e => hd9 e)] | (exfalso; omega)))
    ·
      refine z_aload_n 0 (zdec DX4_readNumber 7 rfl) rfl rfl (by decide) ?_
      refine z_inv mX4_peek 14 4 [] (zdec DX4_readNumber 8 rfl) ml_SixWalls_LawText_58 okX4_peek rfl shp14 rfl rfl rfl rfl (Nat.le_of_ble_eq_true rfl) (Nat.le_of_ble_eq_true rfl) (b' := (0, 0)) ⟨Nat.le_refl 0, Nat.le_refl 0⟩ (Nat.le_of_ble_eq_true rfl) (cX4_peek hI.2.2.2.P ⟨hI.2.2.2.at_.1, hI.2.2.2.at_.2.2⟩) (fun rv9 S9 M10 h9 => ?_)
      obtain ⟨rfl, rfl, rfl⟩ := h9
      change zW _ _ _ _ _ 13 [(0, .inr (.inr 14)), (1, .inl nu), (2, .inl k)] [.inl (zpk M2)] M2
      refine z_invs mX4_isDigit [.inl (zpk M2)] (zdec DX4_readNumber 9 rfl) (Or.inl ml_SixWalls_LawText_73) okX4_isDigit rfl rfl (Nat.le_of_ble_eq_true rfl) (Nat.le_of_ble_eq_true rfl) (b' := (0, 0)) ⟨Nat.le_refl 0, Nat.le_refl 0⟩ (Nat.le_of_ble_eq_true rfl) (cX4_isDigit (zpk M2)) (fun rv9 S9 M13 h9 => ?_)
      obtain ⟨rfl, rfl, rfl⟩ := h9
      change zW _ _ _ _ _ 16 [(0, .inr (.inr 14)), (1, .inl nu), (2, .inl k)] [.inl (zb (48 ≤ (zpk M2) ∧ (zpk M2) ≤ 57))] M2
      refine z_if_eq 48 (zdec DX4_readNumber 10 rfl) rfl (fun h16 => ?_) (fun h16 => ?_)
      ·
        have hd9 := zb_eq0.mp h16
        refine z_weak (L' := [(0, .inr (.inr 14)), (1, .inl nu)]) (by simp) ?_
        exact hx48 nu M2 (by refine ⟨?_, hI.2.2.2, by omega, by omega⟩; rw [hI.2.2.1]; by_cases hk4 : k = 4; (subst hk4; rfl); (rw [show (4 - k).toNat = (4 - (k + 1)).toNat + 1 by omega]; rw [zrnN_s]; first | rw [if_neg (fun e => hd9 e)] | (exfalso; omega)))
      ·
        have hd9 := zb_ne0.mp h16
        refine z_iload_n 1 (zdec DX4_readNumber 11 rfl) rfl rfl ?_
        refine z_bipush 10 (zdec DX4_readNumber 12 rfl) (by decide) ?_
        refine z_imul (zdec DX4_readNumber 13 rfl) (by unfold z32; omega) ?_
        refine z_aload_n 0 (zdec DX4_readNumber 14 rfl) rfl rfl (by decide) ?_
        refine z_inv mX4_peek 14 4 [] (zdec DX4_readNumber 15 rfl) ml_SixWalls_LawText_58 okX4_peek rfl shp14 rfl rfl rfl rfl (Nat.le_of_ble_eq_true rfl) (Nat.le_of_ble_eq_true rfl) (b' := (0, 0)) ⟨Nat.le_refl 0, Nat.le_refl 0⟩ (Nat.le_of_ble_eq_true rfl) (cX4_peek hI.2.2.2.P ⟨hI.2.2.2.at_.1, hI.2.2.2.at_.2.2⟩) (fun rv9 S9 M24 h9 => ?_)
        obtain ⟨rfl, rfl, rfl⟩ := h9
        change zW _ _ _ _ _ 27 [(0, .inr (.inr 14)), (1, .inl nu), (2, .inl k)] [.inl (zpk M2), .inl (nu * 10)] M2
        refine z_iadd (zdec DX4_readNumber 16 rfl) (by unfold z32; omega) ?_
        refine z_bipush 48 (zdec DX4_readNumber 17 rfl) (by decide) ?_
        refine z_isub (zdec DX4_readNumber 18 rfl) (by unfold z32; omega) ?_
        refine z_istore_n (L' := [(0, .inr (.inr 14)), (1, .inl (((nu * 10) + (zpk M2)) - 48)), (2, .inl k)]) (zdec DX4_readNumber 19 rfl) rfl rfl (by decide) ?_
        refine z_aload_n 0 (zdec DX4_readNumber 20 rfl) rfl rfl (by decide) ?_
        refine z_dup (zdec DX4_readNumber 21 rfl) rfl ?_
        refine z_geti (ki := 2) 14 4 (zdec DX4_readNumber 22 rfl) rfl shp14 rfl (by decide) rfl rfl fl_SixWalls_LawText_17 ?_
        refine z_iconst 1 (zdec DX4_readNumber 23 rfl) (by decide) ?_
        refine z_iadd (zdec DX4_readNumber 24 rfl) (by unfold z32; omega) ?_
        refine z_puti (ki := 2) 14 4 (zdec DX4_readNumber 25 rfl) rfl shp14 rfl (by decide) rfl rfl fl_SixWalls_LawText_17 (Or.inl rfl) ?_
        refine z_iinc (L' := [(0, .inr (.inr 14)), (1, .inl (((nu * 10) + (zpk M2)) - 48)), (2, .inl (k + 1))]) 2 (zdec DX4_readNumber 26 rfl) rfl (by unfold z32; omega) rfl (by decide) ?_
        refine z_goto 4 (zdec DX4_readNumber 27 rfl) rfl ?_
        exact ih (((nu * 10) + (zpk M2)) - 48) (k + 1) (zup M2 14 2 ((M2 14 2) + 1)) (by omega) ⟨by omega, by omega, (by rw [hI.2.2.1, show (4 - k).toNat = (4 - (k + 1)).toNat + 1 by omega]; rw [zrnN_s, if_pos hd9]; rfl), hI.2.2.2.adv (by omega)⟩
set_option maxHeartbeats 4000000 in
theorem cX4_readNumber {M : zMm} {q : Int} (hT : zTI M q) : zW mX4_readNumber 3 (fun rv S' M' => S' = zS0 ∧ rv = none ∧ M' = zrNum q M) (0, 0) zS0 0 (zargs 0 [.inr (.inr 14)]) [] M := by
  change zW _ _ _ _ _ 0 [(0, .inr (.inr 14))] [] M
  refine z_iconst 0 (zdec DX4_readNumber 0 rfl) (by decide) ?_
  refine z_istore_n (L' := [(0, .inr (.inr 14)), (1, .inl 0)]) (zdec DX4_readNumber 1 rfl) rfl rfl (by decide) ?_
  refine z_iconst 0 (zdec DX4_readNumber 2 rfl) (by decide) ?_
  refine z_istore_n (L' := [(0, .inr (.inr 14)), (1, .inl 0), (2, .inl 0)]) (zdec DX4_readNumber 3 rfl) rfl rfl (by decide) ?_
  refine lp_X4_readNumber_4 hT (hx48 := fun nu M2 hx => ?_) _ 0 0 M (Nat.lt_succ_self _) ⟨by omega, by omega, rfl, hT⟩
  refine z_aload_n 0 (zdec DX4_readNumber 28 rfl) rfl rfl (by decide) ?_
  refine z_bipush 110 (zdec DX4_readNumber 29 rfl) (by decide) ?_
  refine z_iload_n 1 (zdec DX4_readNumber 30 rfl) rfl rfl ?_
  refine z_inv mX4_emit 14 4 [.inl 110, .inl nu] (zdec DX4_readNumber 31 rfl) ml_SixWalls_LawText_62 okX4_emit rfl shp14 rfl rfl rfl rfl (Nat.le_of_ble_eq_true rfl) (Nat.le_of_ble_eq_true rfl) (b' := (0, 0)) ⟨Nat.le_refl 0, Nat.le_refl 0⟩ (Nat.le_of_ble_eq_true rfl) (cX4_emit hx.2.1.P hx.2.1.q hx.2.1.ns.1 110 nu) (fun rv9 S9 M52 h9 => ?_)
  obtain ⟨rfl, rfl, e52⟩ := h9
  change zW _ _ _ _ _ 55 [(0, .inr (.inr 14)), (1, .inl nu)] [.inl (zpl M2)] M52
  refine z_pop (zdec DX4_readNumber 32 rfl) rfl ?_
  exact z_vret (zdec DX4_readNumber 33 rfl) rfl (⟨rfl, rfl, (by rw [e52]; unfold zrNum; rw [hx.1])⟩)
set_option maxHeartbeats 4000000 in
theorem cX4_readOperand {q : Int} (f : Nat) (hL : ∀ (M : zMm) (o : Int), zTI M q → 0 ≤ o → o ≤ 6 → (6 - o) * 6 + 6 ≤ f → zW mX4_readLevel (2 * f + 4) (fun rv S' M' => S' = zS0 ∧ rv = none ∧ M' = zrL q f 0 o M) (0, 0) zS0 0 (zargs 0 [.inr (.inr 14), .inl 0, .inl o]) [] M) (hO : ∀ (M : zMm) (o : Int), zTI M q → 0 ≤ o → o ≤ 6 → (6 - o) * 6 + 1 ≤ f → zW mX4_readOperand (2 * f + 3) (fun rv S' M' => S' = zS0 ∧ rv = none ∧ M' = zrL q f 5 o M) (0, 0) zS0 0 (zargs 0 [.inr (.inr 14), .inl o]) [] M) {M : zMm} (o : Int) (hT : zTI M q) (ho : 0 ≤ o ∧ o ≤ 6) (hf : (6 - o) * 6 + 1 ≤ f + 1) : zW mX4_readOperand (2 * f + 5) (fun rv S' M' => S' = zS0 ∧ rv = none ∧ M' = zrL q (f + 1) 5 o M) (0, 0) zS0 0 (zargs 0 [.inr (.inr 14), .inl o]) [] M := by
  change zW _ _ _ _ _ 0 [(0, .inr (.inr 14)), (1, .inl o)] [] M
  have hat := hT.at_
  have ez : zrL q (f + 1) 5 o M = zrOp (zrL q f) q o M := if_pos (by decide)
  refine z_aload_n 0 (zdec DX4_readOperand 0 rfl) rfl rfl (by decide) ?_
  refine z_inv mX4_peek 14 4 [] (zdec DX4_readOperand 1 rfl) ml_SixWalls_LawText_58 okX4_peek rfl shp14 rfl rfl rfl rfl (Nat.le_of_ble_eq_true rfl) (by omega) (b' := (0, 0)) ⟨Nat.le_refl 0, Nat.le_refl 0⟩ (Nat.le_of_ble_eq_true rfl) (cX4_peek hT.P ⟨hT.at_.1, hT.at_.2.2⟩) (fun rv9 S9 M1 h9 => ?_)
  obtain ⟨rfl, rfl, rfl⟩ := h9
  change zW _ _ _ _ _ 4 [(0, .inr (.inr 14)), (1, .inl o)] [.inl (zpk M)] M
  refine z_istore_n (L' := [(0, .inr (.inr 14)), (1, .inl o), (2, .inl (zpk M))]) (zdec DX4_readOperand 2 rfl) rfl rfl (by decide) ?_
  refine z_iload_n 2 (zdec DX4_readOperand 3 rfl) rfl rfl ?_
  refine z_invs mX4_isDigit [.inl (zpk M)] (zdec DX4_readOperand 4 rfl) (Or.inl ml_SixWalls_LawText_73) okX4_isDigit rfl rfl (Nat.le_of_ble_eq_true rfl) (by omega) (b' := (0, 0)) ⟨Nat.le_refl 0, Nat.le_refl 0⟩ (Nat.le_of_ble_eq_true rfl) (cX4_isDigit (zpk M)) (fun rv9 S9 M6 h9 => ?_)
  obtain ⟨rfl, rfl, rfl⟩ := h9
  change zW _ _ _ _ _ 9 [(0, .inr (.inr 14)), (1, .inl o), (2, .inl (zpk M))] [.inl (zb (48 ≤ (zpk M) ∧ (zpk M) ≤ 57))] M
  refine z_if_eq 19 (zdec DX4_readOperand 5 rfl) rfl (fun h9 => ?_) (fun h9 => ?_)
  ·
    have hd9 := zb_eq0.mp h9
    refine z_iload_n 2 (zdec DX4_readOperand 9 rfl) rfl rfl ?_
    refine z_invs mX4_isName [.inl (zpk M)] (zdec DX4_readOperand 10 rfl) (Or.inl ml_SixWalls_LawText_80) okX4_isName rfl rfl (Nat.le_of_ble_eq_true rfl) (by omega) (b' := (0, 0)) ⟨Nat.le_refl 0, Nat.le_refl 0⟩ (Nat.le_of_ble_eq_true rfl) (cX4_isName (zpk M)) (fun rv9 S9 M20 h9 => ?_)
    obtain ⟨rfl, rfl, rfl⟩ := h9
    change zW _ _ _ _ _ 23 [(0, .inr (.inr 14)), (1, .inl o), (2, .inl (zpk M))] [.inl (zb ((zpk M) = 100 ∨ (zpk M) = 116 ∨ (zpk M) = 111 ∨ (zpk M) = 97 ∨ (zpk M) = 98))] M
    refine z_if_eq 46 (zdec DX4_readOperand 11 rfl) rfl (fun h23 => ?_) (fun h23 => ?_)
    ·
      have hd23 := zb_eq0.mp h23
      refine z_iload_n 1 (zdec DX4_readOperand 24 rfl) rfl rfl ?_
      refine z_bipush 6 (zdec DX4_readOperand 25 rfl) (by decide) ?_
      refine z_icmp_ge 70 (zdec DX4_readOperand 26 rfl) rfl (fun h49 => ?_) (fun h49 => ?_)
      ·
        refine z_aload_n 0 (zdec DX4_readOperand 36 rfl) rfl rfl (by decide) ?_
        refine z_iconst 1 (zdec DX4_readOperand 37 rfl) (by decide) ?_
        refine z_putz (ki := 3) 14 4 (zdec DX4_readOperand 38 rfl) rfl shp14 rfl (by decide) rfl rfl fl_SixWalls_LawText_20 (Or.inl rfl) (by omega) ?_
        refine z_goto 174 (zdec DX4_readOperand 39 rfl) rfl ?_
        exact z_vret (zdec DX4_readOperand 94 rfl) rfl (⟨rfl, rfl, (by first | (exfalso; omega) | skip; rw [ez]; unfold zrOp; (try rw [show zrL q f 0 (o + 1) (zadv M) = M99 from e99.symm]); (try rw [show zrL q f 5 (o + 1) (zadv M) = M153 from e153.symm]); (repeat (first | rw [if_pos hd9] | rw [if_neg hd9] | rw [if_pos hd23] | rw [if_neg hd23] | rw [if_pos (by omega)] | rw [if_neg (by omega)])); first | rfl | exact e13 | exact e39 | exact e170)⟩)
      ·
        refine z_iload_n 2 (zdec DX4_readOperand 27 rfl) rfl rfl ?_
        refine z_bipush 40 (zdec DX4_readOperand 28 rfl) (by decide) ?_
        refine z_icmp_eq 78 (zdec DX4_readOperand 29 rfl) rfl (fun h55 => ?_) (fun h55 => ?_)
        ·
          refine z_iload_n 2 (zdec DX4_readOperand 40 rfl) rfl rfl ?_
          refine z_bipush 40 (zdec DX4_readOperand 41 rfl) (by decide) ?_
          refine z_icmp_ne 139 (zdec DX4_readOperand 42 rfl) rfl (fun h81 => ?_) (fun h81 => ?_)
          ·
            have ha := hT.adv (by omega)
            refine z_aload_n 0 (zdec DX4_readOperand 73 rfl) rfl rfl (by decide) ?_
            refine z_dup (zdec DX4_readOperand 74 rfl) rfl ?_
            refine z_geti (ki := 2) 14 4 (zdec DX4_readOperand 75 rfl) rfl shp14 rfl (by decide) rfl rfl fl_SixWalls_LawText_17 ?_
            refine z_iconst 1 (zdec DX4_readOperand 76 rfl) (by decide) ?_
            refine z_iadd (zdec DX4_readOperand 77 rfl) (by unfold z32; omega) ?_
            refine z_puti (ki := 2) 14 4 (zdec DX4_readOperand 78 rfl) rfl shp14 rfl (by decide) rfl rfl fl_SixWalls_LawText_17 (Or.inl rfl) ?_
            refine z_aload_n 0 (zdec DX4_readOperand 79 rfl) rfl rfl (by decide) ?_
            refine z_iload_n 1 (zdec DX4_readOperand 80 rfl) rfl rfl ?_
            refine z_iconst 1 (zdec DX4_readOperand 81 rfl) (by decide) ?_
            refine z_iadd (zdec DX4_readOperand 82 rfl) (by unfold z32; omega) ?_
            refine z_inv mX4_readOperand 14 4 [.inl (o + 1)] (zdec DX4_readOperand 83 rfl) ml_SixWalls_LawText_65 okX4_readOperand rfl shp14 rfl rfl rfl rfl (Nat.le_of_ble_eq_true rfl) (by omega) (b' := (0, 0)) ⟨Nat.le_refl 0, Nat.le_refl 0⟩ (Nat.le_of_ble_eq_true rfl) (hO (zup M 14 2 ((M 14 2) + 1)) (o + 1) ha (by omega) (by omega) (by omega)) (fun rv9 S9 M153 h9 => ?_)
            obtain ⟨rfl, rfl, e153⟩ := h9
            have t153 : zTI M153 q := by rw [e153]; exact zrL_TI _ _ _ _ (by omega) ha
            change zW _ _ _ _ _ 156 [(0, .inr (.inr 14)), (1, .inl o), (2, .inl (zpk M))] [] M153
            refine z_aload_n 0 (zdec DX4_readOperand 84 rfl) rfl rfl (by decide) ?_
            refine z_iload_n 2 (zdec DX4_readOperand 85 rfl) rfl rfl ?_
            refine z_bipush 45 (zdec DX4_readOperand 86 rfl) (by decide) ?_
            refine z_icmp_ne 168 (zdec DX4_readOperand 87 rfl) rfl (fun h160 => ?_) (fun h160 => ?_)
            ·
              refine z_iload_n 2 (zdec DX4_readOperand 90 rfl) rfl rfl ?_
              refine z_iconst 0 (zdec DX4_readOperand 91 rfl) (by decide) ?_
              refine z_inv mX4_emit 14 4 [.inl (zpk M), .inl 0] (zdec DX4_readOperand 92 rfl) ml_SixWalls_LawText_62 okX4_emit rfl shp14 rfl rfl rfl rfl (Nat.le_of_ble_eq_true rfl) (by omega) (b' := (0, 0)) ⟨Nat.le_refl 0, Nat.le_refl 0⟩ (Nat.le_of_ble_eq_true rfl) (cX4_emit t153.P t153.q t153.ns.1 (zpk M) 0) (fun rv9 S9 M170 h9 => ?_)
              obtain ⟨rfl, rfl, e170⟩ := h9
              change zW _ _ _ _ _ 173 [(0, .inr (.inr 14)), (1, .inl o), (2, .inl (zpk M))] [.inl (zpl M153)] M170
              refine z_pop (zdec DX4_readOperand 93 rfl) rfl ?_
              exact z_vret (zdec DX4_readOperand 94 rfl) rfl (⟨rfl, rfl, (by first | (exfalso; omega) | skip; rw [ez]; unfold zrOp; (try rw [show zrL q f 0 (o + 1) (zadv M) = M99 from e99.symm]); (try rw [show zrL q f 5 (o + 1) (zadv M) = M153 from e153.symm]); (repeat (first | rw [if_pos hd9] | rw [if_neg hd9] | rw [if_pos hd23] | rw [if_neg hd23] | rw [if_pos (by omega)] | rw [if_neg (by omega)])); first | rfl | exact e13 | exact e39 | exact e170)⟩)
            ·
              refine z_bipush 109 (zdec DX4_readOperand 88 rfl) (by decide) ?_
              refine z_goto 169 (zdec DX4_readOperand 89 rfl) rfl ?_
              refine z_iconst 0 (zdec DX4_readOperand 91 rfl) (by decide) ?_
              refine z_inv mX4_emit 14 4 [.inl 109, .inl 0] (zdec DX4_readOperand 92 rfl) ml_SixWalls_LawText_62 okX4_emit rfl shp14 rfl rfl rfl rfl (Nat.le_of_ble_eq_true rfl) (by omega) (b' := (0, 0)) ⟨Nat.le_refl 0, Nat.le_refl 0⟩ (Nat.le_of_ble_eq_true rfl) (cX4_emit t153.P t153.q t153.ns.1 109 0) (fun rv9 S9 M170 h9 => ?_)
              obtain ⟨rfl, rfl, e170⟩ := h9
              change zW _ _ _ _ _ 173 [(0, .inr (.inr 14)), (1, .inl o), (2, .inl (zpk M))] [.inl (zpl M153)] M170
              refine z_pop (zdec DX4_readOperand 93 rfl) rfl ?_
              exact z_vret (zdec DX4_readOperand 94 rfl) rfl (⟨rfl, rfl, (by first | (exfalso; omega) | skip; rw [ez]; unfold zrOp; (try rw [show zrL q f 0 (o + 1) (zadv M) = M99 from e99.symm]); (try rw [show zrL q f 5 (o + 1) (zadv M) = M153 from e153.symm]); (repeat (first | rw [if_pos hd9] | rw [if_neg hd9] | rw [if_pos hd23] | rw [if_neg hd23] | rw [if_pos (by omega)] | rw [if_neg (by omega)])); first | rfl | exact e13 | exact e39 | exact e170)⟩)
          ·
            have ha := hT.adv (by omega)
            refine z_aload_n 0 (zdec DX4_readOperand 43 rfl) rfl rfl (by decide) ?_
            refine z_dup (zdec DX4_readOperand 44 rfl) rfl ?_
            refine z_geti (ki := 2) 14 4 (zdec DX4_readOperand 45 rfl) rfl shp14 rfl (by decide) rfl rfl fl_SixWalls_LawText_17 ?_
            refine z_iconst 1 (zdec DX4_readOperand 46 rfl) (by decide) ?_
            refine z_iadd (zdec DX4_readOperand 47 rfl) (by unfold z32; omega) ?_
            refine z_puti (ki := 2) 14 4 (zdec DX4_readOperand 48 rfl) rfl shp14 rfl (by decide) rfl rfl fl_SixWalls_LawText_17 (Or.inl rfl) ?_
            refine z_aload_n 0 (zdec DX4_readOperand 49 rfl) rfl rfl (by decide) ?_
            refine z_iconst 0 (zdec DX4_readOperand 50 rfl) (by decide) ?_
            refine z_iload_n 1 (zdec DX4_readOperand 51 rfl) rfl rfl ?_
            refine z_iconst 1 (zdec DX4_readOperand 52 rfl) (by decide) ?_
            refine z_iadd (zdec DX4_readOperand 53 rfl) (by unfold z32; omega) ?_
            refine z_inv mX4_readLevel 14 4 [.inl 0, .inl (o + 1)] (zdec DX4_readOperand 54 rfl) ml_SixWalls_LawText_54 okX4_readLevel rfl shp14 rfl rfl rfl rfl (Nat.le_of_ble_eq_true rfl) (by omega) (b' := (0, 0)) ⟨Nat.le_refl 0, Nat.le_refl 0⟩ (Nat.le_of_ble_eq_true rfl) (hL (zup M 14 2 ((M 14 2) + 1)) (o + 1) ha (by omega) (by omega) (by omega)) (fun rv9 S9 M99 h9 => ?_)
            obtain ⟨rfl, rfl, e99⟩ := h9
            have t99 : zTI M99 q := by rw [e99]; exact zrL_TI _ _ _ _ (by omega) ha
            change zW _ _ _ _ _ 102 [(0, .inr (.inr 14)), (1, .inl o), (2, .inl (zpk M))] [] M99
            have hwr := t99.wr
            have hat9 := t99.at_
            refine z_aload_n 0 (zdec DX4_readOperand 55 rfl) rfl rfl (by decide) ?_
            refine z_geti (ki := 3) 14 4 (zdec DX4_readOperand 56 rfl) rfl shp14 rfl (by decide) rfl rfl fl_SixWalls_LawText_20 ?_
            refine z_if_ne 118 (zdec DX4_readOperand 57 rfl) rfl (fun h106 => ?_) (fun h106 => ?_)
            ·
              refine z_aload_n 0 (zdec DX4_readOperand 62 rfl) rfl rfl (by decide) ?_
              refine z_iconst 1 (zdec DX4_readOperand 63 rfl) (by decide) ?_
              refine z_putz (ki := 3) 14 4 (zdec DX4_readOperand 64 rfl) rfl shp14 rfl (by decide) rfl rfl fl_SixWalls_LawText_20 (Or.inl rfl) (by omega) ?_
              refine z_goto 174 (zdec DX4_readOperand 65 rfl) rfl ?_
              exact z_vret (zdec DX4_readOperand 94 rfl) rfl (⟨rfl, rfl, (by first | (exfalso; omega) | skip; rw [ez]; unfold zrOp; (try rw [show zrL q f 0 (o + 1) (zadv M) = M99 from e99.symm]); (try rw [show zrL q f 5 (o + 1) (zadv M) = M153 from e153.symm]); (repeat (first | rw [if_pos hd9] | rw [if_neg hd9] | rw [if_pos hd23] | rw [if_neg hd23] | rw [if_pos (by omega)] | rw [if_neg (by omega)])); first | rfl | exact e13 | exact e39 | exact e170)⟩)
            ·
              refine z_aload_n 0 (zdec DX4_readOperand 58 rfl) rfl rfl (by decide) ?_
              refine z_inv mX4_peek 14 4 [] (zdec DX4_readOperand 59 rfl) ml_SixWalls_LawText_58 okX4_peek rfl shp14 rfl rfl rfl rfl (Nat.le_of_ble_eq_true rfl) (by omega) (b' := (0, 0)) ⟨Nat.le_refl 0, Nat.le_refl 0⟩ (Nat.le_of_ble_eq_true rfl) (cX4_peek t99.P ⟨t99.at_.1, t99.at_.2.2⟩) (fun rv9 S9 M110 h9 => ?_)
              obtain ⟨rfl, rfl, rfl⟩ := h9
              change zW _ _ _ _ _ 113 [(0, .inr (.inr 14)), (1, .inl o), (2, .inl (zpk M))] [.inl (zpk M99)] M99
              refine z_bipush 41 (zdec DX4_readOperand 60 rfl) (by decide) ?_
              refine z_icmp_eq 126 (zdec DX4_readOperand 61 rfl) rfl (fun h115 => ?_) (fun h115 => ?_)
              ·
                refine z_aload_n 0 (zdec DX4_readOperand 66 rfl) rfl rfl (by decide) ?_
                refine z_dup (zdec DX4_readOperand 67 rfl) rfl ?_
                refine z_geti (ki := 2) 14 4 (zdec DX4_readOperand 68 rfl) rfl shp14 rfl (by decide) rfl rfl fl_SixWalls_LawText_17 ?_
                refine z_iconst 1 (zdec DX4_readOperand 69 rfl) (by decide) ?_
                refine z_iadd (zdec DX4_readOperand 70 rfl) (by unfold z32; omega) ?_
                refine z_puti (ki := 2) 14 4 (zdec DX4_readOperand 71 rfl) rfl shp14 rfl (by decide) rfl rfl fl_SixWalls_LawText_17 (Or.inl rfl) ?_
                refine z_goto 174 (zdec DX4_readOperand 72 rfl) rfl ?_
                exact z_vret (zdec DX4_readOperand 94 rfl) rfl (⟨rfl, rfl, (by first | (exfalso; omega) | skip; rw [ez]; unfold zrOp; (try rw [show zrL q f 0 (o + 1) (zadv M) = M99 from e99.symm]); (try rw [show zrL q f 5 (o + 1) (zadv M) = M153 from e153.symm]); (repeat (first | rw [if_pos hd9] | rw [if_neg hd9] | rw [if_pos hd23] | rw [if_neg hd23] | rw [if_pos (by omega)] | rw [if_neg (by omega)])); first | rfl | exact e13 | exact e39 | exact e170)⟩)
              ·
                refine z_aload_n 0 (zdec DX4_readOperand 62 rfl) rfl rfl (by decide) ?_
                refine z_iconst 1 (zdec DX4_readOperand 63 rfl) (by decide) ?_
                refine z_putz (ki := 3) 14 4 (zdec DX4_readOperand 64 rfl) rfl shp14 rfl (by decide) rfl rfl fl_SixWalls_LawText_20 (Or.inl rfl) (by omega) ?_
                refine z_goto 174 (zdec DX4_readOperand 65 rfl) rfl ?_
                exact z_vret (zdec DX4_readOperand 94 rfl) rfl (⟨rfl, rfl, (by first | (exfalso; omega) | skip; rw [ez]; unfold zrOp; (try rw [show zrL q f 0 (o + 1) (zadv M) = M99 from e99.symm]); (try rw [show zrL q f 5 (o + 1) (zadv M) = M153 from e153.symm]); (repeat (first | rw [if_pos hd9] | rw [if_neg hd9] | rw [if_pos hd23] | rw [if_neg hd23] | rw [if_pos (by omega)] | rw [if_neg (by omega)])); first | rfl | exact e13 | exact e39 | exact e170)⟩)
        ·
          refine z_iload_n 2 (zdec DX4_readOperand 30 rfl) rfl rfl ?_
          refine z_bipush 33 (zdec DX4_readOperand 31 rfl) (by decide) ?_
          refine z_icmp_eq 78 (zdec DX4_readOperand 32 rfl) rfl (fun h61 => ?_) (fun h61 => ?_)
          ·
            refine z_iload_n 2 (zdec DX4_readOperand 40 rfl) rfl rfl ?_
            refine z_bipush 40 (zdec DX4_readOperand 41 rfl) (by decide) ?_
            refine z_icmp_ne 139 (zdec DX4_readOperand 42 rfl) rfl (fun h81 => ?_) (fun h81 => ?_)
            ·
              have ha := hT.adv (by omega)
              refine z_aload_n 0 (zdec DX4_readOperand 73 rfl) rfl rfl (by decide) ?_
              refine z_dup (zdec DX4_readOperand 74 rfl) rfl ?_
              refine z_geti (ki := 2) 14 4 (zdec DX4_readOperand 75 rfl) rfl shp14 rfl (by decide) rfl rfl fl_SixWalls_LawText_17 ?_
              refine z_iconst 1 (zdec DX4_readOperand 76 rfl) (by decide) ?_
              refine z_iadd (zdec DX4_readOperand 77 rfl) (by unfold z32; omega) ?_
              refine z_puti (ki := 2) 14 4 (zdec DX4_readOperand 78 rfl) rfl shp14 rfl (by decide) rfl rfl fl_SixWalls_LawText_17 (Or.inl rfl) ?_
              refine z_aload_n 0 (zdec DX4_readOperand 79 rfl) rfl rfl (by decide) ?_
              refine z_iload_n 1 (zdec DX4_readOperand 80 rfl) rfl rfl ?_
              refine z_iconst 1 (zdec DX4_readOperand 81 rfl) (by decide) ?_
              refine z_iadd (zdec DX4_readOperand 82 rfl) (by unfold z32; omega) ?_
              refine z_inv mX4_readOperand 14 4 [.inl (o + 1)] (zdec DX4_readOperand 83 rfl) ml_SixWalls_LawText_65 okX4_readOperand rfl shp14 rfl rfl rfl rfl (Nat.le_of_ble_eq_true rfl) (by omega) (b' := (0, 0)) ⟨Nat.le_refl 0, Nat.le_refl 0⟩ (Nat.le_of_ble_eq_true rfl) (hO (zup M 14 2 ((M 14 2) + 1)) (o + 1) ha (by omega) (by omega) (by omega)) (fun rv9 S9 M153 h9 => ?_)
              obtain ⟨rfl, rfl, e153⟩ := h9
              have t153 : zTI M153 q := by rw [e153]; exact zrL_TI _ _ _ _ (by omega) ha
              change zW _ _ _ _ _ 156 [(0, .inr (.inr 14)), (1, .inl o), (2, .inl (zpk M))] [] M153
              refine z_aload_n 0 (zdec DX4_readOperand 84 rfl) rfl rfl (by decide) ?_
              refine z_iload_n 2 (zdec DX4_readOperand 85 rfl) rfl rfl ?_
              refine z_bipush 45 (zdec DX4_readOperand 86 rfl) (by decide) ?_
              refine z_icmp_ne 168 (zdec DX4_readOperand 87 rfl) rfl (fun h160 => ?_) (fun h160 => ?_)
              ·
                refine z_iload_n 2 (zdec DX4_readOperand 90 rfl) rfl rfl ?_
                refine z_iconst 0 (zdec DX4_readOperand 91 rfl) (by decide) ?_
                refine z_inv mX4_emit 14 4 [.inl (zpk M), .inl 0] (zdec DX4_readOperand 92 rfl) ml_SixWalls_LawText_62 okX4_emit rfl shp14 rfl rfl rfl rfl (Nat.le_of_ble_eq_true rfl) (by omega) (b' := (0, 0)) ⟨Nat.le_refl 0, Nat.le_refl 0⟩ (Nat.le_of_ble_eq_true rfl) (cX4_emit t153.P t153.q t153.ns.1 (zpk M) 0) (fun rv9 S9 M170 h9 => ?_)
                obtain ⟨rfl, rfl, e170⟩ := h9
                change zW _ _ _ _ _ 173 [(0, .inr (.inr 14)), (1, .inl o), (2, .inl (zpk M))] [.inl (zpl M153)] M170
                refine z_pop (zdec DX4_readOperand 93 rfl) rfl ?_
                exact z_vret (zdec DX4_readOperand 94 rfl) rfl (⟨rfl, rfl, (by first | (exfalso; omega) | skip; rw [ez]; unfold zrOp; (try rw [show zrL q f 0 (o + 1) (zadv M) = M99 from e99.symm]); (try rw [show zrL q f 5 (o + 1) (zadv M) = M153 from e153.symm]); (repeat (first | rw [if_pos hd9] | rw [if_neg hd9] | rw [if_pos hd23] | rw [if_neg hd23] | rw [if_pos (by omega)] | rw [if_neg (by omega)])); first | rfl | exact e13 | exact e39 | exact e170)⟩)
              ·
                refine z_bipush 109 (zdec DX4_readOperand 88 rfl) (by decide) ?_
                refine z_goto 169 (zdec DX4_readOperand 89 rfl) rfl ?_
                refine z_iconst 0 (zdec DX4_readOperand 91 rfl) (by decide) ?_
                refine z_inv mX4_emit 14 4 [.inl 109, .inl 0] (zdec DX4_readOperand 92 rfl) ml_SixWalls_LawText_62 okX4_emit rfl shp14 rfl rfl rfl rfl (Nat.le_of_ble_eq_true rfl) (by omega) (b' := (0, 0)) ⟨Nat.le_refl 0, Nat.le_refl 0⟩ (Nat.le_of_ble_eq_true rfl) (cX4_emit t153.P t153.q t153.ns.1 109 0) (fun rv9 S9 M170 h9 => ?_)
                obtain ⟨rfl, rfl, e170⟩ := h9
                change zW _ _ _ _ _ 173 [(0, .inr (.inr 14)), (1, .inl o), (2, .inl (zpk M))] [.inl (zpl M153)] M170
                refine z_pop (zdec DX4_readOperand 93 rfl) rfl ?_
                exact z_vret (zdec DX4_readOperand 94 rfl) rfl (⟨rfl, rfl, (by first | (exfalso; omega) | skip; rw [ez]; unfold zrOp; (try rw [show zrL q f 0 (o + 1) (zadv M) = M99 from e99.symm]); (try rw [show zrL q f 5 (o + 1) (zadv M) = M153 from e153.symm]); (repeat (first | rw [if_pos hd9] | rw [if_neg hd9] | rw [if_pos hd23] | rw [if_neg hd23] | rw [if_pos (by omega)] | rw [if_neg (by omega)])); first | rfl | exact e13 | exact e39 | exact e170)⟩)
            ·
              have ha := hT.adv (by omega)
              refine z_aload_n 0 (zdec DX4_readOperand 43 rfl) rfl rfl (by decide) ?_
              refine z_dup (zdec DX4_readOperand 44 rfl) rfl ?_
              refine z_geti (ki := 2) 14 4 (zdec DX4_readOperand 45 rfl) rfl shp14 rfl (by decide) rfl rfl fl_SixWalls_LawText_17 ?_
              refine z_iconst 1 (zdec DX4_readOperand 46 rfl) (by decide) ?_
              refine z_iadd (zdec DX4_readOperand 47 rfl) (by unfold z32; omega) ?_
              refine z_puti (ki := 2) 14 4 (zdec DX4_readOperand 48 rfl) rfl shp14 rfl (by decide) rfl rfl fl_SixWalls_LawText_17 (Or.inl rfl) ?_
              refine z_aload_n 0 (zdec DX4_readOperand 49 rfl) rfl rfl (by decide) ?_
              refine z_iconst 0 (zdec DX4_readOperand 50 rfl) (by decide) ?_
              refine z_iload_n 1 (zdec DX4_readOperand 51 rfl) rfl rfl ?_
              refine z_iconst 1 (zdec DX4_readOperand 52 rfl) (by decide) ?_
              refine z_iadd (zdec DX4_readOperand 53 rfl) (by unfold z32; omega) ?_
              refine z_inv mX4_readLevel 14 4 [.inl 0, .inl (o + 1)] (zdec DX4_readOperand 54 rfl) ml_SixWalls_LawText_54 okX4_readLevel rfl shp14 rfl rfl rfl rfl (Nat.le_of_ble_eq_true rfl) (by omega) (b' := (0, 0)) ⟨Nat.le_refl 0, Nat.le_refl 0⟩ (Nat.le_of_ble_eq_true rfl) (hL (zup M 14 2 ((M 14 2) + 1)) (o + 1) ha (by omega) (by omega) (by omega)) (fun rv9 S9 M99 h9 => ?_)
              obtain ⟨rfl, rfl, e99⟩ := h9
              have t99 : zTI M99 q := by rw [e99]; exact zrL_TI _ _ _ _ (by omega) ha
              change zW _ _ _ _ _ 102 [(0, .inr (.inr 14)), (1, .inl o), (2, .inl (zpk M))] [] M99
              have hwr := t99.wr
              have hat9 := t99.at_
              refine z_aload_n 0 (zdec DX4_readOperand 55 rfl) rfl rfl (by decide) ?_
              refine z_geti (ki := 3) 14 4 (zdec DX4_readOperand 56 rfl) rfl shp14 rfl (by decide) rfl rfl fl_SixWalls_LawText_20 ?_
              refine z_if_ne 118 (zdec DX4_readOperand 57 rfl) rfl (fun h106 => ?_) (fun h106 => ?_)
              ·
                refine z_aload_n 0 (zdec DX4_readOperand 62 rfl) rfl rfl (by decide) ?_
                refine z_iconst 1 (zdec DX4_readOperand 63 rfl) (by decide) ?_
                refine z_putz (ki := 3) 14 4 (zdec DX4_readOperand 64 rfl) rfl shp14 rfl (by decide) rfl rfl fl_SixWalls_LawText_20 (Or.inl rfl) (by omega) ?_
                refine z_goto 174 (zdec DX4_readOperand 65 rfl) rfl ?_
                exact z_vret (zdec DX4_readOperand 94 rfl) rfl (⟨rfl, rfl, (by first | (exfalso; omega) | skip; rw [ez]; unfold zrOp; (try rw [show zrL q f 0 (o + 1) (zadv M) = M99 from e99.symm]); (try rw [show zrL q f 5 (o + 1) (zadv M) = M153 from e153.symm]); (repeat (first | rw [if_pos hd9] | rw [if_neg hd9] | rw [if_pos hd23] | rw [if_neg hd23] | rw [if_pos (by omega)] | rw [if_neg (by omega)])); first | rfl | exact e13 | exact e39 | exact e170)⟩)
              ·
                refine z_aload_n 0 (zdec DX4_readOperand 58 rfl) rfl rfl (by decide) ?_
                refine z_inv mX4_peek 14 4 [] (zdec DX4_readOperand 59 rfl) ml_SixWalls_LawText_58 okX4_peek rfl shp14 rfl rfl rfl rfl (Nat.le_of_ble_eq_true rfl) (by omega) (b' := (0, 0)) ⟨Nat.le_refl 0, Nat.le_refl 0⟩ (Nat.le_of_ble_eq_true rfl) (cX4_peek t99.P ⟨t99.at_.1, t99.at_.2.2⟩) (fun rv9 S9 M110 h9 => ?_)
                obtain ⟨rfl, rfl, rfl⟩ := h9
                change zW _ _ _ _ _ 113 [(0, .inr (.inr 14)), (1, .inl o), (2, .inl (zpk M))] [.inl (zpk M99)] M99
                refine z_bipush 41 (zdec DX4_readOperand 60 rfl) (by decide) ?_
                refine z_icmp_eq 126 (zdec DX4_readOperand 61 rfl) rfl (fun h115 => ?_) (fun h115 => ?_)
                ·
                  refine z_aload_n 0 (zdec DX4_readOperand 66 rfl) rfl rfl (by decide) ?_
                  refine z_dup (zdec DX4_readOperand 67 rfl) rfl ?_
                  refine z_geti (ki := 2) 14 4 (zdec DX4_readOperand 68 rfl) rfl shp14 rfl (by decide) rfl rfl fl_SixWalls_LawText_17 ?_
                  refine z_iconst 1 (zdec DX4_readOperand 69 rfl) (by decide) ?_
                  refine z_iadd (zdec DX4_readOperand 70 rfl) (by unfold z32; omega) ?_
                  refine z_puti (ki := 2) 14 4 (zdec DX4_readOperand 71 rfl) rfl shp14 rfl (by decide) rfl rfl fl_SixWalls_LawText_17 (Or.inl rfl) ?_
                  refine z_goto 174 (zdec DX4_readOperand 72 rfl) rfl ?_
                  exact z_vret (zdec DX4_readOperand 94 rfl) rfl (⟨rfl, rfl, (by first | (exfalso; omega) | skip; rw [ez]; unfold zrOp; (try rw [show zrL q f 0 (o + 1) (zadv M) = M99 from e99.symm]); (try rw [show zrL q f 5 (o + 1) (zadv M) = M153 from e153.symm]); (repeat (first | rw [if_pos hd9] | rw [if_neg hd9] | rw [if_pos hd23] | rw [if_neg hd23] | rw [if_pos (by omega)] | rw [if_neg (by omega)])); first | rfl | exact e13 | exact e39 | exact e170)⟩)
                ·
                  refine z_aload_n 0 (zdec DX4_readOperand 62 rfl) rfl rfl (by decide) ?_
                  refine z_iconst 1 (zdec DX4_readOperand 63 rfl) (by decide) ?_
                  refine z_putz (ki := 3) 14 4 (zdec DX4_readOperand 64 rfl) rfl shp14 rfl (by decide) rfl rfl fl_SixWalls_LawText_20 (Or.inl rfl) (by omega) ?_
                  refine z_goto 174 (zdec DX4_readOperand 65 rfl) rfl ?_
                  exact z_vret (zdec DX4_readOperand 94 rfl) rfl (⟨rfl, rfl, (by first | (exfalso; omega) | skip; rw [ez]; unfold zrOp; (try rw [show zrL q f 0 (o + 1) (zadv M) = M99 from e99.symm]); (try rw [show zrL q f 5 (o + 1) (zadv M) = M153 from e153.symm]); (repeat (first | rw [if_pos hd9] | rw [if_neg hd9] | rw [if_pos hd23] | rw [if_neg hd23] | rw [if_pos (by omega)] | rw [if_neg (by omega)])); first | rfl | exact e13 | exact e39 | exact e170)⟩)
          ·
            refine z_iload_n 2 (zdec DX4_readOperand 33 rfl) rfl rfl ?_
            refine z_bipush 45 (zdec DX4_readOperand 34 rfl) (by decide) ?_
            refine z_icmp_eq 78 (zdec DX4_readOperand 35 rfl) rfl (fun h67 => ?_) (fun h67 => ?_)
            ·
              refine z_iload_n 2 (zdec DX4_readOperand 40 rfl) rfl rfl ?_
              refine z_bipush 40 (zdec DX4_readOperand 41 rfl) (by decide) ?_
              refine z_icmp_ne 139 (zdec DX4_readOperand 42 rfl) rfl (fun h81 => ?_) (fun h81 => ?_)
              ·
                have ha := hT.adv (by omega)
                refine z_aload_n 0 (zdec DX4_readOperand 73 rfl) rfl rfl (by decide) ?_
                refine z_dup (zdec DX4_readOperand 74 rfl) rfl ?_
                refine z_geti (ki := 2) 14 4 (zdec DX4_readOperand 75 rfl) rfl shp14 rfl (by decide) rfl rfl fl_SixWalls_LawText_17 ?_
                refine z_iconst 1 (zdec DX4_readOperand 76 rfl) (by decide) ?_
                refine z_iadd (zdec DX4_readOperand 77 rfl) (by unfold z32; omega) ?_
                refine z_puti (ki := 2) 14 4 (zdec DX4_readOperand 78 rfl) rfl shp14 rfl (by decide) rfl rfl fl_SixWalls_LawText_17 (Or.inl rfl) ?_
                refine z_aload_n 0 (zdec DX4_readOperand 79 rfl) rfl rfl (by decide) ?_
                refine z_iload_n 1 (zdec DX4_readOperand 80 rfl) rfl rfl ?_
                refine z_iconst 1 (zdec DX4_readOperand 81 rfl) (by decide) ?_
                refine z_iadd (zdec DX4_readOperand 82 rfl) (by unfold z32; omega) ?_
                refine z_inv mX4_readOperand 14 4 [.inl (o + 1)] (zdec DX4_readOperand 83 rfl) ml_SixWalls_LawText_65 okX4_readOperand rfl shp14 rfl rfl rfl rfl (Nat.le_of_ble_eq_true rfl) (by omega) (b' := (0, 0)) ⟨Nat.le_refl 0, Nat.le_refl 0⟩ (Nat.le_of_ble_eq_true rfl) (hO (zup M 14 2 ((M 14 2) + 1)) (o + 1) ha (by omega) (by omega) (by omega)) (fun rv9 S9 M153 h9 => ?_)
                obtain ⟨rfl, rfl, e153⟩ := h9
                have t153 : zTI M153 q := by rw [e153]; exact zrL_TI _ _ _ _ (by omega) ha
                change zW _ _ _ _ _ 156 [(0, .inr (.inr 14)), (1, .inl o), (2, .inl (zpk M))] [] M153
                refine z_aload_n 0 (zdec DX4_readOperand 84 rfl) rfl rfl (by decide) ?_
                refine z_iload_n 2 (zdec DX4_readOperand 85 rfl) rfl rfl ?_
                refine z_bipush 45 (zdec DX4_readOperand 86 rfl) (by decide) ?_
                refine z_icmp_ne 168 (zdec DX4_readOperand 87 rfl) rfl (fun h160 => ?_) (fun h160 => ?_)
                ·
                  refine z_iload_n 2 (zdec DX4_readOperand 90 rfl) rfl rfl ?_
                  refine z_iconst 0 (zdec DX4_readOperand 91 rfl) (by decide) ?_
                  refine z_inv mX4_emit 14 4 [.inl (zpk M), .inl 0] (zdec DX4_readOperand 92 rfl) ml_SixWalls_LawText_62 okX4_emit rfl shp14 rfl rfl rfl rfl (Nat.le_of_ble_eq_true rfl) (by omega) (b' := (0, 0)) ⟨Nat.le_refl 0, Nat.le_refl 0⟩ (Nat.le_of_ble_eq_true rfl) (cX4_emit t153.P t153.q t153.ns.1 (zpk M) 0) (fun rv9 S9 M170 h9 => ?_)
                  obtain ⟨rfl, rfl, e170⟩ := h9
                  change zW _ _ _ _ _ 173 [(0, .inr (.inr 14)), (1, .inl o), (2, .inl (zpk M))] [.inl (zpl M153)] M170
                  refine z_pop (zdec DX4_readOperand 93 rfl) rfl ?_
                  exact z_vret (zdec DX4_readOperand 94 rfl) rfl (⟨rfl, rfl, (by first | (exfalso; omega) | skip; rw [ez]; unfold zrOp; (try rw [show zrL q f 0 (o + 1) (zadv M) = M99 from e99.symm]); (try rw [show zrL q f 5 (o + 1) (zadv M) = M153 from e153.symm]); (repeat (first | rw [if_pos hd9] | rw [if_neg hd9] | rw [if_pos hd23] | rw [if_neg hd23] | rw [if_pos (by omega)] | rw [if_neg (by omega)])); first | rfl | exact e13 | exact e39 | exact e170)⟩)
                ·
                  refine z_bipush 109 (zdec DX4_readOperand 88 rfl) (by decide) ?_
                  refine z_goto 169 (zdec DX4_readOperand 89 rfl) rfl ?_
                  refine z_iconst 0 (zdec DX4_readOperand 91 rfl) (by decide) ?_
                  refine z_inv mX4_emit 14 4 [.inl 109, .inl 0] (zdec DX4_readOperand 92 rfl) ml_SixWalls_LawText_62 okX4_emit rfl shp14 rfl rfl rfl rfl (Nat.le_of_ble_eq_true rfl) (by omega) (b' := (0, 0)) ⟨Nat.le_refl 0, Nat.le_refl 0⟩ (Nat.le_of_ble_eq_true rfl) (cX4_emit t153.P t153.q t153.ns.1 109 0) (fun rv9 S9 M170 h9 => ?_)
                  obtain ⟨rfl, rfl, e170⟩ := h9
                  change zW _ _ _ _ _ 173 [(0, .inr (.inr 14)), (1, .inl o), (2, .inl (zpk M))] [.inl (zpl M153)] M170
                  refine z_pop (zdec DX4_readOperand 93 rfl) rfl ?_
                  exact z_vret (zdec DX4_readOperand 94 rfl) rfl (⟨rfl, rfl, (by first | (exfalso; omega) | skip; rw [ez]; unfold zrOp; (try rw [show zrL q f 0 (o + 1) (zadv M) = M99 from e99.symm]); (try rw [show zrL q f 5 (o + 1) (zadv M) = M153 from e153.symm]); (repeat (first | rw [if_pos hd9] | rw [if_neg hd9] | rw [if_pos hd23] | rw [if_neg hd23] | rw [if_pos (by omega)] | rw [if_neg (by omega)])); first | rfl | exact e13 | exact e39 | exact e170)⟩)
              ·
                have ha := hT.adv (by omega)
                refine z_aload_n 0 (zdec DX4_readOperand 43 rfl) rfl rfl (by decide) ?_
                refine z_dup (zdec DX4_readOperand 44 rfl) rfl ?_
                refine z_geti (ki := 2) 14 4 (zdec DX4_readOperand 45 rfl) rfl shp14 rfl (by decide) rfl rfl fl_SixWalls_LawText_17 ?_
                refine z_iconst 1 (zdec DX4_readOperand 46 rfl) (by decide) ?_
                refine z_iadd (zdec DX4_readOperand 47 rfl) (by unfold z32; omega) ?_
                refine z_puti (ki := 2) 14 4 (zdec DX4_readOperand 48 rfl) rfl shp14 rfl (by decide) rfl rfl fl_SixWalls_LawText_17 (Or.inl rfl) ?_
                refine z_aload_n 0 (zdec DX4_readOperand 49 rfl) rfl rfl (by decide) ?_
                refine z_iconst 0 (zdec DX4_readOperand 50 rfl) (by decide) ?_
                refine z_iload_n 1 (zdec DX4_readOperand 51 rfl) rfl rfl ?_
                refine z_iconst 1 (zdec DX4_readOperand 52 rfl) (by decide) ?_
                refine z_iadd (zdec DX4_readOperand 53 rfl) (by unfold z32; omega) ?_
                refine z_inv mX4_readLevel 14 4 [.inl 0, .inl (o + 1)] (zdec DX4_readOperand 54 rfl) ml_SixWalls_LawText_54 okX4_readLevel rfl shp14 rfl rfl rfl rfl (Nat.le_of_ble_eq_true rfl) (by omega) (b' := (0, 0)) ⟨Nat.le_refl 0, Nat.le_refl 0⟩ (Nat.le_of_ble_eq_true rfl) (hL (zup M 14 2 ((M 14 2) + 1)) (o + 1) ha (by omega) (by omega) (by omega)) (fun rv9 S9 M99 h9 => ?_)
                obtain ⟨rfl, rfl, e99⟩ := h9
                have t99 : zTI M99 q := by rw [e99]; exact zrL_TI _ _ _ _ (by omega) ha
                change zW _ _ _ _ _ 102 [(0, .inr (.inr 14)), (1, .inl o), (2, .inl (zpk M))] [] M99
                have hwr := t99.wr
                have hat9 := t99.at_
                refine z_aload_n 0 (zdec DX4_readOperand 55 rfl) rfl rfl (by decide) ?_
                refine z_geti (ki := 3) 14 4 (zdec DX4_readOperand 56 rfl) rfl shp14 rfl (by decide) rfl rfl fl_SixWalls_LawText_20 ?_
                refine z_if_ne 118 (zdec DX4_readOperand 57 rfl) rfl (fun h106 => ?_) (fun h106 => ?_)
                ·
                  refine z_aload_n 0 (zdec DX4_readOperand 62 rfl) rfl rfl (by decide) ?_
                  refine z_iconst 1 (zdec DX4_readOperand 63 rfl) (by decide) ?_
                  refine z_putz (ki := 3) 14 4 (zdec DX4_readOperand 64 rfl) rfl shp14 rfl (by decide) rfl rfl fl_SixWalls_LawText_20 (Or.inl rfl) (by omega) ?_
                  refine z_goto 174 (zdec DX4_readOperand 65 rfl) rfl ?_
                  exact z_vret (zdec DX4_readOperand 94 rfl) rfl (⟨rfl, rfl, (by first | (exfalso; omega) | skip; rw [ez]; unfold zrOp; (try rw [show zrL q f 0 (o + 1) (zadv M) = M99 from e99.symm]); (try rw [show zrL q f 5 (o + 1) (zadv M) = M153 from e153.symm]); (repeat (first | rw [if_pos hd9] | rw [if_neg hd9] | rw [if_pos hd23] | rw [if_neg hd23] | rw [if_pos (by omega)] | rw [if_neg (by omega)])); first | rfl | exact e13 | exact e39 | exact e170)⟩)
                ·
                  refine z_aload_n 0 (zdec DX4_readOperand 58 rfl) rfl rfl (by decide) ?_
                  refine z_inv mX4_peek 14 4 [] (zdec DX4_readOperand 59 rfl) ml_SixWalls_LawText_58 okX4_peek rfl shp14 rfl rfl rfl rfl (Nat.le_of_ble_eq_true rfl) (by omega) (b' := (0, 0)) ⟨Nat.le_refl 0, Nat.le_refl 0⟩ (Nat.le_of_ble_eq_true rfl) (cX4_peek t99.P ⟨t99.at_.1, t99.at_.2.2⟩) (fun rv9 S9 M110 h9 => ?_)
                  obtain ⟨rfl, rfl, rfl⟩ := h9
                  change zW _ _ _ _ _ 113 [(0, .inr (.inr 14)), (1, .inl o), (2, .inl (zpk M))] [.inl (zpk M99)] M99
                  refine z_bipush 41 (zdec DX4_readOperand 60 rfl) (by decide) ?_
                  refine z_icmp_eq 126 (zdec DX4_readOperand 61 rfl) rfl (fun h115 => ?_) (fun h115 => ?_)
                  ·
                    refine z_aload_n 0 (zdec DX4_readOperand 66 rfl) rfl rfl (by decide) ?_
                    refine z_dup (zdec DX4_readOperand 67 rfl) rfl ?_
                    refine z_geti (ki := 2) 14 4 (zdec DX4_readOperand 68 rfl) rfl shp14 rfl (by decide) rfl rfl fl_SixWalls_LawText_17 ?_
                    refine z_iconst 1 (zdec DX4_readOperand 69 rfl) (by decide) ?_
                    refine z_iadd (zdec DX4_readOperand 70 rfl) (by unfold z32; omega) ?_
                    refine z_puti (ki := 2) 14 4 (zdec DX4_readOperand 71 rfl) rfl shp14 rfl (by decide) rfl rfl fl_SixWalls_LawText_17 (Or.inl rfl) ?_
                    refine z_goto 174 (zdec DX4_readOperand 72 rfl) rfl ?_
                    exact z_vret (zdec DX4_readOperand 94 rfl) rfl (⟨rfl, rfl, (by first | (exfalso; omega) | skip; rw [ez]; unfold zrOp; (try rw [show zrL q f 0 (o + 1) (zadv M) = M99 from e99.symm]); (try rw [show zrL q f 5 (o + 1) (zadv M) = M153 from e153.symm]); (repeat (first | rw [if_pos hd9] | rw [if_neg hd9] | rw [if_pos hd23] | rw [if_neg hd23] | rw [if_pos (by omega)] | rw [if_neg (by omega)])); first | rfl | exact e13 | exact e39 | exact e170)⟩)
                  ·
                    refine z_aload_n 0 (zdec DX4_readOperand 62 rfl) rfl rfl (by decide) ?_
                    refine z_iconst 1 (zdec DX4_readOperand 63 rfl) (by decide) ?_
                    refine z_putz (ki := 3) 14 4 (zdec DX4_readOperand 64 rfl) rfl shp14 rfl (by decide) rfl rfl fl_SixWalls_LawText_20 (Or.inl rfl) (by omega) ?_
                    refine z_goto 174 (zdec DX4_readOperand 65 rfl) rfl ?_
                    exact z_vret (zdec DX4_readOperand 94 rfl) rfl (⟨rfl, rfl, (by first | (exfalso; omega) | skip; rw [ez]; unfold zrOp; (try rw [show zrL q f 0 (o + 1) (zadv M) = M99 from e99.symm]); (try rw [show zrL q f 5 (o + 1) (zadv M) = M153 from e153.symm]); (repeat (first | rw [if_pos hd9] | rw [if_neg hd9] | rw [if_pos hd23] | rw [if_neg hd23] | rw [if_pos (by omega)] | rw [if_neg (by omega)])); first | rfl | exact e13 | exact e39 | exact e170)⟩)
            ·
              refine z_aload_n 0 (zdec DX4_readOperand 36 rfl) rfl rfl (by decide) ?_
              refine z_iconst 1 (zdec DX4_readOperand 37 rfl) (by decide) ?_
              refine z_putz (ki := 3) 14 4 (zdec DX4_readOperand 38 rfl) rfl shp14 rfl (by decide) rfl rfl fl_SixWalls_LawText_20 (Or.inl rfl) (by omega) ?_
              refine z_goto 174 (zdec DX4_readOperand 39 rfl) rfl ?_
              exact z_vret (zdec DX4_readOperand 94 rfl) rfl (⟨rfl, rfl, (by first | (exfalso; omega) | skip; rw [ez]; unfold zrOp; (try rw [show zrL q f 0 (o + 1) (zadv M) = M99 from e99.symm]); (try rw [show zrL q f 5 (o + 1) (zadv M) = M153 from e153.symm]); (repeat (first | rw [if_pos hd9] | rw [if_neg hd9] | rw [if_pos hd23] | rw [if_neg hd23] | rw [if_pos (by omega)] | rw [if_neg (by omega)])); first | rfl | exact e13 | exact e39 | exact e170)⟩)
    ·
      have hd23 := zb_ne0.mp h23
      have ha := hT.adv (by omega)
      refine z_aload_n 0 (zdec DX4_readOperand 12 rfl) rfl rfl (by decide) ?_
      refine z_dup (zdec DX4_readOperand 13 rfl) rfl ?_
      refine z_geti (ki := 2) 14 4 (zdec DX4_readOperand 14 rfl) rfl shp14 rfl (by decide) rfl rfl fl_SixWalls_LawText_17 ?_
      refine z_iconst 1 (zdec DX4_readOperand 15 rfl) (by decide) ?_
      refine z_iadd (zdec DX4_readOperand 16 rfl) (by unfold z32; omega) ?_
      refine z_puti (ki := 2) 14 4 (zdec DX4_readOperand 17 rfl) rfl shp14 rfl (by decide) rfl rfl fl_SixWalls_LawText_17 (Or.inl rfl) ?_
      refine z_aload_n 0 (zdec DX4_readOperand 18 rfl) rfl rfl (by decide) ?_
      refine z_iload_n 2 (zdec DX4_readOperand 19 rfl) rfl rfl ?_
      refine z_iconst 0 (zdec DX4_readOperand 20 rfl) (by decide) ?_
      refine z_inv mX4_emit 14 4 [.inl (zpk M), .inl 0] (zdec DX4_readOperand 21 rfl) ml_SixWalls_LawText_62 okX4_emit rfl shp14 rfl rfl rfl rfl (Nat.le_of_ble_eq_true rfl) (by omega) (b' := (0, 0)) ⟨Nat.le_refl 0, Nat.le_refl 0⟩ (Nat.le_of_ble_eq_true rfl) (cX4_emit ha.P ha.q ha.ns.1 (zpk M) 0) (fun rv9 S9 M39 h9 => ?_)
      obtain ⟨rfl, rfl, e39⟩ := h9
      change zW _ _ _ _ _ 42 [(0, .inr (.inr 14)), (1, .inl o), (2, .inl (zpk M))] [.inl (zpl (zup M 14 2 ((M 14 2) + 1)))] M39
      refine z_pop (zdec DX4_readOperand 22 rfl) rfl ?_
      refine z_goto 174 (zdec DX4_readOperand 23 rfl) rfl ?_
      exact z_vret (zdec DX4_readOperand 94 rfl) rfl (⟨rfl, rfl, (by first | (exfalso; omega) | skip; rw [ez]; unfold zrOp; (try rw [show zrL q f 0 (o + 1) (zadv M) = M99 from e99.symm]); (try rw [show zrL q f 5 (o + 1) (zadv M) = M153 from e153.symm]); (repeat (first | rw [if_pos hd9] | rw [if_neg hd9] | rw [if_pos hd23] | rw [if_neg hd23] | rw [if_pos (by omega)] | rw [if_neg (by omega)])); first | rfl | exact e13 | exact e39 | exact e170)⟩)
  ·
    have hd9 := zb_ne0.mp h9
    have ha := hT.adv (by omega)
    refine z_aload_n 0 (zdec DX4_readOperand 6 rfl) rfl rfl (by decide) ?_
    refine z_inv mX4_readNumber 14 4 [] (zdec DX4_readOperand 7 rfl) ml_SixWalls_LawText_77 okX4_readNumber rfl shp14 rfl rfl rfl rfl (Nat.le_of_ble_eq_true rfl) (by omega) (b' := (0, 0)) ⟨Nat.le_refl 0, Nat.le_refl 0⟩ (Nat.le_of_ble_eq_true rfl) (cX4_readNumber hT) (fun rv9 S9 M13 h9 => ?_)
    obtain ⟨rfl, rfl, e13⟩ := h9
    change zW _ _ _ _ _ 16 [(0, .inr (.inr 14)), (1, .inl o), (2, .inl (zpk M))] [] M13
    refine z_goto 174 (zdec DX4_readOperand 8 rfl) rfl ?_
    exact z_vret (zdec DX4_readOperand 94 rfl) rfl (⟨rfl, rfl, (by first | (exfalso; omega) | skip; rw [ez]; unfold zrOp; (try rw [show zrL q f 0 (o + 1) (zadv M) = M99 from e99.symm]); (try rw [show zrL q f 5 (o + 1) (zadv M) = M153 from e153.symm]); (repeat (first | rw [if_pos hd9] | rw [if_neg hd9] | rw [if_pos hd23] | rw [if_neg hd23] | rw [if_pos (by omega)] | rw [if_neg (by omega)])); first | rfl | exact e13 | exact e39 | exact e170)⟩)
set_option maxHeartbeats 4000000 in
theorem lp_X4_readLevel_34 {q : Int} (f : Nat) (hL : ∀ (M : zMm) (l o : Int), zTI M q → 0 ≤ l → l ≤ 5 → 0 ≤ o → o ≤ 6 → (6 - o) * 6 + (5 - l) + 1 ≤ f → zW mX4_readLevel (2 * f + 4) (fun rv S' M' => S' = zS0 ∧ rv = none ∧ M' = zrL q f l o M) (0, 0) zS0 0 (zargs 0 [.inr (.inr 14), .inl l, .inl o]) [] M) (l o mo : Int) (hl : 0 ≤ l ∧ l < 5) (ho : 0 ≤ o ∧ o ≤ 6) (hf : (6 - o) * 6 + (5 - l) + 1 ≤ f + 1) (hmo : mo ≤ 120) (Z : zMm) (hx95 : ∀ (M2 : zMm), (M2 = Z) → zW mX4_readLevel (2 * f + 6) (fun rv S' M' => S' = zS0 ∧ rv = none ∧ M' = Z) (0, 0) zS0 95 [] [] M2) : ∀ (n : Nat) (n4 : Int) (M2 : zMm), (mo - n4).toNat < n → (0 ≤ n4 ∧ n4 ≤ mo ∧ zTI M2 q ∧ Z = zrLp (zrL q f (l + 1) o) q l (mo - n4).toNat M2) → zW mX4_readLevel (2 * f + 6) (fun rv S' M' => S' = zS0 ∧ rv = none ∧ M' = Z) (0, 0) zS0 34 [(0, .inr (.inr 14)), (1, .inl l), (2, .inl o), (3, .inl mo), (4, .inl n4)] [] M2 := by
  intro n
  induction n with
  | zero => intro n4 M2 hn; exact absurd hn (Nat.not_lt_zero _)
  | succ n ih =>
    intro n4 M2 hn hI
    have hat := hI.2.2.1.at_
    have hwr := hI.2.2.1.wr
    have hZ : n4 < mo → Z = if M2 14 3 ≠ 0 ∨ zlev (zpk M2) ≠ l then M2 else zrLp (zrL q f (l + 1) o) q l (mo - (n4 + 1)).toNat (zemi (zrL q f (l + 1) o (zadv M2)) q (zpk M2) 0) := by
      intro h
      rw [hI.2.2.2, show (mo - n4).toNat = (mo - (n4 + 1)).toNat + 1 by omega]
      rfl
    refine z_iload 4 (zdec DX4_readLevel 22 rfl) rfl ?_
    refine z_iload_n 3 (zdec DX4_readLevel 23 rfl) rfl rfl ?_
    refine z_icmp_ge 95 (zdec DX4_readLevel 24 rfl) rfl (fun h37 => ?_) (fun h37 => ?_)
    ·
      refine z_weak (L' := []) (by simp) ?_
      exact hx95 M2 (by rw [hI.2.2.2, show (mo - n4).toNat = 0 by omega]; rfl)
    ·
      refine z_aload_n 0 (zdec DX4_readLevel 25 rfl) rfl rfl (by decide) ?_
      refine z_inv mX4_peek 14 4 [] (zdec DX4_readLevel 26 rfl) ml_SixWalls_LawText_58 okX4_peek rfl shp14 rfl rfl rfl rfl (Nat.le_of_ble_eq_true rfl) (by omega) (b' := (0, 0)) ⟨Nat.le_refl 0, Nat.le_refl 0⟩ (Nat.le_of_ble_eq_true rfl) (cX4_peek hI.2.2.1.P ⟨hI.2.2.1.at_.1, hI.2.2.1.at_.2.2⟩) (fun rv9 S9 M41 h9 => ?_)
      obtain ⟨rfl, rfl, rfl⟩ := h9
      change zW _ _ _ _ _ 44 [(0, .inr (.inr 14)), (1, .inl l), (2, .inl o), (3, .inl mo), (4, .inl n4)] [.inl (zpk M2)] M2
      refine z_istore (L' := [(0, .inr (.inr 14)), (1, .inl l), (2, .inl o), (3, .inl mo), (4, .inl n4), (5, .inl (zpk M2))]) (zdec DX4_readLevel 27 rfl) rfl (by decide) ?_
      refine z_aload_n 0 (zdec DX4_readLevel 28 rfl) rfl rfl (by decide) ?_
      refine z_geti (ki := 3) 14 4 (zdec DX4_readLevel 29 rfl) rfl shp14 rfl (by decide) rfl rfl fl_SixWalls_LawText_20 ?_
      refine z_if_ne 62 (zdec DX4_readLevel 30 rfl) rfl (fun h50 => ?_) (fun h50 => ?_)
      ·
        exact z_vret (zdec DX4_readLevel 35 rfl) rfl (⟨rfl, rfl, (by rw [hZ (by omega), if_pos (by omega)])⟩)
      ·
        refine z_iload 5 (zdec DX4_readLevel 31 rfl) rfl ?_
        refine z_invs mX4_levelOf [.inl (zpk M2)] (zdec DX4_readLevel 32 rfl) (Or.inl ml_SixWalls_LawText_69) okX4_levelOf rfl rfl (Nat.le_of_ble_eq_true rfl) (by omega) (b' := (0, 0)) ⟨Nat.le_refl 0, Nat.le_refl 0⟩ (Nat.le_of_ble_eq_true rfl) (cX4_levelOf (zpk M2)) (fun rv9 S9 M55 h9 => ?_)
        obtain ⟨rfl, rfl, rfl⟩ := h9
        change zW _ _ _ _ _ 58 [(0, .inr (.inr 14)), (1, .inl l), (2, .inl o), (3, .inl mo), (4, .inl n4), (5, .inl (zpk M2))] [.inl (zlev ((zpk M2)))] M2
        refine z_iload_n 1 (zdec DX4_readLevel 33 rfl) rfl rfl ?_
        refine z_icmp_eq 63 (zdec DX4_readLevel 34 rfl) rfl (fun h59 => ?_) (fun h59 => ?_)
        ·
          have ha := hI.2.2.1.adv (q := q) (zlev_ne (fun e => e h59) hl.1)
          refine z_aload_n 0 (zdec DX4_readLevel 36 rfl) rfl rfl (by decide) ?_
          refine z_dup (zdec DX4_readLevel 37 rfl) rfl ?_
          refine z_geti (ki := 2) 14 4 (zdec DX4_readLevel 38 rfl) rfl shp14 rfl (by decide) rfl rfl fl_SixWalls_LawText_17 ?_
          refine z_iconst 1 (zdec DX4_readLevel 39 rfl) (by decide) ?_
          refine z_iadd (zdec DX4_readLevel 40 rfl) (by unfold z32; omega) ?_
          refine z_puti (ki := 2) 14 4 (zdec DX4_readLevel 41 rfl) rfl shp14 rfl (by decide) rfl rfl fl_SixWalls_LawText_17 (Or.inl rfl) ?_
          refine z_aload_n 0 (zdec DX4_readLevel 42 rfl) rfl rfl (by decide) ?_
          refine z_iload_n 1 (zdec DX4_readLevel 43 rfl) rfl rfl ?_
          refine z_iconst 1 (zdec DX4_readLevel 44 rfl) (by decide) ?_
          refine z_iadd (zdec DX4_readLevel 45 rfl) (by unfold z32; omega) ?_
          refine z_iload_n 2 (zdec DX4_readLevel 46 rfl) rfl rfl ?_
          refine z_inv mX4_readLevel 14 4 [.inl (l + 1), .inl o] (zdec DX4_readLevel 47 rfl) ml_SixWalls_LawText_54 okX4_readLevel rfl shp14 rfl rfl rfl rfl (Nat.le_of_ble_eq_true rfl) (by omega) (b' := (0, 0)) ⟨Nat.le_refl 0, Nat.le_refl 0⟩ (Nat.le_of_ble_eq_true rfl) (hL (zup M2 14 2 ((M2 14 2) + 1)) (l + 1) o ha (by omega) (by omega) (by omega) (by omega) (by omega)) (fun rv9 S9 M78 h9 => ?_)
          obtain ⟨rfl, rfl, e78⟩ := h9
          have t78 : zTI M78 q := by rw [e78]; exact zrL_TI _ _ _ _ (by omega) ha
          change zW _ _ _ _ _ 81 [(0, .inr (.inr 14)), (1, .inl l), (2, .inl o), (3, .inl mo), (4, .inl n4), (5, .inl (zpk M2))] [] M78
          refine z_aload_n 0 (zdec DX4_readLevel 48 rfl) rfl rfl (by decide) ?_
          refine z_iload 5 (zdec DX4_readLevel 49 rfl) rfl ?_
          refine z_iconst 0 (zdec DX4_readLevel 50 rfl) (by decide) ?_
          refine z_inv mX4_emit 14 4 [.inl (zpk M2), .inl 0] (zdec DX4_readLevel 51 rfl) ml_SixWalls_LawText_62 okX4_emit rfl shp14 rfl rfl rfl rfl (Nat.le_of_ble_eq_true rfl) (by omega) (b' := (0, 0)) ⟨Nat.le_refl 0, Nat.le_refl 0⟩ (Nat.le_of_ble_eq_true rfl) (cX4_emit t78.P t78.q t78.ns.1 (zpk M2) 0) (fun rv9 S9 M85 h9 => ?_)
          obtain ⟨rfl, rfl, e85⟩ := h9
          change zW _ _ _ _ _ 88 [(0, .inr (.inr 14)), (1, .inl l), (2, .inl o), (3, .inl mo), (4, .inl n4), (5, .inl (zpk M2))] [.inl (zpl M78)] M85
          refine z_pop (zdec DX4_readLevel 52 rfl) rfl ?_
          refine z_iinc (L' := [(0, .inr (.inr 14)), (1, .inl l), (2, .inl o), (3, .inl mo), (4, .inl (n4 + 1)), (5, .inl (zpk M2))]) 4 (zdec DX4_readLevel 53 rfl) rfl (by unfold z32; omega) rfl (by decide) ?_
          refine z_goto 34 (zdec DX4_readLevel 54 rfl) rfl ?_
          refine z_weak (L' := [(0, .inr (.inr 14)), (1, .inl l), (2, .inl o), (3, .inl mo), (4, .inl (n4 + 1))]) (by simp) ?_
          exact ih (n4 + 1) M85 (by omega) ⟨by omega, by omega, (by rw [e85]; exact t78.emi _ (by omega)), (by rw [hZ (by omega), if_neg (by omega), e85, e78]; rfl)⟩
        ·
          exact z_vret (zdec DX4_readLevel 35 rfl) rfl (⟨rfl, rfl, (by rw [hZ (by omega), if_pos (by omega)])⟩)
set_option maxHeartbeats 4000000 in
theorem cX4_readLevel {q : Int} (f : Nat) (hL : ∀ (M : zMm) (l o : Int), zTI M q → 0 ≤ l → l ≤ 5 → 0 ≤ o → o ≤ 6 → (6 - o) * 6 + (5 - l) + 1 ≤ f → zW mX4_readLevel (2 * f + 4) (fun rv S' M' => S' = zS0 ∧ rv = none ∧ M' = zrL q f l o M) (0, 0) zS0 0 (zargs 0 [.inr (.inr 14), .inl l, .inl o]) [] M) (hO : ∀ (M : zMm) (o : Int), zTI M q → 0 ≤ o → o ≤ 6 → (6 - o) * 6 + 1 ≤ f + 1 → zW mX4_readOperand (2 * f + 5) (fun rv S' M' => S' = zS0 ∧ rv = none ∧ M' = zrL q (f + 1) 5 o M) (0, 0) zS0 0 (zargs 0 [.inr (.inr 14), .inl o]) [] M) {M : zMm} (l o : Int) (hT : zTI M q) (hl : 0 ≤ l ∧ l ≤ 5) (ho : 0 ≤ o ∧ o ≤ 6) (hf : (6 - o) * 6 + (5 - l) + 1 ≤ f + 1) : zW mX4_readLevel (2 * f + 6) (fun rv S' M' => S' = zS0 ∧ rv = none ∧ M' = zrL q (f + 1) l o M) (0, 0) zS0 0 (zargs 0 [.inr (.inr 14), .inl l, .inl o]) [] M := by
  change zW _ _ _ _ _ 0 [(0, .inr (.inr 14)), (1, .inl l), (2, .inl o)] [] M
  refine z_iload_n 1 (zdec DX4_readLevel 0 rfl) rfl rfl ?_
  refine z_iconst 5 (zdec DX4_readLevel 1 rfl) (by decide) ?_
  refine z_icmp_lt 11 (zdec DX4_readLevel 2 rfl) rfl (fun h2 => ?_) (fun h2 => ?_)
  ·
    refine z_aload_n 0 (zdec DX4_readLevel 7 rfl) rfl rfl (by decide) ?_
    refine z_iload_n 1 (zdec DX4_readLevel 8 rfl) rfl rfl ?_
    refine z_iconst 1 (zdec DX4_readLevel 9 rfl) (by decide) ?_
    refine z_iadd (zdec DX4_readLevel 10 rfl) (by unfold z32; omega) ?_
    refine z_iload_n 2 (zdec DX4_readLevel 11 rfl) rfl rfl ?_
    refine z_inv mX4_readLevel 14 4 [.inl (l + 1), .inl o] (zdec DX4_readLevel 12 rfl) ml_SixWalls_LawText_54 okX4_readLevel rfl shp14 rfl rfl rfl rfl (Nat.le_of_ble_eq_true rfl) (by omega) (b' := (0, 0)) ⟨Nat.le_refl 0, Nat.le_refl 0⟩ (Nat.le_of_ble_eq_true rfl) (hL M (l + 1) o hT (by omega) (by omega) (by omega) (by omega) (by omega)) (fun rv9 S9 M16 h9 => ?_)
    obtain ⟨rfl, rfl, e16⟩ := h9
    have t16 : zTI M16 q := by rw [e16]; exact zrL_TI _ _ _ _ (by omega) hT
    change zW _ _ _ _ _ 19 [(0, .inr (.inr 14)), (1, .inl l), (2, .inl o)] [] M16
    refine z_iload_n 1 (zdec DX4_readLevel 13 rfl) rfl rfl ?_
    refine z_iconst 2 (zdec DX4_readLevel 14 rfl) (by decide) ?_
    refine z_icmp_ne 28 (zdec DX4_readLevel 15 rfl) rfl (fun h21 => ?_) (fun h21 => ?_)
    ·
      refine z_bipush 120 (zdec DX4_readLevel 18 rfl) (by decide) ?_
      refine z_istore_n (L' := [(0, .inr (.inr 14)), (1, .inl l), (2, .inl o), (3, .inl 120)]) (zdec DX4_readLevel 19 rfl) rfl rfl (by decide) ?_
      refine z_iconst 0 (zdec DX4_readLevel 20 rfl) (by decide) ?_
      refine z_istore (L' := [(0, .inr (.inr 14)), (1, .inl l), (2, .inl o), (3, .inl 120), (4, .inl 0)]) (zdec DX4_readLevel 21 rfl) rfl (by decide) ?_
      refine lp_X4_readLevel_34 f hL l o _ ⟨by omega, by omega⟩ ho hf (by omega) (zrL q (f + 1) l o M) (hx95 := fun M2 hx => ?_) _ 0 M16 (Nat.lt_succ_self _) ⟨by omega, by omega, t16, (by unfold zrL; rw [if_neg (by omega), e16]; (first | rw [if_pos (by omega)] | rw [if_neg (by omega)]) <;> rfl)⟩
      exact z_vret (zdec DX4_readLevel 55 rfl) rfl (⟨rfl, rfl, hx⟩)
    ·
      refine z_iconst 1 (zdec DX4_readLevel 16 rfl) (by decide) ?_
      refine z_goto 30 (zdec DX4_readLevel 17 rfl) rfl ?_
      refine z_istore_n (L' := [(0, .inr (.inr 14)), (1, .inl l), (2, .inl o), (3, .inl 1)]) (zdec DX4_readLevel 19 rfl) rfl rfl (by decide) ?_
      refine z_iconst 0 (zdec DX4_readLevel 20 rfl) (by decide) ?_
      refine z_istore (L' := [(0, .inr (.inr 14)), (1, .inl l), (2, .inl o), (3, .inl 1), (4, .inl 0)]) (zdec DX4_readLevel 21 rfl) rfl (by decide) ?_
      refine lp_X4_readLevel_34 f hL l o _ ⟨by omega, by omega⟩ ho hf (by omega) (zrL q (f + 1) l o M) (hx95 := fun M2 hx => ?_) _ 0 M16 (Nat.lt_succ_self _) ⟨by omega, by omega, t16, (by unfold zrL; rw [if_neg (by omega), e16]; (first | rw [if_pos (by omega)] | rw [if_neg (by omega)]) <;> rfl)⟩
      exact z_vret (zdec DX4_readLevel 55 rfl) rfl (⟨rfl, rfl, hx⟩)
  ·
    refine z_aload_n 0 (zdec DX4_readLevel 3 rfl) rfl rfl (by decide) ?_
    refine z_iload_n 2 (zdec DX4_readLevel 4 rfl) rfl rfl ?_
    refine z_inv mX4_readOperand 14 4 [.inl o] (zdec DX4_readLevel 5 rfl) ml_SixWalls_LawText_65 okX4_readOperand rfl shp14 rfl rfl rfl rfl (Nat.le_of_ble_eq_true rfl) (by omega) (b' := (0, 0)) ⟨Nat.le_refl 0, Nat.le_refl 0⟩ (Nat.le_of_ble_eq_true rfl) (hO M o hT (by omega) (by omega) (by omega)) (fun rv9 S9 M7 h9 => ?_)
    obtain ⟨rfl, rfl, e7⟩ := h9
    change zW _ _ _ _ _ 10 [(0, .inr (.inr 14)), (1, .inl l), (2, .inl o)] [] M7
    exact z_vret (zdec DX4_readLevel 6 rfl) rfl (⟨rfl, rfl, (by rw [e7, show l = 5 by omega])⟩)
theorem cX4_rd {q : Int} : ∀ f : Nat, (∀ (M : zMm) (l o : Int), zTI M q → 0 ≤ l → l ≤ 5 → 0 ≤ o → o ≤ 6 → (6 - o) * 6 + (5 - l) + 1 ≤ f → zW mX4_readLevel (2 * f + 4) (fun rv S' M' => S' = zS0 ∧ rv = none ∧ M' = zrL q f l o M) (0, 0) zS0 0 (zargs 0 [.inr (.inr 14), .inl l, .inl o]) [] M) ∧ (∀ (M : zMm) (o : Int), zTI M q → 0 ≤ o → o ≤ 6 → (6 - o) * 6 + 1 ≤ f → zW mX4_readOperand (2 * f + 3) (fun rv S' M' => S' = zS0 ∧ rv = none ∧ M' = zrL q f 5 o M) (0, 0) zS0 0 (zargs 0 [.inr (.inr 14), .inl o]) [] M) := by
  intro f
  induction f with
  | zero => exact ⟨fun M l o _ _ _ _ _ h => by omega, fun M o _ _ _ h => by omega⟩
  | succ f ih =>
    have hO : ∀ (M : zMm) (o : Int), zTI M q → 0 ≤ o → o ≤ 6 → (6 - o) * 6 + 1 ≤ f + 1 → zW mX4_readOperand (2 * f + 5) (fun rv S' M' => S' = zS0 ∧ rv = none ∧ M' = zrL q (f + 1) 5 o M) (0, 0) zS0 0 (zargs 0 [.inr (.inr 14), .inl o]) [] M := fun M o hT h0 h1 hf => cX4_readOperand f (fun M o hT h0 h1 hf => ih.1 M 0 o hT (by omega) (by omega) h0 h1 (by omega)) ih.2 o hT ⟨h0, h1⟩ hf
    exact ⟨fun M l o hT h0 h1 h2 h3 hf => cX4_readLevel f ih.1 hO l o hT ⟨h0, h1⟩ ⟨h2, h3⟩ hf, hO⟩
def zrl (q : Int) (M : zMm) : zMm := zrL q 42 0 0 M
theorem cX4_rl {q : Int} {M : zMm} (hT : zTI M q) : zW mX4_readLevel 88 (fun rv S' M' => S' = zS0 ∧ rv = none ∧ M' = zrl q M) (0, 0) zS0 0 (zargs 0 [.inr (.inr 14), .inl 0, .inl 0]) [] M := (cX4_rd 42).1 M 0 0 hT (by decide) (by decide) (by decide) (by decide) (by decide)
theorem zTI.rl {M : zMm} {q : Int} (h : zTI M q) : zTI (zrl q M) q := zrL_TI _ _ _ _ (by decide) h
def zrLine (q : Int) (M : zMm) : zMm :=
  if zrl q M 14 3 ≠ 0 then zrl q M
  else if zpk (zrl q M) ≠ 63 then zemi (zrl q M) q 59 0
  else zup (zemi (zrl q (zemi (zadv (zrl q M)) q 63 0)) q 59 0) (35 - q) (zpl (zadv (zrl q M))) (zpl (zrl q (zemi (zadv (zrl q M)) q 63 0)))
def zrLns (q : Int) : Nat → zMm → zMm
  | 0, M => M
  | n + 1, M => if zrLine q M 14 3 ≠ 0 ∨ zrLine q M 14 1 ≤ zrLine q M 14 2 then zrLine q M else if zpk (zrLine q M) ≠ 59 then zbad (zrLine q M) else zrLns q n (zadv (zrLine q M))
theorem zTI.put {M : zMm} {q : Int} (h : zTI M q) {k v : Int} (hv : 0 ≤ v ∧ v ≤ 9999) : zTI (zup M (35 - q) k v) q := by
  have hq := h.q.1
  refine ⟨zP_up h.P (by omega), zQ_of h.q (zup_row (by omega)), ?_, ?_, ?_, ?_⟩
  · rw [zup_row (by omega)]
    exact h.at_
  · rw [zup_row (by omega)]
    exact h.ns
  · rw [zup_row (by omega)]
    exact h.wr
  · intro i h0 h1
    by_cases hi : i = k
    · subst hi
      rw [zup_self]
      exact hv
    · rw [zup_ne hi]
      exact h.nn i h0 h1
theorem zTI.line {M : zMm} {q : Int} (h : zTI M q) : zTI (zrLine q M) q := by
  unfold zrLine
  split
  · exact h.rl
  · split
    · exact h.rl.emi _ (by omega)
    · have h1 := h.rl.adv (by omega)
      have h2 := (h1.emi 63 (n := 0) (by omega)).rl
      have h3 := zpl_b h2.ns.1
      exact (h2.emi _ (by omega)).put (by omega)
theorem zTI.lns {q : Int} : ∀ (n : Nat) {M : zMm}, zTI M q → zTI (zrLns q n M) q := by
  intro n
  induction n with
  | zero => intro M h; exact h
  | succ n ih =>
    intro M h
    unfold zrLns
    split
    · exact h.line
    · split
      · exact h.line.bad
      · exact ih (h.line.adv (by omega))
set_option maxHeartbeats 4000000 in
theorem cX4_readLine {M : zMm} {q : Int} (hT : zTI M q) : zW mX4_readLine 89 (fun rv S' M' => S' = zS0 ∧ rv = none ∧ M' = zrLine q M) (0, 0) zS0 0 (zargs 0 [.inr (.inr 14)]) [] M := by
  change zW _ _ _ _ _ 0 [(0, .inr (.inr 14))] [] M
  have hq0 := hT.q.1
  refine z_aload_n 0 (zdec DX4_readLine 0 rfl) rfl rfl (by decide) ?_
  refine z_iconst 0 (zdec DX4_readLine 1 rfl) (by decide) ?_
  refine z_iconst 0 (zdec DX4_readLine 2 rfl) (by decide) ?_
  refine z_inv mX4_readLevel 14 4 [.inl 0, .inl 0] (zdec DX4_readLine 3 rfl) ml_SixWalls_LawText_54 okX4_readLevel rfl shp14 rfl rfl rfl rfl (Nat.le_of_ble_eq_true rfl) (Nat.le_of_ble_eq_true rfl) (b' := (0, 0)) ⟨Nat.le_refl 0, Nat.le_refl 0⟩ (Nat.le_of_ble_eq_true rfl) (cX4_rl hT) (fun rv9 S9 M3 h9 => ?_)
  obtain ⟨rfl, rfl, e3⟩ := h9
  have t3 : zTI M3 q := by rw [e3]; exact zTI.rl hT
  have w3 := t3.wr
  have a3 := t3.at_
  change zW _ _ _ _ _ 6 [(0, .inr (.inr 14))] [] M3
  refine z_aload_n 0 (zdec DX4_readLine 4 rfl) rfl rfl (by decide) ?_
  refine z_geti (ki := 3) 14 4 (zdec DX4_readLine 5 rfl) rfl shp14 rfl (by decide) rfl rfl fl_SixWalls_LawText_20 ?_
  refine z_if_eq 14 (zdec DX4_readLine 6 rfl) rfl (fun h10 => ?_) (fun h10 => ?_)
  ·
    refine z_aload_n 0 (zdec DX4_readLine 8 rfl) rfl rfl (by decide) ?_
    refine z_inv mX4_peek 14 4 [] (zdec DX4_readLine 9 rfl) ml_SixWalls_LawText_58 okX4_peek rfl shp14 rfl rfl rfl rfl (Nat.le_of_ble_eq_true rfl) (Nat.le_of_ble_eq_true rfl) (b' := (0, 0)) ⟨Nat.le_refl 0, Nat.le_refl 0⟩ (Nat.le_of_ble_eq_true rfl) (cX4_peek t3.P ⟨t3.at_.1, t3.at_.2.2⟩) (fun rv9 S9 M15 h9 => ?_)
    obtain ⟨rfl, rfl, rfl⟩ := h9
    change zW _ _ _ _ _ 18 [(0, .inr (.inr 14))] [.inl (zpk M3)] M3
    refine z_bipush 63 (zdec DX4_readLine 10 rfl) (by decide) ?_
    refine z_icmp_eq 32 (zdec DX4_readLine 11 rfl) rfl (fun h20 => ?_) (fun h20 => ?_)
    ·
      have ha := t3.adv (by omega)
      have hpa : 0 ≤ zpl (zup M3 14 2 (M3 14 2 + 1)) ∧ zpl (zup M3 14 2 (M3 14 2 + 1)) ≤ 120 := zpl_b ha.ns.1
      refine z_aload_n 0 (zdec DX4_readLine 18 rfl) rfl rfl (by decide) ?_
      refine z_dup (zdec DX4_readLine 19 rfl) rfl ?_
      refine z_geti (ki := 2) 14 4 (zdec DX4_readLine 20 rfl) rfl shp14 rfl (by decide) rfl rfl fl_SixWalls_LawText_17 ?_
      refine z_iconst 1 (zdec DX4_readLine 21 rfl) (by decide) ?_
      refine z_iadd (zdec DX4_readLine 22 rfl) (by unfold z32; omega) ?_
      refine z_puti (ki := 2) 14 4 (zdec DX4_readLine 23 rfl) rfl shp14 rfl (by decide) rfl rfl fl_SixWalls_LawText_17 (Or.inl rfl) ?_
      refine z_aload_n 0 (zdec DX4_readLine 24 rfl) rfl rfl (by decide) ?_
      refine z_bipush 63 (zdec DX4_readLine 25 rfl) (by decide) ?_
      refine z_iconst 0 (zdec DX4_readLine 26 rfl) (by decide) ?_
      refine z_inv mX4_emit 14 4 [.inl 63, .inl 0] (zdec DX4_readLine 27 rfl) ml_SixWalls_LawText_62 okX4_emit rfl shp14 rfl rfl rfl rfl (Nat.le_of_ble_eq_true rfl) (Nat.le_of_ble_eq_true rfl) (b' := (0, 0)) ⟨Nat.le_refl 0, Nat.le_refl 0⟩ (Nat.le_of_ble_eq_true rfl) (cX4_emit ha.P ha.q ha.ns.1 63 0) (fun rv9 S9 M46 h9 => ?_)
      obtain ⟨rfl, rfl, e46⟩ := h9
      have t46 : zTI M46 q := by rw [e46]; exact ha.emi _ (by omega)
      change zW _ _ _ _ _ 49 [(0, .inr (.inr 14))] [.inl (zpl (zup M3 14 2 ((M3 14 2) + 1)))] M46
      refine z_istore_n (L' := [(0, .inr (.inr 14)), (1, .inl (zpl (zup M3 14 2 ((M3 14 2) + 1))))]) (zdec DX4_readLine 28 rfl) rfl rfl (by decide) ?_
      refine z_aload_n 0 (zdec DX4_readLine 29 rfl) rfl rfl (by decide) ?_
      refine z_iconst 0 (zdec DX4_readLine 30 rfl) (by decide) ?_
      refine z_iconst 0 (zdec DX4_readLine 31 rfl) (by decide) ?_
      refine z_inv mX4_readLevel 14 4 [.inl 0, .inl 0] (zdec DX4_readLine 32 rfl) ml_SixWalls_LawText_54 okX4_readLevel rfl shp14 rfl rfl rfl rfl (Nat.le_of_ble_eq_true rfl) (Nat.le_of_ble_eq_true rfl) (b' := (0, 0)) ⟨Nat.le_refl 0, Nat.le_refl 0⟩ (Nat.le_of_ble_eq_true rfl) (cX4_rl t46) (fun rv9 S9 M53 h9 => ?_)
      obtain ⟨rfl, rfl, e53⟩ := h9
      have t53 : zTI M53 q := by rw [e53]; exact zTI.rl t46
      have w53 := t53.wr
      have a53 := t53.at_
      change zW _ _ _ _ _ 56 [(0, .inr (.inr 14)), (1, .inl (zpl (zup M3 14 2 ((M3 14 2) + 1))))] [] M53
      refine z_aload_n 0 (zdec DX4_readLine 33 rfl) rfl rfl (by decide) ?_
      refine z_getr (rw1 := -24) (ki := 8) (r' := (35 - q)) 14 4 (zdec DX4_readLine 34 rfl) rfl rfl shp14 rfl (by decide) rfl rfl fl_SixWalls_LawText_36 t53.q.2.2.2.2 ?_
      refine z_iload_n 1 (zdec DX4_readLine 35 rfl) rfl rfl ?_
      refine z_aload_n 0 (zdec DX4_readLine 36 rfl) rfl rfl (by decide) ?_
      refine z_bipush 59 (zdec DX4_readLine 37 rfl) (by decide) ?_
      refine z_iconst 0 (zdec DX4_readLine 38 rfl) (by decide) ?_
      refine z_inv mX4_emit 14 4 [.inl 59, .inl 0] (zdec DX4_readLine 39 rfl) ml_SixWalls_LawText_62 okX4_emit rfl shp14 rfl rfl rfl rfl (Nat.le_of_ble_eq_true rfl) (Nat.le_of_ble_eq_true rfl) (b' := (0, 0)) ⟨Nat.le_refl 0, Nat.le_refl 0⟩ (Nat.le_of_ble_eq_true rfl) (cX4_emit t53.P t53.q t53.ns.1 59 0) (fun rv9 S9 M65 h9 => ?_)
      obtain ⟨rfl, rfl, e65⟩ := h9
      have t65 : zTI M65 q := by rw [e65]; exact t53.emi _ (by omega)
      change zW _ _ _ _ _ 68 [(0, .inr (.inr 14)), (1, .inl (zpl (zup M3 14 2 ((M3 14 2) + 1))))] [.inl (zpl M53), .inl (zpl (zup M3 14 2 ((M3 14 2) + 1))), .inr (.inr (35 - q))] M65
      refine z_iast (35 - q).toNat (zdec DX4_readLine 40 rfl) (by omega) (shpTx hq0).2.2.2 ⟨by omega, by omega⟩ ?_
      exact z_vret (zdec DX4_readLine 41 rfl) rfl (⟨rfl, rfl, (by unfold zrLine; rw [← e3, if_neg (by omega), if_neg (by omega), e65, e53, e46]; rfl)⟩)
    ·
      refine z_aload_n 0 (zdec DX4_readLine 12 rfl) rfl rfl (by decide) ?_
      refine z_bipush 59 (zdec DX4_readLine 13 rfl) (by decide) ?_
      refine z_iconst 0 (zdec DX4_readLine 14 rfl) (by decide) ?_
      refine z_inv mX4_emit 14 4 [.inl 59, .inl 0] (zdec DX4_readLine 15 rfl) ml_SixWalls_LawText_62 okX4_emit rfl shp14 rfl rfl rfl rfl (Nat.le_of_ble_eq_true rfl) (Nat.le_of_ble_eq_true rfl) (b' := (0, 0)) ⟨Nat.le_refl 0, Nat.le_refl 0⟩ (Nat.le_of_ble_eq_true rfl) (cX4_emit t3.P t3.q t3.ns.1 59 0) (fun rv9 S9 M27 h9 => ?_)
      obtain ⟨rfl, rfl, e27⟩ := h9
      have t27 : zTI M27 q := by rw [e27]; exact t3.emi _ (by omega)
      change zW _ _ _ _ _ 30 [(0, .inr (.inr 14))] [.inl (zpl M3)] M27
      refine z_pop (zdec DX4_readLine 16 rfl) rfl ?_
      exact z_vret (zdec DX4_readLine 17 rfl) rfl (⟨rfl, rfl, (by unfold zrLine; rw [← e3, if_neg (by omega), if_pos (by omega)]; exact e27)⟩)
  ·
    exact z_vret (zdec DX4_readLine 7 rfl) rfl (⟨rfl, rfl, (by unfold zrLine; rw [← e3, if_pos h10]; try rfl)⟩)
