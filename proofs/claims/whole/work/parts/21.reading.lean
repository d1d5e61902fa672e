/-! contracts of LawText: reading -/
def zadv (M : zMm) : zMm := zup M 14 2 (M 14 2 + 1)
def zbad (M : zMm) : zMm := zup M 14 3 1
def zrnN (f : Nat) (n : Int) (M : zMm) : Int × zMm := match f with
  | 0 => (n, M)
  | f + 1 => if 48 ≤ zpk M ∧ zpk M ≤ 57 then zrnN f (n * 10 + zpk M - 48) (zadv M) else (n, M)
def zrNum (q : Int) (M : zMm) : zMm := zemi (zrnN 4 0 M).2 q 110 (zrnN 4 0 M).1
def zrLp (R : zMm → zMm) (q l : Int) : Nat → zMm → zMm
  | 0, M => M
  | n + 1, M => if M 14 3 ≠ 0 ∨ zlev (zpk M) ≠ l then M else zrLp R q l n (zemi (R (zadv M)) q (zpk M) 0)
def zrOp (R : Int → Int → zMm → zMm) (q o : Int) (M : zMm) : zMm :=
  if 48 ≤ zpk M ∧ zpk M ≤ 57 then zrNum q M
  else if zpk M = 100 ∨ zpk M = 116 ∨ zpk M = 111 ∨ zpk M = 97 ∨ zpk M = 98 then zemi (zadv M) q (zpk M) 0
  else if 6 ≤ o ∨ (zpk M ≠ 40 ∧ zpk M ≠ 33 ∧ zpk M ≠ 45) then zbad M
  else if zpk M = 40 then (if R 0 (o + 1) (zadv M) 14 3 ≠ 0 ∨ zpk (R 0 (o + 1) (zadv M)) ≠ 41 then zbad (R 0 (o + 1) (zadv M)) else zadv (R 0 (o + 1) (zadv M)))
  else zemi (R 5 (o + 1) (zadv M)) q (if zpk M = 45 then 109 else zpk M) 0
def zrL (q : Int) : Nat → Int → Int → zMm → zMm
  | 0, _, _, M => M
  | f + 1, l, o, M => if 5 ≤ l then zrOp (zrL q f) q o M else zrLp (zrL q f (l + 1) o) q l (if l = 2 then 1 else 120) (zrL q f (l + 1) o M)
def zTI (M : zMm) (q : Int) : Prop := zP M ∧ zQ M q ∧ (0 ≤ M 14 2 ∧ M 14 2 ≤ M 14 1 ∧ M 14 1 ≤ 120) ∧ (0 ≤ M 14 9 ∧ M 14 9 ≤ 121) ∧ (0 ≤ M 14 3 ∧ M 14 3 ≤ 1) ∧ ∀ i : Int, 0 ≤ i → i < 121 → 0 ≤ M (35 - q) i ∧ M (35 - q) i ≤ 9999
theorem zTI.P {M : zMm} {q : Int} (h : zTI M q) : zP M := h.1
theorem zTI.q {M : zMm} {q : Int} (h : zTI M q) : zQ M q := h.2.1
theorem zTI.at_ {M : zMm} {q : Int} (h : zTI M q) : 0 ≤ M 14 2 ∧ M 14 2 ≤ M 14 1 ∧ M 14 1 ≤ 120 := h.2.2.1
theorem zTI.ns {M : zMm} {q : Int} (h : zTI M q) : 0 ≤ M 14 9 ∧ M 14 9 ≤ 121 := h.2.2.2.1
theorem zTI.wr {M : zMm} {q : Int} (h : zTI M q) : 0 ≤ M 14 3 ∧ M 14 3 ≤ 1 := h.2.2.2.2.1
theorem zTI.nn {M : zMm} {q : Int} (h : zTI M q) : ∀ i : Int, 0 ≤ i → i < 121 → 0 ≤ M (35 - q) i ∧ M (35 - q) i ≤ 9999 := h.2.2.2.2.2
theorem zup_14 {M : zMm} {k k' v : Int} (h : k' ≠ k) : zup M 14 k v 14 k' = M 14 k' := by
  unfold zup
  rw [if_neg (fun e => h e.2)]
theorem zTI.adv {M : zMm} {q : Int} (h : zTI M q) (hn : zpk M ≠ -1) : zTI (zadv M) q := by
  have hq := h.q.1
  have ha : M 14 2 < M 14 1 := by
    unfold zpk at hn
    split at hn
    · assumption
    · exact absurd rfl hn
  have h2 := h.at_
  unfold zadv
  refine ⟨zP_up h.P (by decide), zQ_of h.q (zup_row (by decide)), ?_, ?_, ?_, ?_⟩
  · rw [zup_self, zup_14 (by decide)]
    omega
  · rw [zup_14 (by decide)]
    exact h.ns
  · rw [zup_14 (by decide)]
    exact h.wr
  · rw [zup_row (by omega)]
    exact h.nn
theorem zTI.bad {M : zMm} {q : Int} (h : zTI M q) : zTI (zbad M) q := by
  have hq := h.q.1
  unfold zbad
  refine ⟨zP_up h.P (by decide), zQ_of h.q (zup_row (by decide)), ?_, ?_, ?_, ?_⟩
  · rw [zup_14 (by decide), zup_14 (by decide)]
    exact h.at_
  · rw [zup_14 (by decide)]
    exact h.ns
  · rw [zup_self]
    omega
  · rw [zup_row (by omega)]
    exact h.nn
theorem zpl_b {M : zMm} (h : 0 ≤ M 14 9) : 0 ≤ zpl M ∧ zpl M ≤ 120 := by
  unfold zpl
  split <;> omega
theorem zTI.emi {M : zMm} {q : Int} (h : zTI M q) (g : Int) {n : Int} (hn : 0 ≤ n ∧ n ≤ 9999) : zTI (zemi M q g n) q := by
  have hq := h.q.1
  have hb := zpl_b h.ns.1
  have e14 : ∀ k : Int, k ≠ 9 → zemi M q g n 14 k = M 14 k := by
    intro k hk
    unfold zemi
    rw [zup_14 hk, zup_row (by omega), zup_row (by omega)]
  refine ⟨?_, zQ_of h.q ?_, ?_, ?_, ?_, ?_⟩
  · unfold zemi
    exact zP_up (zP_up (zP_up h.P (by omega)) (by omega)) (by decide)
  · unfold zemi
    rw [zup_row (by decide), zup_row (by omega), zup_row (by omega)]
  · rw [e14 2 (by decide), e14 1 (by decide)]
    exact h.at_
  · unfold zemi
    rw [zup_self]
    omega
  · rw [e14 3 (by decide)]
    exact h.wr
  · intro i h0 h1
    unfold zemi
    rw [zup_row (by omega)]
    by_cases hi : i = zpl M
    · subst hi
      rw [zup_self]
      exact hn
    · rw [zup_ne hi, zup_row (by omega)]
      exact h.nn i h0 h1
theorem zrnN_TI {q : Int} : ∀ (f : Nat) (n b : Int) (M : zMm), zTI M q → 0 ≤ n → n ≤ b → (f = 4 → b = 0) → (f = 3 → b = 9) → (f = 2 → b = 99) → (f = 1 → b = 999) → (f = 0 → b = 9999) → f ≤ 4 → zTI (zrnN f n M).2 q ∧ 0 ≤ (zrnN f n M).1 ∧ (zrnN f n M).1 ≤ 9999 := by
  intro f
  induction f with
  | zero =>
    intro n b M h h0 h1 _ _ _ _ h5 _
    have := h5 rfl
    unfold zrnN
    exact ⟨h, h0, by omega⟩
  | succ f ih =>
    intro n b M h h0 h1 h4 h3 h2 h11 _ hf
    unfold zrnN
    split
    · next hd => exact ih _ (b * 10 + 9) _ (h.adv (by omega)) (by omega) (by omega) (by omega) (by omega) (by omega) (by omega) (by omega) (by omega)
    · exact ⟨h, h0, by rcases (show f = 0 ∨ f = 1 ∨ f = 2 ∨ f = 3 by omega) with rfl | rfl | rfl | rfl <;> omega⟩
theorem zTI.num {M : zMm} {q : Int} (h : zTI M q) : zTI (zrNum q M) q := by
  obtain ⟨h1, h2⟩ := zrnN_TI (q := q) 4 0 0 M h (by omega) (by omega) (by omega) (by omega) (by omega) (by omega) (by omega) (by omega)
  exact h1.emi _ h2
theorem zlev_ne {g l : Int} (h : ¬ zlev g ≠ l) (hl : 0 ≤ l) : g ≠ -1 := by
  intro e
  subst e
  exact h (by rw [show zlev (-1) = -1 by decide]; omega)
theorem zrLp_TI {R : zMm → zMm} {q l : Int} (hl : 0 ≤ l) (hR : ∀ M, zTI M q → zTI (R M) q) : ∀ (n : Nat) (M : zMm), zTI M q → zTI (zrLp R q l n M) q := by
  intro n
  induction n with
  | zero => intro M h; exact h
  | succ n ih =>
    intro M h
    unfold zrLp
    split
    · exact h
    · next hc => exact ih _ ((hR _ (h.adv (zlev_ne (fun e => hc (Or.inr e)) hl))).emi _ (by omega))
theorem zrL_TI {q : Int} : ∀ (f : Nat) (l o : Int) (M : zMm), 0 ≤ l → zTI M q → zTI (zrL q f l o M) q := by
  intro f
  induction f with
  | zero => intro l o M _ h; exact h
  | succ f ih =>
    intro l o M hl h
    unfold zrL
    split
    · unfold zrOp
      split
      · exact h.num
      · split
        · exact (h.adv (by omega)).emi _ (by omega)
        · split
          · exact h.bad
          · split
            · have h5 := ih 0 (o + 1) _ (by omega) (h.adv (by omega))
              split
              · exact h5.bad
              · next hc => exact h5.adv (by omega)
            · exact (ih 5 (o + 1) _ (by omega) (h.adv (by omega))).emi _ (by omega)
    · exact zrLp_TI hl (fun M h => ih _ _ _ (by omega) h) _ _ (ih _ _ _ (by omega) h)
