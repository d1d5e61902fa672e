/-! noises: the class's rounds find what the reference measures -/
abbrev zhh (h : Int) : Prop := 0 ≤ h ∧ h < 16
theorem zrel_f {L : Int → Int} {f t k : Int} (hk : 0 ≤ k) : (∀ h : Int, (zrel L f t k).1 h ≤ L h) ∧ (zrel L f t k).1 t ≤ L f + k ∧ (∀ h : Int, h ≠ t → (zrel L f t k).1 h = L h) ∧ (((zrel L f t k).2 = 1 ∧ (zrel L f t k).1 t = L f + k ∧ L f + k < L t) ∨ ((zrel L f t k).2 = 0 ∧ (zrel L f t k).1 = L ∧ L t ≤ L f + k)) := by
  unfold zrel
  by_cases q : L f + k < L t
  · rw [if_pos q]
    refine ⟨fun h => ?_, ?_, fun h hh => zpu_n hh, Or.inl ⟨rfl, zpu_s, q⟩⟩
    · dsimp only
      by_cases e : h = t
      · subst e; rw [zpu_s]; omega
      · rw [zpu_n e]; omega
    · dsimp only; rw [zpu_s]; omega
  · rw [if_neg q]
    exact ⟨fun h => Int.le_refl _, by dsimp only; omega, fun h _ => rfl, Or.inr ⟨rfl, rfl, by omega⟩⟩
/-- one wall: lower nowhere than needed, never higher -/
theorem zlis1_f {s : zMm} {p : (Int → Int) × Int} {w : Int} (hw : 0 ≤ w ∧ w < 33) (hc : 0 ≤ zwl s w) : (∀ h : Int, (zlis1 s p w).1 h ≤ p.1 h) ∧ (zlis1 s p w).1 (zhigh w) ≤ p.1 (zlow w) + zwl s w ∧ (zlis1 s p w).1 (zlow w) ≤ p.1 (zhigh w) + zwl s w ∧ (∀ F : Int → Int, (∀ h : Int, zhh h → F h ≤ p.1 h) → F (zhigh w) ≤ F (zlow w) + zwl s w → F (zlow w) ≤ F (zhigh w) + zwl s w → ∀ h : Int, zhh h → F h ≤ (zlis1 s p w).1 h) ∧ (((zlis1 s p w).2 = 1 ∧ ∃ h : Int, zhh h ∧ (zlis1 s p w).1 h < p.1 h) ∨ ((zlis1 s p w).2 = p.2 ∧ (zlis1 s p w).1 = p.1 ∧ p.1 (zhigh w) ≤ p.1 (zlow w) + zwl s w ∧ p.1 (zlow w) ≤ p.1 (zhigh w) + zwl s w)) := by
  have a := zrel_f (L := p.1) (f := zlow w) (t := zhigh w) hc
  have b := zrel_f (L := p.1) (f := zhigh w) (t := zlow w) hc
  have ne := zlow_neI hw
  have lb := zlow_b w
  have lh := zhigh_b w
  unfold zlis1
  by_cases q : (zrel p.1 (zlow w) (zhigh w) (zwl s w)).2 = 1
  · rw [if_pos q]
    dsimp only
    rcases a.2.2.2 with ⟨_, e, l⟩ | ⟨e, _⟩
    · refine ⟨a.1, a.2.1, by rw [a.2.2.1 _ ne]; omega, fun F hF f1 f2 h hh => ?_, Or.inl ⟨rfl, zhigh w, lh, by rw [e]; exact l⟩⟩
      by_cases k : h = zhigh w
      · subst k; rw [e]; have := hF _ lb; omega
      · rw [a.2.2.1 h k]; exact hF h hh
    · omega
  · rw [if_neg q]
    dsimp only
    rcases a.2.2.2 with ⟨e, _⟩ | ⟨_, _, l⟩
    · exact absurd e q
    · refine ⟨b.1, by rw [b.2.2.1 _ ne.symm]; exact l, b.2.1, fun F hF f1 f2 h hh => ?_, ?_⟩
      · rcases b.2.2.2 with ⟨_, e, _⟩ | ⟨_, e, _⟩
        · by_cases k : h = zlow w
          · subst k; rw [e]; have := hF _ lh; omega
          · rw [b.2.2.1 h k]; exact hF h hh
        · rw [e]; exact hF h hh
      · rcases b.2.2.2 with ⟨r, e, l2⟩ | ⟨r, e, l2⟩
        · refine Or.inl ⟨if_pos r, zlow w, lb, by rw [e]; exact l2⟩
        · refine Or.inr ⟨if_neg (by omega), e, l, l2⟩
theorem zlisR_f {s : zMm} (hc : ∀ w : Int, 0 ≤ w → w < 33 → 0 ≤ zwl s w) (L : Int → Int) : ∀ n : Nat, n ≤ 33 → (∀ h : Int, (zlisR s L n).1 h ≤ L h) ∧ (∀ w : Int, 0 ≤ w → w < n → (zlisR s L n).1 (zhigh w) ≤ L (zlow w) + zwl s w ∧ (zlisR s L n).1 (zlow w) ≤ L (zhigh w) + zwl s w) ∧ (∀ F : Int → Int, (∀ h : Int, zhh h → F h ≤ L h) → (∀ w : Int, 0 ≤ w → w < 33 → F (zhigh w) ≤ F (zlow w) + zwl s w ∧ F (zlow w) ≤ F (zhigh w) + zwl s w) → ∀ h : Int, zhh h → F h ≤ (zlisR s L n).1 h) ∧ (((zlisR s L n).2 = 1 ∧ ∃ h : Int, zhh h ∧ (zlisR s L n).1 h < L h) ∨ ((zlisR s L n).2 = 0 ∧ (zlisR s L n).1 = L ∧ ztri (zwl s) n L)) := by
  intro n
  induction n with
  | zero => intro _; exact ⟨fun _ => Int.le_refl _, fun w a b => by omega, fun F hF _ h hh => hF h hh, Or.inr ⟨rfl, rfl, fun w a b => by omega⟩⟩
  | succ n ih =>
    intro hn
    obtain ⟨i1, i2, i3, i4⟩ := ih (by omega)
    have e : zlisR s L ((n : Int) + 1) = zlis1 s (zlisR s L n) n := zfo_s _ _ (by omega)
    have t := zlis1_f (s := s) (p := zlisR s L n) (w := (n : Int)) ⟨by omega, by omega⟩ (hc n (by omega) (by omega))
    rw [show ((n + 1 : Nat) : Int) = (n : Int) + 1 by omega, e]
    generalize zlisR s L (n : Int) = p at *
    obtain ⟨t1, t2, t3, t4, t5⟩ := t
    refine ⟨fun h => Int.le_trans (t1 h) (i1 h), fun w a b => ?_, fun F hF hT h hh => t4 F (i3 F hF hT) (hT n (by omega) (by omega)).1 (hT n (by omega) (by omega)).2 h hh, ?_⟩
    · by_cases k : w = n
      · subst k
        have x := i1 (zlow (n : Int))
        have y := i1 (zhigh (n : Int))
        exact ⟨by omega, by omega⟩
      · have z := i2 w a (by omega)
        have x := t1 (zlow w)
        have y := t1 (zhigh w)
        exact ⟨by omega, by omega⟩
    · rcases t5 with ⟨r, h, hh, l⟩ | ⟨r, r2, r3, r4⟩
      · exact Or.inl ⟨r, h, hh, by have := i1 h; omega⟩
      · rcases i4 with ⟨j, h, hh, l⟩ | ⟨j, j2, j3⟩
        · exact Or.inl ⟨r.trans j, h, hh, by rw [r2]; exact l⟩
        · refine Or.inr ⟨r.trans j, r2.trans j2, fun w a b => ?_⟩
          by_cases k : w = n
          · subst k; rw [← j2]; exact ⟨r3, r4⟩
          · exact j3 w a (by omega)
theorem zsum_lt {f g : Int → Int} : ∀ n : Nat, (∀ i : Int, 0 ≤ i → i < n → f i ≤ g i) → zsum f n ≤ zsum g n ∧ ((∃ i : Int, (0 ≤ i ∧ i < n) ∧ f i < g i) → zsum f n < zsum g n) := by
  intro n
  induction n with
  | zero => intro _; exact ⟨Int.le_refl _, fun ⟨i, h, _⟩ => by omega⟩
  | succ n ih =>
    intro h
    have i := ih (fun i a b => h i a (by omega))
    have hn := h n (by omega) (by omega)
    rw [show ((n + 1 : Nat) : Int) = (n : Int) + 1 by omega, zsum_s _ (by omega), zsum_s _ (by omega)]
    refine ⟨by omega, fun ⟨k, hk, l⟩ => ?_⟩
    by_cases e : k = n
    · subst e; omega
    · have := i.2 ⟨k, ⟨hk.1, by omega⟩, l⟩; omega
/-- steps between houses, walls alone: each house but the first has a wall to one that is nearer -/
def zst1 (a b : Int) : Int := let d := if 0 ≤ a / 4 - b / 4 then a / 4 - b / 4 else b / 4 - a / 4
  let x := 2 * (a % 4) + (a / 4 % 2)
  let y := 2 * (b % 4) + (b / 4 % 2)
  let e := if 0 ≤ x - y then x - y else y - x
  if e ≤ d then d else d + (e - d + 1) / 2
theorem zst1_t : ∀ a h : Fin 16, a ≠ h → ∃ w : Fin 33, (zlow (w.val : Int) = (h.val : Int) ∧ zst1 (a.val : Int) (zhigh (w.val : Int)) < zst1 (a.val : Int) (h.val : Int)) ∨ (zhigh (w.val : Int) = (h.val : Int) ∧ zst1 (a.val : Int) (zlow (w.val : Int)) < zst1 (a.val : Int) (h.val : Int)) := by decide +kernel
theorem zst1_b : ∀ a h : Fin 16, 0 ≤ zst1 (a.val : Int) (h.val : Int) ∧ zst1 (a.val : Int) (h.val : Int) ≤ 8 := by decide +kernel
