/-! way -/
theorem zbit1n : ∀ h : Fin 16, ∀ X : BitVec 32, ((X.sshiftRight h.val &&& 1#32) = 1#32) ↔ X.getLsbD h.val = true := by
  intro h X
  have hl := h.isLt
  constructor
  · intro e
    have t := congrArg (fun v => v.getLsbD 0) e
    simp only [BitVec.getLsbD_and, BitVec.getLsbD_sshiftRight] at t
    simp at t
    rw [if_pos (by omega)] at t
    exact t
  · intro e
    apply BitVec.eq_of_getLsbD_eq
    intro i hi
    by_cases q : i = 0
    · subst q
      simp only [BitVec.getLsbD_and, BitVec.getLsbD_sshiftRight]
      simp [e]
      omega
    · simp only [BitVec.getLsbD_and, BitVec.getLsbD_one]
      simp [q]
theorem zsh_t : ∀ h : Fin 16, ∀ X : Int32, (X >>> (Int32.ofInt (h.val : Int) &&& 31)).toBitVec = X.toBitVec.sshiftRight h.val := by
  intro h X
  rw [Int32.toBitVec_shiftRight]
  have e : ((Int32.ofInt (h.val : Int) &&& 31).toBitVec.smod 32).toNat = h.val := by
    revert h
    decide +kernel
  show X.toBitVec.sshiftRight _ = _
  rw [e]
theorem zbit1 {r h : Int} (h0 : 0 ≤ h) (h1 : h < 16) : zand (zshr r h) 1 = 1 ↔ zbi r h.toNat = true := by
  have e := zsh_t ⟨h.toNat, by omega⟩ (Int32.ofInt r)
  simp only [show ((h.toNat : Nat) : Int) = h by omega] at e
  unfold zand zshr zbi
  rw [Int32.ofInt_toInt, show (1 : Int) = (Int32.ofInt 1).toInt by decide, Int32.ofInt_toInt, Int32.toInt_inj, ← Int32.toBitVec_inj, Int32.toBitVec_and, e]
  exact zbit1n ⟨h.toNat, by omega⟩ _
/-- a house is in a set of houses -/
def zin (r k : Int) : Prop := zbi r k.toNat = true
theorem zin_or {f h k : Int} (h0 : 0 ≤ h) (h1 : h < 16) (k0 : 0 ≤ k) : zin (zor f (zshl 1 h)) k ↔ zin f k ∨ k = h := by
  unfold zin
  rw [zbi_or, zbi_shI h0 (by omega), Bool.or_eq_true, decide_eq_true_eq]
  constructor
  · rintro (a | a)
    · exact Or.inl a
    · exact Or.inr (by omega)
  · rintro (a | a)
    · exact Or.inl a
    · exact Or.inr (by omega)
def zbe2 (s : zMm) (r f w : Int) : Int := if s 12 w = 0 then f else
  let f1 := if zand (zshr r (zlow w)) 1 = 1 then zor f (zshl 1 (zhigh w)) else f
  if zand (zshr r (zhigh w)) 1 = 1 then zor f1 (zshl 1 (zlow w)) else f1
theorem zbe2_at {s : zMm} {r f w : Int} {k : Int} (k0 : 0 ≤ k) : zin (zbe2 s r f w) k ↔ zin f k ∨ (s 12 w ≠ 0 ∧ ((zin r (zlow w) ∧ k = zhigh w) ∨ (zin r (zhigh w) ∧ k = zlow w))) := by
  have lb := zlow_b w
  have lh := zhigh_b w
  have a := zbit1 (r := r) lb.1 lb.2
  have b := zbit1 (r := r) lh.1 lh.2
  unfold zbe2
  by_cases d : s 12 w = 0
  · rw [if_pos d]; exact ⟨Or.inl, fun h => h.elim id fun z => absurd d z.1⟩
  · rw [if_neg d]
    dsimp only
    by_cases p : zin r (zlow w)
    · rw [if_pos (a.mpr p)]
      by_cases q : zin r (zhigh w)
      · rw [if_pos (b.mpr q), zin_or lb.1 lb.2 k0, zin_or lh.1 lh.2 k0]
        constructor
        · rintro ((h | h) | h)
          · exact Or.inl h
          · exact Or.inr ⟨d, Or.inl ⟨p, h⟩⟩
          · exact Or.inr ⟨d, Or.inr ⟨q, h⟩⟩
        · rintro (h | ⟨-, ⟨-, h⟩ | ⟨-, h⟩⟩)
          · exact Or.inl (Or.inl h)
          · exact Or.inl (Or.inr h)
          · exact Or.inr h
      · rw [if_neg (fun z => q (b.mp z)), zin_or lh.1 lh.2 k0]
        constructor
        · rintro (h | h)
          · exact Or.inl h
          · exact Or.inr ⟨d, Or.inl ⟨p, h⟩⟩
        · rintro (h | ⟨-, ⟨-, h⟩ | ⟨h, -⟩⟩)
          · exact Or.inl h
          · exact Or.inr h
          · exact absurd h q
    · rw [if_neg (fun z => p (a.mp z))]
      by_cases q : zin r (zhigh w)
      · rw [if_pos (b.mpr q), zin_or lb.1 lb.2 k0]
        constructor
        · rintro (h | h)
          · exact Or.inl h
          · exact Or.inr ⟨d, Or.inr ⟨q, h⟩⟩
        · rintro (h | ⟨-, ⟨h, -⟩ | ⟨-, h⟩⟩)
          · exact Or.inl h
          · exact absurd h p
          · exact Or.inr h
      · rw [if_neg (fun z => q (b.mp z))]
        exact ⟨Or.inl, fun h => h.elim id fun z => z.2.elim (fun y => absurd y.1 p) (fun y => absurd y.1 q)⟩
theorem zin_0 (k : Int) : ¬ zin 0 k := by
  unfold zin
  have e := zbi_nat (m := 0) k.toNat (by decide)
  rw [Nat.zero_testBit] at e
  rw [show (0 : Int) = ((0 : Nat) : Int) from rfl, e]
  decide
theorem zbes_at {s : zMm} {r k : Int} (k0 : 0 ≤ k) : ∀ n : Nat, zin (zfold (zbe2 s r) 0 n) k ↔ ∃ w : Int, (0 ≤ w ∧ w < n) ∧ s 12 w ≠ 0 ∧ ((zin r (zlow w) ∧ k = zhigh w) ∨ (zin r (zhigh w) ∧ k = zlow w)) := by
  intro n
  induction n with
  | zero => exact ⟨fun h => absurd h (zin_0 k), fun ⟨w, h, _⟩ => by omega⟩
  | succ n ih =>
    show zin (zbe2 s r (zfold (zbe2 s r) 0 n) (n : Nat)) k ↔ _
    rw [zbe2_at k0, ih]
    constructor
    · rintro (⟨w, h, t⟩ | t)
      · exact ⟨w, ⟨h.1, by omega⟩, t⟩
      · exact ⟨n, ⟨by omega, by omega⟩, t⟩
    · rintro ⟨w, h, t⟩
      by_cases e : w = n
      · subst e; exact Or.inr t
      · exact Or.inl ⟨w, ⟨h.1, by omega⟩, t⟩
theorem zreach_at {s : zMm} {a k : Int} (k0 : 0 ≤ k) {n : Int} (hn : 0 ≤ n) : zin (zreach s a (n + 1)) k ↔ zin (zreach s a n) k ∨ ∃ w : Int, (0 ≤ w ∧ w < 33) ∧ s 12 w ≠ 0 ∧ ((zin (zreach s a n) (zlow w) ∧ k = zhigh w) ∨ (zin (zreach s a n) (zhigh w) ∧ k = zlow w)) := by
  have e : zreach s a (n + 1) = zor (zreach s a n) (zbes s (zreach s a n)) := zfo_s _ _ hn
  have z : zbes s (zreach s a n) = zfold (zbe2 s (zreach s a n)) 0 33 := rfl
  have t := zbes_at (s := s) (r := zreach s a n) k0 33
  rw [e, z]
  unfold zin at t ⊢
  rw [zbi_or, Bool.or_eq_true, t]
  exact Iff.rfl
theorem zreach_0 {s : zMm} {a k : Int} (ha : 0 ≤ a ∧ a < 16) (k0 : 0 ≤ k) : zin (zreach s a 0) k ↔ k = a := by
  show zin (zshl 1 a) k ↔ _
  unfold zin
  rw [zbi_shI ha.1 (by omega), decide_eq_true_eq]
  omega
theorem zreach_up {s : zMm} {a k : Int} (k0 : 0 ≤ k) {n : Int} (hn : 0 ≤ n) (h : zin (zreach s a n) k) : zin (zreach s a (n + 1)) k := (zreach_at k0 hn).mpr (Or.inl h)
/-- whoever is reached in n steps is at most n far, for each potential -/
theorem zreach_le {s : zMm} {a : Int} (ha : 0 ≤ a ∧ a < 16) {F : Int → Int} (hF : F a ≤ 0) (hw : ∀ w : Int, 0 ≤ w → w < 33 → s 12 w ≠ 0 → F (zhigh w) ≤ F (zlow w) + 1 ∧ F (zlow w) ≤ F (zhigh w) + 1) : ∀ (n : Nat) (k : Int), 0 ≤ k → zin (zreach s a n) k → F k ≤ n := by
  intro n
  induction n with
  | zero => intro k k0 h; rw [(zreach_0 ha k0).mp h]; omega
  | succ n ih =>
    intro k k0 h
    rw [show ((n + 1 : Nat) : Int) = (n : Int) + 1 by omega] at h ⊢
    rcases (zreach_at k0 (by omega)).mp h with h | ⟨w, w1, d, ⟨z, e⟩ | ⟨z, e⟩⟩
    · have := ih k k0 h; omega
    · have := ih _ (zlow_b w).1 z
      have := (hw w w1.1 w1.2 d).1
      rw [e]; omega
    · have := ih _ (zhigh_b w).1 z
      have := (hw w w1.1 w1.2 d).2
      rw [e]; omega
def zrc (s : zMm) (a n : Int) : Int := zsum (fun h => if zbi (zreach s a n) h.toNat = true then 1 else 0) 16
def zrs (s : zMm) (a n : Int) : Prop := ∀ k : Int, zhh k → zin (zreach s a (n + 1)) k → zin (zreach s a n) k
theorem zrs_go {s : zMm} {a n : Int} (hn : 0 ≤ n) (h : zrs s a n) : zrs s a (n + 1) := by
  intro k hk z
  rcases (zreach_at hk.1 (by omega)).mp z with z | ⟨w, w1, d, ⟨z, e⟩ | ⟨z, e⟩⟩
  · exact z
  · exact (zreach_at hk.1 hn).mpr (Or.inr ⟨w, w1, d, Or.inl ⟨h _ (zlow_b w) z, e⟩⟩)
  · exact (zreach_at hk.1 hn).mpr (Or.inr ⟨w, w1, d, Or.inr ⟨h _ (zhigh_b w) z, e⟩⟩)
theorem zrc_all {s : zMm} {a : Int} (ha : 0 ≤ a ∧ a < 16) : ∀ n : Nat, zrs s a n ∨ (n : Int) + 1 ≤ zrc s a n := by
  intro n
  induction n with
  | zero =>
    right
    have u := (zsum_lt16 (f := fun _ => 0) (g := fun h => if zbi (zreach s a ((0 : Nat) : Int)) h.toNat = true then 1 else 0) (fun k _ _ => by split <;> omega)).2 ⟨a, ha, by
      have z : zbi (zreach s a ((0 : Nat) : Int)) a.toNat = true := (zreach_0 ha ha.1).mpr rfl
      rw [if_pos z]; decide⟩
    have v : zsum (fun _ => 0) 16 = 0 := rfl
    unfold zrc
    omega
  | succ n ih =>
    rw [show ((n + 1 : Nat) : Int) = (n : Int) + 1 by omega]
    by_cases c : zrs s a n
    · exact Or.inl (zrs_go (by omega) c)
    · right
      have i := ih.resolve_left c
      obtain ⟨k, hk, z1, z2⟩ : ∃ k : Int, zhh k ∧ zin (zreach s a ((n : Int) + 1)) k ∧ ¬ zin (zreach s a n) k := Classical.byContradiction fun q => c fun k hk z => Classical.byContradiction fun y => q ⟨k, hk, z, y⟩
      have u := (zsum_lt16 (f := fun h => if zbi (zreach s a n) h.toNat = true then 1 else 0) (g := fun h => if zbi (zreach s a ((n : Int) + 1)) h.toNat = true then 1 else 0) (fun x x0 x1 => by
        by_cases p : zbi (zreach s a n) x.toNat = true
        · rw [if_pos p, if_pos (show zbi (zreach s a ((n : Int) + 1)) x.toNat = true from zreach_up x0 (by omega) p)]; exact Int.le_refl _
        · rw [if_neg p]; split <;> omega)).2 ⟨k, hk, by
        have y1 : zbi (zreach s a ((n : Int) + 1)) k.toNat = true := z1
        have y2 : ¬ zbi (zreach s a n) k.toNat = true := z2
        rw [if_neg y2, if_pos y1]; decide⟩
      unfold zrc at i ⊢
      omega
