/-! the reference: a text worked out; law, feed -/
abbrev zLn : Type := Option (List (Int × Int)) × List (Int × Int)
def zpLi (t : Int → Int) (n p : Int) : Int × Bool × zLn :=
  if (zpL t n 42 0 0 p).2.1 = true then ((zpL t n 42 0 0 p).1, true, (none, []))
  else if zpx t n (zpL t n 42 0 0 p).1 ≠ 63 then ((zpL t n 42 0 0 p).1, false, (none, (zpL t n 42 0 0 p).2.2))
  else ((zpL t n 42 0 0 ((zpL t n 42 0 0 p).1 + 1)).1, (zpL t n 42 0 0 ((zpL t n 42 0 0 p).1 + 1)).2.1, (some (zpL t n 42 0 0 p).2.2, (zpL t n 42 0 0 ((zpL t n 42 0 0 p).1 + 1)).2.2))
def zpLs (t : Int → Int) (n : Int) : Nat → Int → List zLn → Int × Bool × List zLn
  | 0, p, L => (p, false, L)
  | k + 1, p, L => if (zpLi t n p).2.1 = true ∨ n ≤ (zpLi t n p).1 then ((zpLi t n p).1, (zpLi t n p).2.1, L ++ [(zpLi t n p).2.2]) else if zpx t n (zpLi t n p).1 ≠ 59 then ((zpLi t n p).1, true, L ++ [(zpLi t n p).2.2]) else zpLs t n k ((zpLi t n p).1 + 1) (L ++ [(zpLi t n p).2.2])
def zto (v : Int → Int) (c : List (Int × Int)) : Int := match zrun v c [] with
  | some (x :: _) => x
  | _ => 0
theorem zto_sl {v : Int → Int} {c : List (Int × Int)} {x : Int} (h : zsl v c x) : zto v c = x := by
  unfold zto
  rw [h []]
def zvls (v : Int → Int) : List zLn → Int
  | [] => 0
  | (none, c) :: _ => zto v c
  | (some a, c) :: L => if zto v a ≠ 0 then zto v c else zvls v L
theorem zpL_0G {t : Int → Int} {n p : Int} (h0 : 0 ≤ p) (h1 : p ≤ n) : zpG n p (zpL t n 42 0 0 p) := zpL_G 42 0 0 p (by decide) (by decide) (by decide) (by decide) (by decide) h0 h1
theorem zpLi_b {t : Int → Int} {n p : Int} (h0 : 0 ≤ p) (h1 : p ≤ n) : p ≤ (zpLi t n p).1 ∧ (zpLi t n p).1 ≤ n ∧ ((zpLi t n p).2.1 = false → p < (zpLi t n p).1) := by
  have g := zpL_0G (t := t) h0 h1
  unfold zpLi
  split
  · exact ⟨g.1, g.2.1, fun e => by cases e⟩
  · rename_i hb
    have hb2 : (zpL t n 42 0 0 p).2.1 = false := by cases e : (zpL t n 42 0 0 p).2.1 with | false => rfl | true => exact absurd e hb
    split
    · exact ⟨g.1, g.2.1, fun _ => (g.2.2 hb2).2⟩
    · rename_i h63
      have hl := zpx_lt (t := t) (n := n) (p := (zpL t n 42 0 0 p).1) (by omega)
      have g2 := zpL_0G (t := t) (n := n) (p := (zpL t n 42 0 0 p).1 + 1) (by have := g.1; omega) (by omega)
      have g21 := g2.1
      have g1 := g.1
      exact ⟨by dsimp only; omega, g2.2.1, fun _ => by dsimp only; omega⟩
/-- a line has been read -/
def zLS (t : Int → Int) (n : Int) (v : Int → Int) (p : Int) (M' : zMm) (ho w : Int) : Prop := M' 56 16 = (zpLi t n p).1 ∧ ((zpLi t n p).2.1 = true → M' 56 18 = (zpLi t n p).1) ∧ ((zpLi t n p).2.1 = false → M' 56 18 = -1 ∧ M' 56 19 = 0 ∧ (((zpLi t n p).2.2.1 = none ∧ ho = 1 ∧ zto v (zpLi t n p).2.2.2 = w) ∨ (∃ a, (zpLi t n p).2.2.1 = some a ∧ (ho = if zto v a ≠ 0 then 1 else 0) ∧ zto v (zpLi t n p).2.2.2 = w)))
theorem zLS_no {M2 M39 : zMm} {p w : Int} (hy : zRy M2 0 p) (z : zpR M2 0 (zvn M2) (zpL (ztx M2) (M2 56 17) 42 0 0 p) M39 w) (hR : zRb M39) (q : ¬ (M39 56 18 < 0 ∧ zby M39 = 63)) : zLS (ztx M2) (M2 56 17) (zvn M2) p M39 1 w := by
  have tz := z.1.tx
  have h63 := zby_v hR (c := 63) (by decide)
  rw [tz.1, tz.2.1, z.2.1] at h63
  cases e : (zpL (ztx M2) (M2 56 17) 42 0 0 p).2.1 with
  | true =>
    have e2 : zpLi (ztx M2) (M2 56 17) p = ((zpL (ztx M2) (M2 56 17) 42 0 0 p).1, true, (none, [])) := if_pos e
    unfold zLS
    rw [e2]
    exact ⟨z.2.1, fun _ => (z.2.2.1 e).1, fun h => by cases h⟩
  | false =>
    have h3 := z.2.2.2 e
    have e2 : zpLi (ztx M2) (M2 56 17) p = ((zpL (ztx M2) (M2 56 17) 42 0 0 p).1, false, (none, (zpL (ztx M2) (M2 56 17) 42 0 0 p).2.2)) := by
      unfold zpLi
      rw [if_neg (by rw [e]; simp), if_pos (fun u => q ⟨by omega, h63.mpr u⟩)]
    unfold zLS
    rw [e2]
    exact ⟨z.2.1, fun h => (by cases h), fun _ => ⟨h3.1, h3.2.1, Or.inl ⟨rfl, rfl, zto_sl h3.2.2⟩⟩⟩
theorem zLS_yes {M2 M39 M50 M69 : zMm} {p w u ho : Int} (hy : zRy M2 0 p) (z : zpR M2 0 (zvn M2) (zpL (ztx M2) (M2 56 17) 42 0 0 p) M39 w) (hR : zRb M39) (q : M39 56 18 < 0 ∧ zby M39 = 63) (e50 : M50 = zup M39 56 16 (M39 56 16 + 1)) (hho : ho = if w ≠ 0 then 1 else 0) (o50 : zoT M2 M50) (z2 : zpR M50 0 (zvn M50) (zpL (ztx M50) (M50 56 17) 42 0 0 ((zpL (ztx M2) (M2 56 17) 42 0 0 p).1 + 1)) M69 u) : zLS (ztx M2) (M2 56 17) (zvn M2) p M69 ho u := by
  have tz := z.1.tx
  have h63 := (zby_v hR (c := 63) (by decide)).mp q.2
  rw [tz.1, tz.2.1, z.2.1] at h63
  have tx := o50.tx
  rw [tx.1, tx.2.1, zvn_of o50] at z2
  have e : (zpL (ztx M2) (M2 56 17) 42 0 0 p).2.1 = false := by
    cases e : (zpL (ztx M2) (M2 56 17) 42 0 0 p).2.1 with
    | false => rfl
    | true =>
      have h1 := (z.2.2.1 e).1
      have g := zpL_0G (t := ztx M2) (n := M2 56 17) (p := p) (by have := hy.2.1.2; have := hy.2.2.1; omega) (by have := hy.2.1.2; have := hy.2.2.1; omega)
      have := g.1
      have := hy.2.1.2
      have := hy.2.2.1
      omega
  have e2 : zpLi (ztx M2) (M2 56 17) p = ((zpL (ztx M2) (M2 56 17) 42 0 0 ((zpL (ztx M2) (M2 56 17) 42 0 0 p).1 + 1)).1, (zpL (ztx M2) (M2 56 17) 42 0 0 ((zpL (ztx M2) (M2 56 17) 42 0 0 p).1 + 1)).2.1, (some (zpL (ztx M2) (M2 56 17) 42 0 0 p).2.2, (zpL (ztx M2) (M2 56 17) 42 0 0 ((zpL (ztx M2) (M2 56 17) 42 0 0 p).1 + 1)).2.2)) := by
    unfold zpLi
    rw [if_neg (by rw [e]; simp), if_neg (fun a => a h63)]
  have hs := zto_sl (z.2.2.2 e).2.2
  unfold zLS
  rw [e2]
  refine ⟨z2.2.1, fun h => (z2.2.2.1 h).1, fun h => ?_⟩
  have h3 := z2.2.2.2 h
  exact ⟨h3.1, h3.2.1, Or.inr ⟨_, rfl, by rw [hs]; exact hho, zto_sl h3.2.2⟩⟩
/-- what counts so far -/
def zGv (v : Int → Int) (g y : Int) (L : List zLn) : Prop := (g = 0 → y = 0 ∧ ∀ X, zvls v (L ++ X) = zvls v X) ∧ (g = 1 → ∀ X, zvls v (L ++ X) = y)
theorem zGv.up {t : Int → Int} {n : Int} {v : Int → Int} {p ho w g y g2 y2 : Int} {L : List zLn} {M' : zMm} (h : zGv v g y L) (hg : 0 ≤ g ∧ g ≤ 1) (hs : zLS t n v p M' ho w) (hb : (zpLi t n p).2.1 = false) (hc : (ho ≠ 0 ∧ g = 0 ∧ g2 = 1 ∧ y2 = w) ∨ (¬ (ho ≠ 0 ∧ g = 0) ∧ g2 = g ∧ y2 = y)) : zGv v g2 y2 (L ++ [(zpLi t n p).2.2]) := by
  have h3 := (hs.2.2 hb).2.2
  generalize zpLi t n p = R at h3
  obtain ⟨q, b, a, c⟩ := R
  dsimp only at h3 ⊢
  have hv : g = 0 → ∀ X, zvls v (L ++ [(a, c)] ++ X) = zvls v ((a, c) :: X) := fun e X => by
    rw [List.append_assoc]
    exact (h.1 e).2 _
  rcases hc with ⟨c1, c2, c3, c4⟩ | ⟨c1, c2, c3⟩
  · refine ⟨fun e => by omega, fun _ X => ?_⟩
    rw [hv c2 X, c4]
    rcases h3 with ⟨rfl, -, e⟩ | ⟨a2, rfl, e1, e2⟩
    · exact e
    · show (if zto v a2 ≠ 0 then zto v c else zvls v X) = w
      rw [if_pos (by intro z; rw [if_neg (fun k => k z)] at e1; omega)]
      exact e2
  · rw [c2, c3]
    refine ⟨fun e => ⟨(h.1 e).1, fun X => ?_⟩, fun e X => ?_⟩
    · rw [hv e X]
      rcases h3 with ⟨rfl, e1, -⟩ | ⟨a2, rfl, e1, e2⟩
      · exact absurd ⟨by omega, e⟩ c1
      · show (if zto v a2 ≠ 0 then zto v c else zvls v X) = zvls v X
        rw [if_neg (fun k => c1 ⟨by rw [e1, if_pos k]; decide, e⟩)]
    · rw [List.append_assoc]
      exact h.2 e _
theorem zpLs_1 {t : Int → Int} {n p : Int} {k : Nat} {L : List zLn} (hk : 0 < k) (hb : (zpLi t n p).2.1 = false) (h59 : zpx t n (zpLi t n p).1 = 59) : zpLs t n k p L = zpLs t n (k - 1) ((zpLi t n p).1 + 1) (L ++ [(zpLi t n p).2.2]) := by
  obtain ⟨j, rfl⟩ : ∃ j, k = j + 1 := ⟨k - 1, by omega⟩
  have hl := zpx_lt (t := t) (n := n) (p := (zpLi t n p).1) (by omega)
  show (if _ then _ else if _ then _ else _) = _
  rw [if_neg (by rw [hb]; simp; omega), if_neg (fun a => a h59)]
  rfl
theorem zpLs_0 {t : Int → Int} {n p : Int} {k : Nat} {L : List zLn} (hk : 0 < k) (h : ¬ ((zpLi t n p).2.1 = false ∧ zpx t n (zpLi t n p).1 = 59)) : zpLs t n k p L = ((zpLi t n p).1, if (zpLi t n p).2.1 = true ∨ n ≤ (zpLi t n p).1 then (zpLi t n p).2.1 else true, L ++ [(zpLi t n p).2.2]) := by
  obtain ⟨j, rfl⟩ : ∃ j, k = j + 1 := ⟨k - 1, by omega⟩
  show (if _ then _ else if _ then _ else _) = _
  by_cases hc : (zpLi t n p).2.1 = true ∨ n ≤ (zpLi t n p).1
  · rw [if_pos hc, if_pos hc]
  · have hb : (zpLi t n p).2.1 = false := by cases e : (zpLi t n p).2.1 with | false => rfl | true => exact absurd (Or.inl e) hc
    rw [if_neg hc, if_neg hc, if_pos (fun e => h ⟨hb, e⟩)]
def zWk (M1 : zMm) (g y m : Int) (M2 : zMm) : Prop := (0 ≤ g ∧ g ≤ 1) ∧ (0 ≤ m ∧ m ≤ 1) ∧ zoT M1 M2 ∧ (m = 1 → ∃ (k : Nat) (p : Int) (L : List zLn), zpLs (ztx M1) (M1 56 17) 121 0 [] = zpLs (ztx M1) (M1 56 17) k p L ∧ zRy M2 0 p ∧ M1 56 17 - p < k ∧ zGv (zvn M1) g y L) ∧ (m = 0 → ∃ (q : Int) (b : Bool) (L : List zLn), zpLs (ztx M1) (M1 56 17) 121 0 [] = (q, b, L) ∧ M2 56 16 = q ∧ (0 ≤ q ∧ q ≤ M1 56 17) ∧ ((b = true ∧ (M2 56 18 = q ∨ (M2 56 18 = -1 ∧ q < M1 56 17))) ∨ (b = false ∧ M2 56 18 = -1 ∧ M1 56 17 ≤ q)) ∧ (b = false → zGv (zvn M1) g y L))
/-- behind a line: on to the next, or the end -/
theorem zWk.go {M1 M2 M' M99 : zMm} {k : Nat} {p ho w g y g2 y2 r : Int} {L : List zLn} (he : zpLs (ztx M1) (M1 56 17) 121 0 [] = zpLs (ztx M1) (M1 56 17) k p L) (hy : zRy M2 0 p) (h12 : zoT M1 M2) (hk : M1 56 17 - p < k) (hG : zGv (zvn M1) g y L) (hg : 0 ≤ g ∧ g ≤ 1) (o' : zoT M2 M') (hs : zLS (ztx M2) (M2 56 17) (zvn M2) p M' ho w) (hR : zRb M') (hc : M' 56 18 < 0 → (ho ≠ 0 ∧ g = 0 ∧ g2 = 1 ∧ y2 = w) ∨ (¬ (ho ≠ 0 ∧ g = 0) ∧ g2 = g ∧ y2 = y)) (hc2 : 0 ≤ g2 ∧ g2 ≤ 1)
    (y99 : (r = 0 ∧ ¬ (M' 56 18 < 0 ∧ zby M' = 59) ∧ M99 = M') ∨ (r = 1 ∧ (M' 56 18 < 0 ∧ zby M' = 59) ∧ M99 = zup M' 56 16 (M' 56 16 + 1))) : zWk M1 g2 y2 r M99 ∧ p < M99 56 16 + 1 - r ∧ (r = 1 → p + 1 < M99 56 16) := by
  have t1 := h12.tx
  have t2 := o'.tx
  have h59 := zby_v hR (c := 59) (by decide)
  rw [t2.1, t2.2.1, t1.1, t1.2.1, hs.1, t1.1, t1.2.1] at h59
  rw [t1.1, t1.2.1, zvn_of h12] at hs
  have hb1 := hy.2.1.2
  have hp := hy.2.2.1
  have hb := zpLi_b (t := ztx M1) (n := M1 56 17) (p := p) (by omega) (by omega)
  have hf : M' 56 18 < 0 ↔ (zpLi (ztx M1) (M1 56 17) p).2.1 = false := by
    cases e : (zpLi (ztx M1) (M1 56 17) p).2.1 with
    | false => have := (hs.2.2 e).1; exact ⟨fun _ => rfl, fun _ => by omega⟩
    | true => have := hs.2.1 e; exact ⟨fun h => by omega, fun h => by cases h⟩
  have hk0 : 0 < k := by omega
  rcases y99 with ⟨rfl, q, rfl⟩ | ⟨rfl, q, rfl⟩
  · have e0 := zpLs_0 (t := ztx M1) (n := M1 56 17) (p := p) (L := L) hk0 (fun u => q ⟨hf.mpr u.1, h59.mpr u.2⟩)
    refine ⟨⟨hc2, by omega, h12.tr o', fun e => by omega, fun _ => ⟨_, _, _, he.trans e0, hs.1, ⟨by omega, hb.2.1⟩, ?_, fun eb => ?_⟩⟩, by have := hs.1; omega, fun e => by omega⟩
    · cases e : (zpLi (ztx M1) (M1 56 17) p).2.1 with
      | true =>
        rw [if_pos (Or.inl rfl)]
        exact Or.inl ⟨rfl, Or.inl (hs.2.1 e)⟩
      | false =>
        by_cases hn : M1 56 17 ≤ (zpLi (ztx M1) (M1 56 17) p).1
        · rw [if_pos (Or.inr hn)]
          exact Or.inr ⟨rfl, (hs.2.2 e).1, hn⟩
        · rw [if_neg (by rintro (a | a); cases a; exact hn a)]
          exact Or.inl ⟨rfl, Or.inr ⟨(hs.2.2 e).1, by omega⟩⟩
    · have hb2 : (zpLi (ztx M1) (M1 56 17) p).2.1 = false := by
        by_cases hcc : (zpLi (ztx M1) (M1 56 17) p).2.1 = true ∨ M1 56 17 ≤ (zpLi (ztx M1) (M1 56 17) p).1
        · rw [if_pos hcc] at eb; exact eb
        · rw [if_neg hcc] at eb; cases eb
      exact hG.up hg hs hb2 (hc (hf.mpr hb2))
  · have hb2 := hf.mp q.1
    have h59' := h59.mp q.2
    have hl := zpx_lt (t := ztx M1) (n := M1 56 17) (p := (zpLi (ztx M1) (M1 56 17) p).1) (by omega)
    have e1 := zpLs_1 (t := ztx M1) (n := M1 56 17) (p := p) (L := L) hk0 hb2 h59'
    have h3 := hs.2.2 hb2
    have hlt := hb.2.2 hb2
    have e16 : zup M' 56 16 (M' 56 16 + 1) 56 16 = (zpLi (ztx M1) (M1 56 17) p).1 + 1 := by rw [zup_self, hs.1]
    refine ⟨⟨hc2, by omega, (h12.tr o').up (by omega), fun _ => ⟨k - 1, _, _, he.trans e1, ?_, by omega, hG.up hg hs hb2 (hc q.1)⟩, fun e => by omega⟩, by omega, fun _ => by omega⟩
    exact zRy_of hy (o'.up (by omega)) e16 (by rw [zup_ne (by decide)]; exact h3.1) (by rw [zup_ne (by decide)]; exact h3.2.1) (by omega) (by rw [t1.2.1]; omega) (by decide) (by decide)
theorem zWk.end_ {M1 M2 : zMm} {g y : Int} (h : zWk M1 g y 0 M2) : ∃ (q : Int) (b : Bool) (L : List zLn), zpLs (ztx M1) (M1 56 17) 121 0 [] = (q, b, L) ∧ M2 56 16 = q ∧ (0 ≤ q ∧ q ≤ M1 56 17) ∧ ((b = true ∧ (M2 56 18 = q ∨ (M2 56 18 = -1 ∧ q < M1 56 17))) ∨ (b = false ∧ M2 56 18 = -1 ∧ M1 56 17 ≤ q)) ∧ (b = false → y = zvls (zvn M1) L) := by
  obtain ⟨q, b, L, h1, h2, h3, h4, h5⟩ := h.2.2.2.2 rfl
  refine ⟨q, b, L, h1, h2, h3, h4, fun e => ?_⟩
  have k := h5 e
  have hg := h.1
  by_cases hg0 : g = 0
  · have := k.1 hg0
    have e2 := this.2 []
    rw [List.append_nil] at e2
    rw [this.1, e2]
    rfl
  · have e2 := k.2 (by omega) []
    rw [List.append_nil] at e2
    exact e2.symm
def zoQ (M M2 : zMm) : Prop := zonly 56 M M2 ∧ ∀ j : Int, j < 15 ∨ 19 < j → M2 56 j = M 56 j
def zsrcT (M : zMm) (b : Int) : Int → Int := if b < 0 then M 65 else M 66
set_option maxHeartbeats 4000000 in
theorem lp_X10_workOut_33 {Q : zPost} {M1 : zMm} (hP1 : zP M1) (hy1 : zRy M1 0 0) (hx107 : ∀ (y : Int) (M2 : zMm), (zoT M1 M2 ∧ ∃ g : Int, zWk M1 g y 0 M2) → zW mX10_workOut 46 Q (0, 0) zS0 107 [(0, .inr (.inr 56)), (4, .inl y)] [] M2) : ∀ (n : Nat) (g : Int) (y : Int) (m : Int) (M2 : zMm), (M1 56 17 - M2 56 16 + m + m).toNat < n → (zWk M1 g y m M2) → zW mX10_workOut 46 Q (0, 0) zS0 33 [(0, .inr (.inr 56)), (3, .inl g), (4, .inl y), (5, .inl m)] [] M2 := by
  intro n
  induction n with
  | zero => intro g y m M2 hn; exact absurd hn (Nat.not_lt_zero _)
  | succ n ih =>
    intro g y m M2 hn hI
    obtain ⟨hg, hm, h12, hI1, hI0⟩ := hI
    have hy12 := h12.tx
    refine z_iload 3 (zdec DX10_workOut 21 rfl) rfl ?_
    refine z_if_eq 107 (zdec DX10_workOut 22 rfl) rfl (fun h35 => ?_) (fun h35 => ?_)
    ·
      refine z_weak (L' := [(0, .inr (.inr 56)), (4, .inl y)]) (by simp) ?_
      exact hx107 y M2 ⟨h12, g, by rw [h35] at hm hI1 hI0; exact ⟨hg, hm, h12, hI1, hI0⟩⟩
    ·
      obtain ⟨k, p, L, he, hy2, hk, hG⟩ := hI1 (by omega)
      have hpp := hy2.2.2.1
      have hyb2 := hy2.2.1.2
      refine z_aload_n 0 (zdec DX10_workOut 23 rfl) rfl rfl (by decide) ?_
      refine z_inv mX10_either 56 10 [] (zdec DX10_workOut 24 rfl) ml_SixWallsModel_225 okX10_either rfl shp56 rfl rfl rfl rfl (Nat.le_of_ble_eq_true rfl) (Nat.le_of_ble_eq_true rfl) (b' := (0, 0)) ⟨Nat.le_refl 0, Nat.le_refl 0⟩ (Nat.le_of_ble_eq_true rfl) ((cX10_lv 42).1 _ 0 p hy2 (by decide)) (fun rv9 S9 M39 h9 => ?_)
      obtain ⟨rfl, w, rfl, z39⟩ := h9
      have gs := zpL_0G (t := ztx M2) (n := M2 56 17) (p := p) (by have := hy2.2.1.2; have := hy2.2.2.1; omega) (by have := hy2.2.1.2; have := hy2.2.2.1; omega)
      have y39 := z39.y hy2 gs
      change zW _ _ _ _ _ 42 [(0, .inr (.inr 56)), (3, .inl g), (4, .inl y), (5, .inl m)] [.inl w] M39
      refine z_istore (L' := [(0, .inr (.inr 56)), (3, .inl g), (4, .inl y), (5, .inl m), (6, .inl w)]) (zdec DX10_workOut 25 rfl) rfl (by decide) ?_
      refine z_iconst 1 (zdec DX10_workOut 26 rfl) (by decide) ?_
      refine z_istore (L' := [(0, .inr (.inr 56)), (3, .inl g), (4, .inl y), (5, .inl m), (6, .inl w), (7, .inl 1)]) (zdec DX10_workOut 27 rfl) rfl (by decide) ?_
      refine z_aload_n 0 (zdec DX10_workOut 28 rfl) rfl rfl (by decide) ?_
      refine z_bipush 63 (zdec DX10_workOut 29 rfl) (by decide) ?_
      refine z_inv mX10_takesByte 56 10 [.inl 63] (zdec DX10_workOut 30 rfl) ml_SixWallsModel_204 okX10_takesByte rfl shp56 rfl rfl rfl rfl (Nat.le_of_ble_eq_true rfl) (Nat.le_of_ble_eq_true rfl) (b' := (0, 0)) ⟨Nat.le_refl 0, Nat.le_refl 0⟩ (Nat.le_of_ble_eq_true rfl) (cX10_takesByte (z39.1.P hy2.1) y39.2.1 63) (fun rv9 S9 M50 h9 => ?_)
      obtain ⟨rfl, r50, rfl, y50⟩ := h9
      change zW _ _ _ _ _ 53 [(0, .inr (.inr 56)), (3, .inl g), (4, .inl y), (5, .inl m), (6, .inl w), (7, .inl 1)] [.inl r50] M50
      refine z_if_eq 74 (zdec DX10_workOut 31 rfl) rfl (fun h53 => ?_) (fun h53 => ?_)
      ·
        obtain ⟨-, q50, e50⟩ := y50.resolve_right (fun h => absurd h.1 (by omega))
        have hs0 := zLS_no hy2 z39 y39.2.1 q50
        have hs : zLS (ztx M2) (M2 56 17) (zvn M2) p M50 1 w := by rw [e50]; exact hs0
        have o99 : zoT M2 M50 := by rw [e50]; exact z39.1
        have hRb99 : zRb M50 := by rw [e50]; exact y39.2.1
        refine z_aload_n 0 (zdec DX10_workOut 41 rfl) rfl rfl (by decide) ?_
        refine z_geti (ki := 18) 56 10 (zdec DX10_workOut 42 rfl) rfl shp56 rfl (by decide) rfl rfl fl_SixWallsModel_194 ?_
        refine z_if_ge 96 (zdec DX10_workOut 43 rfl) rfl (fun h78 => ?_) (fun h78 => ?_)
        ·
          refine z_aload_n 0 (zdec DX10_workOut 52 rfl) rfl rfl (by decide) ?_
          refine z_bipush 59 (zdec DX10_workOut 53 rfl) (by decide) ?_
          refine z_inv mX10_takesByte 56 10 [.inl 59] (zdec DX10_workOut 54 rfl) ml_SixWallsModel_204 okX10_takesByte rfl shp56 rfl rfl rfl rfl (Nat.le_of_ble_eq_true rfl) (Nat.le_of_ble_eq_true rfl) (b' := (0, 0)) ⟨Nat.le_refl 0, Nat.le_refl 0⟩ (Nat.le_of_ble_eq_true rfl) (cX10_takesByte (by rcases y50 with ⟨_, _, e⟩ | ⟨_, _, e⟩ <;> rw [e]; exact (z39.1.P hy2.1); exact zP_up (z39.1.P hy2.1) (by decide)) hRb99 59) (fun rv9 S9 M99 h9 => ?_)
          obtain ⟨rfl, r99, rfl, y99⟩ := h9
          have zgo := zWk.go (g2 := g) (y2 := y) he hy2 h12 hk hG hg o99 hs hRb99 (fun _ => by first | exact Or.inl ⟨by omega, by omega, rfl, rfl⟩ | exact Or.inr ⟨by omega, rfl, rfl⟩ | (exfalso; omega)) (by omega) y99
          have zg2 := zgo.2.1
          have zg3 := zgo.2.2
          have zg4 := zgo.1.2.1
          have zg5 := zgo.1.2.2.1.tx
          change zW _ _ _ _ _ 102 [(0, .inr (.inr 56)), (3, .inl g), (4, .inl y), (5, .inl m), (6, .inl w), (7, .inl 1)] [.inl r99] M99
          refine z_istore (L' := [(0, .inr (.inr 56)), (3, .inl g), (4, .inl y), (5, .inl r99), (6, .inl w), (7, .inl 1)]) (zdec DX10_workOut 55 rfl) rfl (by decide) ?_
          clear hI0 hI1
          refine z_goto 33 (zdec DX10_workOut 56 rfl) rfl ?_
          refine z_weak (L' := [(0, .inr (.inr 56)), (3, .inl g), (4, .inl y), (5, .inl r99)]) (by simp) ?_
          exact ih g y r99 M99 (by omega) zgo.1
        ·
          refine z_iload 5 (zdec DX10_workOut 44 rfl) rfl ?_
          refine z_if_eq 96 (zdec DX10_workOut 45 rfl) rfl (fun h => absurd h (by decide)) (fun _ => ?_)
          refine z_iload_n 1 (zdec DX10_workOut 46 rfl) rfl rfl ?_
          refine z_if_ne 96 (zdec DX10_workOut 47 rfl) rfl (fun h87 => ?_) (fun h87 => ?_)
          ·
            refine z_aload_n 0 (zdec DX10_workOut 52 rfl) rfl rfl (by decide) ?_
            refine z_bipush 59 (zdec DX10_workOut 53 rfl) (by decide) ?_
            refine z_inv mX10_takesByte 56 10 [.inl 59] (zdec DX10_workOut 54 rfl) ml_SixWallsModel_204 okX10_takesByte rfl shp56 rfl rfl rfl rfl (Nat.le_of_ble_eq_true rfl) (Nat.le_of_ble_eq_true rfl) (b' := (0, 0)) ⟨Nat.le_refl 0, Nat.le_refl 0⟩ (Nat.le_of_ble_eq_true rfl) (cX10_takesByte (by rcases y50 with ⟨_, _, e⟩ | ⟨_, _, e⟩ <;> rw [e]; exact (z39.1.P hy2.1); exact zP_up (z39.1.P hy2.1) (by decide)) hRb99 59) (fun rv9 S9 M99 h9 => ?_)
            obtain ⟨rfl, r99, rfl, y99⟩ := h9
            have zgo := zWk.go (g2 := g) (y2 := y) he hy2 h12 hk hG hg o99 hs hRb99 (fun _ => by first | exact Or.inl ⟨by omega, by omega, rfl, rfl⟩ | exact Or.inr ⟨by omega, rfl, rfl⟩ | (exfalso; omega)) (by omega) y99
            have zg2 := zgo.2.1
            have zg3 := zgo.2.2
            have zg4 := zgo.1.2.1
            have zg5 := zgo.1.2.2.1.tx
            change zW _ _ _ _ _ 102 [(0, .inr (.inr 56)), (3, .inl g), (4, .inl y), (5, .inl m), (6, .inl w), (7, .inl 1)] [.inl r99] M99
            refine z_istore (L' := [(0, .inr (.inr 56)), (3, .inl g), (4, .inl y), (5, .inl r99), (6, .inl w), (7, .inl 1)]) (zdec DX10_workOut 55 rfl) rfl (by decide) ?_
            clear hI0 hI1
            refine z_goto 33 (zdec DX10_workOut 56 rfl) rfl ?_
            refine z_weak (L' := [(0, .inr (.inr 56)), (3, .inl g), (4, .inl y), (5, .inl r99)]) (by simp) ?_
            exact ih g y r99 M99 (by omega) zgo.1
          ·
            refine z_iconst 1 (zdec DX10_workOut 48 rfl) (by decide) ?_
            refine z_istore_n (L' := [(0, .inr (.inr 56)), (3, .inl 1), (4, .inl y), (5, .inl m), (6, .inl w), (7, .inl 1)]) (zdec DX10_workOut 49 rfl) rfl rfl (by decide) ?_
            refine z_iload 4 (zdec DX10_workOut 50 rfl) rfl ?_
            refine z_istore (L' := [(0, .inr (.inr 56)), (3, .inl 1), (4, .inl w), (5, .inl m), (6, .inl w), (7, .inl 1)]) (zdec DX10_workOut 51 rfl) rfl (by decide) ?_
            refine z_aload_n 0 (zdec DX10_workOut 52 rfl) rfl rfl (by decide) ?_
            refine z_bipush 59 (zdec DX10_workOut 53 rfl) (by decide) ?_
            refine z_inv mX10_takesByte 56 10 [.inl 59] (zdec DX10_workOut 54 rfl) ml_SixWallsModel_204 okX10_takesByte rfl shp56 rfl rfl rfl rfl (Nat.le_of_ble_eq_true rfl) (Nat.le_of_ble_eq_true rfl) (b' := (0, 0)) ⟨Nat.le_refl 0, Nat.le_refl 0⟩ (Nat.le_of_ble_eq_true rfl) (cX10_takesByte (by rcases y50 with ⟨_, _, e⟩ | ⟨_, _, e⟩ <;> rw [e]; exact (z39.1.P hy2.1); exact zP_up (z39.1.P hy2.1) (by decide)) hRb99 59) (fun rv9 S9 M99 h9 => ?_)
            obtain ⟨rfl, r99, rfl, y99⟩ := h9
            have zgo := zWk.go (g2 := 1) (y2 := w) he hy2 h12 hk hG hg o99 hs hRb99 (fun _ => by first | exact Or.inl ⟨by omega, by omega, rfl, rfl⟩ | exact Or.inr ⟨by omega, rfl, rfl⟩ | (exfalso; omega)) (by omega) y99
            have zg2 := zgo.2.1
            have zg3 := zgo.2.2
            have zg4 := zgo.1.2.1
            have zg5 := zgo.1.2.2.1.tx
            change zW _ _ _ _ _ 102 [(0, .inr (.inr 56)), (3, .inl 1), (4, .inl w), (5, .inl m), (6, .inl w), (7, .inl 1)] [.inl r99] M99
            refine z_istore (L' := [(0, .inr (.inr 56)), (3, .inl 1), (4, .inl w), (5, .inl r99), (6, .inl w), (7, .inl 1)]) (zdec DX10_workOut 55 rfl) rfl (by decide) ?_
            clear hI0 hI1
            refine z_goto 33 (zdec DX10_workOut 56 rfl) rfl ?_
            refine z_weak (L' := [(0, .inr (.inr 56)), (3, .inl 1), (4, .inl w), (5, .inl r99)]) (by simp) ?_
            exact ih 1 w r99 M99 (by omega) zgo.1
      ·
        obtain ⟨-, q50, e50⟩ := y50.resolve_left (fun h => h53 h.1)
        have o50 : zoT M2 M50 := by rw [e50]; exact z39.1.up (by omega)
        have hb39 : (zpL (ztx M2) (M2 56 17) 42 0 0 p).2.1 = false := y39.2.2.2.2.2 q50.1
        have h63 := (zby_v y39.2.1 (c := 63) (by decide)).mp q50.2
        rw [y39.2.2.1, y39.2.2.2.1, z39.2.1] at h63
        have hl63 := zpx_lt (t := ztx M2) (n := M2 56 17) (p := (zpL (ztx M2) (M2 56 17) 42 0 0 p).1) (by omega)
        have hgs1 := gs.1
        have hyb := hy2.2.1.2
        have hy50 : zRy M50 0 ((zpL (ztx M2) (M2 56 17) 42 0 0 p).1 + 1) := zRy_of hy2 o50 (by rw [e50, zup_self, z39.2.1]) (by rw [e50, zup_ne (by decide)]; exact (z39.2.2.2 hb39).1) (by rw [e50, zup_ne (by decide)]; exact (z39.2.2.2 hb39).2.1) (by omega) (by omega) (by decide) (by decide)
        refine z_iload 4 (zdec DX10_workOut 32 rfl) rfl ?_
        refine z_if_eq 65 (zdec DX10_workOut 33 rfl) rfl (fun h58 => ?_) (fun h58 => ?_)
        ·
          refine z_iconst 0 (zdec DX10_workOut 36 rfl) (by decide) ?_
          refine z_istore (L' := [(0, .inr (.inr 56)), (3, .inl g), (4, .inl y), (5, .inl m), (6, .inl w), (7, .inl 0)]) (zdec DX10_workOut 37 rfl) rfl (by decide) ?_
          refine z_aload_n 0 (zdec DX10_workOut 38 rfl) rfl rfl (by decide) ?_
          refine z_inv mX10_either 56 10 [] (zdec DX10_workOut 39 rfl) ml_SixWallsModel_225 okX10_either rfl shp56 rfl rfl rfl rfl (Nat.le_of_ble_eq_true rfl) (Nat.le_of_ble_eq_true rfl) (b' := (0, 0)) ⟨Nat.le_refl 0, Nat.le_refl 0⟩ (Nat.le_of_ble_eq_true rfl) ((cX10_lv 42).1 _ 0 _ hy50 (by decide)) (fun rv9 S9 M69 h9 => ?_)
          obtain ⟨rfl, w2, rfl, z69⟩ := h9
          have gs2 := zpL_0G (t := ztx M50) (n := M50 56 17) (p := (zpL (ztx M2) (M2 56 17) 42 0 0 p).1 + 1) (by have := hy50.2.1.2; have := hy50.2.2.1; omega) (by have := hy50.2.1.2; have := hy50.2.2.1; omega)
          have y69 := z69.y hy50 gs2
          have hs := zLS_yes hy2 z39 y39.2.1 q50 e50 (ho := 0) (by first | (rw [if_pos (by omega)]; done) | (rw [if_neg (by omega)]; done)) o50 z69
          have hRb99 := y69.2.1
          have o99 : zoT M2 M69 := o50.tr z69.1
          change zW _ _ _ _ _ 72 [(0, .inr (.inr 56)), (3, .inl g), (4, .inl y), (5, .inl m), (6, .inl w), (7, .inl 0)] [.inl w2] M69
          refine z_istore (L' := [(0, .inr (.inr 56)), (3, .inl g), (4, .inl y), (5, .inl m), (6, .inl w2), (7, .inl 0)]) (zdec DX10_workOut 40 rfl) rfl (by decide) ?_
          refine z_aload_n 0 (zdec DX10_workOut 41 rfl) rfl rfl (by decide) ?_
          refine z_geti (ki := 18) 56 10 (zdec DX10_workOut 42 rfl) rfl shp56 rfl (by decide) rfl rfl fl_SixWallsModel_194 ?_
          refine z_if_ge 96 (zdec DX10_workOut 43 rfl) rfl (fun h78 => ?_) (fun h78 => ?_)
          ·
            refine z_aload_n 0 (zdec DX10_workOut 52 rfl) rfl rfl (by decide) ?_
            refine z_bipush 59 (zdec DX10_workOut 53 rfl) (by decide) ?_
            refine z_inv mX10_takesByte 56 10 [.inl 59] (zdec DX10_workOut 54 rfl) ml_SixWallsModel_204 okX10_takesByte rfl shp56 rfl rfl rfl rfl (Nat.le_of_ble_eq_true rfl) (Nat.le_of_ble_eq_true rfl) (b' := (0, 0)) ⟨Nat.le_refl 0, Nat.le_refl 0⟩ (Nat.le_of_ble_eq_true rfl) (cX10_takesByte (z69.1.P hy50.1) hRb99 59) (fun rv9 S9 M99 h9 => ?_)
            obtain ⟨rfl, r99, rfl, y99⟩ := h9
            have zgo := zWk.go (g2 := g) (y2 := y) he hy2 h12 hk hG hg o99 hs hRb99 (fun _ => by first | exact Or.inl ⟨by omega, by omega, rfl, rfl⟩ | exact Or.inr ⟨by omega, rfl, rfl⟩ | (exfalso; omega)) (by omega) y99
            have zg2 := zgo.2.1
            have zg3 := zgo.2.2
            have zg4 := zgo.1.2.1
            have zg5 := zgo.1.2.2.1.tx
            change zW _ _ _ _ _ 102 [(0, .inr (.inr 56)), (3, .inl g), (4, .inl y), (5, .inl m), (6, .inl w2), (7, .inl 0)] [.inl r99] M99
            refine z_istore (L' := [(0, .inr (.inr 56)), (3, .inl g), (4, .inl y), (5, .inl r99), (6, .inl w2), (7, .inl 0)]) (zdec DX10_workOut 55 rfl) rfl (by decide) ?_
            clear hI0 hI1
            refine z_goto 33 (zdec DX10_workOut 56 rfl) rfl ?_
            refine z_weak (L' := [(0, .inr (.inr 56)), (3, .inl g), (4, .inl y), (5, .inl r99)]) (by simp) ?_
            exact ih g y r99 M99 (by omega) zgo.1
          ·
            refine z_iload 5 (zdec DX10_workOut 44 rfl) rfl ?_
            refine z_if_eq 96 (zdec DX10_workOut 45 rfl) rfl (fun _ => ?_) (fun h => absurd h (by decide))
            refine z_aload_n 0 (zdec DX10_workOut 52 rfl) rfl rfl (by decide) ?_
            refine z_bipush 59 (zdec DX10_workOut 53 rfl) (by decide) ?_
            refine z_inv mX10_takesByte 56 10 [.inl 59] (zdec DX10_workOut 54 rfl) ml_SixWallsModel_204 okX10_takesByte rfl shp56 rfl rfl rfl rfl (Nat.le_of_ble_eq_true rfl) (Nat.le_of_ble_eq_true rfl) (b' := (0, 0)) ⟨Nat.le_refl 0, Nat.le_refl 0⟩ (Nat.le_of_ble_eq_true rfl) (cX10_takesByte (z69.1.P hy50.1) hRb99 59) (fun rv9 S9 M99 h9 => ?_)
            obtain ⟨rfl, r99, rfl, y99⟩ := h9
            have zgo := zWk.go (g2 := g) (y2 := y) he hy2 h12 hk hG hg o99 hs hRb99 (fun _ => by first | exact Or.inl ⟨by omega, by omega, rfl, rfl⟩ | exact Or.inr ⟨by omega, rfl, rfl⟩ | (exfalso; omega)) (by omega) y99
            have zg2 := zgo.2.1
            have zg3 := zgo.2.2
            have zg4 := zgo.1.2.1
            have zg5 := zgo.1.2.2.1.tx
            change zW _ _ _ _ _ 102 [(0, .inr (.inr 56)), (3, .inl g), (4, .inl y), (5, .inl m), (6, .inl w2), (7, .inl 0)] [.inl r99] M99
            refine z_istore (L' := [(0, .inr (.inr 56)), (3, .inl g), (4, .inl y), (5, .inl r99), (6, .inl w2), (7, .inl 0)]) (zdec DX10_workOut 55 rfl) rfl (by decide) ?_
            clear hI0 hI1
            refine z_goto 33 (zdec DX10_workOut 56 rfl) rfl ?_
            refine z_weak (L' := [(0, .inr (.inr 56)), (3, .inl g), (4, .inl y), (5, .inl r99)]) (by simp) ?_
            exact ih g y r99 M99 (by omega) zgo.1
        ·
          refine z_iconst 1 (zdec DX10_workOut 34 rfl) (by decide) ?_
          refine z_goto 66 (zdec DX10_workOut 35 rfl) rfl ?_
          refine z_istore (L' := [(0, .inr (.inr 56)), (3, .inl g), (4, .inl y), (5, .inl m), (6, .inl w), (7, .inl 1)]) (zdec DX10_workOut 37 rfl) rfl (by decide) ?_
          refine z_aload_n 0 (zdec DX10_workOut 38 rfl) rfl rfl (by decide) ?_
          refine z_inv mX10_either 56 10 [] (zdec DX10_workOut 39 rfl) ml_SixWallsModel_225 okX10_either rfl shp56 rfl rfl rfl rfl (Nat.le_of_ble_eq_true rfl) (Nat.le_of_ble_eq_true rfl) (b' := (0, 0)) ⟨Nat.le_refl 0, Nat.le_refl 0⟩ (Nat.le_of_ble_eq_true rfl) ((cX10_lv 42).1 _ 0 _ hy50 (by decide)) (fun rv9 S9 M69 h9 => ?_)
          obtain ⟨rfl, w2, rfl, z69⟩ := h9
          have gs2 := zpL_0G (t := ztx M50) (n := M50 56 17) (p := (zpL (ztx M2) (M2 56 17) 42 0 0 p).1 + 1) (by have := hy50.2.1.2; have := hy50.2.2.1; omega) (by have := hy50.2.1.2; have := hy50.2.2.1; omega)
          have y69 := z69.y hy50 gs2
          have hs := zLS_yes hy2 z39 y39.2.1 q50 e50 (ho := 1) (by first | (rw [if_pos (by omega)]; done) | (rw [if_neg (by omega)]; done)) o50 z69
          have hRb99 := y69.2.1
          have o99 : zoT M2 M69 := o50.tr z69.1
          change zW _ _ _ _ _ 72 [(0, .inr (.inr 56)), (3, .inl g), (4, .inl y), (5, .inl m), (6, .inl w), (7, .inl 1)] [.inl w2] M69
          refine z_istore (L' := [(0, .inr (.inr 56)), (3, .inl g), (4, .inl y), (5, .inl m), (6, .inl w2), (7, .inl 1)]) (zdec DX10_workOut 40 rfl) rfl (by decide) ?_
          refine z_aload_n 0 (zdec DX10_workOut 41 rfl) rfl rfl (by decide) ?_
          refine z_geti (ki := 18) 56 10 (zdec DX10_workOut 42 rfl) rfl shp56 rfl (by decide) rfl rfl fl_SixWallsModel_194 ?_
          refine z_if_ge 96 (zdec DX10_workOut 43 rfl) rfl (fun h78 => ?_) (fun h78 => ?_)
          ·
            refine z_aload_n 0 (zdec DX10_workOut 52 rfl) rfl rfl (by decide) ?_
            refine z_bipush 59 (zdec DX10_workOut 53 rfl) (by decide) ?_
            refine z_inv mX10_takesByte 56 10 [.inl 59] (zdec DX10_workOut 54 rfl) ml_SixWallsModel_204 okX10_takesByte rfl shp56 rfl rfl rfl rfl (Nat.le_of_ble_eq_true rfl) (Nat.le_of_ble_eq_true rfl) (b' := (0, 0)) ⟨Nat.le_refl 0, Nat.le_refl 0⟩ (Nat.le_of_ble_eq_true rfl) (cX10_takesByte (z69.1.P hy50.1) hRb99 59) (fun rv9 S9 M99 h9 => ?_)
            obtain ⟨rfl, r99, rfl, y99⟩ := h9
            have zgo := zWk.go (g2 := g) (y2 := y) he hy2 h12 hk hG hg o99 hs hRb99 (fun _ => by first | exact Or.inl ⟨by omega, by omega, rfl, rfl⟩ | exact Or.inr ⟨by omega, rfl, rfl⟩ | (exfalso; omega)) (by omega) y99
            have zg2 := zgo.2.1
            have zg3 := zgo.2.2
            have zg4 := zgo.1.2.1
            have zg5 := zgo.1.2.2.1.tx
            change zW _ _ _ _ _ 102 [(0, .inr (.inr 56)), (3, .inl g), (4, .inl y), (5, .inl m), (6, .inl w2), (7, .inl 1)] [.inl r99] M99
            refine z_istore (L' := [(0, .inr (.inr 56)), (3, .inl g), (4, .inl y), (5, .inl r99), (6, .inl w2), (7, .inl 1)]) (zdec DX10_workOut 55 rfl) rfl (by decide) ?_
            clear hI0 hI1
            refine z_goto 33 (zdec DX10_workOut 56 rfl) rfl ?_
            refine z_weak (L' := [(0, .inr (.inr 56)), (3, .inl g), (4, .inl y), (5, .inl r99)]) (by simp) ?_
            exact ih g y r99 M99 (by omega) zgo.1
          ·
            refine z_iload 5 (zdec DX10_workOut 44 rfl) rfl ?_
            refine z_if_eq 96 (zdec DX10_workOut 45 rfl) rfl (fun h => absurd h (by decide)) (fun _ => ?_)
            refine z_iload_n 1 (zdec DX10_workOut 46 rfl) rfl rfl ?_
            refine z_if_ne 96 (zdec DX10_workOut 47 rfl) rfl (fun h87 => ?_) (fun h87 => ?_)
            ·
              refine z_aload_n 0 (zdec DX10_workOut 52 rfl) rfl rfl (by decide) ?_
              refine z_bipush 59 (zdec DX10_workOut 53 rfl) (by decide) ?_
              refine z_inv mX10_takesByte 56 10 [.inl 59] (zdec DX10_workOut 54 rfl) ml_SixWallsModel_204 okX10_takesByte rfl shp56 rfl rfl rfl rfl (Nat.le_of_ble_eq_true rfl) (Nat.le_of_ble_eq_true rfl) (b' := (0, 0)) ⟨Nat.le_refl 0, Nat.le_refl 0⟩ (Nat.le_of_ble_eq_true rfl) (cX10_takesByte (z69.1.P hy50.1) hRb99 59) (fun rv9 S9 M99 h9 => ?_)
              obtain ⟨rfl, r99, rfl, y99⟩ := h9
              have zgo := zWk.go (g2 := g) (y2 := y) he hy2 h12 hk hG hg o99 hs hRb99 (fun _ => by first | exact Or.inl ⟨by omega, by omega, rfl, rfl⟩ | exact Or.inr ⟨by omega, rfl, rfl⟩ | (exfalso; omega)) (by omega) y99
              have zg2 := zgo.2.1
              have zg3 := zgo.2.2
              have zg4 := zgo.1.2.1
              have zg5 := zgo.1.2.2.1.tx
              change zW _ _ _ _ _ 102 [(0, .inr (.inr 56)), (3, .inl g), (4, .inl y), (5, .inl m), (6, .inl w2), (7, .inl 1)] [.inl r99] M99
              refine z_istore (L' := [(0, .inr (.inr 56)), (3, .inl g), (4, .inl y), (5, .inl r99), (6, .inl w2), (7, .inl 1)]) (zdec DX10_workOut 55 rfl) rfl (by decide) ?_
              clear hI0 hI1
              refine z_goto 33 (zdec DX10_workOut 56 rfl) rfl ?_
              refine z_weak (L' := [(0, .inr (.inr 56)), (3, .inl g), (4, .inl y), (5, .inl r99)]) (by simp) ?_
              exact ih g y r99 M99 (by omega) zgo.1
            ·
              refine z_iconst 1 (zdec DX10_workOut 48 rfl) (by decide) ?_
              refine z_istore_n (L' := [(0, .inr (.inr 56)), (3, .inl 1), (4, .inl y), (5, .inl m), (6, .inl w2), (7, .inl 1)]) (zdec DX10_workOut 49 rfl) rfl rfl (by decide) ?_
              refine z_iload 4 (zdec DX10_workOut 50 rfl) rfl ?_
              refine z_istore (L' := [(0, .inr (.inr 56)), (3, .inl 1), (4, .inl w2), (5, .inl m), (6, .inl w2), (7, .inl 1)]) (zdec DX10_workOut 51 rfl) rfl (by decide) ?_
              refine z_aload_n 0 (zdec DX10_workOut 52 rfl) rfl rfl (by decide) ?_
              refine z_bipush 59 (zdec DX10_workOut 53 rfl) (by decide) ?_
              refine z_inv mX10_takesByte 56 10 [.inl 59] (zdec DX10_workOut 54 rfl) ml_SixWallsModel_204 okX10_takesByte rfl shp56 rfl rfl rfl rfl (Nat.le_of_ble_eq_true rfl) (Nat.le_of_ble_eq_true rfl) (b' := (0, 0)) ⟨Nat.le_refl 0, Nat.le_refl 0⟩ (Nat.le_of_ble_eq_true rfl) (cX10_takesByte (z69.1.P hy50.1) hRb99 59) (fun rv9 S9 M99 h9 => ?_)
              obtain ⟨rfl, r99, rfl, y99⟩ := h9
              have zgo := zWk.go (g2 := 1) (y2 := w2) he hy2 h12 hk hG hg o99 hs hRb99 (fun _ => by first | exact Or.inl ⟨by omega, by omega, rfl, rfl⟩ | exact Or.inr ⟨by omega, rfl, rfl⟩ | (exfalso; omega)) (by omega) y99
              have zg2 := zgo.2.1
              have zg3 := zgo.2.2
              have zg4 := zgo.1.2.1
              have zg5 := zgo.1.2.2.1.tx
              change zW _ _ _ _ _ 102 [(0, .inr (.inr 56)), (3, .inl 1), (4, .inl w2), (5, .inl m), (6, .inl w2), (7, .inl 1)] [.inl r99] M99
              refine z_istore (L' := [(0, .inr (.inr 56)), (3, .inl 1), (4, .inl w2), (5, .inl r99), (6, .inl w2), (7, .inl 1)]) (zdec DX10_workOut 55 rfl) rfl (by decide) ?_
              clear hI0 hI1
              refine z_goto 33 (zdec DX10_workOut 56 rfl) rfl ?_
              refine z_weak (L' := [(0, .inr (.inr 56)), (3, .inl 1), (4, .inl w2), (5, .inl r99)]) (by simp) ?_
              exact ih 1 w2 r99 M99 (by omega) zgo.1
set_option maxHeartbeats 4000000 in
theorem cX10_workOut {M : zMm} (hP : zP M) (b n0 : Int) (hb : b = -1 ∨ b = 0) (hn : 0 ≤ n0 ∧ n0 ≤ 120) : zW mX10_workOut 46 (fun rv S' M' => S' = zS0 ∧ ∃ x, rv = some (.inl x) ∧ zoQ M M' ∧ (M' 56 18 = if (zpLs (zsrcT M b) n0 121 0 []).2.1 = true then (zpLs (zsrcT M b) n0 121 0 []).1 else -1) ∧ (0 ≤ (zpLs (zsrcT M b) n0 121 0 []).1 ∧ (zpLs (zsrcT M b) n0 121 0 []).1 ≤ 120) ∧ ((zpLs (zsrcT M b) n0 121 0 []).2.1 = false → x = zvls (zvn M) (zpLs (zsrcT M b) n0 121 0 []).2.2)) (0, 0) zS0 0 (zargs 0 [.inr (.inr 56), .inl b, .inl n0]) [] M := by
  change zW _ _ _ _ _ 0 [(0, .inr (.inr 56)), (1, .inl b), (2, .inl n0)] [] M
  refine z_aload_n 0 (zdec DX10_workOut 0 rfl) rfl rfl (by decide) ?_
  refine z_iload_n 1 (zdec DX10_workOut 1 rfl) rfl rfl ?_
  refine z_puti (ki := 15) 56 10 (zdec DX10_workOut 2 rfl) rfl shp56 rfl (by decide) rfl rfl fl_SixWallsModel_191 (Or.inl rfl) ?_
  refine z_aload_n 0 (zdec DX10_workOut 3 rfl) rfl rfl (by decide) ?_
  refine z_iconst 0 (zdec DX10_workOut 4 rfl) (by decide) ?_
  refine z_puti (ki := 16) 56 10 (zdec DX10_workOut 5 rfl) rfl shp56 rfl (by decide) rfl rfl fl_SixWallsModel_185 (Or.inl rfl) ?_
  refine z_aload_n 0 (zdec DX10_workOut 6 rfl) rfl rfl (by decide) ?_
  refine z_iload_n 2 (zdec DX10_workOut 7 rfl) rfl rfl ?_
  refine z_puti (ki := 17) 56 10 (zdec DX10_workOut 8 rfl) rfl shp56 rfl (by decide) rfl rfl fl_SixWallsModel_188 (Or.inl rfl) ?_
  refine z_aload_n 0 (zdec DX10_workOut 9 rfl) rfl rfl (by decide) ?_
  refine z_iconst (-1) (zdec DX10_workOut 10 rfl) (by decide) ?_
  refine z_puti (ki := 18) 56 10 (zdec DX10_workOut 11 rfl) rfl shp56 rfl (by decide) rfl rfl fl_SixWallsModel_194 (Or.inl rfl) ?_
  refine z_aload_n 0 (zdec DX10_workOut 12 rfl) rfl rfl (by decide) ?_
  refine z_iconst 0 (zdec DX10_workOut 13 rfl) (by decide) ?_
  refine z_puti (ki := 19) 56 10 (zdec DX10_workOut 14 rfl) rfl shp56 rfl (by decide) rfl rfl fl_SixWallsModel_219 (Or.inl rfl) ?_
  obtain ⟨M1, eM1⟩ : ∃ x, x = zup (zup (zup (zup (zup M 56 15 b) 56 16 0) 56 17 n0) 56 18 (-1)) 56 19 0 := ⟨_, rfl⟩
  have hPM1 : zP M1 := by rw [eM1]; exact (zP_up (zP_up (zP_up (zP_up (zP_up hP (by decide)) (by decide)) (by decide)) (by decide)) (by decide))
  rw [← eM1]
  have a15 : M1 56 15 = b := by rw [eM1, zup_ne (by decide), zup_ne (by decide), zup_ne (by decide), zup_ne (by decide), zup_self]
  have a16 : M1 56 16 = 0 := by rw [eM1, zup_ne (by decide), zup_ne (by decide), zup_ne (by decide), zup_self]
  have a17 : M1 56 17 = n0 := by rw [eM1, zup_ne (by decide), zup_ne (by decide), zup_self]
  have a18 : M1 56 18 = -1 := by rw [eM1, zup_ne (by decide), zup_self]
  have a19 : M1 56 19 = 0 := by rw [eM1, zup_self]
  have aq : zoQ M M1 := ⟨fun c h => by rw [eM1, zup_row h, zup_row h, zup_row h, zup_row h, zup_row h], fun j h => by rw [eM1, zup_ne (by omega), zup_ne (by omega), zup_ne (by omega), zup_ne (by omega), zup_ne (by omega)]⟩
  have hP1 : zP M1 := hPM1
  have atx : ztx M1 = zsrcT M b := by unfold ztx zsrcT; rw [a15, aq.1 65 (by decide), aq.1 66 (by decide)]
  have avn : zvn M1 = zvn M := by funext g; unfold zvn; rw [aq.1 67 (by decide)]
  have hy1 : zRy M1 0 0 := ⟨hP1, ⟨by rw [a15]; exact hb, by omega⟩, a16, a18, a19, by decide, by decide⟩
  refine z_iconst 0 (zdec DX10_workOut 15 rfl) (by decide) ?_
  refine z_istore_n (L' := [(0, .inr (.inr 56)), (1, .inl b), (2, .inl n0), (3, .inl 0)]) (zdec DX10_workOut 16 rfl) rfl rfl (by decide) ?_
  refine z_iconst 0 (zdec DX10_workOut 17 rfl) (by decide) ?_
  refine z_istore (L' := [(0, .inr (.inr 56)), (1, .inl b), (2, .inl n0), (3, .inl 0), (4, .inl 0)]) (zdec DX10_workOut 18 rfl) rfl (by decide) ?_
  refine z_iconst 1 (zdec DX10_workOut 19 rfl) (by decide) ?_
  refine z_istore (L' := [(0, .inr (.inr 56)), (1, .inl b), (2, .inl n0), (3, .inl 0), (4, .inl 0), (5, .inl 1)]) (zdec DX10_workOut 20 rfl) rfl (by decide) ?_
  refine z_weak (L' := [(0, .inr (.inr 56)), (3, .inl 0), (4, .inl 0), (5, .inl 1)]) (by simp) ?_
  refine lp_X10_workOut_33 hP1 hy1 (hx107 := fun y M2 hx => ?_) _ 0 0 1 M1 (Nat.lt_succ_self _) ⟨by omega, by omega, zoT.rf, fun _ => ⟨121, 0, [], rfl, hy1, by omega, ⟨fun _ => ⟨rfl, fun _ => rfl⟩, fun e => by omega⟩⟩, fun e => by omega⟩
  refine z_aload_n 0 (zdec DX10_workOut 57 rfl) rfl rfl (by decide) ?_
  refine z_geti (ki := 18) 56 10 (zdec DX10_workOut 58 rfl) rfl shp56 rfl (by decide) rfl rfl fl_SixWallsModel_194 ?_
  refine z_if_ge 130 (zdec DX10_workOut 59 rfl) rfl (fun h111 => ?_) (fun h111 => ?_)
  ·
    refine z_iload 1 (zdec DX10_workOut 68 rfl) rfl ?_
    exact z_iret (zdec DX10_workOut 69 rfl) rfl (by obtain ⟨ho, g, hw⟩ := hx; obtain ⟨q, bb, L, e1, e2, e3, e4, e5⟩ := hw.end_; have tx := ho.tx; rw [atx, a17] at e1; refine ⟨rfl, y, rfl, ⟨aq.1.tr ho.1, fun j h => by rw [ho.2 j (by omega) (by omega) (by omega)]; exact aq.2 j h⟩, ?_, ?_, ?_⟩; (rw [e1]; dsimp only; cases bb with | true => (rw [if_pos rfl]; rcases e4 with ⟨_, e | ⟨e, f⟩⟩ | ⟨e, _⟩; exact e; omega; cases e) | false => (rw [if_neg (by simp)]; rcases e4 with ⟨e, _⟩ | ⟨_, e, _⟩; cases e; exact e)); (rw [e1]; dsimp only; omega); (rw [e1]; intro h; rw [e5 h, avn]))
  ·
    refine z_aload_n 0 (zdec DX10_workOut 60 rfl) rfl rfl (by decide) ?_
    refine z_geti (ki := 16) 56 10 (zdec DX10_workOut 61 rfl) rfl shp56 rfl (by decide) rfl rfl fl_SixWallsModel_185 ?_
    refine z_aload_n 0 (zdec DX10_workOut 62 rfl) rfl rfl (by decide) ?_
    refine z_geti (ki := 17) 56 10 (zdec DX10_workOut 63 rfl) rfl shp56 rfl (by decide) rfl rfl fl_SixWallsModel_188 ?_
    refine z_icmp_ge 130 (zdec DX10_workOut 64 rfl) rfl (fun h122 => ?_) (fun h122 => ?_)
    ·
      refine z_iload 1 (zdec DX10_workOut 68 rfl) rfl ?_
      exact z_iret (zdec DX10_workOut 69 rfl) rfl (by obtain ⟨ho, g, hw⟩ := hx; obtain ⟨q, bb, L, e1, e2, e3, e4, e5⟩ := hw.end_; have tx := ho.tx; rw [atx, a17] at e1; refine ⟨rfl, y, rfl, ⟨aq.1.tr ho.1, fun j h => by rw [ho.2 j (by omega) (by omega) (by omega)]; exact aq.2 j h⟩, ?_, ?_, ?_⟩; (rw [e1]; dsimp only; cases bb with | true => (rw [if_pos rfl]; rcases e4 with ⟨_, e | ⟨e, f⟩⟩ | ⟨e, _⟩; exact e; omega; cases e) | false => (rw [if_neg (by simp)]; rcases e4 with ⟨e, _⟩ | ⟨_, e, _⟩; cases e; exact e)); (rw [e1]; dsimp only; omega); (rw [e1]; intro h; rw [e5 h, avn]))
    ·
      have hx0 := hx
      obtain ⟨ho, gx, hw⟩ := hx0
      obtain ⟨q, bb, L, e1, e2, e3, e4, e5⟩ := hw.end_
      have tx := ho.tx
      have hRbx : zRb M2 := ⟨by rw [tx.2.2, a15]; exact hb, by omega⟩
      refine z_aload_n 0 (zdec DX10_workOut 65 rfl) rfl rfl (by decide) ?_
      refine z_inv mX10_wrong 56 10 [] (zdec DX10_workOut 66 rfl) ml_SixWallsModel_222 okX10_wrong rfl shp56 rfl rfl rfl rfl (Nat.le_of_ble_eq_true rfl) (Nat.le_of_ble_eq_true rfl) (b' := (0, 0)) ⟨Nat.le_refl 0, Nat.le_refl 0⟩ (Nat.le_of_ble_eq_true rfl) (cX10_wrong (hx.1.P hP1) hRbx) (fun rv9 S9 M126 h9 => ?_)
      obtain ⟨rfl, rfl, rfl⟩ := h9
      change zW _ _ _ _ _ 129 [(0, .inr (.inr 56)), (4, .inl y)] [.inl 0] (zup M2 56 18 (if M2 56 18 < 0 then M2 56 16 else M2 56 18))
      exact z_iret (zdec DX10_workOut 67 rfl) rfl (by rw [atx, a17] at e1; have eb : bb = true := (by rcases e4 with ⟨e, _⟩ | ⟨_, _, e⟩; exact e; omega); subst eb; refine ⟨rfl, 0, rfl, ⟨(aq.1.tr ho.1).up, fun j h => by rw [zup_ne (by omega), ho.2 j (by omega) (by omega) (by omega)]; exact aq.2 j h⟩, ?_, ?_, ?_⟩; (rw [e1, if_pos rfl, zup_self, if_pos (by omega)]; exact e2); (rw [e1]; dsimp only; omega); (rw [e1]; intro h; cases h))
