/-! law: lines as they are laid; working them out -/
def zenc (k : Int) (ln : zLn) : List (Int × Int) := match ln.1 with
  | none => ln.2 ++ [(59, 0)]
  | some a => a ++ [(63, k + a.length + 1 + ln.2.length)] ++ ln.2 ++ [(59, 0)]
def zencL : Int → List zLn → List (Int × Int)
  | _, [] => []
  | k, ln :: L => zenc k ln ++ zencL (k + (zenc k ln).length) L
/-- codes that leave one number, without line signs -/
def zgdc (c : List (Int × Int)) : Prop := (∀ v : Int → Int, ∃ x, zsl v c x) ∧ ∀ g ∈ c, g.1 ≠ 59 ∧ g.1 ≠ 63
theorem zgd_ap {a b : List (Int × Int)} {g : Int} (ha : zgdc a) (hb : zgdc b) (hg : 0 ≤ zlev g) : zgdc (a ++ b ++ [(g, 0)]) := by
  refine ⟨fun v => ?_, fun x hx => ?_⟩
  · obtain ⟨x, h1⟩ := ha.1 v
    obtain ⟨y, h2⟩ := hb.1 v
    exact ⟨_, zsl_bin h1 h2 hg⟩
  · rw [List.mem_append, List.mem_append, List.mem_singleton] at hx
    rcases hx with (h | h) | h
    · exact ha.2 x h
    · exact hb.2 x h
    · rw [h]
      dsimp only
      constructor
      · rintro rfl; exact absurd hg (by decide)
      · rintro rfl; exact absurd hg (by decide)
theorem zgd_un {a : List (Int × Int)} {g : Int} (ha : zgdc a) (hg : g = 109 ∨ g = 33) : zgdc (a ++ [(g, 0)]) := by
  refine ⟨fun v => ?_, fun x hx => ?_⟩
  · obtain ⟨x, h1⟩ := ha.1 v
    exact ⟨_, zsl_un h1 hg⟩
  · rw [List.mem_append, List.mem_singleton] at hx
    rcases hx with h | h
    · exact ha.2 x h
    · rw [h]; dsimp only; omega
theorem zpLp_gd {t : Int → Int} {n l : Int} {R : Int → zPr} (hR : ∀ p : Int, 0 ≤ p → p ≤ n → (R p).2.1 = false → zgdc (R p).2.2) (hG : ∀ p : Int, 0 ≤ p → p ≤ n → zpG n p (R p)) (hl : 0 ≤ l) : ∀ (k : Nat) (r : zPr), 0 ≤ r.1 → (r.2.1 = false → zgdc r.2.2) → (zpLp t n R l k r).2.1 = false → zgdc (zpLp t n R l k r).2.2 := by
  intro k
  induction k with
  | zero => intro r _ h e; exact h e
  | succ k ih =>
    intro r h0 h
    unfold zpLp
    split
    · exact h
    · rename_i q
      have hb : r.2.1 = false := zbool fun e => q (Or.inl e)
      have hv : zlev (zpx t n r.1) = l := Classical.byContradiction fun e => q (Or.inr e)
      have hp : r.1 < n := zpx_lt (t := t) (fun e => by rw [e] at hv; exact absurd hv (by show ¬ (-1 : Int) = l; omega))
      have g := hG (r.1 + 1) (by omega) (by omega)
      refine ih _ (by have := g.1; dsimp only; omega) fun e => ?_
      exact zgd_ap (h hb) (hR (r.1 + 1) (by omega) (by omega) e) (by omega)
theorem zpL_gd {t : Int → Int} {n : Int} : ∀ (f : Nat) (l o p : Int), 0 ≤ l → l ≤ 5 → 0 ≤ o → o ≤ 6 → (6 - o) * 6 + (5 - l) + 1 ≤ f → 0 ≤ p → p ≤ n → (zpL t n f l o p).2.1 = false → zgdc (zpL t n f l o p).2.2 := by
  intro f
  induction f with
  | zero => intro l o p h0 h1 h2 h3 h4; omega
  | succ f ih =>
    intro l o p h0 h1 h2 h3 h4 h5 h6
    unfold zpL
    split
    · unfold zpOp
      split
      · intro _
        exact ⟨fun v => ⟨_, zsl_num v _⟩, fun x hx => by rw [List.mem_singleton] at hx; rw [hx]; dsimp only; omega⟩
      · split
        · rename_i hn
          intro _
          exact ⟨fun v => ⟨_, zsl_nam v hn⟩, fun x hx => by rw [List.mem_singleton] at hx; rw [hx]; dsimp only; omega⟩
        · split
          · intro e; cases e
          · rename_i hq
            have hp := zpx_lt (t := t) (n := n) (p := p) (by omega)
            split
            · split
              · intro e; cases e
              · rename_i hc
                intro _
                exact ih 0 (o + 1) (p + 1) (by omega) (by omega) (by omega) (by omega) (by omega) (by omega) (by omega) (zbool fun e => hc (Or.inl e))
            · intro e
              exact zgd_un (ih 5 (o + 1) (p + 1) (by omega) (by omega) (by omega) (by omega) (by omega) (by omega) (by omega) e) (by split <;> omega)
    · have g : ∀ p : Int, 0 ≤ p → p ≤ n → zpG n p (zpL t n f (l + 1) o p) := fun p a b => zpL_G f (l + 1) o p (by omega) (by omega) h2 h3 (by omega) a b
      exact zpLp_gd (fun p a b e => ih (l + 1) o p (by omega) (by omega) h2 h3 (by omega) a b e) g h0 _ _ (by have := (g p h5 h6).1; omega) (fun e => ih (l + 1) o p (by omega) (by omega) h2 h3 (by omega) h5 h6 e)
theorem zpL0_gd {t : Int → Int} {n p : Int} (h0 : 0 ≤ p) (h1 : p ≤ n) (e : (zpL t n 42 0 0 p).2.1 = false) : zgdc (zpL t n 42 0 0 p).2.2 := zpL_gd 42 0 0 p (by decide) (by decide) (by decide) (by decide) (by decide) h0 h1 e
def zlg (ln : zLn) : Prop := zgdc ln.2 ∧ ∀ a, ln.1 = some a → zgdc a
theorem zpLi_gd {t : Int → Int} {n p : Int} (h0 : 0 ≤ p) (h1 : p ≤ n) (e : (zpLi t n p).2.1 = false) : zlg (zpLi t n p).2.2 := by
  have g := zpL_0G (t := t) h0 h1
  unfold zpLi at e ⊢
  by_cases c : (zpL t n 42 0 0 p).2.1 = true
  · rw [if_pos c] at e; cases e
  · have c2 := zbool c
    rw [if_neg c] at e ⊢
    by_cases d : zpx t n (zpL t n 42 0 0 p).1 ≠ 63
    · rw [if_pos d]
      exact ⟨zpL0_gd h0 h1 c2, fun a z => by cases z⟩
    · rw [if_neg d] at e ⊢
      have hp := zpx_lt (t := t) (n := n) (p := (zpL t n 42 0 0 p).1) (by omega)
      have g1 := g.1
      refine ⟨zpL0_gd (by omega) (by omega) e, fun a z => ?_⟩
      have z2 : some (zpL t n 42 0 0 p).2.2 = some a := z
      cases z2
      exact zpL0_gd h0 h1 c2
/-- a line: what is laid, and no more signs than bytes and one -/
theorem zrLine_R {q : Int} {M : zMm} (hP : zRP q M) : zRR q M ((zpLi (M 15) (M 14 1) (M 14 2)).1, (zpLi (M 15) (M 14 1) (M 14 2)).2.1, zenc (M 14 9) (zpLi (M 15) (M 14 1) (M 14 2)).2.2) (zrLine q M) ∧ ((zpLi (M 15) (M 14 1) (M 14 2)).2.1 = false → ((zenc (M 14 9) (zpLi (M 15) (M 14 1) (M 14 2)).2.2).length : Int) ≤ (zpLi (M 15) (M 14 1) (M 14 2)).1 - M 14 2 + 1) := by
  have p0 := hP.2.2.1
  have p1 := hP.2.2.2
  have hq := hP.1
  have g := zpL_0G (t := M 15) (n := M 14 1) (p := M 14 2) (by omega) (by omega)
  have i := zrL_R (q := q) 42 0 0 M (by decide) (by decide) (by decide) (by decide) (by decide) hP
  have i : zRR q M (zpL (M 15) (M 14 1) 42 0 0 (M 14 2)) (zrl q M) := i
  generalize hr : zpL (M 15) (M 14 1) 42 0 0 (M 14 2) = r at g i
  have pk := i.1.pk hq (by rw [i.2.1]; have := g.1; omega)
  rw [i.2.1] at pk
  unfold zpLi zrLine
  rw [hr]
  by_cases hb : r.2.1 = true
  · rw [if_pos hb, if_pos (i.2.2.1 hb)]
    exact ⟨⟨i.1, i.2.1, fun _ => i.2.2.1 hb, fun z => (by cases z)⟩, fun z => by cases z⟩
  · have hb2 := zbool hb
    have h3 := (i.2.2.2 hb2).1
    have h9 := (i.2.2.2 hb2).2.1
    have g2 := g.2.2 hb2
    rw [if_neg hb, if_neg (show ¬ zrl q M 14 3 ≠ 0 by omega), pk]
    by_cases c : zpx (M 15) (M 14 1) r.1 ≠ 63
    · rw [if_pos c, if_pos c]
      refine ⟨i.emi hq hb2 (by have := g.2.1; omega) 59 0, fun _ => ?_⟩
      show ((r.2.2 ++ [(59, 0)]).length : Int) ≤ r.1 - M 14 2 + 1
      rw [List.length_append, List.length_singleton]
      omega
    · rw [if_neg c, if_neg c]
      have hp := zpx_lt (t := M 15) (n := M 14 1) (p := r.1) (by omega)
      have a := i.adv hq hb2
      have a9 := (a.2.2.2 rfl).2.1
      have a9 : zadv (zrl q M) 14 9 = M 14 9 + r.2.2.length := a9
      have pl1 : zpl (zadv (zrl q M)) = M 14 9 + r.2.2.length := by
        unfold zpl; rw [if_neg (by omega)]; exact a9
      have b := a.emi hq rfl (by dsimp only; omega) 63 0
      dsimp only at b
      have hP1 : zRP q (zemi (zadv (zrl q M)) q 63 0) := b.P hP rfl (by dsimp only; rw [List.length_append, List.length_singleton]; omega) (by dsimp only; omega)
      have t := b.at15 hq
      have j := zrL_R (q := q) 42 0 0 _ (by decide) (by decide) (by decide) (by decide) (by decide) hP1
      have b2 : zemi (zadv (zrl q M)) q 63 0 14 2 = r.1 + 1 := b.2.1
      rw [t.1, t.2, b2] at j
      have j : zRR q (zemi (zadv (zrl q M)) q 63 0) (zpL (M 15) (M 14 1) 42 0 0 (r.1 + 1)) (zrl q (zemi (zadv (zrl q M)) q 63 0)) := j
      have g1 := g.1
      have k := zpL_0G (t := M 15) (n := M 14 1) (p := r.1 + 1) (by omega) (by omega)
      generalize hr2 : zpL (M 15) (M 14 1) 42 0 0 (r.1 + 1) = r2 at j k
      have cc := b.comp rfl j
      dsimp only at cc
      generalize hM4 : zrl q (zemi (zadv (zrl q M)) q 63 0) = M4 at j cc
      by_cases hb3 : r2.2.1 = true
      · have w := cc.emiW hq hb3 59 0 (zenc (M 14 9) (some r.2.2, r2.2.2))
        have f1 : zup (zemi M4 q 59 0) (35 - q) (zpl (zadv (zrl q M))) (zpl M4) 14 = zemi M4 q 59 0 14 := zup_row (by omega)
        rw [hb3]
        refine ⟨⟨⟨fun c x y z => by rw [zup_row z]; exact w.1.1 c x y z, fun j' x y z => by rw [f1]; exact w.1.2 j' x y z⟩, by rw [f1]; exact w.2.1, fun _ => by rw [f1]; exact w.2.2.1 rfl, fun z => (by cases z)⟩, fun z => by cases z⟩
      · have hb4 := zbool hb3
        have k2 := k.2.2 hb4
        have k1 := k.2.1
        have c9 := (cc.2.2.2 hb4).2.1
        dsimp only at c9
        rw [List.length_append, List.length_append, List.length_singleton] at c9
        have pl2 : zpl M4 = M 14 9 + r.2.2.length + 1 + r2.2.2.length := by
          unfold zpl; rw [if_neg (by omega)]; omega
        have w := cc.emi hq hb4 (by dsimp only; rw [List.length_append, List.length_append, List.length_singleton]; omega) 59 0
        dsimp only at w
        have f1 : zup (zemi M4 q 59 0) (35 - q) (zpl (zadv (zrl q M))) (zpl M4) 14 = zemi M4 q 59 0 14 := zup_row (by omega)
        have f2 : zup (zemi M4 q 59 0) (35 - q) (zpl (zadv (zrl q M))) (zpl M4) (34 - q) = zemi M4 q 59 0 (34 - q) := zup_row (by omega)
        have f3 : ∀ x : Int, x ≠ M 14 9 + r.2.2.length → zup (zemi M4 q 59 0) (35 - q) (zpl (zadv (zrl q M))) (zpl M4) (35 - q) x = zemi M4 q 59 0 (35 - q) x := fun x hx => zup_ne (by rw [pl1]; exact hx)
        have f4 : zup (zemi M4 q 59 0) (35 - q) (zpl (zadv (zrl q M))) (zpl M4) (35 - q) (M 14 9 + r.2.2.length) = M 14 9 + r.2.2.length + 1 + r2.2.2.length := by
          rw [pl1, zup_self, pl2]
        have w3 := (w.2.2.2 rfl).2.2.1
        rw [hb4]
        refine ⟨⟨⟨fun c x y z => by rw [zup_row z]; exact w.1.1 c x y z, fun j' x y z => by rw [f1]; exact w.1.2 j' x y z⟩, by rw [f1]; exact w.2.1, fun z => (by cases z), fun _ => ⟨by rw [f1]; exact (w.2.2.2 rfl).1, ?_, ?_, fun x hx => ?_⟩⟩, fun _ => ?_⟩
        · rw [f1]
          refine (w.2.2.2 rfl).2.1.trans ?_
          show _ = M 14 9 + ((r.2.2 ++ [(63, M 14 9 + r.2.2.length + 1 + r2.2.2.length)] ++ r2.2.2 ++ [(59, 0)]).length : Int)
          simp only [List.length_append, List.length_singleton]
        · show zRC (34 - q) (M 14 9) _ (r.2.2 ++ [(63, M 14 9 + r.2.2.length + 1 + r2.2.2.length)] ++ r2.2.2 ++ [(59, 0)])
          have e35 : (34 : Int) - q + 1 = 35 - q := by omega
          have x4 := w3.r
          have x12 := w3.l.l
          have x3 := w3.l.r
          have x1 := x12.l
          have x2 := zRC.one.mp x12.r
          simp only [List.length_append, List.length_singleton] at x4 x3
          refine zRC.ap (zRC.ap (zRC.ap (x1.of fun y y0 y1 => ?_) (zRC.one.mpr ?_)) ?_) ?_
          · rw [e35, f2, f3 y (by omega)]; exact ⟨rfl, rfl⟩
          · rw [e35, f2]; exact ⟨x2.1, f4⟩
          · simp only [List.length_append, List.length_singleton]
            refine x3.of fun y y0 y1 => ?_
            rw [e35, f2, f3 y (by omega)]; exact ⟨rfl, rfl⟩
          · simp only [List.length_append, List.length_singleton]
            refine x4.of fun y y0 y1 => ?_
            rw [e35, f2, f3 y (by omega)]; exact ⟨rfl, rfl⟩
        · rw [f2, f3 x (by omega)]
          exact (w.2.2.2 rfl).2.2.2 x hx
        · show ((r.2.2 ++ [(63, M 14 9 + r.2.2.length + 1 + r2.2.2.length)] ++ r2.2.2 ++ [(59, 0)]).length : Int) ≤ r2.1 - M 14 2 + 1
          simp only [List.length_append, List.length_singleton]
          omega
theorem zrLns_R {q : Int} : ∀ (k : Nat) (M : zMm) (L : List zLn), zRP q M → M 14 1 - M 14 2 < k → ∃ X : List zLn, (zpLs (M 15) (M 14 1) k (M 14 2) L).2.2 = L ++ X ∧ X ≠ [] ∧ zRR q M ((zpLs (M 15) (M 14 1) k (M 14 2) L).1, (zpLs (M 15) (M 14 1) k (M 14 2) L).2.1, zencL (M 14 9) X) (zrLns q k M) ∧ ((zpLs (M 15) (M 14 1) k (M 14 2) L).2.1 = false → ((zencL (M 14 9) X).length : Int) ≤ 121 - M 14 9 ∧ ∀ ln ∈ X, zlg ln) := by
  intro k
  induction k with
  | zero => intro M L hP h; have := hP.2.2.2; omega
  | succ k ih =>
    intro M L hP hk
    have p0 := hP.2.2.1
    have p1 := hP.2.2.2
    have hq := hP.1
    obtain ⟨i, il⟩ := zrLine_R hP
    have b := zpLi_b (t := M 15) (n := M 14 1) (p := M 14 2) (by omega) (by omega)
    have gd := zpLi_gd (t := M 15) (n := M 14 1) (p := M 14 2) (by omega) (by omega)
    unfold zpLs zrLns
    generalize zpLi (M 15) (M 14 1) (M 14 2) = r at i il b gd ⊢
    have t := i.at15 hq
    have i2 : zrLine q M 14 2 = r.1 := i.2.1
    have pk := i.1.pk hq (by rw [i2]; omega)
    rw [i2] at pk
    rw [t.2, i2, pk]
    have e1 : zencL (M 14 9) [r.2.2] = zenc (M 14 9) r.2.2 := by
      show zenc _ _ ++ [] = _
      rw [List.append_nil]
    by_cases hb : r.2.1 = true
    · rw [if_pos (Or.inl hb), if_pos (Or.inl (i.2.2.1 hb))]
      refine ⟨[r.2.2], rfl, by simp, by rw [e1]; exact i, fun z => ?_⟩
      have z : r.2.1 = false := z
      rw [hb] at z; cases z
    · have hb2 := zbool hb
      have h3 := (i.2.2.2 hb2).1
      have il := il hb2
      by_cases c : M 14 1 ≤ r.1
      · rw [if_pos (Or.inr c), if_pos (Or.inr c)]
        refine ⟨[r.2.2], rfl, by simp, by rw [e1]; exact i, fun z => ⟨by rw [e1]; omega, fun ln hl => ?_⟩⟩
        rw [List.mem_singleton] at hl
        rw [hl]; exact gd hb2
      · have n1 : ¬ (r.2.1 = true ∨ M 14 1 ≤ r.1) := fun z => z.elim hb c
        have n2 : ¬ (zrLine q M 14 3 ≠ 0 ∨ M 14 1 ≤ r.1) := fun z => z.elim (fun y => y h3) c
        rw [if_neg n1, if_neg n2]
        by_cases d : zpx (M 15) (M 14 1) r.1 ≠ 59
        · rw [if_pos d, if_pos d]
          exact ⟨[r.2.2], rfl, by simp, i.bad _, fun z => by cases z⟩
        · rw [if_neg d, if_neg d]
          have a := i.adv hq hb2
          dsimp only at a
          obtain ⟨a1, a2, a3, a4⟩ := a
          obtain ⟨c1, c2, c3, c4⟩ := a4 rfl
          dsimp only at a2 c2 c3
          have t2 := zRR.at15 hq ⟨a1, a2, a3, a4⟩
          have hP1 : zRP q (zadv (zrLine q M)) := ⟨hq, c1, ⟨by omega, by omega⟩, by rw [t2.2]; omega, by rw [t2.2]; exact p1.2⟩
          have b3 := b.2.2 hb2
          obtain ⟨X, x1, x2, x3, x4⟩ := ih (zadv (zrLine q M)) (L ++ [r.2.2]) hP1 (by rw [t2.2, a2]; omega)
          rw [t2.1, t2.2, a2] at x1 x3 x4
          rw [c2] at x3 x4
          refine ⟨r.2.2 :: X, by rw [x1, List.append_assoc]; rfl, by simp, ?_, fun z => ?_⟩
          · exact zRR.comp ⟨a1, a2, a3, a4⟩ rfl x3
          · obtain ⟨y1, y2⟩ := x4 z
            refine ⟨?_, fun ln hl => ?_⟩
            · show ((zenc (M 14 9) r.2.2 ++ zencL (M 14 9 + (zenc (M 14 9) r.2.2).length) X).length : Int) ≤ _
              rw [List.length_append]
              omega
            · rcases List.mem_cons.mp hl with hl | hl
              · rw [hl]; exact gd hb2
              · exact y2 ln hl
/-! worked out -/
/-- a row of numbers holds a stack -/
def zSk (k : Int → Int) (K : List Int) : Prop := ∀ j : Nat, j < K.length → k ((K.length : Int) - 1 - j) = K.getD j 0
theorem zSk.push {k : Int → Int} {K : List Int} (h : zSk k K) (x : Int) : zSk (zpu k K.length x) (x :: K) := by
  intro j hj
  rw [List.length_cons] at hj
  rw [List.length_cons]
  cases j with
  | zero => rw [show (((K.length + 1 : Nat) : Int) - 1 - ((0 : Nat) : Int)) = (K.length : Int) by omega, zpu_s]; rfl
  | succ j =>
    have t := h j (by omega)
    rw [show (((K.length + 1 : Nat) : Int) - 1 - ((j + 1 : Nat) : Int)) = (K.length : Int) - 1 - j by omega, zpu_n (by omega)]
    exact t
theorem zSk.set {k : Int → Int} {K : List Int} {x : Int} (h : zSk k (x :: K)) (y : Int) : zSk (zpu k K.length y) (y :: K) := by
  intro j hj
  have t := h j hj
  rw [List.length_cons] at hj t ⊢
  cases j with
  | zero => rw [show (((K.length + 1 : Nat) : Int) - 1 - ((0 : Nat) : Int)) = (K.length : Int) by omega, zpu_s]; rfl
  | succ j =>
    rw [zpu_n (by omega), t]
    rfl
theorem zSk.top {k : Int → Int} {K : List Int} {x : Int} (h : zSk k (x :: K)) : k K.length = x := by
  have t := h 0 (by simp)
  rw [List.length_cons] at t
  rw [show (((K.length + 1 : Nat) : Int) - 1 - ((0 : Nat) : Int)) = (K.length : Int) by omega] at t
  exact t
theorem zSk.tl {k : Int → Int} {K : List Int} {x : Int} (h : zSk k (x :: K)) : zSk k K := fun j hj => by
  have t := h (j + 1) (by simp; omega)
  rw [List.length_cons] at t
  rw [show (((K.length + 1 : Nat) : Int) - 1 - ((j + 1 : Nat) : Int)) = (K.length : Int) - 1 - j by omega] at t
  exact t
theorem zwor_run {s : zMm} {q : Int} {v : Int → Int} : ∀ (l : List (Int × Int)) (K K' : List Int) (i : Int) (k : Int → Int) (f : Nat), zRC q i s l → (∀ g ∈ l, g.1 ≠ 59 ∧ g.1 ≠ 63) → zrun v l K = some K' → i + l.length ≤ s 14 6 → (K.length : Int) + l.length ≤ 121 → l.length < f → zSk k K → ∃ k' : Int → Int, zSk k' K' ∧ zwor s q v f (i, (K.length : Int), k) = zwor s q v (f - l.length) (i + l.length, (K'.length : Int), k') := by
  intro l
  induction l with
  | nil =>
    intro K K' i k f _ _ hr _ _ _ hk
    have e : K = K' := by
      have hr : some K = some K' := hr
      cases hr; rfl
    subst e
    exact ⟨k, hk, by simp⟩
  | cons c l ih =>
    intro K K' i k f hc hg hr hi hs hf hk
    have c0 := hc 0 (by simp)
    rw [show i + ((0 : Nat) : Int) = i by omega] at c0
    have c0 : s q i = c.1 ∧ s (q + 1) i = c.2 := c0
    have g0 := hg c (List.mem_cons_self ..)
    rw [List.length_cons] at hi hs hf
    have hc' : zRC q (i + 1) s l := by
      have t : zRC q i s ([c] ++ l) := hc
      exact t.r
    have hg' : ∀ g ∈ l, g.1 ≠ 59 ∧ g.1 ≠ 63 := fun g hgm => hg g (List.mem_cons_of_mem _ hgm)
    have hr1 : (zr1 v c K).bind (zrun v l) = some K' := hr
    have st : ∀ (K1 : List Int) (k1 : Int → Int), zr1 v c K = some K1 → (K1.length : Int) ≤ K.length + 1 → zSk k1 K1 → zwst s q v (i, (K.length : Int), k) = (i + 1, (K1.length : Int), k1) → ∃ k' : Int → Int, zSk k' K' ∧ zwor s q v f (i, (K.length : Int), k) = zwor s q v (f - (l.length + 1)) (i + ((l.length + 1 : Nat) : Int), (K'.length : Int), k') := fun K1 k1 e1 hl hk1 e2 => by
      rw [e1] at hr1
      obtain ⟨k', a1, a2⟩ := ih K1 K' (i + 1) k1 (f - 1) hc' hg' hr1 (by omega) (by omega) (by omega) hk1
      refine ⟨k', a1, ?_⟩
      rw [zwor_go (by dsimp only; omega) (by dsimp only; rw [c0.1]; exact g0.1) (by omega), e2, a2]
      rw [show f - 1 - l.length = f - (l.length + 1) by omega, show i + 1 + (l.length : Int) = i + ((l.length + 1 : Nat) : Int) by omega]
    show ∃ k' : Int → Int, zSk k' K' ∧ zwor s q v f (i, (K.length : Int), k) = zwor s q v (f - (l.length + 1)) (i + ((l.length + 1 : Nat) : Int), (K'.length : Int), k')
    unfold zr1 at hr1 st
    unfold zwst at st
    dsimp only at st
    rw [c0.1, c0.2] at st
    rw [if_neg g0.2] at st
    by_cases u : c.1 = 109 ∨ c.1 = 33
    · rw [if_pos u] at hr1 st
      rw [if_pos u] at st
      cases K with
      | nil => cases hr1
      | cons x K =>
        rw [List.length_cons] at st
        refine st _ (zpu k K.length (if c.1 = 33 then zb (x = 0) else zw (-x))) rfl (by rw [List.length_cons]; omega) (hk.set _) ?_
        have tp := hk.top
        have z : ((K.length + 1 : Nat) : Int) - 1 = (K.length : Int) := by omega
        simp only [z, tp]
        rw [if_pos (by omega)]
        rfl
    · rw [if_neg u] at hr1 st
      rw [if_neg u] at st
      by_cases w : 0 ≤ zlev c.1
      · rw [if_pos w] at hr1 st
        rw [if_pos w] at st
        cases K with
        | nil => cases hr1
        | cons y K =>
          cases K with
          | nil => cases hr1
          | cons x K =>
            rw [List.length_cons, List.length_cons] at st
            have t1 := hk.top
            have t2 := hk.tl.top
            rw [List.length_cons] at t1
            refine st _ (zpu k K.length (zjoi c.1 x y)) rfl (by simp only [List.length_cons]; omega) (hk.tl.set _) ?_
            rw [if_pos (by omega), show (((K.length + 1 + 1 : Nat) : Int) - 1 - 1) = (K.length : Int) by omega, show (((K.length + 1 + 1 : Nat) : Int) - 1) = ((K.length + 1 : Nat) : Int) by omega, t1, t2]
            rfl
      · rw [if_neg w] at hr1 st
        rw [if_neg w] at st
        refine st _ (zpu k K.length (if c.1 = 110 then c.2 else v c.1)) rfl (by simp) (hk.push _) ?_
        rw [if_pos (by omega)]
        rfl
theorem zSk.nil {k : Int → Int} : zSk k [] := fun j hj => by simp at hj
/-- the laid lines, worked out -/
theorem zwor_lines {s : zMm} {q : Int} {v : Int → Int} : ∀ (X : List zLn) (i : Int) (k : Int → Int) (f : Nat), zRC q i s (zencL i X) → (∀ ln ∈ X, zlg ln) → i + (zencL i X).length = s 14 6 → 0 ≤ i → s 14 6 ≤ 121 → 121 - i < f → zwor s q v f (i, 0, k) = zvls v X := by
  intro X
  induction X with
  | nil =>
    intro i k f _ _ hi _ h1 hf
    have hi : i + 0 = s 14 6 := hi
    obtain ⟨f, rfl⟩ : ∃ g, f = g + 1 := ⟨f - 1, by omega⟩
    show (if s 14 6 ≤ i then 0 else _) = 0
    rw [if_pos (by omega)]
  | cons ln X ih =>
    intro i k f hc hg hi h0 h1 hf
    have hc : zRC q i s (zenc i ln ++ zencL (i + (zenc i ln).length) X) := hc
    have hi : i + ((zenc i ln ++ zencL (i + (zenc i ln).length) X).length : Int) = s 14 6 := hi
    rw [List.length_append] at hi
    have g0 := hg ln (List.mem_cons_self ..)
    have cl := hc.l
    have cr := hc.r
    have ihX := fun k f hf => ih (i + (zenc i ln).length) k f cr (fun l hl => hg l (List.mem_cons_of_mem _ hl)) (by omega) (by omega) h1 hf
    obtain ⟨o, c⟩ := ln
    -- the line's last part, from j on
    have last : ∀ (j : Int) (k : Int → Int) (f : Nat), 0 ≤ j → zRC q j s (c ++ [(59, 0)]) → j + c.length + 1 ≤ s 14 6 → c.length + 1 < f → zwor s q v f (j, 0, k) = zto v c := fun j k f j0 hj he hf => by
      obtain ⟨x, hx⟩ := g0.1.1 v
      have hx := hx
      obtain ⟨k', a1, a2⟩ := zwor_run c [] [x] j k f hj.l g0.1.2 (hx []) (by omega) (by simp; omega) (by omega) zSk.nil
      have a2 : zwor s q v f (j, 0, k) = zwor s q v (f - c.length) (j + c.length, 1, k') := a2
      have e := zRC.one.mp hj.r
      rw [a2, zwor_end (by dsimp only; omega) (by dsimp only; exact e.1) (by omega)]
      have tp := a1.top
      dsimp only
      rw [if_pos (by decide), zto_sl hx]
      exact tp
    cases o with
    | none =>
      have cl : zRC q i s (c ++ [(59, 0)]) := cl
      have hi2 : ((zenc i (none, c)).length : Int) = c.length + 1 := by
        show ((c ++ [(59, 0)]).length : Int) = _
        rw [List.length_append, List.length_singleton]; omega
      show _ = zto v c
      exact last i k f h0 cl (by omega) (by omega)
    | some a =>
      have cl : zRC q i s (a ++ [(63, i + a.length + 1 + c.length)] ++ c ++ [(59, 0)]) := cl
      have hi2 : ((zenc i (some a, c)).length : Int) = a.length + 1 + c.length + 1 := by
        show ((a ++ [(63, i + a.length + 1 + c.length)] ++ c ++ [(59, 0)]).length : Int) = _
        simp only [List.length_append, List.length_singleton]; omega
      have ga := g0.2 a rfl
      obtain ⟨x, hx⟩ := ga.1 v
      obtain ⟨k', a1, a2⟩ := zwor_run a [] [x] i k f cl.l.l.l ga.2 (hx []) (by omega) (by simp; omega) (by omega) zSk.nil
      have a2 : zwor s q v f (i, 0, k) = zwor s q v (f - a.length) (i + a.length, 1, k') := a2
      have e := zRC.one.mp cl.l.l.r
      have tp : k' 0 = x := a1.top
      rw [a2, zwor_go (by dsimp only; omega) (by dsimp only; rw [e.1]; decide) (by omega)]
      unfold zwst
      dsimp only
      rw [e.1, if_pos rfl, e.2]
      simp only [show (1 : Int) - 1 = 0 by decide, tp]
      show _ = if zto v a ≠ 0 then zto v c else zvls v X
      rw [zto_sl hx]
      by_cases u : x ≠ 0
      · rw [if_pos ⟨by decide, u⟩, if_pos u]
        refine last _ _ _ (by omega) ?_ (by omega) (by omega)
        have t : zRC q i s ((a ++ [(63, i + a.length + 1 + c.length)]) ++ (c ++ [(59, 0)])) := by rw [← List.append_assoc]; exact cl
        have t2 := t.r
        rw [List.length_append, List.length_singleton] at t2
        rw [show i + ((a.length + 1 : Nat) : Int) = i + (a.length : Int) + 1 by omega] at t2
        exact t2
      · rw [if_neg (fun z => u z.2), if_neg u, if_pos (by omega)]
        have t := ihX k' (f - a.length - 1) (by omega)
        rw [hi2] at t
        rw [← t]
        congr 1
        congr 1
        omega
