/-! law: what the class lays while it reads is what the pure reading says -/
def zRS (q : Int) (M0 M : zMm) : Prop := (∀ c : Int, c ≠ 14 → c ≠ 34 - q → c ≠ 35 - q → M c = M0 c) ∧ ∀ j : Int, j ≠ 2 → j ≠ 3 → j ≠ 9 → M 14 j = M0 14 j
theorem zRS.rf {q : Int} {M : zMm} : zRS q M M := ⟨fun _ _ _ _ => rfl, fun _ _ _ _ => rfl⟩
theorem zRS.tr {q : Int} {M M1 M2 : zMm} (h : zRS q M M1) (h2 : zRS q M1 M2) : zRS q M M2 := ⟨fun c a b d => (h2.1 c a b d).trans (h.1 c a b d), fun j a b d => (h2.2 j a b d).trans (h.2 j a b d)⟩
theorem zgD_l {a b : List (Int × Int)} {i : Nat} (h : i < a.length) : (a ++ b).getD i (0, 0) = a.getD i (0, 0) := by
  rw [List.getD_eq_getElem?_getD, List.getD_eq_getElem?_getD, List.getElem?_append_left h]
theorem zgD_r {a b : List (Int × Int)} {i : Nat} (h : a.length ≤ i) : (a ++ b).getD i (0, 0) = b.getD (i - a.length) (0, 0) := by
  rw [List.getD_eq_getElem?_getD, List.getD_eq_getElem?_getD, List.getElem?_append_right h]
/-- the signs and numbers laid from k on -/
def zRC (c k : Int) (M : zMm) (l : List (Int × Int)) : Prop := ∀ i : Nat, i < l.length → M c (k + i) = (l.getD i (0, 0)).1 ∧ M (c + 1) (k + i) = (l.getD i (0, 0)).2
theorem zRC.nil {c k : Int} {M : zMm} : zRC c k M [] := fun i h => by simp at h
theorem zRC.ap {c k : Int} {M : zMm} {a b : List (Int × Int)} (h1 : zRC c k M a) (h2 : zRC c (k + a.length) M b) : zRC c k M (a ++ b) := by
  intro i hi
  rw [List.length_append] at hi
  by_cases q : i < a.length
  · have t := h1 i q
    rw [zgD_l q]
    exact t
  · have t := h2 (i - a.length) (by omega)
    rw [show k + (a.length : Int) + ((i - a.length : Nat) : Int) = k + i by omega] at t
    rw [zgD_r (by omega)]
    exact t
theorem zRC.l {c k : Int} {M : zMm} {a b : List (Int × Int)} (h : zRC c k M (a ++ b)) : zRC c k M a := fun i hi => by
  have t := h i (by rw [List.length_append]; omega)
  rwa [zgD_l hi] at t
theorem zRC.r {c k : Int} {M : zMm} {a b : List (Int × Int)} (h : zRC c k M (a ++ b)) : zRC c (k + a.length) M b := fun i hi => by
  have t := h (a.length + i) (by rw [List.length_append]; omega)
  rw [zgD_r (by omega), show a.length + i - a.length = i by omega, show k + ((a.length + i : Nat) : Int) = k + (a.length : Int) + i by omega] at t
  exact t
theorem zRC.one {c k g v : Int} {M : zMm} : zRC c k M [(g, v)] ↔ M c k = g ∧ M (c + 1) k = v := by
  constructor
  · intro h
    have t := h 0 (by simp)
    simpa using t
  · intro h i hi
    have e : i = 0 := by simp at hi; exact hi
    subst e
    simpa using h
theorem zRC.of {c k : Int} {M M2 : zMm} {l : List (Int × Int)} (h : zRC c k M l) (e : ∀ j : Int, k ≤ j → j < k + l.length → M2 c j = M c j ∧ M2 (c + 1) j = M (c + 1) j) : zRC c k M2 l := fun i hi => by
  have t := h i hi
  have u := e (k + i) (by omega) (by omega)
  rw [u.1, u.2]
  exact t
def zRP (q : Int) (M : zMm) : Prop := (q = 16 ∨ q = 18) ∧ M 14 3 = 0 ∧ (0 ≤ M 14 9 ∧ M 14 9 ≤ M 14 2) ∧ M 14 2 ≤ M 14 1 ∧ M 14 1 ≤ 120
def zRR (q : Int) (M : zMm) (r : zPr) (M' : zMm) : Prop := zRS q M M' ∧ M' 14 2 = r.1 ∧ (r.2.1 = true → M' 14 3 ≠ 0) ∧ (r.2.1 = false → M' 14 3 = 0 ∧ M' 14 9 = M 14 9 + r.2.2.length ∧ zRC (34 - q) (M 14 9) M' r.2.2 ∧ ∀ k : Int, k < M 14 9 → M' (34 - q) k = M (34 - q) k ∧ M' (35 - q) k = M (35 - q) k)
theorem zRP.pk {q : Int} {M : zMm} (h : zRP q M) : zpk M = zpx (M 15) (M 14 1) (M 14 2) := by
  obtain ⟨_, _, h1, _⟩ := h
  unfold zpk zpx
  by_cases e : M 14 2 < M 14 1
  · rw [if_pos e, if_pos ⟨by omega, e⟩]
  · rw [if_neg e, if_neg (by omega)]
theorem zRS.pk {q : Int} {M M' : zMm} (hq : q = 16 ∨ q = 18) (h : zRS q M M') (h0 : 0 ≤ M' 14 2) : zpk M' = zpx (M 15) (M 14 1) (M' 14 2) := by
  have e15 := h.1 15 (by decide) (by omega) (by omega)
  have e1 := h.2 1 (by decide) (by decide) (by decide)
  unfold zpk zpx
  rw [e15, e1]
  by_cases e : M' 14 2 < M 14 1
  · rw [if_pos e, if_pos ⟨h0, e⟩]
  · rw [if_neg e, if_neg (by omega)]
theorem zadv_S {q : Int} {M : zMm} : zRS q M (zadv M) := ⟨fun c a b d => zup_row a, fun j a b d => zup_ne a⟩
theorem zbad_S {q : Int} {M : zMm} : zRS q M (zbad M) := ⟨fun c a b d => zup_row a, fun j a b d => zup_ne b⟩
theorem zadv_v {M : zMm} : zadv M 14 2 = M 14 2 + 1 ∧ zadv M 14 3 = M 14 3 ∧ zadv M 14 9 = M 14 9 := ⟨by unfold zadv; exact zup_self _ _ _ _, by unfold zadv; exact zup_ne (by decide), by unfold zadv; exact zup_ne (by decide)⟩
theorem zbad_v {M : zMm} : zbad M 14 2 = M 14 2 ∧ zbad M 14 3 = 1 := ⟨by unfold zbad; exact zup_ne (by decide), by unfold zbad; exact zup_self _ _ _ _⟩
theorem zemi_S {q g v : Int} {M : zMm} (hq : q = 16 ∨ q = 18) : zRS q M (zemi M q g v) := by
  unfold zemi
  exact ⟨fun c a b d => by rw [zup_row a, zup_row d, zup_row b], fun j a b d => by rw [zup_ne d, zup_row (by omega), zup_row (by omega)]⟩
theorem zemi_v {q g v : Int} {M : zMm} (hq : q = 16 ∨ q = 18) (h9 : M 14 9 ≤ 120) : zemi M q g v 14 2 = M 14 2 ∧ zemi M q g v 14 3 = M 14 3 ∧ zemi M q g v 14 9 = M 14 9 + 1 ∧ (zemi M q g v (34 - q) (M 14 9) = g ∧ zemi M q g v (35 - q) (M 14 9) = v) ∧ ∀ k : Int, k ≠ M 14 9 → zemi M q g v (34 - q) k = M (34 - q) k ∧ zemi M q g v (35 - q) k = M (35 - q) k := by
  have e : zpl M = M 14 9 := by unfold zpl; rw [if_neg (by omega)]
  have s := zemi_S (g := g) (v := v) (M := M) hq
  unfold zemi at s ⊢
  rw [e] at s ⊢
  refine ⟨?_, ?_, zup_self _ _ _ _, ⟨?_, ?_⟩, fun k hk => ⟨?_, ?_⟩⟩
  · rw [zup_ne (by decide), zup_row (by omega), zup_row (by omega)]
  · rw [zup_ne (by decide), zup_row (by omega), zup_row (by omega)]
  · rw [zup_row (by omega), zup_row (by omega), zup_self]
  · rw [zup_row (by omega), zup_self]
  · rw [zup_row (by omega), zup_row (by omega), zup_ne hk]
  · rw [zup_row (by omega), zup_ne hk, zup_row (by omega)]
theorem zemi_a {q g v : Int} {M : zMm} (hq : q = 16 ∨ q = 18) : zemi M q g v 14 2 = M 14 2 ∧ zemi M q g v 14 3 = M 14 3 := by
  unfold zemi
  exact ⟨by rw [zup_ne (by decide), zup_row (by omega), zup_row (by omega)], by rw [zup_ne (by decide), zup_row (by omega), zup_row (by omega)]⟩
theorem zRR.emi {q : Int} {M M1 : zMm} {r : zPr} (hq : q = 16 ∨ q = 18) (h : zRR q M r M1) (hb : r.2.1 = false) (h120 : M 14 9 + r.2.2.length ≤ 120) (g v : Int) : zRR q M (r.1, false, r.2.2 ++ [(g, v)]) (zemi M1 q g v) := by
  obtain ⟨h1, h2, -, h3⟩ := h
  obtain ⟨a1, a2, a3, a4⟩ := h3 hb
  have e := zemi_v (g := g) (v := v) hq (M := M1) (by omega)
  refine ⟨h1.tr (zemi_S hq), by rw [e.1]; exact h2, fun z => (by cases z), fun _ => ⟨by rw [e.2.1]; exact a1, ?_, ?_, fun k hk => ?_⟩⟩
  · rw [e.2.2.1, a2]
    dsimp only
    rw [List.length_append, List.length_singleton]
    omega
  · refine zRC.ap (a3.of fun j j0 j1 => ?_) (zRC.one.mpr ?_)
    · have t := e.2.2.2.2 j (by omega)
      rw [show (34 : Int) - q + 1 = 35 - q by omega]
      exact t
    · rw [show (34 : Int) - q + 1 = 35 - q by omega, ← a2]
      exact e.2.2.2.1
  · have t := e.2.2.2.2 k (by omega)
    have u := a4 k hk
    exact ⟨t.1.trans u.1, t.2.trans u.2⟩
theorem zRR.emiW {q : Int} {M M1 : zMm} {r : zPr} (hq : q = 16 ∨ q = 18) (h : zRR q M r M1) (hb : r.2.1 = true) (g v : Int) (l : List (Int × Int)) : zRR q M (r.1, true, l) (zemi M1 q g v) := by
  have e := zemi_a (g := g) (v := v) hq (M := M1)
  exact ⟨h.1.tr (zemi_S hq), by rw [e.1]; exact h.2.1, fun _ => by rw [e.2]; exact h.2.2.1 hb, fun z => by cases z⟩
theorem zRR.comp {q : Int} {M M1 M2 : zMm} {r1 r2 : zPr} (h1 : zRR q M r1 M1) (hb : r1.2.1 = false) (h2 : zRR q M1 r2 M2) : zRR q M (r2.1, r2.2.1, r1.2.2 ++ r2.2.2) M2 := by
  obtain ⟨a1, a2, -, a3⟩ := h1
  obtain ⟨b1, b2, b3, b4⟩ := h2
  obtain ⟨c1, c2, c3, c4⟩ := a3 hb
  refine ⟨a1.tr b1, b2, b3, fun e => ?_⟩
  obtain ⟨d1, d2, d3, d4⟩ := b4 e
  refine ⟨d1, ?_, ?_, fun k hk => ?_⟩
  · rw [d2, c2]
    dsimp only
    rw [List.length_append]
    omega
  · refine zRC.ap (c3.of fun j j0 j1 => ?_) (by rw [← c2]; exact d3)
    rw [show (34 : Int) - q + 1 = 35 - q by omega]
    exact d4 j (by omega)
  · have t := d4 k (by omega)
    have u := c4 k hk
    exact ⟨t.1.trans u.1, t.2.trans u.2⟩
theorem zRR.adv {q : Int} {M M1 : zMm} {r : zPr} (hq : q = 16 ∨ q = 18) (h : zRR q M r M1) (hb : r.2.1 = false) : zRR q M (r.1 + 1, false, r.2.2) (zadv M1) := by
  obtain ⟨h1, h2, -, h3⟩ := h
  obtain ⟨a1, a2, a3, a4⟩ := h3 hb
  have e := zadv_v (M := M1)
  have r1 : zadv M1 (34 - q) = M1 (34 - q) := by unfold zadv; exact zup_row (by omega)
  have r2 : zadv M1 (35 - q) = M1 (35 - q) := by unfold zadv; exact zup_row (by omega)
  refine ⟨h1.tr zadv_S, by rw [e.1, h2], fun z => (by cases z), fun _ => ⟨by rw [e.2.1]; exact a1, by rw [e.2.2]; exact a2, a3.of fun j _ _ => ?_, fun k hk => ?_⟩⟩
  · rw [show (34 : Int) - q + 1 = 35 - q by omega, r1, r2]
    exact ⟨rfl, rfl⟩
  · rw [r1, r2]; exact a4 k hk
theorem zRR.bad {q : Int} {M M1 : zMm} {r : zPr} (h : zRR q M r M1) (l : List (Int × Int)) : zRR q M (r.1, true, l) (zbad M1) := by
  have e := zbad_v (M := M1)
  exact ⟨h.1.tr zbad_S, by rw [e.1]; exact h.2.1, fun _ => by rw [e.2]; decide, fun z => by cases z⟩
theorem zRR.rf {q : Int} {M : zMm} (h : M 14 3 = 0) : zRR q M (M 14 2, false, []) M := ⟨zRS.rf, rfl, fun z => (by cases z), fun _ => ⟨h, by simp, zRC.nil, fun _ _ => ⟨rfl, rfl⟩⟩⟩
theorem zRR.at15 {q : Int} {M M1 : zMm} {r : zPr} (hq : q = 16 ∨ q = 18) (h : zRR q M r M1) : M1 15 = M 15 ∧ M1 14 1 = M 14 1 := ⟨h.1.1 15 (by decide) (by omega) (by omega), h.1.2 1 (by decide) (by decide) (by decide)⟩
/-- the state behind a good piece is a good one -/
theorem zRR.P {q : Int} {M M1 : zMm} {r : zPr} (hP : zRP q M) (h : zRR q M r M1) (hb : r.2.1 = false) (hl : (r.2.2.length : Int) ≤ r.1 - M 14 2) (hn : r.1 ≤ M 14 1) : zRP q M1 := by
  obtain ⟨p1, p2, p3, p4, p5⟩ := hP
  have t := h.at15 p1
  obtain ⟨h1, h2, -, h3⟩ := h
  obtain ⟨a1, a2, -, -⟩ := h3 hb
  exact ⟨p1, a1, ⟨by omega, by omega⟩, by rw [t.2]; omega, by rw [t.2]; exact p5⟩
theorem zrnN_R {q : Int} : ∀ (f : Nat) (v : Int) (M : zMm), zRP q M → (zrnN f v M).1 = (zpN (M 15) (M 14 1) f v (M 14 2)).1 ∧ zRR q M ((zpN (M 15) (M 14 1) f v (M 14 2)).2, false, []) (zrnN f v M).2 := by
  intro f
  induction f with
  | zero => intro v M hP; exact ⟨rfl, zRR.rf hP.2.1⟩
  | succ f ih =>
    intro v M hP
    have pk := hP.pk
    rw [zrnN_s]
    unfold zpN
    rw [pk]
    split
    · rename_i c
      have hp : M 14 2 < M 14 1 := zpx_lt (t := M 15) (n := M 14 1) (p := M 14 2) (by omega)
      have a := (zRR.rf (q := q) hP.2.1).adv hP.1 rfl
      have t := a.at15 hP.1
      have e := zadv_v (M := M)
      have hP1 : zRP q (zadv M) := ⟨hP.1, by rw [e.2.1]; exact hP.2.1, by rw [e.1, e.2.2]; have := hP.2.2.1; omega, by rw [e.1, t.2]; omega, by rw [t.2]; exact hP.2.2.2.2⟩
      have i := ih (v * 10 + zpx (M 15) (M 14 1) (M 14 2) - 48) (zadv M) hP1
      rw [t.1, t.2, e.1] at i
      refine ⟨i.1, ?_⟩
      have c := a.comp rfl i.2
      exact c
    · exact ⟨rfl, zRR.rf hP.2.1⟩
theorem zRP.adv {q : Int} {M : zMm} (hP : zRP q M) (h : M 14 2 < M 14 1) : zRP q (zadv M) ∧ zadv M 15 = M 15 ∧ zadv M 14 1 = M 14 1 ∧ zadv M 14 2 = M 14 2 + 1 ∧ zadv M 14 9 = M 14 9 := by
  have a := (zRR.rf (q := q) hP.2.1).adv hP.1 rfl
  have t := a.at15 hP.1
  have e := zadv_v (M := M)
  exact ⟨⟨hP.1, by rw [e.2.1]; exact hP.2.1, by rw [e.1, e.2.2]; have := hP.2.2.1; omega, by rw [e.1, t.2]; omega, by rw [t.2]; exact hP.2.2.2.2⟩, t.1, t.2, e.1, e.2.2⟩
theorem zbool {b : Bool} (h : ¬ b = true) : b = false := by cases b with | false => rfl | true => exact absurd rfl h
theorem zrLp_R {q l : Int} {M : zMm} {R : zMm → zMm} {R' : Int → zPr} (hP : zRP q M) (hl : 0 ≤ l) (hR : ∀ M1 : zMm, zRP q M1 → M1 15 = M 15 → M1 14 1 = M 14 1 → zRR q M1 (R' (M1 14 2)) (R M1)) (hG : ∀ p : Int, 0 ≤ p → p ≤ M 14 1 → zpG (M 14 1) p (R' p)) : ∀ (k : Nat) (r : zPr) (Mi : zMm), zRR q M r Mi → zpG (M 14 1) (M 14 2) r → zRR q M (zpLp (M 15) (M 14 1) R' l k r) (zrLp R q l k Mi) := by
  intro k
  induction k with
  | zero => intro r Mi h _; exact h
  | succ k ih =>
    intro r Mi h g
    have p0 := hP.2.2.1
    have pk := h.1.pk hP.1 (by rw [h.2.1]; have := g.1; omega)
    rw [h.2.1] at pk
    unfold zpLp zrLp
    by_cases hb : r.2.1 = true
    · rw [if_pos (Or.inl hb), if_pos (Or.inl (h.2.2.1 hb))]; exact h
    · have hb := zbool hb
      have h3 := (h.2.2.2 hb).1
      by_cases hv : zlev (zpx (M 15) (M 14 1) r.1) = l
      · rw [if_neg (by rintro (z | z); (rw [hb] at z; cases z); exact z hv), if_neg (by rintro (z | z); exact z h3; (rw [pk] at z; exact z hv)), pk]
        have hp : r.1 < M 14 1 := zpx_lt (t := M 15) (fun e => by rw [e] at hv; exact absurd hv (by show ¬ (-1 : Int) = l; omega))
        have g1 := g.2.2 hb
        have a := h.adv hP.1 hb
        have hP1 : zRP q (zadv Mi) := zRR.P hP a rfl (by dsimp only; omega) (by dsimp only; omega)
        have t := a.at15 hP.1
        have i := hR (zadv Mi) hP1 t.1 t.2
        have a2 : zadv Mi 14 2 = r.1 + 1 := a.2.1
        rw [a2] at i
        have g2 := hG (r.1 + 1) (by have := g.1; omega) (by omega)
        have c := a.comp rfl i
        dsimp only at c
        refine ih _ _ ?_ ⟨by have := g.1; have := g2.1; dsimp only; omega, g2.2.1, fun e => ?_⟩
        · by_cases hb2 : (R' (r.1 + 1)).2.1 = true
          · have w := c.emiW hP.1 hb2 (zpx (M 15) (M 14 1) r.1) 0 (r.2.2 ++ (R' (r.1 + 1)).2.2 ++ [(zpx (M 15) (M 14 1) r.1, 0)])
            dsimp only at w
            rw [hb2]
            exact w
          · have hb2 := zbool hb2
            have g3 := g2.2.2 hb2
            have w := c.emi hP.1 hb2 (by
              dsimp only
              rw [List.length_append]
              have := g2.2.1
              have := hP.2.2.2.2
              omega) (zpx (M 15) (M 14 1) r.1) 0
            dsimp only at w
            rw [hb2]
            exact w
        · have g3 := g2.2.2 e
          have := g.1
          dsimp only
          rw [List.length_append, List.length_append, List.length_singleton]
          omega
      · rw [if_pos (Or.inr hv), if_pos (Or.inr (by rw [pk]; exact hv))]; exact h
theorem zrL_R {q : Int} : ∀ (f : Nat) (l o : Int) (M : zMm), 0 ≤ l → l ≤ 5 → 0 ≤ o → o ≤ 6 → (6 - o) * 6 + (5 - l) + 1 ≤ f → zRP q M → zRR q M (zpL (M 15) (M 14 1) f l o (M 14 2)) (zrL q f l o M) := by
  intro f
  induction f with
  | zero => intro l o M h0 h1 h2 h3 h4; omega
  | succ f ih =>
    intro l o M h0 h1 h2 h3 h4 hP
    have pk := hP.pk
    have p0 := hP.2.2.1
    have p1 := hP.2.2.2
    unfold zpL zrL
    by_cases c : 5 ≤ l
    · rw [if_pos c, if_pos c]
      unfold zpOp zrOp
      rw [pk]
      by_cases c1 : 48 ≤ zpx (M 15) (M 14 1) (M 14 2) ∧ zpx (M 15) (M 14 1) (M 14 2) ≤ 57
      · rw [if_pos c1, if_pos c1]
        have i := zrnN_R (q := q) 4 0 M hP
        unfold zrNum
        have w := i.2.emi hP.1 rfl (by dsimp only; simp; omega) 110 (zrnN 4 0 M).1
        rw [i.1] at w ⊢
        exact w
      · rw [if_neg c1, if_neg c1]
        by_cases c2 : zpx (M 15) (M 14 1) (M 14 2) = 100 ∨ zpx (M 15) (M 14 1) (M 14 2) = 116 ∨ zpx (M 15) (M 14 1) (M 14 2) = 111 ∨ zpx (M 15) (M 14 1) (M 14 2) = 97 ∨ zpx (M 15) (M 14 1) (M 14 2) = 98
        · rw [if_pos c2, if_pos c2]
          have a := (zRR.rf (q := q) hP.2.1).adv hP.1 rfl
          exact a.emi hP.1 rfl (by dsimp only; simp; omega) _ _
        · rw [if_neg c2, if_neg c2]
          by_cases c3 : 6 ≤ o ∨ (zpx (M 15) (M 14 1) (M 14 2) ≠ 40 ∧ zpx (M 15) (M 14 1) (M 14 2) ≠ 33 ∧ zpx (M 15) (M 14 1) (M 14 2) ≠ 45)
          · rw [if_pos c3, if_pos c3]
            exact (zRR.rf (q := q) hP.2.1).bad []
          · rw [if_neg c3, if_neg c3]
            have hp : M 14 2 < M 14 1 := zpx_lt (t := M 15) (n := M 14 1) (p := M 14 2) (by omega)
            have a := (zRR.rf (q := q) hP.2.1).adv hP.1 rfl
            obtain ⟨hP1, e15, e1, e2, e9⟩ := hP.adv hp
            by_cases c4 : zpx (M 15) (M 14 1) (M 14 2) = 40
            · rw [if_pos c4, if_pos c4]
              have i := ih 0 (o + 1) (zadv M) (by omega) (by omega) (by omega) (by omega) (by omega) hP1
              rw [e15, e1, e2] at i
              have g := zpL_G (t := M 15) (n := M 14 1) f 0 (o + 1) (M 14 2 + 1) (by omega) (by omega) (by omega) (by omega) (by omega) (by omega) (by omega)
              have cc := a.comp rfl i
              dsimp only at cc
              rw [List.nil_append] at cc
              have pk2 := cc.1.pk hP.1 (by rw [cc.2.1]; have := g.1; dsimp only; omega)
              rw [cc.2.1] at pk2
              dsimp only at pk2
              by_cases hb : (zpL (M 15) (M 14 1) f 0 (o + 1) (M 14 2 + 1)).2.1 = true
              · rw [if_pos (Or.inl hb), if_pos (Or.inl (cc.2.2.1 hb))]
                exact cc.bad _
              · have hb := zbool hb
                have h3' := (cc.2.2.2 hb).1
                by_cases h41 : zpx (M 15) (M 14 1) (zpL (M 15) (M 14 1) f 0 (o + 1) (M 14 2 + 1)).1 = 41
                · rw [if_neg (by rintro (z | z); (rw [hb] at z; cases z); exact z h41), if_neg (by rintro (z | z); exact z h3'; (rw [pk2] at z; exact z h41))]
                  exact cc.adv hP.1 hb
                · rw [if_pos (Or.inr h41), if_pos (Or.inr (by rw [pk2]; exact h41))]
                  exact cc.bad _
            · rw [if_neg c4, if_neg c4]
              have i := ih 5 (o + 1) (zadv M) (by omega) (by omega) (by omega) (by omega) (by omega) hP1
              rw [e15, e1, e2] at i
              have g := zpL_G (t := M 15) (n := M 14 1) f 5 (o + 1) (M 14 2 + 1) (by omega) (by omega) (by omega) (by omega) (by omega) (by omega) (by omega)
              have cc := a.comp rfl i
              dsimp only at cc
              rw [List.nil_append] at cc
              by_cases hb : (zpL (M 15) (M 14 1) f 5 (o + 1) (M 14 2 + 1)).2.1 = true
              · have w := cc.emiW hP.1 hb (if zpx (M 15) (M 14 1) (M 14 2) = 45 then 109 else zpx (M 15) (M 14 1) (M 14 2)) 0 ((zpL (M 15) (M 14 1) f 5 (o + 1) (M 14 2 + 1)).2.2 ++ [(if zpx (M 15) (M 14 1) (M 14 2) = 45 then 109 else zpx (M 15) (M 14 1) (M 14 2), 0)])
                rw [hb]
                exact w
              · have hb := zbool hb
                have g3 := g.2.2 hb
                have w := cc.emi hP.1 hb (by dsimp only; have := g.2.1; omega) (if zpx (M 15) (M 14 1) (M 14 2) = 45 then 109 else zpx (M 15) (M 14 1) (M 14 2)) 0
                rw [hb]
                exact w
    · rw [if_neg c, if_neg c]
      have g : ∀ p : Int, 0 ≤ p → p ≤ M 14 1 → zpG (M 14 1) p (zpL (M 15) (M 14 1) f (l + 1) o p) := fun p a b => zpL_G f (l + 1) o p (by omega) (by omega) h2 h3 (by omega) a b
      exact zrLp_R hP h0 (fun M1 hP1 e15 e1 => by
        have i := ih (l + 1) o M1 (by omega) (by omega) h2 h3 (by omega) hP1
        rw [e15, e1] at i
        exact i) g _ _ _ (ih (l + 1) o M (by omega) (by omega) h2 h3 (by omega) hP) (g _ (by omega) (by omega))
