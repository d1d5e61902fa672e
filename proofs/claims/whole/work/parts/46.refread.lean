/-! the law read, as numbers; the reference reads and works it out -/
abbrev zPr : Type := Int × Bool × List (Int × Int)
def zpx (t : Int → Int) (n p : Int) : Int := if 0 ≤ p ∧ p < n then t p else -1
def zdig (g : Int) : Prop := 48 ≤ g ∧ g ≤ 57
def znam (g : Int) : Prop := g = 100 ∨ g = 116 ∨ g = 111 ∨ g = 97 ∨ g = 98
def zpN (t : Int → Int) (n : Int) : Nat → Int → Int → Int × Int
  | 0, v, p => (v, p)
  | f + 1, v, p => if 48 ≤ zpx t n p ∧ zpx t n p ≤ 57 then zpN t n f (v * 10 + zpx t n p - 48) (p + 1) else (v, p)
def zpLp (t : Int → Int) (n : Int) (R : Int → zPr) (l : Int) : Nat → zPr → zPr
  | 0, r => r
  | k + 1, r => if r.2.1 = true ∨ zlev (zpx t n r.1) ≠ l then r else zpLp t n R l k ((R (r.1 + 1)).1, (R (r.1 + 1)).2.1, r.2.2 ++ (R (r.1 + 1)).2.2 ++ [(zpx t n r.1, 0)])
def zpOp (t : Int → Int) (n : Int) (R : Int → Int → Int → zPr) (o p : Int) : zPr :=
  if 48 ≤ zpx t n p ∧ zpx t n p ≤ 57 then ((zpN t n 4 0 p).2, false, [(110, (zpN t n 4 0 p).1)])
  else if zpx t n p = 100 ∨ zpx t n p = 116 ∨ zpx t n p = 111 ∨ zpx t n p = 97 ∨ zpx t n p = 98 then (p + 1, false, [(zpx t n p, 0)])
  else if 6 ≤ o ∨ (zpx t n p ≠ 40 ∧ zpx t n p ≠ 33 ∧ zpx t n p ≠ 45) then (p, true, [])
  else if zpx t n p = 40 then (if (R 0 (o + 1) (p + 1)).2.1 = true ∨ zpx t n (R 0 (o + 1) (p + 1)).1 ≠ 41 then ((R 0 (o + 1) (p + 1)).1, true, (R 0 (o + 1) (p + 1)).2.2) else ((R 0 (o + 1) (p + 1)).1 + 1, false, (R 0 (o + 1) (p + 1)).2.2))
  else ((R 5 (o + 1) (p + 1)).1, (R 5 (o + 1) (p + 1)).2.1, (R 5 (o + 1) (p + 1)).2.2 ++ [(if zpx t n p = 45 then 109 else zpx t n p, 0)])
def zpL (t : Int → Int) (n : Int) : Nat → Int → Int → Int → zPr
  | 0, _, _, p => (p, false, [])
  | f + 1, l, o, p => if 5 ≤ l then zpOp t n (zpL t n f) o p else zpLp t n (zpL t n f (l + 1) o) l (if l = 2 then 1 else 120) (zpL t n f (l + 1) o p)
/-- signs run on a stack -/
def zr1 (v : Int → Int) (c : Int × Int) (k : List Int) : Option (List Int) :=
  if c.1 = 109 ∨ c.1 = 33 then (match k with
    | x :: k => some ((if c.1 = 33 then zb (x = 0) else zw (-x)) :: k)
    | [] => none)
  else if 0 ≤ zlev c.1 then (match k with
    | y :: x :: k => some (zjoi c.1 x y :: k)
    | _ => none)
  else some ((if c.1 = 110 then c.2 else v c.1) :: k)
def zrun (v : Int → Int) : List (Int × Int) → List Int → Option (List Int)
  | [], k => some k
  | c :: l, k => (zr1 v c k).bind (zrun v l)
theorem zrun_ap (v : Int → Int) : ∀ (l m : List (Int × Int)) (k : List Int), zrun v (l ++ m) k = (zrun v l k).bind (zrun v m) := by
  intro l
  induction l with
  | nil => intro m k; rfl
  | cons c l ih =>
    intro m k
    show (zr1 v c k).bind (zrun v (l ++ m)) = ((zr1 v c k).bind (zrun v l)).bind (zrun v m)
    cases zr1 v c k with
    | none => rfl
    | some k2 => exact ih m k2
/-- signs that leave one number more -/
def zsl (v : Int → Int) (l : List (Int × Int)) (x : Int) : Prop := ∀ k : List Int, zrun v l k = some (x :: k)
theorem zsl_num (v : Int → Int) (m : Int) : zsl v [(110, m)] m := fun k => by
  show (zr1 v (110, m) k).bind (zrun v []) = _
  unfold zr1
  rw [if_neg (by show ¬ ((110 : Int) = 109 ∨ (110 : Int) = 33); decide), if_neg (by show ¬ (0 : Int) ≤ zlev 110; decide), if_pos rfl]
  rfl
theorem zsl_nam (v : Int → Int) {g : Int} (h : g = 100 ∨ g = 116 ∨ g = 111 ∨ g = 97 ∨ g = 98) : zsl v [(g, 0)] (v g) := fun k => by
  show (zr1 v (g, 0) k).bind (zrun v []) = _
  unfold zr1
  rw [if_neg (by dsimp only; omega), if_neg (by dsimp only; unfold zlev; (repeat' split) <;> omega), if_neg (by dsimp only; omega)]
  rfl
theorem zsl_un {v : Int → Int} {l : List (Int × Int)} {x g : Int} (h : zsl v l x) (hg : g = 109 ∨ g = 33) : zsl v (l ++ [(g, 0)]) (if g = 33 then zb (x = 0) else zw (-x)) := fun k => by
  rw [zrun_ap, h k]
  show (zr1 v (g, 0) (x :: k)).bind (zrun v []) = _
  unfold zr1
  rw [if_pos (by dsimp only; omega)]
  rfl
theorem zsl_bin {v : Int → Int} {l m : List (Int × Int)} {x y g : Int} (h : zsl v l x) (h2 : zsl v m y) (hg : 0 ≤ zlev g) : zsl v (l ++ m ++ [(g, 0)]) (zjoi g x y) := fun k => by
  rw [zrun_ap, zrun_ap, h k]
  show ((zrun v m (x :: k))).bind (zrun v [(g, 0)]) = _
  rw [h2 (x :: k)]
  show (zr1 v (g, 0) (y :: x :: k)).bind (zrun v []) = _
  have hn : ¬ (g = 109 ∨ g = 33) := by rintro (rfl | rfl) <;> exact absurd hg (by decide)
  unfold zr1
  rw [if_neg (by dsimp only; exact hn), if_pos (by dsimp only; exact hg)]
  rfl
theorem zpLp_st {t : Int → Int} {n : Int} {R : Int → zPr} {l : Int} {k : Nat} {r : zPr} (h : r.2.1 = true ∨ zlev (zpx t n r.1) ≠ l) : zpLp t n R l k r = r := by
  cases k with
  | zero => rfl
  | succ k => exact if_pos h
theorem zpLp_go {t : Int → Int} {n : Int} {R : Int → zPr} {l : Int} {k : Nat} {r : zPr} (h : r.2.1 = false) (h2 : zlev (zpx t n r.1) = l) (hk : 0 < k) : zpLp t n R l k r = zpLp t n R l (k - 1) ((R (r.1 + 1)).1, (R (r.1 + 1)).2.1, r.2.2 ++ (R (r.1 + 1)).2.2 ++ [(zpx t n r.1, 0)]) := by
  obtain ⟨j, rfl⟩ : ∃ j, k = j + 1 := ⟨k - 1, by omega⟩
  exact if_neg (by rw [h]; rintro (q | q); cases q; exact q h2)
theorem zpN_b {t : Int → Int} {n : Int} : ∀ (f : Nat) (v p : Int), p ≤ n → p ≤ (zpN t n f v p).2 ∧ (zpN t n f v p).2 ≤ n := by
  intro f
  induction f with
  | zero => intro v p h; exact ⟨Int.le_refl _, h⟩
  | succ f ih =>
    intro v p h
    unfold zpN
    split
    · rename_i q
      have hp : p < n := by unfold zpx at q; split at q <;> omega
      have := ih (v * 10 + zpx t n p - 48) (p + 1) (by omega)
      omega
    · exact ⟨Int.le_refl _, h⟩
theorem zpx_lt {t : Int → Int} {n p : Int} (h : zpx t n p ≠ -1) : p < n := by unfold zpx at h; split at h <;> omega
/-- where the reading stands: on and on, within the text; no more signs than bytes -/
def zpG (n p : Int) (r : zPr) : Prop := p ≤ r.1 ∧ r.1 ≤ n ∧ (r.2.1 = false → (r.2.2.length : Int) ≤ r.1 - p ∧ p < r.1)
theorem zpLp_G {t : Int → Int} {n l : Int} {R : Int → zPr} (hR : ∀ p, 0 ≤ p → p ≤ n → zpG n p (R p)) (hl : 0 ≤ l) {p : Int} (h0 : 0 ≤ p) : ∀ (k : Nat) (r : zPr), zpG n p r → zpG n p (zpLp t n R l k r) := by
  intro k
  induction k with
  | zero => intro r h; exact h
  | succ k ih =>
    intro r h
    unfold zpLp
    split
    · exact h
    · rename_i q
      have hb : r.2.1 = false := by cases e : r.2.1 with | false => rfl | true => exact absurd (Or.inl e) q
      have hv : zlev (zpx t n r.1) = l := Classical.byContradiction fun e => q (Or.inr e)
      have hp : r.1 < n := zpx_lt (t := t) (fun e => by rw [e] at hv; exact absurd hv (by show ¬ (-1 : Int) = l; omega))
      have h1 := h.2.2 hb
      have h2 := hR (r.1 + 1) (by have := h.1; omega) (by omega)
      refine ih _ ⟨by have := h.1; have := h2.1; dsimp only; omega, h2.2.1, fun e => ?_⟩
      have h3 := h2.2.2 e
      have := h.1
      dsimp only
      rw [List.length_append, List.length_append, List.length_singleton]
      omega
theorem zpN_1 {t : Int → Int} {n : Int} {f : Nat} {v p : Int} (h : 48 ≤ zpx t n p ∧ zpx t n p ≤ 57) (hp : p ≤ n) : p < (zpN t n (f + 1) v p).2 := by
  unfold zpN
  rw [if_pos h]
  have hq := zpx_lt (t := t) (n := n) (p := p) (by omega)
  have := zpN_b (t := t) (n := n) f (v * 10 + zpx t n p - 48) (p + 1) (by omega)
  omega
theorem zpL_G {t : Int → Int} {n : Int} : ∀ (f : Nat) (l o p : Int), 0 ≤ l → l ≤ 5 → 0 ≤ o → o ≤ 6 → (6 - o) * 6 + (5 - l) + 1 ≤ f → 0 ≤ p → p ≤ n → zpG n p (zpL t n f l o p) := by
  intro f
  induction f with
  | zero => intro l o p h0 h1 h2 h3 h4; omega
  | succ f ih =>
    intro l o p h0 h1 h2 h3 h4 h5 h6
    unfold zpL
    split
    · unfold zpOp
      split
      · rename_i hd
        have b := zpN_b (t := t) (n := n) 4 0 p h6
        have b1 : p < (zpN t n 4 0 p).2 := zpN_1 (f := 3) (v := 0) hd h6
        exact ⟨b.1, b.2, fun _ => ⟨by dsimp only; rw [List.length_singleton]; omega, b1⟩⟩
      · split
        · rename_i hn
          have := zpx_lt (t := t) (n := n) (p := p) (by omega)
          exact ⟨by dsimp only; omega, by dsimp only; omega, fun _ => ⟨by dsimp only; rw [List.length_singleton]; omega, by dsimp only; omega⟩⟩
        · split
          · exact ⟨Int.le_refl _, h6, fun e => by cases e⟩
          · rename_i hq
            have hp := zpx_lt (t := t) (n := n) (p := p) (by omega)
            split
            · have g := ih 0 (o + 1) (p + 1) (by omega) (by omega) (by omega) (by omega) (by omega) (by omega) (by omega)
              split
              · exact ⟨by have := g.1; dsimp only; omega, g.2.1, fun e => by cases e⟩
              · rename_i hc
                have hb : (zpL t n f 0 (o + 1) (p + 1)).2.1 = false := by cases e : (zpL t n f 0 (o + 1) (p + 1)).2.1 with | false => rfl | true => exact absurd (Or.inl e) hc
                have hv : zpx t n (zpL t n f 0 (o + 1) (p + 1)).1 = 41 := Classical.byContradiction fun e => hc (Or.inr e)
                have hp2 := zpx_lt (t := t) (n := n) (p := (zpL t n f 0 (o + 1) (p + 1)).1) (by omega)
                have g2 := g.2.2 hb
                exact ⟨by have := g.1; dsimp only; omega, by dsimp only; omega, fun _ => ⟨by dsimp only; omega, by dsimp only; omega⟩⟩
            · have g := ih 5 (o + 1) (p + 1) (by omega) (by omega) (by omega) (by omega) (by omega) (by omega) (by omega)
              refine ⟨by have := g.1; dsimp only; omega, g.2.1, fun e => ?_⟩
              have g2 := g.2.2 e
              dsimp only
              rw [List.length_append, List.length_singleton]
              omega
    · have g : ∀ p, 0 ≤ p → p ≤ n → zpG n p (zpL t n f (l + 1) o p) := fun p a b => ih (l + 1) o p (by omega) (by omega) h2 h3 (by omega) a b
      exact zpLp_G g h0 h5 _ _ (g p h5 h6)
/-- the reference, reading -/
def zby (M : zMm) : Int := if M 56 16 < M 56 17 then (if M 56 15 < 0 then M 65 (M 56 16) else M 66 (M 56 15 + M 56 16)) else 0
def ztx (M : zMm) : Int → Int := if M 56 15 < 0 then M 65 else M 66
def zoT (M M2 : zMm) : Prop := zonly 56 M M2 ∧ ∀ j : Int, j ≠ 16 → j ≠ 18 → j ≠ 19 → M2 56 j = M 56 j
theorem zoT.rf {M : zMm} : zoT M M := ⟨zonly.rf, fun _ _ _ _ => rfl⟩
theorem zoT.tr {M M1 M2 : zMm} (h : zoT M M1) (h2 : zoT M1 M2) : zoT M M2 := ⟨h.1.tr h2.1, fun j a b c => (h2.2 j a b c).trans (h.2 j a b c)⟩
theorem zoT.up {M M2 : zMm} {k v : Int} (h : zoT M M2) (hk : k = 16 ∨ k = 18 ∨ k = 19) : zoT M (zup M2 56 k v) := ⟨h.1.up, fun j a b c => (zup_ne (by omega)).trans (h.2 j a b c)⟩
theorem zoT.P {M M2 : zMm} (h : zoT M M2) (hP : zP M) : zP M2 := h.1.P (by decide) hP
/-- a text is there, and the reading is in it -/
def zRb (M : zMm) : Prop := (M 56 15 = -1 ∨ M 56 15 = 0) ∧ (0 ≤ M 56 16 ∧ M 56 16 ≤ M 56 17 ∧ M 56 17 ≤ 120)
def zRB (M : zMm) : Prop := (M 56 15 = -1 ∨ M 56 15 = 0) ∧ M 56 17 ≤ 120
theorem zoT.tx {M M2 : zMm} (h : zoT M M2) : ztx M2 = ztx M ∧ M2 56 17 = M 56 17 ∧ M2 56 15 = M 56 15 := by
  have e1 := h.2 15 (by decide) (by decide) (by decide)
  have e2 := h.2 17 (by decide) (by decide) (by decide)
  refine ⟨?_, e2, e1⟩
  unfold ztx
  rw [e1, h.1 65 (by decide), h.1 66 (by decide)]
theorem zby_v {M : zMm} (h : zRb M) {c : Int} (hc : 0 < c) : zby M = c ↔ zpx (ztx M) (M 56 17) (M 56 16) = c := by
  have h2 := h.2
  unfold zby zpx ztx
  rcases h.1 with e | e
  · rw [e, if_pos (show (-1 : Int) < 0 by decide), if_pos (show (-1 : Int) < 0 by decide)]
    repeat' split
    all_goals omega
  · rw [e, if_neg (show ¬ (0 : Int) < 0 by decide), if_neg (show ¬ (0 : Int) < 0 by decide), Int.zero_add]
    repeat' split
    all_goals omega
theorem zby_d {M : zMm} (h : zRb M) (lo hi : Int) (hl : 0 < lo) : (lo ≤ zby M ∧ zby M ≤ hi) ↔ (lo ≤ zpx (ztx M) (M 56 17) (M 56 16) ∧ zpx (ztx M) (M 56 17) (M 56 16) ≤ hi) := by
  constructor
  · rintro ⟨a, b⟩
    have e := (zby_v h (c := zby M) (by omega)).mp rfl
    omega
  · rintro ⟨a, b⟩
    have e := (zby_v h (c := zpx (ztx M) (M 56 17) (M 56 16)) (by omega)).mpr rfl
    omega
/-- what has been read, as the reference stands -/
def zpR (M : zMm) (o : Int) (v : Int → Int) (r : zPr) (M' : zMm) (x : Int) : Prop := zoT M M' ∧ M' 56 16 = r.1 ∧ (r.2.1 = true → M' 56 18 = r.1 ∧ o ≤ M' 56 19 ∧ M' 56 19 ≤ 6) ∧ (r.2.1 = false → M' 56 18 = -1 ∧ M' 56 19 = o ∧ zsl v r.2.2 x)
def zvn (M : zMm) (g : Int) : Int := znmd g (M 67 0) (M 67 1) (M 67 2) (M 67 3) (M 67 4)
/-- ready to read -/
def zRy (M : zMm) (o p : Int) : Prop := zP M ∧ zRb M ∧ M 56 16 = p ∧ M 56 18 = -1 ∧ M 56 19 = o ∧ 0 ≤ o ∧ o ≤ 6
set_option maxHeartbeats 4000000 in
theorem cX10_byteAt {M : zMm} (hP : zP M) (hb : zRb M) : zW mX10_byteAt 1 (fun rv S' M' => S' = zS0 ∧ M = M' ∧ rv = some (.inl (zby M))) (0, 0) zS0 0 (zargs 0 [.inr (.inr 56)]) [] M := by
  change zW _ _ _ _ _ 0 [(0, .inr (.inr 56))] [] M
  have hb1 := hb.1
  have hb2 := hb.2
  refine z_aload_n 0 (zdec DX10_byteAt 0 rfl) rfl rfl (by decide) ?_
  refine z_geti (ki := 16) 56 10 (zdec DX10_byteAt 1 rfl) rfl shp56 rfl (by decide) rfl rfl fl_SixWallsModel_185 ?_
  refine z_aload_n 0 (zdec DX10_byteAt 2 rfl) rfl rfl (by decide) ?_
  refine z_geti (ki := 17) 56 10 (zdec DX10_byteAt 3 rfl) rfl shp56 rfl (by decide) rfl rfl fl_SixWallsModel_188 ?_
  refine z_icmp_ge 47 (zdec DX10_byteAt 4 rfl) rfl (fun h8 => ?_) (fun h8 => ?_)
  ·
    refine z_iconst 0 (zdec DX10_byteAt 23 rfl) (by decide) ?_
    exact z_iret (zdec DX10_byteAt 24 rfl) rfl (⟨rfl, rfl, zri (by unfold zby; first | (rw [if_pos (by omega), if_pos (by omega)]; done) | (rw [if_pos (by omega), if_neg (by omega)]; done) | (rw [if_neg (by omega)]; done))⟩)
  ·
    refine z_aload_n 0 (zdec DX10_byteAt 5 rfl) rfl rfl (by decide) ?_
    refine z_geti (ki := 15) 56 10 (zdec DX10_byteAt 6 rfl) rfl shp56 rfl (by decide) rfl rfl fl_SixWallsModel_191 ?_
    refine z_if_ge 30 (zdec DX10_byteAt 7 rfl) rfl (fun h15 => ?_) (fun h15 => ?_)
    ·
      refine z_aload_n 0 (zdec DX10_byteAt 14 rfl) rfl rfl (by decide) ?_
      refine z_getr (rw1 := -66) (ki := 13) (r' := 66) 56 10 (zdec DX10_byteAt 15 rfl) rfl rfl shp56 rfl (by decide) rfl rfl fl_SixWallsModel_38 (zPa hP 66 rfl) ?_
      refine z_aload_n 0 (zdec DX10_byteAt 16 rfl) rfl rfl (by decide) ?_
      refine z_geti (ki := 15) 56 10 (zdec DX10_byteAt 17 rfl) rfl shp56 rfl (by decide) rfl rfl fl_SixWallsModel_191 ?_
      refine z_aload_n 0 (zdec DX10_byteAt 18 rfl) rfl rfl (by decide) ?_
      refine z_geti (ki := 16) 56 10 (zdec DX10_byteAt 19 rfl) rfl shp56 rfl (by decide) rfl rfl fl_SixWallsModel_185 ?_
      refine z_iadd (zdec DX10_byteAt 20 rfl) (by unfold z32; omega) ?_
      refine z_iald 66 (zdec DX10_byteAt 21 rfl) rfl shp66 ⟨by omega, by omega⟩ ?_
      refine z_goto 48 (zdec DX10_byteAt 22 rfl) rfl ?_
      exact z_iret (zdec DX10_byteAt 24 rfl) rfl (⟨rfl, rfl, zri (by unfold zby; first | (rw [if_pos (by omega), if_pos (by omega)]; done) | (rw [if_pos (by omega), if_neg (by omega)]; done) | (rw [if_neg (by omega)]; done))⟩)
    ·
      refine z_aload_n 0 (zdec DX10_byteAt 8 rfl) rfl rfl (by decide) ?_
      refine z_getr (rw1 := -66) (ki := 11) (r' := 65) 56 10 (zdec DX10_byteAt 9 rfl) rfl rfl shp56 rfl (by decide) rfl rfl fl_SixWallsModel_35 (zPa hP 65 rfl) ?_
      refine z_aload_n 0 (zdec DX10_byteAt 10 rfl) rfl rfl (by decide) ?_
      refine z_geti (ki := 16) 56 10 (zdec DX10_byteAt 11 rfl) rfl shp56 rfl (by decide) rfl rfl fl_SixWallsModel_185 ?_
      refine z_iald 65 (zdec DX10_byteAt 12 rfl) rfl shp65 ⟨by omega, by omega⟩ ?_
      refine z_goto 48 (zdec DX10_byteAt 13 rfl) rfl ?_
      exact z_iret (zdec DX10_byteAt 24 rfl) rfl (⟨rfl, rfl, zri (by unfold zby; first | (rw [if_pos (by omega), if_pos (by omega)]; done) | (rw [if_pos (by omega), if_neg (by omega)]; done) | (rw [if_neg (by omega)]; done))⟩)
set_option maxHeartbeats 4000000 in
theorem cX10_wrong {M : zMm} (hP : zP M) (hb : zRb M) : zW mX10_wrong 1 (fun rv S' M' => S' = zS0 ∧ rv = some (.inl 0) ∧ M' = zup M 56 18 (if M 56 18 < 0 then M 56 16 else M 56 18)) (0, 0) zS0 0 (zargs 0 [.inr (.inr 56)]) [] M := by
  change zW _ _ _ _ _ 0 [(0, .inr (.inr 56))] [] M
  refine z_aload_n 0 (zdec DX10_wrong 0 rfl) rfl rfl (by decide) ?_
  refine z_aload_n 0 (zdec DX10_wrong 1 rfl) rfl rfl (by decide) ?_
  refine z_geti (ki := 18) 56 10 (zdec DX10_wrong 2 rfl) rfl shp56 rfl (by decide) rfl rfl fl_SixWallsModel_194 ?_
  refine z_if_ge 15 (zdec DX10_wrong 3 rfl) rfl (fun h5 => ?_) (fun h5 => ?_)
  ·
    refine z_aload_n 0 (zdec DX10_wrong 7 rfl) rfl rfl (by decide) ?_
    refine z_geti (ki := 18) 56 10 (zdec DX10_wrong 8 rfl) rfl shp56 rfl (by decide) rfl rfl fl_SixWallsModel_194 ?_
    refine z_puti (ki := 18) 56 10 (zdec DX10_wrong 9 rfl) rfl shp56 rfl (by decide) rfl rfl fl_SixWallsModel_194 (Or.inl rfl) ?_
    refine z_iconst 0 (zdec DX10_wrong 10 rfl) (by decide) ?_
    exact z_iret (zdec DX10_wrong 11 rfl) rfl (⟨rfl, rfl, by first | (rw [if_pos (by omega)]; done) | (rw [if_neg (by omega)]; done)⟩)
  ·
    refine z_aload_n 0 (zdec DX10_wrong 4 rfl) rfl rfl (by decide) ?_
    refine z_geti (ki := 16) 56 10 (zdec DX10_wrong 5 rfl) rfl shp56 rfl (by decide) rfl rfl fl_SixWallsModel_185 ?_
    refine z_goto 19 (zdec DX10_wrong 6 rfl) rfl ?_
    refine z_puti (ki := 18) 56 10 (zdec DX10_wrong 9 rfl) rfl shp56 rfl (by decide) rfl rfl fl_SixWallsModel_194 (Or.inl rfl) ?_
    refine z_iconst 0 (zdec DX10_wrong 10 rfl) (by decide) ?_
    exact z_iret (zdec DX10_wrong 11 rfl) rfl (⟨rfl, rfl, by first | (rw [if_pos (by omega)]; done) | (rw [if_neg (by omega)]; done)⟩)
set_option maxHeartbeats 4000000 in
theorem cX10_takesByte {M : zMm} (hP : zP M) (hb : zRb M) (c : Int) : zW mX10_takesByte 2 (fun rv S' M' => S' = zS0 ∧ ∃ r, rv = some (.inl r) ∧ ((r = 0 ∧ ¬ (M 56 18 < 0 ∧ zby M = c) ∧ M' = M) ∨ (r = 1 ∧ (M 56 18 < 0 ∧ zby M = c) ∧ M' = zup M 56 16 (M 56 16 + 1)))) (0, 0) zS0 0 (zargs 0 [.inr (.inr 56), .inl c]) [] M := by
  change zW _ _ _ _ _ 0 [(0, .inr (.inr 56)), (1, .inl c)] [] M
  have hb2 := hb.2
  refine z_aload_n 0 (zdec DX10_takesByte 0 rfl) rfl rfl (by decide) ?_
  refine z_geti (ki := 18) 56 10 (zdec DX10_takesByte 1 rfl) rfl shp56 rfl (by decide) rfl rfl fl_SixWallsModel_194 ?_
  refine z_if_ge 15 (zdec DX10_takesByte 2 rfl) rfl (fun h4 => ?_) (fun h4 => ?_)
  ·
    refine z_iconst 0 (zdec DX10_takesByte 7 rfl) (by decide) ?_
    exact z_zret (zdec DX10_takesByte 8 rfl) rfl (by omega) (⟨rfl, _, rfl, Or.inl ⟨rfl, by omega, rfl⟩⟩)
  ·
    refine z_aload_n 0 (zdec DX10_takesByte 3 rfl) rfl rfl (by decide) ?_
    refine z_inv mX10_byteAt 56 10 [] (zdec DX10_takesByte 4 rfl) ml_SixWallsModel_197 okX10_byteAt rfl shp56 rfl rfl rfl rfl (Nat.le_of_ble_eq_true rfl) (Nat.le_of_ble_eq_true rfl) (b' := (0, 0)) ⟨Nat.le_refl 0, Nat.le_refl 0⟩ (Nat.le_of_ble_eq_true rfl) (cX10_byteAt hP hb) (fun rv9 S9 M8 h9 => ?_)
    obtain ⟨rfl, rfl, rfl⟩ := h9
    change zW _ _ _ _ _ 11 [(0, .inr (.inr 56)), (1, .inl c)] [.inl (zby M)] M
    refine z_iload_n 1 (zdec DX10_takesByte 5 rfl) rfl rfl ?_
    refine z_icmp_eq 17 (zdec DX10_takesByte 6 rfl) rfl (fun h12 => ?_) (fun h12 => ?_)
    ·
      refine z_aload_n 0 (zdec DX10_takesByte 9 rfl) rfl rfl (by decide) ?_
      refine z_dup (zdec DX10_takesByte 10 rfl) rfl ?_
      refine z_geti (ki := 16) 56 10 (zdec DX10_takesByte 11 rfl) rfl shp56 rfl (by decide) rfl rfl fl_SixWallsModel_185 ?_
      refine z_iconst 1 (zdec DX10_takesByte 12 rfl) (by decide) ?_
      refine z_iadd (zdec DX10_takesByte 13 rfl) (by unfold z32; omega) ?_
      refine z_puti (ki := 16) 56 10 (zdec DX10_takesByte 14 rfl) rfl shp56 rfl (by decide) rfl rfl fl_SixWallsModel_185 (Or.inl rfl) ?_
      refine z_iconst 1 (zdec DX10_takesByte 15 rfl) (by decide) ?_
      exact z_zret (zdec DX10_takesByte 16 rfl) rfl (by omega) (⟨rfl, _, rfl, Or.inr ⟨rfl, ⟨by omega, by omega⟩, rfl⟩⟩)
    ·
      refine z_iconst 0 (zdec DX10_takesByte 7 rfl) (by decide) ?_
      exact z_zret (zdec DX10_takesByte 8 rfl) rfl (by omega) (⟨rfl, _, rfl, Or.inl ⟨rfl, by omega, rfl⟩⟩)
set_option maxHeartbeats 4000000 in
theorem cX10_nameOf {M : zMm} (c : Int) : zW mX10_nameOf 1 (fun rv S' M' => S' = zS0 ∧ M = M' ∧ rv = some (.inl (if c = 100 then 0 else if c = 116 then 1 else if c = 111 then 2 else if c = 97 then 3 else if c = 98 then 4 else -1))) (0, 0) zS0 0 (zargs 0 [.inl c]) [] M := by
  change zW _ _ _ _ _ 0 [(0, .inl c)] [] M
  refine z_iload_n 0 (zdec DX10_nameOf 0 rfl) rfl rfl ?_
  by_cases h1_97 : c = 97
  · refine z_lsw 58 (zdec DX10_nameOf 1 rfl) (by decide) (by first | (rw [h1_97]; done) | (rw [h1_97]; rfl)) rfl ?_
    refine z_iconst 3 (zdec DX10_nameOf 8 rfl) (by decide) ?_
    exact z_iret (zdec DX10_nameOf 9 rfl) rfl (⟨rfl, rfl, zri (by first | (rw [if_pos (by omega)]; done) | (rw [if_neg (by omega), if_pos (by omega)]; done) | (rw [if_neg (by omega), if_neg (by omega), if_pos (by omega)]; done) | (rw [if_neg (by omega), if_neg (by omega), if_neg (by omega), if_pos (by omega)]; done) | (rw [if_neg (by omega), if_neg (by omega), if_neg (by omega), if_neg (by omega), if_pos (by omega)]; done) | (rw [if_neg (by omega), if_neg (by omega), if_neg (by omega), if_neg (by omega), if_neg (by omega)]; done))⟩)
  by_cases h1_98 : c = 98
  · refine z_lsw 60 (zdec DX10_nameOf 1 rfl) (by decide) (by first | (rw [h1_98]; done) | (rw [h1_98]; rfl)) rfl ?_
    refine z_iconst 4 (zdec DX10_nameOf 10 rfl) (by decide) ?_
    exact z_iret (zdec DX10_nameOf 11 rfl) rfl (⟨rfl, rfl, zri (by first | (rw [if_pos (by omega)]; done) | (rw [if_neg (by omega), if_pos (by omega)]; done) | (rw [if_neg (by omega), if_neg (by omega), if_pos (by omega)]; done) | (rw [if_neg (by omega), if_neg (by omega), if_neg (by omega), if_pos (by omega)]; done) | (rw [if_neg (by omega), if_neg (by omega), if_neg (by omega), if_neg (by omega), if_pos (by omega)]; done) | (rw [if_neg (by omega), if_neg (by omega), if_neg (by omega), if_neg (by omega), if_neg (by omega)]; done))⟩)
  by_cases h1_100 : c = 100
  · refine z_lsw 52 (zdec DX10_nameOf 1 rfl) (by decide) (by first | (rw [h1_100]; done) | (rw [h1_100]; rfl)) rfl ?_
    refine z_iconst 0 (zdec DX10_nameOf 2 rfl) (by decide) ?_
    exact z_iret (zdec DX10_nameOf 3 rfl) rfl (⟨rfl, rfl, zri (by first | (rw [if_pos (by omega)]; done) | (rw [if_neg (by omega), if_pos (by omega)]; done) | (rw [if_neg (by omega), if_neg (by omega), if_pos (by omega)]; done) | (rw [if_neg (by omega), if_neg (by omega), if_neg (by omega), if_pos (by omega)]; done) | (rw [if_neg (by omega), if_neg (by omega), if_neg (by omega), if_neg (by omega), if_pos (by omega)]; done) | (rw [if_neg (by omega), if_neg (by omega), if_neg (by omega), if_neg (by omega), if_neg (by omega)]; done))⟩)
  by_cases h1_111 : c = 111
  · refine z_lsw 56 (zdec DX10_nameOf 1 rfl) (by decide) (by first | (rw [h1_111]; done) | (rw [h1_111]; rfl)) rfl ?_
    refine z_iconst 2 (zdec DX10_nameOf 6 rfl) (by decide) ?_
    exact z_iret (zdec DX10_nameOf 7 rfl) rfl (⟨rfl, rfl, zri (by first | (rw [if_pos (by omega)]; done) | (rw [if_neg (by omega), if_pos (by omega)]; done) | (rw [if_neg (by omega), if_neg (by omega), if_pos (by omega)]; done) | (rw [if_neg (by omega), if_neg (by omega), if_neg (by omega), if_pos (by omega)]; done) | (rw [if_neg (by omega), if_neg (by omega), if_neg (by omega), if_neg (by omega), if_pos (by omega)]; done) | (rw [if_neg (by omega), if_neg (by omega), if_neg (by omega), if_neg (by omega), if_neg (by omega)]; done))⟩)
  by_cases h1_116 : c = 116
  · refine z_lsw 54 (zdec DX10_nameOf 1 rfl) (by decide) (by first | (rw [h1_116]; done) | (rw [h1_116]; rfl)) rfl ?_
    refine z_iconst 1 (zdec DX10_nameOf 4 rfl) (by decide) ?_
    exact z_iret (zdec DX10_nameOf 5 rfl) rfl (⟨rfl, rfl, zri (by first | (rw [if_pos (by omega)]; done) | (rw [if_neg (by omega), if_pos (by omega)]; done) | (rw [if_neg (by omega), if_neg (by omega), if_pos (by omega)]; done) | (rw [if_neg (by omega), if_neg (by omega), if_neg (by omega), if_pos (by omega)]; done) | (rw [if_neg (by omega), if_neg (by omega), if_neg (by omega), if_neg (by omega), if_pos (by omega)]; done) | (rw [if_neg (by omega), if_neg (by omega), if_neg (by omega), if_neg (by omega), if_neg (by omega)]; done))⟩)
  refine z_lsw (off := 61) 62 (zdec DX10_nameOf 1 rfl) (by decide) (by simp [Op.lookupswitch.offset, h1_97, Ne.symm h1_97, h1_98, Ne.symm h1_98, h1_100, Ne.symm h1_100, h1_111, Ne.symm h1_111, h1_116, Ne.symm h1_116]) rfl ?_
  refine z_iconst (-1) (zdec DX10_nameOf 12 rfl) (by decide) ?_
  exact z_iret (zdec DX10_nameOf 13 rfl) rfl (⟨rfl, rfl, zri (by first | (rw [if_pos (by omega)]; done) | (rw [if_neg (by omega), if_pos (by omega)]; done) | (rw [if_neg (by omega), if_neg (by omega), if_pos (by omega)]; done) | (rw [if_neg (by omega), if_neg (by omega), if_neg (by omega), if_pos (by omega)]; done) | (rw [if_neg (by omega), if_neg (by omega), if_neg (by omega), if_neg (by omega), if_pos (by omega)]; done) | (rw [if_neg (by omega), if_neg (by omega), if_neg (by omega), if_neg (by omega), if_neg (by omega)]; done))⟩)
