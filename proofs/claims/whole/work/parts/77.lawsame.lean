/-! law: both read the same -/
theorem zpx_c {t t' : Int → Int} {n : Int} (h : ∀ i : Int, 0 ≤ i → i < n → t i = t' i) : zpx t n = zpx t' n := by
  funext p
  unfold zpx
  by_cases c : 0 ≤ p ∧ p < n
  · rw [if_pos c, if_pos c]; exact h p c.1 c.2
  · rw [if_neg c, if_neg c]
theorem zpN_c {t t' : Int → Int} {n : Int} (h : zpx t n = zpx t' n) : ∀ (f : Nat) (v p : Int), zpN t n f v p = zpN t' n f v p := by
  intro f
  induction f with
  | zero => intro v p; rfl
  | succ f ih => intro v p; unfold zpN; rw [h]; simp only [ih]
theorem zpLp_c {t t' : Int → Int} {n : Int} (h : zpx t n = zpx t' n) (R : Int → zPr) (l : Int) : ∀ (k : Nat) (r : zPr), zpLp t n R l k r = zpLp t' n R l k r := by
  intro k
  induction k with
  | zero => intro r; rfl
  | succ k ih => intro r; unfold zpLp; rw [h]; simp only [ih]
theorem zpOp_c {t t' : Int → Int} {n : Int} (h : zpx t n = zpx t' n) (R : Int → Int → Int → zPr) (o p : Int) : zpOp t n R o p = zpOp t' n R o p := by
  unfold zpOp
  rw [h]
  simp only [zpN_c h]
theorem zpL_c {t t' : Int → Int} {n : Int} (h : zpx t n = zpx t' n) : ∀ f : Nat, zpL t n f = zpL t' n f := by
  intro f
  induction f with
  | zero => rfl
  | succ f ih =>
    funext l o p
    show (if 5 ≤ l then zpOp t n (zpL t n f) o p else zpLp t n (zpL t n f (l + 1) o) l (if l = 2 then 1 else 120) (zpL t n f (l + 1) o p)) = (if 5 ≤ l then zpOp t' n (zpL t' n f) o p else zpLp t' n (zpL t' n f (l + 1) o) l (if l = 2 then 1 else 120) (zpL t' n f (l + 1) o p))
    rw [ih, zpOp_c h, zpLp_c h]
theorem zpLi_c {t t' : Int → Int} {n : Int} (h : zpx t n = zpx t' n) (p : Int) : zpLi t n p = zpLi t' n p := by
  unfold zpLi
  rw [h, zpL_c h]
theorem zpLs_c {t t' : Int → Int} {n : Int} (h : zpx t n = zpx t' n) : ∀ (k : Nat) (p : Int) (L : List zLn), zpLs t n k p L = zpLs t' n k p L := by
  intro k
  induction k with
  | zero => intro p L; rfl
  | succ k ih => intro p L; unfold zpLs; rw [h, zpLi_c h]; simp only [ih]
theorem zpLs_e {t t' : Int → Int} {n : Int} (h : ∀ i : Int, 0 ≤ i → i < n → t i = t' i) (k : Nat) (p : Int) (L : List zLn) : zpLs t n k p L = zpLs t' n k p L := zpLs_c (zpx_c h) k p L
theorem zencL_ne {X : List zLn} (h : X ≠ []) (k : Int) : 0 < ((zencL k X).length : Int) := by
  cases X with
  | nil => exact absurd rfl h
  | cons ln X =>
    show 0 < ((zenc k ln ++ zencL (k + (zenc k ln).length) X).length : Int)
    rw [List.length_append]
    have : 0 < (zenc k ln).length := by
      unfold zenc
      split <;> simp <;> omega
    omega
/-- the class's reading, all of it -/
theorem zlaw_R {M : zMm} {q : Int} (hq : q = 16 ∨ q = 18) (ht : 0 ≤ M 14 1 ∧ M 14 1 ≤ 120) : ∃ X : List zLn, (zpLs (M 15) (M 14 1) 121 0 []).2.2 = X ∧ X ≠ [] ∧ zRR q (zrd0 M) ((zpLs (M 15) (M 14 1) 121 0 []).1, (zpLs (M 15) (M 14 1) 121 0 []).2.1, zencL 0 X) (zrLns q 121 (zrd0 M)) ∧ ((zpLs (M 15) (M 14 1) 121 0 []).2.1 = false → ((zencL 0 X).length : Int) ≤ 121 ∧ ∀ ln ∈ X, zlg ln) := by
  have e15 : zrd0 M 15 = M 15 := by unfold zrd0; rw [zup_row (by decide), zup_row (by decide), zup_row (by decide)]
  have e1 : zrd0 M 14 1 = M 14 1 := by unfold zrd0; rw [zup_ne (by decide), zup_ne (by decide), zup_ne (by decide)]
  have e2 : zrd0 M 14 2 = 0 := by unfold zrd0; rw [zup_ne (by decide), zup_ne (by decide), zup_self]
  have e3 : zrd0 M 14 3 = 0 := by unfold zrd0; rw [zup_ne (by decide), zup_self]
  have e9 : zrd0 M 14 9 = 0 := by unfold zrd0; rw [zup_self]
  obtain ⟨X, x1, x2, x3, x4⟩ := zrLns_R (q := q) 121 (zrd0 M) [] ⟨hq, e3, by rw [e9, e2]; exact ⟨by decide, by decide⟩, by rw [e2, e1]; exact ht.1, by rw [e1]; exact ht.2⟩ (by rw [e1, e2]; omega)
  rw [e15, e1, e2] at x1 x3 x4
  rw [e9] at x3 x4
  exact ⟨X, by rw [x1]; rfl, x2, x3, fun z => ⟨by have := (x4 z).1; omega, (x4 z).2⟩⟩
set_option maxHeartbeats 4000000 in
theorem zK_law {M : zMm} (hI : zI M) : zW mX9_law 92 (fun rv S' M1 => S' = zS0 ∧ ∃ r : Int, rv = some (.inl r) ∧ zW mX10_law 47 (fun rv2 S2 M2 => S2 = zS0 ∧ rv2 = some (.inl r) ∧ zI M2) (0, 0) zS0 0 (zargs 0 [.inr (.inr 56)]) [] M1) (0, 0) zS0 0 (zargs 0 [.inr (.inr 0)]) [] M := by
  have ix := hI.1
  have it := hI.2.2.2.1
  have il := hI.2.2.2.2.1
  obtain ⟨t1, t2, t3⟩ := it
  obtain ⟨q, hT, hB, hTR, hW⟩ := il
  have hq := hT.1.1
  have hTw : zTw M q := ⟨hT, t1, hB⟩
  obtain ⟨X, x1, x2, x3, x4⟩ := zlaw_R (M := M) hq t1
  have tI := zTI.lns 121 (hTw.rd0 ix.1)
  have r0 : ∀ c : Int, c ≠ 14 → zrd0 M c = M c := fun c hc => by unfold zrd0; rw [zup_row hc, zup_row hc, zup_row hc]
  have r14 : ∀ j : Int, j ≠ 2 → j ≠ 3 → j ≠ 9 → zrd0 M 14 j = M 14 j := fun j a b c => by unfold zrd0; rw [zup_ne c, zup_ne b, zup_ne a]
  have r9 : zrd0 M 14 9 = 0 := by unfold zrd0; rw [zup_self]
  refine zW_mono (cX9_law ix.1 hTw) fun rv S M1 h => ?_
  obtain ⟨rfl, h⟩ := h
  unfold zrdB zrdA at h
  generalize zrLns q 121 (zrd0 M) = R at h x3 tI
  obtain ⟨s1, s2, s3, s4⟩ := x3
  dsimp only at s2 s3 s4
  rw [r9] at s4
  -- what the class has done
  have cls : ((zpLs (M 15) (M 14 1) 121 0 []).2.1 = true ∧ rv = some (.inl (-100 - (zpLs (M 15) (M 14 1) 121 0 []).1)) ∧ M1 = zup R 14 1 0) ∨ ((zpLs (M 15) (M 14 1) 121 0 []).2.1 = false ∧ rv = some (.inl 1) ∧ M1 = zup (zup (zup (zup (zup (zup R 14 1 0) (-24) 4 (34 - q)) (-24) 5 (35 - q)) 14 6 (R 14 9)) (-24) 7 q) (-24) 8 (q + 1)) := by
    rcases h with ⟨a, b, c⟩ | ⟨a, b, c⟩
    · by_cases e : (zpLs (M 15) (M 14 1) 121 0 []).2.1 = true
      · rw [s2] at b
        exact Or.inl ⟨e, b, c⟩
      · exact absurd (s4 (zbool e)).1 a
    · by_cases e : (zpLs (M 15) (M 14 1) 121 0 []).2.1 = true
      · exact absurd a (s3 e)
      · exact Or.inr ⟨zbool e, b, c⟩
  have Rr : ∀ c : Int, c ≠ 14 → c ≠ 34 - q → c ≠ 35 - q → R c = M c := fun c a b d => (s1.1 c a b d).trans (r0 c a)
  have R6 : R 14 6 = M 14 6 := (s1.2 6 (by decide) (by decide) (by decide)).trans (r14 6 (by decide) (by decide) (by decide))
  -- rows of M1
  have m1 : (∀ c : Int, c ≠ 14 → c ≠ -24 → M1 c = R c) ∧ (∀ j : Int, j ≠ 4 → j ≠ 5 → j ≠ 7 → j ≠ 8 → M1 (-24) j = R (-24) j) ∧ M1 14 1 = 0 := by
    rcases cls with ⟨_, _, e⟩ | ⟨_, _, e⟩
    · rw [e]
      exact ⟨fun c a b => zup_row a, fun j _ _ _ _ => congrFun (zup_row (by decide)) j, zup_self _ _ _ _⟩
    · rw [e]
      refine ⟨fun c a b => by rw [zup_row b, zup_row b, zup_row a, zup_row b, zup_row b, zup_row a], fun j a b c d => by rw [zup_ne d, zup_ne c, zup_row (by decide), zup_ne b, zup_ne a, zup_row (by decide)], ?_⟩
      rw [zup_row (by decide), zup_row (by decide), zup_ne (by decide), zup_row (by decide), zup_row (by decide), zup_self]
  have k1 : zKc M M1 := ⟨fun c hc => by rw [m1.1 c (by omega) (by omega), Rr c (by omega) (by omega) (by omega)], fun c hc h24 => by rw [m1.1 c (by omega) h24, Rr c (by omega) (by omega) (by omega)], fun j a b c d => by rw [m1.2.1 j a b c d, Rr (-24) (by decide) (by omega) (by omega)]⟩
  have f12 : M1 56 12 = M 14 1 := by rw [k1.1 56 (by decide)]; exact t2
  have tape : ∀ (k : Nat) (p : Int) (L : List zLn), zpLs (M1 65) (M1 56 12) k p L = zpLs (M 15) (M 14 1) k p L := fun k p L => by
    rw [f12, k1.1 65 (by decide)]
    exact zpLs_e (fun i a b => (t3 i a b).1) k p L
  have nrow : ∀ i : Int, 0 ≤ i → i < 121 → 0 ≤ M1 (35 - q) i ∧ M1 (35 - q) i ≤ 9999 := fun i a b => by
    rw [m1.1 (35 - q) (by omega) (by omega)]
    exact tI.nn i a b
  have orow : M1 q = M q ∧ M1 (q + 1) = M (q + 1) := ⟨by rw [m1.1 q (by omega) (by omega), Rr q (by omega) (by omega) (by omega)], by rw [m1.1 (q + 1) (by omega) (by omega), Rr (q + 1) (by omega) (by omega) (by omega)]⟩
  refine ⟨rfl, ?_⟩
  -- the last word, from what the reference has done
  have fin : ∀ (M2 : zMm), (∀ c : Int, c ≠ 56 → c ≠ 66 → M2 c = M1 c) → M2 56 12 = 0 → (∀ j : Int, j ≠ 12 → j ≠ 14 → j < 15 ∨ 19 < j → M2 56 j = M1 56 j) → zYl M2 → zI M2 := fun M2 a b c d => by
    have hP2 : zP M2 := zP_of (k1.P ix.1) fun r hr => a r (by omega) (by omega)
    refine hI.go (L := [-24, 14, 16, 17, 18, 19, 66]) (J := [12, 14, 15, 16, 17, 18, 19]) (fun c hc => ?_) (fun j hj => ?_) (ux := Or.inr ⟨hP2, ?_, ?_, ?_⟩) (ut := Or.inr ⟨?_, ?_, fun i i0 i1 => ?_⟩) (ul := Or.inr d)
    · simp only [List.mem_cons, List.not_mem_nil, not_or, or_false, not_false_eq_true, and_true, true_and] at hc
      rw [a c (by omega) (by omega), m1.1 c (by omega) (by omega), Rr c (by omega) (by omega) (by omega)]
    · simp only [List.mem_cons, List.not_mem_nil, not_or, or_false, not_false_eq_true, and_true, true_and] at hj
      rw [c j (by omega) (by omega) (by omega), k1.1 56 (by decide)]
    · have h := ix.2.1
      unfold zSx at h ⊢
      rw [a (-3) (by decide) (by decide), a (-4) (by decide) (by decide), k1.2.1 (-3) (by decide) (by decide), k1.2.1 (-4) (by decide) (by decide)]; exact h
    · exact zG_of ix.2.2.1 fun c h0 h1 => by rw [a c (by omega) (by omega), m1.1 c (by omega) (by omega), Rr c (by omega) (by omega) (by omega)]
    · exact ix.2.2.2.of (by rw [a 61 (by decide) (by decide), k1.1 61 (by decide)]) (by rw [a 62 (by decide) (by decide), k1.1 62 (by decide)])
    · rw [a 14 (by decide) (by decide), m1.2.2]; exact ⟨by decide, by decide⟩
    · rw [b, a 14 (by decide) (by decide), m1.2.2]
    · rw [a 14 (by decide) (by decide), m1.2.2] at i1; omega
  have ref := cX10_law (M := M1) (k1.P ix.1) (by rw [f12]; exact t1)
  rw [tape] at ref
  rcases cls with ⟨c1, c2, c3⟩ | ⟨c1, c2, c3⟩
  · refine ⟨_, c2, zW_mono ref fun rv2 S2 M2 h => ?_⟩
    obtain ⟨rfl, _, h⟩ := h
    rcases h with ⟨_, h2, h3⟩ | ⟨h1, _, _⟩
    · refine ⟨rfl, h2, fin M2 (fun c a _ => h3.1 c a) h3.2.1 (fun j a _ b => h3.2.2 j a b) ?_⟩
      have e24 : M2 (-24) = M (-24) := by
        rw [h3.1 _ (by decide), c3, zup_row (by decide), Rr (-24) (by decide) (by omega) (by omega)]
      have e6 : M2 14 6 = M 14 6 := by
        rw [h3.1 _ (by decide), c3, zup_ne (by decide), R6]
      have e14 : M2 56 14 = M 56 14 := by rw [h3.2.2 14 (by decide) (by decide), k1.1 56 (by decide)]
      have e66 : M2 66 = M 66 := by rw [h3.1 _ (by decide), k1.1 66 (by decide)]
      have eq0 : M2 q = M q := by rw [h3.1 _ (by omega)]; exact orow.1
      have eq1 : M2 (q + 1) = M (q + 1) := by rw [h3.1 _ (by omega)]; exact orow.2
      refine ⟨q, ⟨zQ_of hT.1 e24, by rw [e6]; exact hT.2.1, by rw [eq1]; exact hT.2.2⟩, by rw [h3.1 _ (by omega)]; exact nrow, ?_, ?_⟩
      · unfold zTR at hTR ⊢
        rw [e14, e66]; exact hTR
      · rw [e6, e14, e66]
        refine hW.imp_right fun w => ⟨w.1, w.2.1, fun d t o a b hd => ?_⟩
        rw [← w.2.2 d t o a b hd]
        exact zwor_of2 e6 eq0 eq1 _ _ _
    · rw [c1] at h1; cases h1
  · refine ⟨_, c2, zW_mono ref fun rv2 S2 M2 h => ?_⟩
    obtain ⟨rfl, hb, h⟩ := h
    rcases h with ⟨h1, _, _⟩ | ⟨_, h2, h3⟩
    · rw [c1] at h1; cases h1
    · refine ⟨rfl, h2, fin M2 h3.1 h3.2.1 h3.2.2.2.1 ?_⟩
      obtain ⟨d1, d2, d3, d4⟩ := s4 c1
      obtain ⟨y1, y2⟩ := x4 c1
      have ne := zencL_ne x2 0
      have e14 : M2 56 14 = M 14 1 := by rw [h3.2.2.1, f12]
      have e66 : ∀ k p L, zpLs (M2 66) (M 14 1) k p L = zpLs (M 15) (M 14 1) k p L := fun k p L => zpLs_e (fun i a b => by
        rw [h3.2.2.2.2 i a (by rw [f12]; exact b), k1.1 65 (by decide)]
        exact (t3 i a b).1) k p L
      have e6 : M2 14 6 = (zencL 0 X).length := by
        rw [h3.1 14 (by decide) (by decide), c3, zup_row (by decide), zup_row (by decide), zup_self, d2]; omega
      have e24 : ∀ j : Int, M2 (-24) j = M1 (-24) j := fun j => by rw [h3.1 (-24) (by decide) (by decide)]
      have q4 : M1 (-24) 4 = 34 - q := by rw [c3, zup_ne (by decide), zup_ne (by decide), zup_row (by decide), zup_ne (by decide), zup_self]
      have q5 : M1 (-24) 5 = 35 - q := by rw [c3, zup_ne (by decide), zup_ne (by decide), zup_row (by decide), zup_self]
      have q7 : M1 (-24) 7 = q := by rw [c3, zup_ne (by decide), zup_self]
      have q8 : M1 (-24) 8 = q + 1 := by rw [c3, zup_self]
      have w1 : (34 : Int) - q + 1 = 35 - q := by omega
      refine ⟨34 - q, ⟨⟨by omega, by rw [e24, q4], by rw [e24, q5]; omega, by rw [e24, q7]; omega, by rw [e24, q8]; omega⟩, by rw [e6]; omega, ?_⟩, ?_, ?_, Or.inr ⟨by rw [e6]; exact ne, by rw [e14]; exact t1.1, fun d t o a b _ => ?_⟩⟩
      · rw [w1, h3.1 _ (by omega) (by omega)]; exact nrow
      · rw [show (35 : Int) - (34 - q) = q + 1 by omega, h3.1 _ (by omega) (by omega), orow.2]; exact hT.2.2
      · refine Or.inr ⟨by rw [e14]; exact t1, ?_⟩
        rw [e14, e66]; exact c1
      · rw [e14, e66, x1]
        have rc : zRC (34 - q) 0 M2 (zencL 0 X) := d3.of fun j _ _ => by
          rw [w1, h3.1 _ (by omega) (by omega), h3.1 _ (by omega) (by omega), m1.1 _ (by omega) (by omega), m1.1 _ (by omega) (by omega)]
          exact ⟨rfl, rfl⟩
        exact zwor_lines X 0 _ 123 rc y2 (by rw [e6]; omega) (by decide) (by rw [e6]; exact y1) (by decide)
