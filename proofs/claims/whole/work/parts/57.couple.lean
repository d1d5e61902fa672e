/-! what holds between two calls of the law: the class's rows and the reference's say the same -/
def zYx (M : zMm) : Prop := zP M ∧ zSx M ∧ zG M ∧ zGr M
def zYc (M : zMm) : Prop := zRg M ∧ (∀ h : Int, 0 ≤ h → h < 16 → M 64 h = M 7 h ∧ M 57 h = M 8 h ∧ M 63 h = M 9 h ∧ M 57 (16 + h) = M 10 h) ∧ (∀ w : Int, 0 ≤ w → w < 33 → M 57 (32 + w) = M 11 w ∧ M 57 (65 + w) = M 12 w ∧ M 57 (98 + w) = M 13 w) ∧ M 57 131 = M 1 12 ∧ M 57 132 = M 1 13
theorem zYc.r {M : zMm} (h : zYc M) : zRr M := by
  obtain ⟨⟨a, b, c, d⟩, e, f, g, i⟩ := h
  refine ⟨fun x x0 x1 => ?_, fun x x0 x1 => ?_, by rw [g]; exact c, by rw [i]; exact d⟩
  · have e := e x x0 x1; rw [e.1, e.2.1, e.2.2.1, e.2.2.2]; exact a x x0 x1
  · have f := f x x0 x1; rw [f.1, f.2.1, f.2.2]; exact b x x0 x1
def zYh (M : zMm) : Prop := zHi M ∧ M 56 5 = M 37 5 ∧ M 56 4 = M 37 6 ∧ ∀ k : Int, 0 ≤ k → k < M 37 6 → (M 58 k = zat (M 38 k) (M 39 k) ∧ M 59 k = M 40 k ∧ M 60 k = M 41 k) ∧ zmay (M 39 k) (M 40 k) ∧ zmay (M 39 k) (M 41 k)
theorem zat_b {n what : Int} (h : zknown n what) : 0 ≤ zat n what ∧ zat n what < 133 := by
  unfold zknown at h
  unfold zat
  rcases h with ⟨rfl, h⟩ | ⟨rfl, h⟩ | ⟨rfl, h⟩ | ⟨rfl, h⟩ | ⟨rfl, h⟩ | ⟨rfl, h⟩ | ⟨rfl, h⟩ <;> simp <;> omega
theorem zYh.r {M : zMm} (h : zYh M) : zHr M := by
  obtain ⟨⟨a, b, c, d⟩, e, f, g⟩ := h
  refine ⟨by omega, fun k k0 k1 => ?_⟩
  rw [(g k k0 (by omega)).1.1]
  exact zat_b (d k k0 (by omega))
def zYt (M : zMm) : Prop := (0 ≤ M 14 1 ∧ M 14 1 ≤ 120) ∧ M 56 12 = M 14 1 ∧ ∀ i : Int, 0 ≤ i → i < M 14 1 → M 65 i = M 15 i ∧ 0 ≤ M 15 i ∧ M 15 i ≤ 255
def zYl (M : zMm) : Prop := ∃ q : Int, zTx M q ∧ (∀ i : Int, 0 ≤ i → i < 121 → 0 ≤ M (35 - q) i ∧ M (35 - q) i ≤ 9999) ∧ zTR M ∧ ((M 14 6 = 0 ∧ M 56 14 = -1) ∨ (0 < M 14 6 ∧ 0 ≤ M 56 14 ∧ ∀ d t o a b : Int, (∀ g : Int, 0 ≤ znmd g d t o a b ∧ znmd g d t o a b ≤ 99) → zwv M q d t o a b = zvls (fun g => znmd g d t o a b) (zpLs (M 66) (M 56 14) 121 0 []).2.2))
def zYw (M : zMm) : Prop := M 56 25 = M 21 7 ∧ ∀ w : Int, 0 ≤ w → w < 33 → M 72 w = M 26 w
def zYi (M : zMm) : Prop := zImB M ∧ M 56 31 = M 34 3 ∧ ∀ h : Int, 0 ≤ h → h < 16 → M 76 h = M 35 h ∧ M 77 h = M 36 h
def zYb (M : zMm) : Prop := zCe M ∧ zCr M ∧ M 56 34 = M 42 1 ∧ M 56 37 = M 42 3 ∧ (∀ i : Int, 0 ≤ i → i < 50 → M 78 i = M 43 i) ∧ ∀ i : Int, 0 ≤ i → i < 24 → i < M 42 3 → M 79 i = M 44 i
def zYs (M : zMm) : Prop := zSv M ∧ zSr M ∧ ∀ s : Int, 0 ≤ s → s < 6 → ((M 46 s = -1 ∧ M 80 s = -1) ∨ (M 46 s = 5 ∧ M 80 s = M 47 s ∧ 0 ≤ M 47 s ∧ M 47 s < 50) ∨ (0 ≤ M 46 s ∧ M 46 s ≤ 4 ∧ M 80 s = 50 + M 46 s)) ∧ M 81 s = M 48 s ∧ ∀ i : Int, 0 ≤ i → i < 60 → M 82 (60 * s + i) = M (50 + s) i
def zYk (M : zMm) : Prop := ∀ s : Int, 0 ≤ s → s < 6 → M 46 s = 5 → 0 ≤ M 47 s ∧ M 47 s < M 42 1
def zI (M : zMm) : Prop := zYx M ∧ zYc M ∧ zYh M ∧ zYt M ∧ zYl M ∧ zYw M ∧ zYi M ∧ zYb M ∧ zYs M ∧ zYk M
/-- rows and places that are free of a change -/
def zdj (L : List Int) (l : List Int) : Bool := l.all fun c => !L.contains c
theorem zdj.e {L l : List Int} {M M2 : zMm} (h : zdj L l = true) (fr : ∀ c : Int, c ∉ L → M2 c = M c) {c : Int} (hc : c ∈ l) : M2 c = M c := by
  refine fr c fun hL => ?_
  have := List.all_eq_true.mp h c hc
  simp [hL] at this
theorem zdj.p {J l : List Int} {M M2 : zMm} (h : zdj J l = true) (fr : ∀ j : Int, j ∉ J → M2 56 j = M 56 j) {j : Int} (hc : j ∈ l) : M2 56 j = M 56 j := by
  refine fr j fun hL => ?_
  have := List.all_eq_true.mp h j hc
  simp [hL] at this
def zYRx : List Int := [(-3), (-4), (-10), (-11), (-24), (-31), (-37), (-41), (-44), (-47), (-52), (-55), (-59), (-66), 2, 3, 4, 5, 6, 61, 62]
def zYJx : List Int := []
def zYRc : List Int := [1, 7, 8, 9, 10, 11, 12, 13, 57, 63, 64]
def zYJc : List Int := []
def zYRh : List Int := [37, 38, 39, 40, 41, 58, 59, 60]
def zYJh : List Int := [4, 5]
def zYRt : List Int := [14, 15, 65]
def zYJt : List Int := [12]
def zYRl : List Int := [(-24), 14, 16, 17, 18, 19, 66]
def zYJl : List Int := [14]
def zYRw : List Int := [21, 26, 72]
def zYJw : List Int := [25]
def zYRi : List Int := [34, 35, 36, 76, 77]
def zYJi : List Int := [31]
def zYRb : List Int := [42, 43, 44, 78, 79]
def zYJb : List Int := [34, 37]
def zYRs : List Int := [46, 47, 48, 50, 51, 52, 53, 54, 55, 80, 81, 82]
def zYJs : List Int := []
def zYRk : List Int := [42, 46, 47]
def zYJk : List Int := []
theorem zYx.of {M M2 : zMm} (h : zYx M) (e : ∀ c ∈ zYRx, M2 c = M c) (f : ∀ j ∈ zYJx, M2 56 j = M 56 j) : zYx M2 := by
  refine ⟨fun q hq => ?_, ?_, ?_, ?_⟩
  · have hn : ∀ q ∈ ztab, q.1 ∈ zYRx := by decide +kernel
    rw [e q.1 (hn q hq)]; exact h.1 q hq
  · have h := h.2.1
    unfold zSx at h ⊢
    rw [e (-3) (by decide), e (-4) (by decide)]; exact h
  · have h := h.2.2.1
    unfold zG at h ⊢
    rw [e 2 (by decide), e 3 (by decide), e 4 (by decide), e 5 (by decide), e 6 (by decide)]; exact h
  · have h := h.2.2.2
    unfold zGr at h ⊢
    rw [e 61 (by decide), e 62 (by decide)]; exact h
theorem zYc.of {M M2 : zMm} (h : zYc M) (e : ∀ c ∈ zYRc, M2 c = M c) (f : ∀ j ∈ zYJc, M2 56 j = M 56 j) : zYc M2 := by
  unfold zYc zRg at h ⊢
  rw [e 1 (by decide), e 7 (by decide), e 8 (by decide), e 9 (by decide), e 10 (by decide), e 11 (by decide), e 12 (by decide), e 13 (by decide), e 57 (by decide), e 63 (by decide), e 64 (by decide)]; exact h
theorem zYh.of {M M2 : zMm} (h : zYh M) (e : ∀ c ∈ zYRh, M2 c = M c) (f : ∀ j ∈ zYJh, M2 56 j = M 56 j) : zYh M2 := by
  unfold zYh zHi at h ⊢
  rw [e 37 (by decide), e 38 (by decide), e 39 (by decide), e 40 (by decide), e 41 (by decide), e 58 (by decide), e 59 (by decide), e 60 (by decide), f 4 (by decide), f 5 (by decide)]; exact h
theorem zYt.of {M M2 : zMm} (h : zYt M) (e : ∀ c ∈ zYRt, M2 c = M c) (f : ∀ j ∈ zYJt, M2 56 j = M 56 j) : zYt M2 := by
  unfold zYt at h ⊢
  rw [e 14 (by decide), e 15 (by decide), e 65 (by decide), f 12 (by decide)]; exact h
theorem zwst_of {s s2 : zMm} {q : Int} (e14 : s2 14 = s 14) (eq : s2 q = s q) (eq1 : s2 (q + 1) = s (q + 1)) (v : Int → Int) (p : Int × Int × (Int → Int)) : zwst s2 q v p = zwst s q v p := by
  unfold zwst
  rw [eq, eq1]
theorem zwor_of2 {s s2 : zMm} {q : Int} (e14 : s2 14 6 = s 14 6) (eq : s2 q = s q) (eq1 : s2 (q + 1) = s (q + 1)) (v : Int → Int) : ∀ (f : Nat) (p : Int × Int × (Int → Int)), zwor s2 q v f p = zwor s q v f p := by
  intro f
  induction f with
  | zero => intro p; rfl
  | succ n ih =>
    intro p
    unfold zwor
    have w : zwst s2 q v p = zwst s q v p := by unfold zwst; rw [eq, eq1]
    rw [e14, eq, w, ih]
theorem zYl.of' {M M2 : zMm} (h : zYl M) (e : ∀ c : Int, c ∈ [16, 17, 18, 19, 66] → M2 c = M c) (e24 : ∀ j : Int, j ∈ [4, 5, 7, 8] → M2 (-24) j = M (-24) j) (e14 : M2 14 6 = M 14 6) (f : M2 56 14 = M 56 14) : zYl M2 := by
  obtain ⟨q, ⟨⟨hq, hq1⟩, hl, hb⟩, hs, hT, hw⟩ := h
  have e4 := e24 4 (by decide)
  have e5 := e24 5 (by decide)
  have e7 := e24 7 (by decide)
  have e8 := e24 8 (by decide)
  have eq0 : M2 q = M q := by rcases hq with rfl | rfl <;> exact e _ (by decide)
  have eq1 : M2 (q + 1) = M (q + 1) := by rcases hq with rfl | rfl <;> exact e _ (by decide)
  have eq2 : M2 (35 - q) = M (35 - q) := by rcases hq with rfl | rfl <;> exact e _ (by decide)
  refine ⟨q, ⟨⟨hq, by rw [e4, e5, e7, e8]; exact hq1⟩, by rw [e14]; exact hl, by rw [eq1]; exact hb⟩, by rw [eq2]; exact hs, ?_, ?_⟩
  · unfold zTR at hT ⊢
    rw [f, e 66 (by decide)]; exact hT
  · rw [e14, f, e 66 (by decide)]
    refine hw.imp_right fun w => ⟨w.1, w.2.1, fun d t o a b hd => ?_⟩
    rw [← w.2.2 d t o a b hd]
    exact zwor_of2 e14 eq0 eq1 _ _ _
theorem zYl.of {M M2 : zMm} (h : zYl M) (e : ∀ c ∈ zYRl, M2 c = M c) (f : ∀ j ∈ zYJl, M2 56 j = M 56 j) : zYl M2 := by
  exact zYl.of' h (fun c hc => e c (by revert c; decide)) (fun j _ => by rw [e (-24) (by decide)]) (by rw [e 14 (by decide)]) (f 14 (by decide))
theorem zYw.of {M M2 : zMm} (h : zYw M) (e : ∀ c ∈ zYRw, M2 c = M c) (f : ∀ j ∈ zYJw, M2 56 j = M 56 j) : zYw M2 := by
  unfold zYw at h ⊢
  rw [e 21 (by decide), e 26 (by decide), e 72 (by decide), f 25 (by decide)]; exact h
theorem zYi.of {M M2 : zMm} (h : zYi M) (e : ∀ c ∈ zYRi, M2 c = M c) (f : ∀ j ∈ zYJi, M2 56 j = M 56 j) : zYi M2 := by
  unfold zYi zImB at h ⊢
  rw [e 34 (by decide), e 35 (by decide), e 36 (by decide), e 76 (by decide), e 77 (by decide), f 31 (by decide)]; exact h
theorem zYb.of {M M2 : zMm} (h : zYb M) (e : ∀ c ∈ zYRb, M2 c = M c) (f : ∀ j ∈ zYJb, M2 56 j = M 56 j) : zYb M2 := by
  unfold zYb zCe zCr at h ⊢
  rw [e 42 (by decide), e 43 (by decide), e 44 (by decide), e 78 (by decide), e 79 (by decide), f 34 (by decide), f 37 (by decide)]; exact h
theorem zYk.of {M M2 : zMm} (h : zYk M) (e : ∀ c ∈ zYRk, M2 c = M c) (f : ∀ j ∈ zYJk, M2 56 j = M 56 j) : zYk M2 := by
  unfold zYk at h ⊢
  rw [e 42 (by decide), e 46 (by decide), e 47 (by decide)]; exact h
theorem zYs.of {M M2 : zMm} (h : zYs M) (e : ∀ c ∈ zYRs, M2 c = M c) (f : ∀ j ∈ zYJs, M2 56 j = M 56 j) : zYs M2 := by
  obtain ⟨a, b, c⟩ := h
  refine ⟨?_, ?_, fun s s0 s1 => ?_⟩
  · unfold zSv at a ⊢
    rw [e 46 (by decide), e 48 (by decide)]; exact a
  · unfold zSr at b ⊢
    rw [e 80 (by decide), e 81 (by decide)]; exact b
  · rw [e 46 (by decide), e 47 (by decide), e 48 (by decide), e 80 (by decide), e 81 (by decide), e 82 (by decide), e (50 + s) (by
      have t : s = 0 ∨ s = 1 ∨ s = 2 ∨ s = 3 ∨ s = 4 ∨ s = 5 := by omega
      rcases t with rfl | rfl | rfl | rfl | rfl | rfl <;> decide)]; exact c s s0 s1
theorem zI.go {M M2 : zMm} (hI : zI M) {L J : List Int} (fr : ∀ c : Int, c ∉ 56 :: L → M2 c = M c) (f56 : ∀ j : Int, j ∉ J → M2 56 j = M 56 j) (ux : (zdj (56 :: L) zYRx && zdj J zYJx) = true ∨ zYx M2 := by exact Or.inl (by decide)) (uc : (zdj (56 :: L) zYRc && zdj J zYJc) = true ∨ zYc M2 := by exact Or.inl (by decide)) (uh : (zdj (56 :: L) zYRh && zdj J zYJh) = true ∨ zYh M2 := by exact Or.inl (by decide)) (ut : (zdj (56 :: L) zYRt && zdj J zYJt) = true ∨ zYt M2 := by exact Or.inl (by decide)) (ul : (zdj (56 :: L) zYRl && zdj J zYJl) = true ∨ zYl M2 := by exact Or.inl (by decide)) (uw : (zdj (56 :: L) zYRw && zdj J zYJw) = true ∨ zYw M2 := by exact Or.inl (by decide)) (ui : (zdj (56 :: L) zYRi && zdj J zYJi) = true ∨ zYi M2 := by exact Or.inl (by decide)) (ub : (zdj (56 :: L) zYRb && zdj J zYJb) = true ∨ zYb M2 := by exact Or.inl (by decide)) (us : (zdj (56 :: L) zYRs && zdj J zYJs) = true ∨ zYs M2 := by exact Or.inl (by decide)) (uk : (zdj (56 :: L) zYRk && zdj J zYJk) = true ∨ zYk M2 := by exact Or.inl (by decide)) : zI M2 := by
  obtain ⟨hx, hc, hh, ht, hl, hw, hi, hb, hs, hk⟩ := hI
  exact ⟨ux.elim (fun d => hx.of (fun _ m => (Bool.and_eq_true_iff.mp d).1 |> fun d => zdj.e d fr m) (fun _ m => (Bool.and_eq_true_iff.mp d).2 |> fun d => zdj.p d f56 m)) id, uc.elim (fun d => hc.of (fun _ m => (Bool.and_eq_true_iff.mp d).1 |> fun d => zdj.e d fr m) (fun _ m => (Bool.and_eq_true_iff.mp d).2 |> fun d => zdj.p d f56 m)) id, uh.elim (fun d => hh.of (fun _ m => (Bool.and_eq_true_iff.mp d).1 |> fun d => zdj.e d fr m) (fun _ m => (Bool.and_eq_true_iff.mp d).2 |> fun d => zdj.p d f56 m)) id, ut.elim (fun d => ht.of (fun _ m => (Bool.and_eq_true_iff.mp d).1 |> fun d => zdj.e d fr m) (fun _ m => (Bool.and_eq_true_iff.mp d).2 |> fun d => zdj.p d f56 m)) id, ul.elim (fun d => hl.of (fun _ m => (Bool.and_eq_true_iff.mp d).1 |> fun d => zdj.e d fr m) (fun _ m => (Bool.and_eq_true_iff.mp d).2 |> fun d => zdj.p d f56 m)) id, uw.elim (fun d => hw.of (fun _ m => (Bool.and_eq_true_iff.mp d).1 |> fun d => zdj.e d fr m) (fun _ m => (Bool.and_eq_true_iff.mp d).2 |> fun d => zdj.p d f56 m)) id, ui.elim (fun d => hi.of (fun _ m => (Bool.and_eq_true_iff.mp d).1 |> fun d => zdj.e d fr m) (fun _ m => (Bool.and_eq_true_iff.mp d).2 |> fun d => zdj.p d f56 m)) id, ub.elim (fun d => hb.of (fun _ m => (Bool.and_eq_true_iff.mp d).1 |> fun d => zdj.e d fr m) (fun _ m => (Bool.and_eq_true_iff.mp d).2 |> fun d => zdj.p d f56 m)) id, us.elim (fun d => hs.of (fun _ m => (Bool.and_eq_true_iff.mp d).1 |> fun d => zdj.e d fr m) (fun _ m => (Bool.and_eq_true_iff.mp d).2 |> fun d => zdj.p d f56 m)) id, uk.elim (fun d => hk.of (fun _ m => (Bool.and_eq_true_iff.mp d).1 |> fun d => zdj.e d fr m) (fun _ m => (Bool.and_eq_true_iff.mp d).2 |> fun d => zdj.p d f56 m)) id⟩
/-- a call of the class leaves the reference alone -/
def zKc (M M1 : zMm) : Prop := (∀ c : Int, 56 ≤ c → M1 c = M c) ∧ (∀ c : Int, c < 0 → c ≠ -24 → M1 c = M c) ∧ ∀ j : Int, j ≠ 4 → j ≠ 5 → j ≠ 7 → j ≠ 8 → M1 (-24) j = M (-24) j
theorem zKc.of {M M1 : zMm} (h : ∀ c : Int, c < 0 ∨ 56 ≤ c → M1 c = M c) : zKc M M1 := ⟨fun c hc => h c (Or.inr hc), fun c hc _ => h c (Or.inl hc), fun j _ _ _ _ => by rw [h (-24) (Or.inl (by decide))]⟩
theorem zKc.P {M M1 : zMm} (h : zKc M M1) (hP : zP M) : zP M1 := fun q hq => by
  have hn : ∀ q ∈ ztab, q.1 < 0 ∧ (q.1 = -24 → q.2.1 ≠ 4 ∧ q.2.1 ≠ 5 ∧ q.2.1 ≠ 7 ∧ q.2.1 ≠ 8) := by decide +kernel
  have t := hn q hq
  by_cases e : q.1 = -24
  · have t2 := t.2 e
    have u := hP q hq
    rw [e] at u ⊢
    rw [h.2.2 _ t2.1 t2.2.1 t2.2.2.1 t2.2.2.2]; exact u
  · rw [h.2.1 q.1 t.1 e]; exact hP q hq
theorem zKc.gr {M M1 : zMm} (h : zKc M M1) (g : zGr M) : zGr M1 := g.of (h.1 61 (by decide)) (h.1 62 (by decide))
theorem zKc.rr {M M1 : zMm} (h : zKc M M1) (g : zRr M) : zRr M1 := by
  unfold zRr at g ⊢
  rw [h.1 57 (by decide), h.1 63 (by decide), h.1 64 (by decide)]; exact g
theorem zKc.tr {M M1 : zMm} (h : zKc M M1) (g : zTR M) : zTR M1 := by
  unfold zTR at g ⊢
  rw [h.1 56 (by decide), h.1 66 (by decide)]; exact g
theorem zKc.hr {M M1 : zMm} (h : zKc M M1) (g : zHr M) : zHr M1 := by
  unfold zHr at g ⊢
  rw [h.1 56 (by decide), h.1 58 (by decide)]; exact g
theorem zKc.cr {M M1 : zMm} (h : zKc M M1) (g : zCr M) : zCr M1 := by
  unfold zCr at g ⊢
  rw [h.1 56 (by decide), h.1 78 (by decide)]; exact g
theorem zKc.sr {M M1 : zMm} (h : zKc M M1) (g : zSr M) : zSr M1 := by
  unfold zSr at g ⊢
  rw [h.1 80 (by decide), h.1 81 (by decide)]; exact g
theorem zKc.v {M M1 : zMm} (h : zKc M M1) : zvw M1 = zvw M := by
  funext c k
  simp only [zvw, h.1 57 (by decide), h.1 63 (by decide), h.1 64 (by decide)]
