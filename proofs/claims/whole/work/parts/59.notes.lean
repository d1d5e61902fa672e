/-! changes that both sides note -/
set_option maxHeartbeats 4000000 in
theorem zYc.tell {M M2 : zMm} {n what v : Int} (h : zYc M) (hf : zknown n what ∧ zmay what v) (e : ∀ c : Int, c ∈ [1, 7, 8, 9, 10, 11, 12, 13] → M2 c = ztell M n what v c) (e57 : M2 57 = zpu (M 57) (zat n what) v) (e63 : M2 63 = M 63) (e64 : M2 64 = M 64) : zYc M2 := by
  obtain ⟨hk, hm⟩ := hf
  unfold zknown at hk
  unfold zmay at hm
  obtain ⟨⟨r1, r2, r3, r4⟩, c1, c2, c3, c4⟩ := h
  have g63 : ∀ k : Int, M2 63 k = M 63 k := fun k => by rw [e63]
  have g64 : ∀ k : Int, M2 64 k = M 64 k := fun k => by rw [e64]
  rcases hk with ⟨rfl, hn⟩ | ⟨rfl, hn⟩ | ⟨rfl, hn⟩ | ⟨rfl, hn⟩ | ⟨rfl, hn⟩ | ⟨rfl, rfl⟩ | ⟨rfl, rfl⟩
  · have t : ztell M n 0 v = zup M 8 n v := by simp [ztell]
    rw [t] at e
    have g1 : ∀ k : Int, M2 1 k = M 1 k := fun k => by rw [e 1 (by decide), zup_row (by decide)]
    have g7 : ∀ k : Int, M2 7 k = M 7 k := fun k => by rw [e 7 (by decide), zup_row (by decide)]
    have g8 : ∀ k : Int, M2 8 k = if k = n then v else M 8 k := fun k => by rw [e 8 (by decide)]; simp [zup]
    have g9 : ∀ k : Int, M2 9 k = M 9 k := fun k => by rw [e 9 (by decide), zup_row (by decide)]
    have g10 : ∀ k : Int, M2 10 k = M 10 k := fun k => by rw [e 10 (by decide), zup_row (by decide)]
    have g11 : ∀ k : Int, M2 11 k = M 11 k := fun k => by rw [e 11 (by decide), zup_row (by decide)]
    have g12 : ∀ k : Int, M2 12 k = M 12 k := fun k => by rw [e 12 (by decide), zup_row (by decide)]
    have g13 : ∀ k : Int, M2 13 k = M 13 k := fun k => by rw [e 13 (by decide), zup_row (by decide)]
    have g57 : ∀ k : Int, M2 57 k = if k = n then v else M 57 k := fun k => by rw [e57]; simp [zpu, zat]
    simp only [reduceIte, Int.reduceEq, false_and, or_false, false_or, true_and, and_true] at hm
    refine ⟨⟨fun x a b => ?_, fun x a b => ?_, ?_, ?_⟩, fun x a b => ?_, fun x a b => ?_, ?_, ?_⟩
    · have r := r1 x a b
      simp only [g1, g7, g8, g9, g10, g11, g12, g13, g57, g63, g64]
      repeat' (first | apply And.intro | split)
      all_goals omega
    · have r := r2 x a b
      simp only [g1, g7, g8, g9, g10, g11, g12, g13, g57, g63, g64]
      repeat' (first | apply And.intro | split)
      all_goals omega
    · simp only [g1, g7, g8, g9, g10, g11, g12, g13, g57, g63, g64]
      repeat' (first | apply And.intro | split)
      all_goals omega
    · simp only [g1, g7, g8, g9, g10, g11, g12, g13, g57, g63, g64]
      repeat' (first | apply And.intro | split)
      all_goals omega
    · have r := c1 x a b
      simp only [g1, g7, g8, g9, g10, g11, g12, g13, g57, g63, g64]
      repeat' (first | apply And.intro | split)
      all_goals omega
    · have r := c2 x a b
      simp only [g1, g7, g8, g9, g10, g11, g12, g13, g57, g63, g64]
      repeat' (first | apply And.intro | split)
      all_goals omega
    · simp only [g1, g7, g8, g9, g10, g11, g12, g13, g57, g63, g64]
      repeat' (first | apply And.intro | split)
      all_goals omega
    · simp only [g1, g7, g8, g9, g10, g11, g12, g13, g57, g63, g64]
      repeat' (first | apply And.intro | split)
      all_goals omega
  · have t : ztell M n 1 v = zup M 10 n v := by simp [ztell]
    rw [t] at e
    have g1 : ∀ k : Int, M2 1 k = M 1 k := fun k => by rw [e 1 (by decide), zup_row (by decide)]
    have g7 : ∀ k : Int, M2 7 k = M 7 k := fun k => by rw [e 7 (by decide), zup_row (by decide)]
    have g8 : ∀ k : Int, M2 8 k = M 8 k := fun k => by rw [e 8 (by decide), zup_row (by decide)]
    have g9 : ∀ k : Int, M2 9 k = M 9 k := fun k => by rw [e 9 (by decide), zup_row (by decide)]
    have g10 : ∀ k : Int, M2 10 k = if k = n then v else M 10 k := fun k => by rw [e 10 (by decide)]; simp [zup]
    have g11 : ∀ k : Int, M2 11 k = M 11 k := fun k => by rw [e 11 (by decide), zup_row (by decide)]
    have g12 : ∀ k : Int, M2 12 k = M 12 k := fun k => by rw [e 12 (by decide), zup_row (by decide)]
    have g13 : ∀ k : Int, M2 13 k = M 13 k := fun k => by rw [e 13 (by decide), zup_row (by decide)]
    have g57 : ∀ k : Int, M2 57 k = if k = 16 + n then v else M 57 k := fun k => by rw [e57]; simp [zpu, zat]
    simp only [reduceIte, Int.reduceEq, false_and, or_false, false_or, true_and, and_true] at hm
    refine ⟨⟨fun x a b => ?_, fun x a b => ?_, ?_, ?_⟩, fun x a b => ?_, fun x a b => ?_, ?_, ?_⟩
    · have r := r1 x a b
      simp only [g1, g7, g8, g9, g10, g11, g12, g13, g57, g63, g64]
      repeat' (first | apply And.intro | split)
      all_goals omega
    · have r := r2 x a b
      simp only [g1, g7, g8, g9, g10, g11, g12, g13, g57, g63, g64]
      repeat' (first | apply And.intro | split)
      all_goals omega
    · simp only [g1, g7, g8, g9, g10, g11, g12, g13, g57, g63, g64]
      repeat' (first | apply And.intro | split)
      all_goals omega
    · simp only [g1, g7, g8, g9, g10, g11, g12, g13, g57, g63, g64]
      repeat' (first | apply And.intro | split)
      all_goals omega
    · have r := c1 x a b
      simp only [g1, g7, g8, g9, g10, g11, g12, g13, g57, g63, g64]
      repeat' (first | apply And.intro | split)
      all_goals omega
    · have r := c2 x a b
      simp only [g1, g7, g8, g9, g10, g11, g12, g13, g57, g63, g64]
      repeat' (first | apply And.intro | split)
      all_goals omega
    · simp only [g1, g7, g8, g9, g10, g11, g12, g13, g57, g63, g64]
      repeat' (first | apply And.intro | split)
      all_goals omega
    · simp only [g1, g7, g8, g9, g10, g11, g12, g13, g57, g63, g64]
      repeat' (first | apply And.intro | split)
      all_goals omega
  · have t : ztell M n 2 v = zup M 11 n v := by simp [ztell]
    rw [t] at e
    have g1 : ∀ k : Int, M2 1 k = M 1 k := fun k => by rw [e 1 (by decide), zup_row (by decide)]
    have g7 : ∀ k : Int, M2 7 k = M 7 k := fun k => by rw [e 7 (by decide), zup_row (by decide)]
    have g8 : ∀ k : Int, M2 8 k = M 8 k := fun k => by rw [e 8 (by decide), zup_row (by decide)]
    have g9 : ∀ k : Int, M2 9 k = M 9 k := fun k => by rw [e 9 (by decide), zup_row (by decide)]
    have g10 : ∀ k : Int, M2 10 k = M 10 k := fun k => by rw [e 10 (by decide), zup_row (by decide)]
    have g11 : ∀ k : Int, M2 11 k = if k = n then v else M 11 k := fun k => by rw [e 11 (by decide)]; simp [zup]
    have g12 : ∀ k : Int, M2 12 k = M 12 k := fun k => by rw [e 12 (by decide), zup_row (by decide)]
    have g13 : ∀ k : Int, M2 13 k = M 13 k := fun k => by rw [e 13 (by decide), zup_row (by decide)]
    have g57 : ∀ k : Int, M2 57 k = if k = 32 + n then v else M 57 k := fun k => by rw [e57]; simp [zpu, zat]
    simp only [reduceIte, Int.reduceEq, false_and, or_false, false_or, true_and, and_true] at hm
    refine ⟨⟨fun x a b => ?_, fun x a b => ?_, ?_, ?_⟩, fun x a b => ?_, fun x a b => ?_, ?_, ?_⟩
    · have r := r1 x a b
      simp only [g1, g7, g8, g9, g10, g11, g12, g13, g57, g63, g64]
      repeat' (first | apply And.intro | split)
      all_goals omega
    · have r := r2 x a b
      simp only [g1, g7, g8, g9, g10, g11, g12, g13, g57, g63, g64]
      repeat' (first | apply And.intro | split)
      all_goals omega
    · simp only [g1, g7, g8, g9, g10, g11, g12, g13, g57, g63, g64]
      repeat' (first | apply And.intro | split)
      all_goals omega
    · simp only [g1, g7, g8, g9, g10, g11, g12, g13, g57, g63, g64]
      repeat' (first | apply And.intro | split)
      all_goals omega
    · have r := c1 x a b
      simp only [g1, g7, g8, g9, g10, g11, g12, g13, g57, g63, g64]
      repeat' (first | apply And.intro | split)
      all_goals omega
    · have r := c2 x a b
      simp only [g1, g7, g8, g9, g10, g11, g12, g13, g57, g63, g64]
      repeat' (first | apply And.intro | split)
      all_goals omega
    · simp only [g1, g7, g8, g9, g10, g11, g12, g13, g57, g63, g64]
      repeat' (first | apply And.intro | split)
      all_goals omega
    · simp only [g1, g7, g8, g9, g10, g11, g12, g13, g57, g63, g64]
      repeat' (first | apply And.intro | split)
      all_goals omega
  · have t : ztell M n 3 v = zup M 12 n v := by simp [ztell]
    rw [t] at e
    have g1 : ∀ k : Int, M2 1 k = M 1 k := fun k => by rw [e 1 (by decide), zup_row (by decide)]
    have g7 : ∀ k : Int, M2 7 k = M 7 k := fun k => by rw [e 7 (by decide), zup_row (by decide)]
    have g8 : ∀ k : Int, M2 8 k = M 8 k := fun k => by rw [e 8 (by decide), zup_row (by decide)]
    have g9 : ∀ k : Int, M2 9 k = M 9 k := fun k => by rw [e 9 (by decide), zup_row (by decide)]
    have g10 : ∀ k : Int, M2 10 k = M 10 k := fun k => by rw [e 10 (by decide), zup_row (by decide)]
    have g11 : ∀ k : Int, M2 11 k = M 11 k := fun k => by rw [e 11 (by decide), zup_row (by decide)]
    have g12 : ∀ k : Int, M2 12 k = if k = n then v else M 12 k := fun k => by rw [e 12 (by decide)]; simp [zup]
    have g13 : ∀ k : Int, M2 13 k = M 13 k := fun k => by rw [e 13 (by decide), zup_row (by decide)]
    have g57 : ∀ k : Int, M2 57 k = if k = 65 + n then v else M 57 k := fun k => by rw [e57]; simp [zpu, zat]
    simp only [reduceIte, Int.reduceEq, false_and, or_false, false_or, true_and, and_true] at hm
    refine ⟨⟨fun x a b => ?_, fun x a b => ?_, ?_, ?_⟩, fun x a b => ?_, fun x a b => ?_, ?_, ?_⟩
    · have r := r1 x a b
      simp only [g1, g7, g8, g9, g10, g11, g12, g13, g57, g63, g64]
      repeat' (first | apply And.intro | split)
      all_goals omega
    · have r := r2 x a b
      simp only [g1, g7, g8, g9, g10, g11, g12, g13, g57, g63, g64]
      repeat' (first | apply And.intro | split)
      all_goals omega
    · simp only [g1, g7, g8, g9, g10, g11, g12, g13, g57, g63, g64]
      repeat' (first | apply And.intro | split)
      all_goals omega
    · simp only [g1, g7, g8, g9, g10, g11, g12, g13, g57, g63, g64]
      repeat' (first | apply And.intro | split)
      all_goals omega
    · have r := c1 x a b
      simp only [g1, g7, g8, g9, g10, g11, g12, g13, g57, g63, g64]
      repeat' (first | apply And.intro | split)
      all_goals omega
    · have r := c2 x a b
      simp only [g1, g7, g8, g9, g10, g11, g12, g13, g57, g63, g64]
      repeat' (first | apply And.intro | split)
      all_goals omega
    · simp only [g1, g7, g8, g9, g10, g11, g12, g13, g57, g63, g64]
      repeat' (first | apply And.intro | split)
      all_goals omega
    · simp only [g1, g7, g8, g9, g10, g11, g12, g13, g57, g63, g64]
      repeat' (first | apply And.intro | split)
      all_goals omega
  · have t : ztell M n 4 v = zup M 13 n v := by simp [ztell]
    rw [t] at e
    have g1 : ∀ k : Int, M2 1 k = M 1 k := fun k => by rw [e 1 (by decide), zup_row (by decide)]
    have g7 : ∀ k : Int, M2 7 k = M 7 k := fun k => by rw [e 7 (by decide), zup_row (by decide)]
    have g8 : ∀ k : Int, M2 8 k = M 8 k := fun k => by rw [e 8 (by decide), zup_row (by decide)]
    have g9 : ∀ k : Int, M2 9 k = M 9 k := fun k => by rw [e 9 (by decide), zup_row (by decide)]
    have g10 : ∀ k : Int, M2 10 k = M 10 k := fun k => by rw [e 10 (by decide), zup_row (by decide)]
    have g11 : ∀ k : Int, M2 11 k = M 11 k := fun k => by rw [e 11 (by decide), zup_row (by decide)]
    have g12 : ∀ k : Int, M2 12 k = M 12 k := fun k => by rw [e 12 (by decide), zup_row (by decide)]
    have g13 : ∀ k : Int, M2 13 k = if k = n then v else M 13 k := fun k => by rw [e 13 (by decide)]; simp [zup]
    have g57 : ∀ k : Int, M2 57 k = if k = 98 + n then v else M 57 k := fun k => by rw [e57]; simp [zpu, zat]
    simp only [reduceIte, Int.reduceEq, false_and, or_false, false_or, true_and, and_true] at hm
    refine ⟨⟨fun x a b => ?_, fun x a b => ?_, ?_, ?_⟩, fun x a b => ?_, fun x a b => ?_, ?_, ?_⟩
    · have r := r1 x a b
      simp only [g1, g7, g8, g9, g10, g11, g12, g13, g57, g63, g64]
      repeat' (first | apply And.intro | split)
      all_goals omega
    · have r := r2 x a b
      simp only [g1, g7, g8, g9, g10, g11, g12, g13, g57, g63, g64]
      repeat' (first | apply And.intro | split)
      all_goals omega
    · simp only [g1, g7, g8, g9, g10, g11, g12, g13, g57, g63, g64]
      repeat' (first | apply And.intro | split)
      all_goals omega
    · simp only [g1, g7, g8, g9, g10, g11, g12, g13, g57, g63, g64]
      repeat' (first | apply And.intro | split)
      all_goals omega
    · have r := c1 x a b
      simp only [g1, g7, g8, g9, g10, g11, g12, g13, g57, g63, g64]
      repeat' (first | apply And.intro | split)
      all_goals omega
    · have r := c2 x a b
      simp only [g1, g7, g8, g9, g10, g11, g12, g13, g57, g63, g64]
      repeat' (first | apply And.intro | split)
      all_goals omega
    · simp only [g1, g7, g8, g9, g10, g11, g12, g13, g57, g63, g64]
      repeat' (first | apply And.intro | split)
      all_goals omega
    · simp only [g1, g7, g8, g9, g10, g11, g12, g13, g57, g63, g64]
      repeat' (first | apply And.intro | split)
      all_goals omega
  · have t : ztell M 0 5 v = zup M 1 12 v := by simp [ztell]
    rw [t] at e
    have g1 : ∀ k : Int, M2 1 k = if k = 12 then v else M 1 k := fun k => by rw [e 1 (by decide)]; simp [zup]
    have g7 : ∀ k : Int, M2 7 k = M 7 k := fun k => by rw [e 7 (by decide), zup_row (by decide)]
    have g8 : ∀ k : Int, M2 8 k = M 8 k := fun k => by rw [e 8 (by decide), zup_row (by decide)]
    have g9 : ∀ k : Int, M2 9 k = M 9 k := fun k => by rw [e 9 (by decide), zup_row (by decide)]
    have g10 : ∀ k : Int, M2 10 k = M 10 k := fun k => by rw [e 10 (by decide), zup_row (by decide)]
    have g11 : ∀ k : Int, M2 11 k = M 11 k := fun k => by rw [e 11 (by decide), zup_row (by decide)]
    have g12 : ∀ k : Int, M2 12 k = M 12 k := fun k => by rw [e 12 (by decide), zup_row (by decide)]
    have g13 : ∀ k : Int, M2 13 k = M 13 k := fun k => by rw [e 13 (by decide), zup_row (by decide)]
    have g57 : ∀ k : Int, M2 57 k = if k = 131 then v else M 57 k := fun k => by rw [e57]; simp [zpu, zat]
    simp only [reduceIte, Int.reduceEq, false_and, or_false, false_or, true_and, and_true] at hm
    refine ⟨⟨fun x a b => ?_, fun x a b => ?_, ?_, ?_⟩, fun x a b => ?_, fun x a b => ?_, ?_, ?_⟩
    · have r := r1 x a b
      simp only [g1, g7, g8, g9, g10, g11, g12, g13, g57, g63, g64]
      repeat' (first | apply And.intro | split)
      all_goals omega
    · have r := r2 x a b
      simp only [g1, g7, g8, g9, g10, g11, g12, g13, g57, g63, g64]
      repeat' (first | apply And.intro | split)
      all_goals omega
    · simp only [g1, g7, g8, g9, g10, g11, g12, g13, g57, g63, g64]
      repeat' (first | apply And.intro | split)
      all_goals omega
    · simp only [g1, g7, g8, g9, g10, g11, g12, g13, g57, g63, g64]
      repeat' (first | apply And.intro | split)
      all_goals omega
    · have r := c1 x a b
      simp only [g1, g7, g8, g9, g10, g11, g12, g13, g57, g63, g64]
      repeat' (first | apply And.intro | split)
      all_goals omega
    · have r := c2 x a b
      simp only [g1, g7, g8, g9, g10, g11, g12, g13, g57, g63, g64]
      repeat' (first | apply And.intro | split)
      all_goals omega
    · simp only [g1, g7, g8, g9, g10, g11, g12, g13, g57, g63, g64]
      repeat' (first | apply And.intro | split)
      all_goals omega
    · simp only [g1, g7, g8, g9, g10, g11, g12, g13, g57, g63, g64]
      repeat' (first | apply And.intro | split)
      all_goals omega
  · have t : ztell M 0 6 v = zup M 1 13 v := by simp [ztell]
    rw [t] at e
    have g1 : ∀ k : Int, M2 1 k = if k = 13 then v else M 1 k := fun k => by rw [e 1 (by decide)]; simp [zup]
    have g7 : ∀ k : Int, M2 7 k = M 7 k := fun k => by rw [e 7 (by decide), zup_row (by decide)]
    have g8 : ∀ k : Int, M2 8 k = M 8 k := fun k => by rw [e 8 (by decide), zup_row (by decide)]
    have g9 : ∀ k : Int, M2 9 k = M 9 k := fun k => by rw [e 9 (by decide), zup_row (by decide)]
    have g10 : ∀ k : Int, M2 10 k = M 10 k := fun k => by rw [e 10 (by decide), zup_row (by decide)]
    have g11 : ∀ k : Int, M2 11 k = M 11 k := fun k => by rw [e 11 (by decide), zup_row (by decide)]
    have g12 : ∀ k : Int, M2 12 k = M 12 k := fun k => by rw [e 12 (by decide), zup_row (by decide)]
    have g13 : ∀ k : Int, M2 13 k = M 13 k := fun k => by rw [e 13 (by decide), zup_row (by decide)]
    have g57 : ∀ k : Int, M2 57 k = if k = 132 then v else M 57 k := fun k => by rw [e57]; simp [zpu, zat]
    simp only [reduceIte, Int.reduceEq, false_and, or_false, false_or, true_and, and_true] at hm
    refine ⟨⟨fun x a b => ?_, fun x a b => ?_, ?_, ?_⟩, fun x a b => ?_, fun x a b => ?_, ?_, ?_⟩
    · have r := r1 x a b
      simp only [g1, g7, g8, g9, g10, g11, g12, g13, g57, g63, g64]
      repeat' (first | apply And.intro | split)
      all_goals omega
    · have r := r2 x a b
      simp only [g1, g7, g8, g9, g10, g11, g12, g13, g57, g63, g64]
      repeat' (first | apply And.intro | split)
      all_goals omega
    · simp only [g1, g7, g8, g9, g10, g11, g12, g13, g57, g63, g64]
      repeat' (first | apply And.intro | split)
      all_goals omega
    · simp only [g1, g7, g8, g9, g10, g11, g12, g13, g57, g63, g64]
      repeat' (first | apply And.intro | split)
      all_goals omega
    · have r := c1 x a b
      simp only [g1, g7, g8, g9, g10, g11, g12, g13, g57, g63, g64]
      repeat' (first | apply And.intro | split)
      all_goals omega
    · have r := c2 x a b
      simp only [g1, g7, g8, g9, g10, g11, g12, g13, g57, g63, g64]
      repeat' (first | apply And.intro | split)
      all_goals omega
    · simp only [g1, g7, g8, g9, g10, g11, g12, g13, g57, g63, g64]
      repeat' (first | apply And.intro | split)
      all_goals omega
    · simp only [g1, g7, g8, g9, g10, g11, g12, g13, g57, g63, g64]
      repeat' (first | apply And.intro | split)
      all_goals omega
theorem zYc.told {M : zMm} (h : zYc M) {n what : Int} (hk : zknown n what) : M 57 (zat n what) = ztold M n what ∧ zmay what (ztold M n what) := by
  obtain ⟨⟨r1, r2, r3, r4⟩, c1, c2, c3, c4⟩ := h
  unfold zknown at hk
  unfold zmay
  rcases hk with ⟨rfl, hn⟩ | ⟨rfl, hn⟩ | ⟨rfl, hn⟩ | ⟨rfl, hn⟩ | ⟨rfl, hn⟩ | ⟨rfl, rfl⟩ | ⟨rfl, rfl⟩
  · have a := c1 n hn.1 hn.2; have b := r1 n hn.1 hn.2; simp [zat, ztold]; omega
  · have a := c1 n hn.1 hn.2; have b := r1 n hn.1 hn.2; simp [zat, ztold]; omega
  · have a := c2 n hn.1 hn.2; have b := r2 n hn.1 hn.2; simp [zat, ztold]; omega
  · have a := c2 n hn.1 hn.2; have b := r2 n hn.1 hn.2; simp [zat, ztold]; omega
  · have a := c2 n hn.1 hn.2; have b := r2 n hn.1 hn.2; simp [zat, ztold]; omega
  · simp [zat, ztold]; omega
  · simp [zat, ztold]; omega
theorem ztell_row2 {M : zMm} {n what v c : Int} (hc : c ≠ 1 ∧ c ≠ 8 ∧ c ≠ 10 ∧ c ≠ 11 ∧ c ≠ 12 ∧ c ≠ 13) : ztell M n what v c = M c := by
  unfold ztell
  repeat' split
  all_goals rw [zup_row (by omega)]
theorem zrec_row {M : zMm} {n what was now c : Int} (hc : c < 37 ∨ 41 < c) : zrec M n what was now c = M c := by
  unfold zrec zrec1 zrec0
  split
  · repeat (rw [zup_row (by omega)])
  · repeat (first | rw [zup_row (by omega)] | rw [zcpy_row (by omega)])
/-- what the record says of row c (38 to 41) -/
theorem zrec_at {M : zMm} (h : 0 ≤ M 37 5 ∧ M 37 5 ≤ 40) (n what was now : Int) : (∀ k : Int, 0 ≤ k → k < (if M 37 5 = 40 then 39 else M 37 5) → ∀ c : Int, 38 ≤ c → c ≤ 41 → zrec M n what was now c k = if M 37 5 = 40 then M c (k + 1) else M c k) ∧ (zrec M n what was now 38 (if M 37 5 = 40 then 39 else M 37 5) = n ∧ zrec M n what was now 39 (if M 37 5 = 40 then 39 else M 37 5) = what ∧ zrec M n what was now 40 (if M 37 5 = 40 then 39 else M 37 5) = was ∧ zrec M n what was now 41 (if M 37 5 = 40 then 39 else M 37 5) = now) ∧ zrec M n what was now 37 5 = (if M 37 5 = 40 then 39 else M 37 5) + 1 ∧ zrec M n what was now 37 6 = (if M 37 5 = 40 then 39 else M 37 5) + 1 := by
  by_cases d : M 37 5 = 40
  · simp only [d, reduceIte]
    unfold zrec
    rw [if_neg (by omega)]
    refine ⟨fun k k0 k1 c c0 c1 => ?_, ?_, ?_, ?_⟩
    · have t : c = 38 ∨ c = 39 ∨ c = 40 ∨ c = 41 := by omega
      rcases t with rfl | rfl | rfl | rfl <;> simp [zrec1, zrec0, zup, zcpy, k0, k1, show k ≠ 39 by omega, Int.add_comm]
    · simp [zrec1, zup]
    · simp [zrec1, zup]
    · simp [zrec1, zup]
  · simp only [d, reduceIte]
    unfold zrec
    rw [if_pos (by omega)]
    refine ⟨fun k k0 k1 c c0 c1 => ?_, ?_, ?_, ?_⟩
    · have t : c = 38 ∨ c = 39 ∨ c = 40 ∨ c = 41 := by omega
      rcases t with rfl | rfl | rfl | rfl <;> simp [zrec1, zup, show k ≠ M 37 5 by omega]
    · simp [zrec1, zup]
    · simp [zrec1, zup]
    · simp [zrec1, zup]
set_option maxHeartbeats 4000000 in
theorem zK_mend {M : zMm} (hI : zI M) (n : Int) (k : Int) (v : Int) : zW mX9_mend 4 (fun rv S' M1 => S' = zS0 ∧ ∃ r : Int, rv = some (.inl r) ∧ zW mX10_mend 3 (fun rv2 S2 M2 => S2 = zS0 ∧ rv2 = some (.inl r) ∧ zI M2) (0, 0) zS0 0 (zargs 0 [.inr (.inr 56), .inl n, .inl k, .inl v]) [] M1) (0, 0) zS0 0 (zargs 0 [.inr (.inr 0), .inl n, .inl k, .inl v]) [] M := by
  have ix := hI.1
  have ic := hI.2.1
  have ih := hI.2.2.1
  have it := hI.2.2.2.1
  have il := hI.2.2.2.2.1
  have iw := hI.2.2.2.2.2.1
  have ii := hI.2.2.2.2.2.2.1
  have ib := hI.2.2.2.2.2.2.2.1
  have is := hI.2.2.2.2.2.2.2.2.1
  have ik := hI.2.2.2.2.2.2.2.2.2
  refine zW_mono (cX9_mend ix.1 ⟨ih.1.1, by have := ih.1.2.1; have := ih.1.2.2.1; omega⟩ n k v) fun rv S M1 h => ?_
  obtain ⟨rfl, h⟩ := h
  have h5 : 0 ≤ M 37 5 ∧ M 37 5 ≤ 40 := ⟨ih.1.1, by have := ih.1.2.1; have := ih.1.2.2.1; omega⟩
  rcases h with ⟨hf, rfl, rfl⟩ | ⟨hf, rfl, e1⟩
  · refine ⟨rfl, _, rfl, zW_mono (cX10_mend ix.1 (by rw [ih.2.1]; exact h5) n k v) fun rv S M2 h => ?_⟩
    obtain ⟨rfl, h⟩ := h
    rcases h with ⟨_, rfl, rfl⟩ | ⟨hg, _⟩
    · exact ⟨rfl, rfl, hI⟩
    · exact absurd hg hf
  · have kc : zKc M M1 := zKc.of fun c hc => by
      rw [e1]; split
      · rfl
      · rw [zrec_row (by omega), ztell_row2 (by omega)]
    have td := ic.told hf.1
    have e57 : M1 57 = M 57 := kc.1 57 (by decide)
    have e56 : M1 56 = M 56 := kc.1 56 (by decide)
    refine ⟨rfl, _, rfl, zW_mono (cX10_mend (kc.P ix.1) (by rw [e56, ih.2.1]; exact h5) n k v) fun rv S M2 h => ?_⟩
    obtain ⟨rfl, h⟩ := h
    rcases h with ⟨hg, _⟩ | ⟨_, rfl, h⟩
    · exact absurd hf hg
    refine ⟨rfl, zri (by rw [e57]; exact td.1), ?_⟩
    rw [e57, td.1] at h
    by_cases c : ztold M n k = v
    · rw [if_pos c] at e1
      subst e1
      rcases h with ⟨_, rfl⟩ | ⟨hg, _⟩
      · exact hI
      · exact absurd c hg
    · rw [if_neg c] at e1
      rcases h with ⟨hg, _⟩ | ⟨_, f57, f58, f59, f60, f56, fo⟩
      · exact absurd hg c
      have e58 : M1 58 = M 58 := kc.1 58 (by decide)
      have e59 : M1 59 = M 59 := kc.1 59 (by decide)
      have e60 : M1 60 = M 60 := kc.1 60 (by decide)
      have w5 : (ztell M n k v) 37 5 = M 37 5 := by rw [ztell_row2 (by decide)]
      have ra := zrec_at (M := ztell M n k v) (by rw [w5]; exact h5) n k (ztold M n k) v
      rw [w5, ← e1] at ra
      have zr : zrn M1 = (if M 37 5 = 40 then 39 else M 37 5) := by unfold zrn; rw [e56, ih.2.1]
      rw [zr] at f58 f59 f60 f56
      rw [e58, e56, ih.2.1] at f58
      rw [e59, e57, e56, ih.2.1, td.1] at f59
      rw [e60, e56, ih.2.1] at f60
      rw [e57] at f57
      obtain ⟨ra1, ⟨ra2, ra3, ra4, ra5⟩, ra6, ra7⟩ := ra
      have o1 : ∀ c : Int, c < 56 → M2 c = M1 c := fun c hc => fo c (Or.inl hc)
      generalize hr : (if M 37 5 = 40 then 39 else M 37 5) = r at *
      have r0 : 0 ≤ r ∧ r < 40 ∧ (M 37 5 = 40 → r = 39) ∧ (M 37 5 ≠ 40 → r = M 37 5) := by split at hr <;> omega
      have hl := ih.1.2.1
      have hl2 := ih.1.2.2.1
      refine hI.go (L := [1, 8, 10, 11, 12, 13, 37, 38, 39, 40, 41, 57, 58, 59, 60]) (J := [4, 5]) (fun c hc => by simp only [List.mem_cons, List.not_mem_nil, not_or, or_false, not_false_eq_true, and_true, true_and] at hc; rw [fo c (by omega), e1, zrec_row (by omega), ztell_row2 (by omega)]) (fun j hc => by simp only [List.mem_cons, List.not_mem_nil, not_or, or_false, not_false_eq_true, and_true, true_and] at hc; rw [f56 j, if_neg (by omega), e56]) (uc := Or.inr ?_) (uh := Or.inr ⟨⟨?_, ?_, ?_, fun j j0 j1 => ?_⟩, ?_, ?_, fun j j0 j1 => ?_⟩)
      · refine ic.tell hf (fun c hc => ?_) f57 ((fo 63 (by decide)).trans (kc.1 63 (by decide))) ((fo 64 (by decide)).trans (kc.1 64 (by decide)))
        have c56 : c < 37 := by revert c; decide
        rw [o1 c (by omega), e1, zrec_row (by omega)]
      · rw [o1 37 (by decide), ra6]; omega
      · rw [o1 37 (by decide), ra6, ra7]; omega
      · rw [o1 37 (by decide), ra7]; omega
      · rw [o1 38 (by decide), o1 39 (by decide)]
        rw [o1 37 (by decide), ra7] at j1
        by_cases q : j = r
        · subst q; rw [ra2, ra3]; exact hf.1
        · rw [ra1 j j0 (by omega) 38 (by decide) (by decide), ra1 j j0 (by omega) 39 (by decide) (by decide), ztell_row2 (by decide), ztell_row2 (by decide)]
          split
          · exact ih.1.2.2.2 (j + 1) (by omega) (by omega)
          · exact ih.1.2.2.2 j (by omega) (by omega)
      · rw [f56 5, if_pos (Or.inl rfl), o1 37 (by decide), ra6]
      · rw [f56 4, if_pos (Or.inr rfl), o1 37 (by decide), ra7]
      · rw [o1 37 (by decide), ra7] at j1
        rw [o1 38 (by decide), o1 39 (by decide), o1 40 (by decide), o1 41 (by decide), f58, f59, f60]
        by_cases q : j = r
        · subst q
          rw [zpu_s, zpu_s, zpu_s, ra2, ra3, ra4, ra5]
          exact ⟨⟨rfl, rfl, rfl⟩, td.2, hf.2⟩
        · rw [zpu_n q, zpu_n q, zpu_n q, ra1 j j0 (by omega) 38 (by decide) (by decide), ra1 j j0 (by omega) 39 (by decide) (by decide), ra1 j j0 (by omega) 40 (by decide) (by decide), ra1 j j0 (by omega) 41 (by decide) (by decide), ztell_row2 (by decide), ztell_row2 (by decide), ztell_row2 (by decide), ztell_row2 (by decide)]
          unfold zsh
          by_cases d : M 37 5 = 40
          · rw [if_pos d, if_pos d, if_pos d, if_pos d, if_pos ⟨d, j0, by omega⟩, if_pos ⟨d, j0, by omega⟩, if_pos ⟨d, j0, by omega⟩]
            exact ih.2.2.2 (j + 1) (by omega) (by omega)
          · rw [if_neg d, if_neg d, if_neg d, if_neg d, if_neg (fun x => d x.1), if_neg (fun x => d x.1), if_neg (fun x => d x.1)]
            exact ih.2.2.2 j (by omega) (by omega)
