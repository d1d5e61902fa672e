/-! behind both constructors the coupling holds -/
def zpl0 : List (Int × Int × Int) := [((-10), 0, 1), ((-10), 1, 14), ((-10), 2, 21), ((-10), 3, 27), ((-10), 4, 31), ((-10), 5, 34), ((-10), 6, 37), ((-10), 7, 42), ((-10), 8, 45)]
def zpl1 : List (Int × Int × Int) := [((-11), 0, 2), ((-11), 1, 3), ((-11), 2, 4), ((-11), 3, 5), ((-11), 4, 6), ((-11), 5, 7), ((-11), 6, 8), ((-11), 7, 9), ((-11), 8, 10), ((-11), 9, 11), ((-11), 10, 12), ((-11), 11, 13), (1, 12, 2), (1, 13, 30)]
def zpl2 : List (Int × Int × Int) := [((-24), 0, 15), (14, 1, 0), (14, 2, 0), (14, 3, 0), ((-24), 4, 16), ((-24), 5, 17), (14, 6, 0), ((-24), 7, 18), ((-24), 8, 19), (14, 9, 0), ((-24), 10, 20)]
def zpl3 : List (Int × Int × Int) := [((-31), 0, 1), ((-31), 1, 14), ((-31), 2, 22), ((-31), 3, 23), ((-31), 4, 24), ((-31), 5, 25), ((-31), 6, 26), (21, 7, 0)]
def zpl4 : List (Int × Int × Int) := [((-37), 0, 1), ((-37), 1, 28), ((-37), 2, 29), ((-37), 3, 30)]
def zpl5 : List (Int × Int × Int) := [((-41), 0, 1), ((-41), 1, 32), ((-41), 2, 33)]
def zpl6 : List (Int × Int × Int) := [((-44), 0, 1), ((-44), 1, 35), ((-44), 2, 36), (34, 3, 0)]
def zpl7 : List (Int × Int × Int) := [((-47), 0, 1), ((-47), 1, 38), ((-47), 2, 39), ((-47), 3, 40), ((-47), 4, 41), (37, 5, 0), (37, 6, 0)]
def zpl8 : List (Int × Int × Int) := [((-52), 0, 43), (42, 1, 0), ((-52), 2, 44), (42, 3, 0), (42, 4, 0)]
def zpl9 : List (Int × Int × Int) := [((-55), 0, 46), ((-55), 1, 47), ((-55), 2, 48), ((-55), 3, 49), ((-59), 0, 50), ((-59), 1, 51), ((-59), 2, 52), ((-59), 3, 53), ((-59), 4, 54), ((-59), 5, 55)]
def zpla : List (Int × Int × Int) := zpl0 ++ (zpl1 ++ (zpl2 ++ (zpl3 ++ (zpl4 ++ (zpl5 ++ (zpl6 ++ (zpl7 ++ (zpl8 ++ (zpl9 ++ zd10)))))))))
theorem zpla_ok : ∀ q ∈ ztab, q ∈ zpla := by decide +kernel
theorem zPt.app {a b : List (Int × Int × Int)} {M : zMm} (ha : zPt a M) (hb : zPt b M) : zPt (a ++ b) M := fun q hq => (List.mem_append.mp hq).elim (ha q) (hb q)
/-- the script of L ints, and the two tables of acts -/
def zM0 (L : Nat) (xs : Nat → Int32) : zMm := fun r k => if r = -2 then (if k = -1 then (L : Int) else (xs k.toNat).toInt) else if r = -3 then (if k = -1 then 8 else zabv k) else if r = -4 then (if k = -1 then 32 else zbod k) else 0
set_option maxHeartbeats 4000000 in
theorem zstart_I {M0 M1 M3 : zMm} (h3 : M0 (-3) (-1) = 8 ∧ M0 (-4) (-1) = 32 ∧ (∀ k : Int, 0 ≤ k → k < 8 → M0 (-3) k = zabv k) ∧ ∀ k : Int, 0 ≤ k → k < 32 → M0 (-4) k = zbod k) (h9 : zX9 (znew M0 0) M1) (f10 : zFk 56 (znew M1 56) M3) (p10 : zPt zd10 M3) (z10 : zZr [58, 59, 60, 65, 66, 67, 68, 69, 70, 71, 72, 73, 74, 75, 76, 77, 78, 79, 81, 82, 83] M3) (g10 : zGr M3) (s10 : ∀ k : Int, 0 ≤ k → k < 6 → M3 80 k = -1) (t10 : M3 56 14 = -1) (o10 : ∀ j : Int, j ≠ 6 → j ≠ 14 → M3 56 j = 0) (h10 : ∀ h : Int, 0 ≤ h → h < 16 → M3 57 (16 + h) = 4 ∧ M3 63 h = 20 ∧ M3 64 h = 1) (w10 : ∀ w : Int, 0 ≤ w → w < 33 → M3 57 (32 + w) = 3) (c10 : M3 57 131 = 2) (b10 : M3 57 132 = 30) (r10 : ∀ k : Int, k < 16 ∨ 65 ≤ k → k ≠ 131 → k ≠ 132 → M3 57 k = 0) : zI M3 := by
  obtain ⟨f0, p0, g0, hh, ww, kk, p1, z0, p2, z1, p3, z2, p4, z3, p5, z4, p6, z5, p7, z6, p8, z7, p9, z8⟩ := h9
  have e : ∀ c : Int, -66 < c → c < 56 → M3 c = M1 c := fun c a b => by rw [f10 c (by omega) b, znew_row (by omega) (by omega)]
  have p0 : zPt zpl0 M3 := fun q hq => by
    have t : ∀ q ∈ zpl0, -66 < q.1 ∧ q.1 < 56 := by decide
    rw [e q.1 (t q hq).1 (t q hq).2]; exact p0 q hq
  have p1 : zPt zpl1 M3 := fun q hq => by
    have t : ∀ q ∈ zpl1, -66 < q.1 ∧ q.1 < 56 := by decide
    rw [e q.1 (t q hq).1 (t q hq).2]; exact p1 q hq
  have p2 : zPt zpl2 M3 := fun q hq => by
    have t : ∀ q ∈ zpl2, -66 < q.1 ∧ q.1 < 56 := by decide
    rw [e q.1 (t q hq).1 (t q hq).2]; exact p2 q hq
  have p3 : zPt zpl3 M3 := fun q hq => by
    have t : ∀ q ∈ zpl3, -66 < q.1 ∧ q.1 < 56 := by decide
    rw [e q.1 (t q hq).1 (t q hq).2]; exact p3 q hq
  have p4 : zPt zpl4 M3 := fun q hq => by
    have t : ∀ q ∈ zpl4, -66 < q.1 ∧ q.1 < 56 := by decide
    rw [e q.1 (t q hq).1 (t q hq).2]; exact p4 q hq
  have p5 : zPt zpl5 M3 := fun q hq => by
    have t : ∀ q ∈ zpl5, -66 < q.1 ∧ q.1 < 56 := by decide
    rw [e q.1 (t q hq).1 (t q hq).2]; exact p5 q hq
  have p6 : zPt zpl6 M3 := fun q hq => by
    have t : ∀ q ∈ zpl6, -66 < q.1 ∧ q.1 < 56 := by decide
    rw [e q.1 (t q hq).1 (t q hq).2]; exact p6 q hq
  have p7 : zPt zpl7 M3 := fun q hq => by
    have t : ∀ q ∈ zpl7, -66 < q.1 ∧ q.1 < 56 := by decide
    rw [e q.1 (t q hq).1 (t q hq).2]; exact p7 q hq
  have p8 : zPt zpl8 M3 := fun q hq => by
    have t : ∀ q ∈ zpl8, -66 < q.1 ∧ q.1 < 56 := by decide
    rw [e q.1 (t q hq).1 (t q hq).2]; exact p8 q hq
  have p9 : zPt zpl9 M3 := fun q hq => by
    have t : ∀ q ∈ zpl9, -66 < q.1 ∧ q.1 < 56 := by decide
    rw [e q.1 (t q hq).1 (t q hq).2]; exact p9 q hq
  have z0 : zZr [8, 12, 13] M3 := fun q hq j => by
    have t : ∀ q ∈ ([8, 12, 13] : List Int), -66 < q ∧ q < 56 := by decide
    rw [e q (t q hq).1 (t q hq).2]; exact z0 q hq j
  have z1 : zZr [15, 16, 17, 18, 19, 20] M3 := fun q hq j => by
    have t : ∀ q ∈ ([15, 16, 17, 18, 19, 20] : List Int), -66 < q ∧ q < 56 := by decide
    rw [e q (t q hq).1 (t q hq).2]; exact z1 q hq j
  have z2 : zZr [22, 23, 24, 25, 26] M3 := fun q hq j => by
    have t : ∀ q ∈ ([22, 23, 24, 25, 26] : List Int), -66 < q ∧ q < 56 := by decide
    rw [e q (t q hq).1 (t q hq).2]; exact z2 q hq j
  have z3 : zZr [28, 29, 30] M3 := fun q hq j => by
    have t : ∀ q ∈ ([28, 29, 30] : List Int), -66 < q ∧ q < 56 := by decide
    rw [e q (t q hq).1 (t q hq).2]; exact z3 q hq j
  have z4 : zZr [32, 33] M3 := fun q hq j => by
    have t : ∀ q ∈ ([32, 33] : List Int), -66 < q ∧ q < 56 := by decide
    rw [e q (t q hq).1 (t q hq).2]; exact z4 q hq j
  have z5 : zZr [35, 36] M3 := fun q hq j => by
    have t : ∀ q ∈ ([35, 36] : List Int), -66 < q ∧ q < 56 := by decide
    rw [e q (t q hq).1 (t q hq).2]; exact z5 q hq j
  have z6 : zZr [38, 39, 40, 41] M3 := fun q hq j => by
    have t : ∀ q ∈ ([38, 39, 40, 41] : List Int), -66 < q ∧ q < 56 := by decide
    rw [e q (t q hq).1 (t q hq).2]; exact z6 q hq j
  have z7 : zZr [43, 44] M3 := fun q hq j => by
    have t : ∀ q ∈ ([43, 44] : List Int), -66 < q ∧ q < 56 := by decide
    rw [e q (t q hq).1 (t q hq).2]; exact z7 q hq j
  have z8 : zZr [47, 48, 50, 51, 52, 53, 54, 55] M3 := fun q hq j => by
    have t : ∀ q ∈ ([47, 48, 50, 51, 52, 53, 54, 55] : List Int), -66 < q ∧ q < 56 := by decide
    rw [e q (t q hq).1 (t q hq).2]; exact z8 q hq j
  have P : zP M3 := fun q hq => (zPt.app p0 (zPt.app p1 (zPt.app p2 (zPt.app p3 (zPt.app p4 (zPt.app p5 (zPt.app p6 (zPt.app p7 (zPt.app p8 (zPt.app p9 p10)))))))))) q (zpla_ok q hq)
  have s3 : M3 (-3) = M0 (-3) := by rw [e (-3) (by decide) (by decide), f0 (-3) (by decide) (by decide), znew_row (by decide) (by decide)]
  have s4 : M3 (-4) = M0 (-4) := by rw [e (-4) (by decide) (by decide), f0 (-4) (by decide) (by decide), znew_row (by decide) (by decide)]
  have n7 : ∀ h : Int, 0 ≤ h → h < 16 → M3 7 h = 1 ∧ M3 9 h = 20 ∧ M3 10 h = 4 := fun h a b => by rw [e 7 (by decide) (by decide), e 9 (by decide) (by decide), e 10 (by decide) (by decide)]; exact hh h a b
  have n11 : ∀ w : Int, 0 ≤ w → w < 33 → M3 11 w = 3 := fun w a b => by rw [e 11 (by decide) (by decide)]; exact ww w a b
  have n46 : ∀ k : Int, 0 ≤ k → k < 6 → M3 46 k = -1 := fun w a b => by rw [e 46 (by decide) (by decide)]; exact kk w a b
  have e112 : M3 1 12 = 2 := (p1 (1, 12, 2) (by decide))
  have e113 : M3 1 13 = 30 := (p1 (1, 13, 30) (by decide))
  refine ⟨⟨P, ?_, zG_of g0 fun c a b => e c (by omega) (by omega), g10⟩, ⟨⟨fun h a b => ?_, fun w a b => ?_, ?_, ?_⟩, fun h a b => ?_, fun w a b => ?_, ?_, ?_⟩, ⟨⟨?_, ?_, ?_, fun k a b => ?_⟩, ?_, ?_, fun k a b => ?_⟩, ⟨?_, ?_, fun i a b => ?_⟩, ⟨16, ⟨⟨Or.inl rfl, ?_, ?_, ?_, ?_⟩, ?_, fun i a b => ?_⟩, fun i a b => ?_, Or.inl t10, Or.inl ⟨?_, t10⟩⟩, ⟨?_, fun w a b => ?_⟩, ⟨fun h a b => ?_, ?_, fun h a b => ?_⟩, ⟨⟨?_, ?_, fun i a b => ?_⟩, ⟨?_, ?_, fun i a b => ?_⟩, ?_, ?_, fun i a b => ?_, fun i a b c => ?_⟩, ⟨fun s a b => ?_, fun s a b => ?_, fun s a b => ?_⟩, fun s a b c => ?_⟩
  · unfold zSx; rw [s3, s4]; exact h3
  · have t := n7 h a b; rw [t.1, t.2.1, t.2.2, (z0 8 (by decide) h)]; decide
  · rw [n11 w a b, (z0 12 (by decide) w), (z0 13 (by decide) w)]; decide
  · rw [e112]; decide
  · rw [e113]; decide
  · have t := n7 h a b; have u := h10 h a b; rw [t.1, t.2.1, t.2.2, u.1, u.2.1, u.2.2, (z0 8 (by decide) h), r10 h (Or.inl b) (by omega) (by omega)]; exact ⟨rfl, rfl, rfl, rfl⟩
  · rw [n11 w a b, (z0 12 (by decide) w), (z0 13 (by decide) w), w10 w a b, r10 (65 + w) (Or.inr (by omega)) (by omega) (by omega), r10 (98 + w) (Or.inr (by omega)) (by omega) (by omega)]; exact ⟨rfl, rfl, rfl⟩
  · rw [c10, e112]
  · rw [b10, e113]
  · rw [(p7 (37, 5, 0) (by decide))]; decide
  · rw [(p7 (37, 5, 0) (by decide)), (p7 (37, 6, 0) (by decide))]; decide
  · rw [(p7 (37, 6, 0) (by decide))]; decide
  · rw [(p7 (37, 6, 0) (by decide))] at b; dsimp only at b; omega
  · rw [o10 5 (by decide) (by decide), (p7 (37, 5, 0) (by decide))]
  · rw [o10 4 (by decide) (by decide), (p7 (37, 6, 0) (by decide))]
  · rw [(p7 (37, 6, 0) (by decide))] at b; dsimp only at b; omega
  · rw [(p2 (14, 1, 0) (by decide))]; decide
  · rw [o10 12 (by decide) (by decide), (p2 (14, 1, 0) (by decide))]
  · rw [(p2 (14, 1, 0) (by decide))] at b; dsimp only at b; omega
  · rw [(p2 ((-24), 4, 16) (by decide))]
  · rw [(p2 ((-24), 5, 17) (by decide))]; rfl
  · rw [(p2 ((-24), 7, 18) (by decide))]; rfl
  · rw [(p2 ((-24), 8, 19) (by decide))]; rfl
  · rw [(p2 (14, 6, 0) (by decide))]; decide
  · rw [show (16 : Int) + 1 = 17 from rfl, (z1 17 (by decide) i)]; decide
  · rw [show (35 : Int) - 16 = 19 from rfl, (z1 19 (by decide) i)]; decide
  · exact (p2 (14, 6, 0) (by decide))
  · rw [o10 25 (by decide) (by decide), (p3 (21, 7, 0) (by decide))]
  · rw [(z10 72 (by decide) w), (z2 26 (by decide) w)]
  · rw [(z5 35 (by decide) h), (z5 36 (by decide) h)]; decide
  · rw [o10 31 (by decide) (by decide), (p6 (34, 3, 0) (by decide))]
  · rw [(z10 76 (by decide) h), (z5 35 (by decide) h), (z10 77 (by decide) h), (z5 36 (by decide) h)]; exact ⟨rfl, rfl⟩
  · rw [(p8 (42, 1, 0) (by decide))]; decide
  · rw [(p8 (42, 3, 0) (by decide))]; decide
  · rw [(z7 43 (by decide) i)]; decide
  · rw [o10 34 (by decide) (by decide)]; decide
  · rw [o10 37 (by decide) (by decide)]; decide
  · rw [(z10 78 (by decide) i)]; decide
  · rw [o10 34 (by decide) (by decide), (p8 (42, 1, 0) (by decide))]
  · rw [o10 37 (by decide) (by decide), (p8 (42, 3, 0) (by decide))]
  · rw [(z10 78 (by decide) i), (z7 43 (by decide) i)]
  · rw [(p8 (42, 3, 0) (by decide))] at c; dsimp only at c; omega
  · rw [n46 s a b, (z8 48 (by decide) s)]; decide
  · rw [s10 s a b, (z10 81 (by decide) s)]; decide
  · refine ⟨Or.inl ⟨n46 s a b, s10 s a b⟩, by rw [(z10 81 (by decide) s), (z8 48 (by decide) s)], fun i x y => ?_⟩
    have q : s = 0 ∨ s = 1 ∨ s = 2 ∨ s = 3 ∨ s = 4 ∨ s = 5 := by omega
    rw [(z10 82 (by decide) (60 * s + i))]
    rcases q with rfl | rfl | rfl | rfl | rfl | rfl
    · exact (z8 50 (by decide) i).symm
    · exact (z8 51 (by decide) i).symm
    · exact (z8 52 (by decide) i).symm
    · exact (z8 53 (by decide) i).symm
    · exact (z8 54 (by decide) i).symm
    · exact (z8 55 (by decide) i).symm
  · rw [n46 s a b] at c; omega
