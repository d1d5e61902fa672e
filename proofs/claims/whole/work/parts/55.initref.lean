/-! the constructor of the reference -/
theorem zbsd_iff (a b : Int) : (zbsd a b = 1 ∧ ((a / 4 = b / 4 ∧ (b % 4 - a % 4 = 1 ∨ b % 4 - a % 4 = -1)) ∨ ((b / 4 - a / 4 = 1 ∨ b / 4 - a / 4 = -1) ∧ (b % 4 = a % 4 ∨ (a / 4 % 2 = 0 ∧ b % 4 = a % 4 - 1) ∨ (a / 4 % 2 ≠ 0 ∧ b % 4 = a % 4 + 1))))) ∨ (zbsd a b = 0 ∧ ¬ ((a / 4 = b / 4 ∧ (b % 4 - a % 4 = 1 ∨ b % 4 - a % 4 = -1)) ∨ ((b / 4 - a / 4 = 1 ∨ b / 4 - a / 4 = -1) ∧ (b % 4 = a % 4 ∨ (a / 4 % 2 = 0 ∧ b % 4 = a % 4 - 1) ∨ (a / 4 % 2 ≠ 0 ∧ b % 4 = a % 4 + 1))))) := by
  unfold zbsd
  omega
def zd10 : List (Int × Int × Int) := [((-66), 0, 57), ((-66), 1, 58), ((-66), 2, 59), ((-66), 3, 60), ((-66), 7, 61), ((-66), 8, 62), ((-66), 9, 63), ((-66), 10, 64), ((-66), 11, 65), ((-66), 13, 66), ((-66), 20, 67), ((-66), 21, 68), ((-66), 22, 69), ((-66), 23, 70), ((-66), 24, 71), ((-66), 26, 72), ((-66), 27, 73), ((-66), 28, 74), ((-66), 30, 75), ((-66), 32, 76), ((-66), 33, 77), ((-66), 35, 78), ((-66), 36, 79), ((-66), 40, 80), ((-66), 41, 81), ((-66), 42, 82), ((-66), 43, 83)]
def zD10 (M : zMm) : Prop := zPt zd10 M
theorem zD10_of {M M' : zMm} (h : zD10 M) (e : ∀ c : Int, c < 0 → M' c = M c) : zD10 M' := fun q hq => by
  have hn : ∀ q ∈ zd10, q.1 < 0 := by decide
  rw [e q.1 (hn q hq)]
  exact h q hq
theorem zD10_up {M : zMm} {c k v : Int} (h : zD10 M) (hc : 0 ≤ c) : zD10 (zup M c k v) := zD10_of h fun x hx => zup_row (by omega)
def zI10 (MB M2 : zMm) (a w : Int) : Prop := M2 56 6 = w ∧ (∀ c : Int, c ≠ 56 → c ≠ 57 → c ≠ 61 → c ≠ 62 → c ≠ 63 → c ≠ 64 → M2 c = MB c) ∧ (∀ j : Int, j ≠ 6 → M2 56 j = MB 56 j) ∧ (∀ v : Int, 0 ≤ v → v < w → M2 61 v = zlow v ∧ M2 62 v = zhigh v) ∧ (∀ k : Int, 0 ≤ k → k < a → M2 57 (16 + k) = 4 ∧ M2 63 k = 20 ∧ M2 64 k = 1) ∧ (∀ k : Int, k < 16 ∨ 32 ≤ k → M2 57 k = MB 57 k)
theorem zI10.D {MB M2 : zMm} {a w : Int} (h : zI10 MB M2 a w) (hP : zD10 MB) : zD10 M2 := zD10_of hP fun c hc => h.2.1 c (by omega) (by omega) (by omega) (by omega) (by omega) (by omega)
theorem zI10.wall {MB M2 : zMm} {a w : Int} (h : zI10 MB M2 a w) {x y : Int} (hx : zlow w = x) (hy : zhigh w = y) : zI10 MB (zup (zup (zup M2 61 w x) 62 w y) 56 6 (w + 1)) a (w + 1) := by
  refine ⟨zup_self _ _ _ _, fun c c1 c2 c3 c4 c5 c6 => ?_, fun j hj => ?_, fun v v0 v1 => ?_, fun k k0 k1 => ?_, fun k hk => ?_⟩
  · rw [zup_row c1, zup_row c4, zup_row c3]; exact h.2.1 c c1 c2 c3 c4 c5 c6
  · rw [zup_ne hj, zup_row (by decide), zup_row (by decide)]; exact h.2.2.1 j hj
  · rw [zup_row (c' := 61) (by decide), zup_row (c' := 61) (by decide), zup_row (c' := 62) (by decide)]
    by_cases e : v = w
    · subst e; rw [zup_self, zup_self]; exact ⟨hx.symm, hy.symm⟩
    · rw [zup_ne e, zup_ne e, zup_row (by decide)]; exact h.2.2.2.1 v v0 (by omega)
  · rw [zup_row (c' := 57) (by decide), zup_row (c' := 57) (by decide), zup_row (c' := 57) (by decide), zup_row (c' := 63) (by decide), zup_row (c' := 63) (by decide), zup_row (c' := 63) (by decide), zup_row (c' := 64) (by decide), zup_row (c' := 64) (by decide), zup_row (c' := 64) (by decide)]
    exact h.2.2.2.2.1 k k0 k1
  · rw [zup_row (by decide), zup_row (by decide), zup_row (by decide)]; exact h.2.2.2.2.2 k hk
theorem zI10.house {MB M2 : zMm} {a w w' : Int} (h : zI10 MB M2 a w) (ha : 0 ≤ a ∧ a < 16) (hw : w = w') : zI10 MB (zup (zup (zup M2 57 (16 + a) 4) 63 a 20) 64 a 1) (a + 1) w' := by
  subst hw
  refine ⟨?_, fun c c1 c2 c3 c4 c5 c6 => ?_, fun j hj => ?_, fun v v0 v1 => ?_, fun k k0 k1 => ?_, fun k hk => ?_⟩
  · rw [zup_row (by decide), zup_row (by decide), zup_row (by decide)]; exact h.1
  · rw [zup_row c6, zup_row c5, zup_row c2]; exact h.2.1 c c1 c2 c3 c4 c5 c6
  · rw [zup_row (by decide), zup_row (by decide), zup_row (by decide)]; exact h.2.2.1 j hj
  · rw [zup_row (c' := 61) (by decide), zup_row (c' := 61) (by decide), zup_row (c' := 61) (by decide), zup_row (c' := 62) (by decide), zup_row (c' := 62) (by decide), zup_row (c' := 62) (by decide)]
    exact h.2.2.2.1 v v0 v1
  · rw [zup_row (c' := 57) (by decide), zup_row (c' := 57) (by decide), zup_row (c' := 63) (by decide)]
    by_cases e : k = a
    · subst e; rw [zup_self, zup_self, zup_self]; exact ⟨rfl, rfl, rfl⟩
    · rw [zup_ne (by omega), zup_ne e, zup_ne e, zup_row (by decide), zup_row (c' := 64) (by decide), zup_row (c' := 64) (by decide)]
      exact h.2.2.2.2.1 k k0 (by omega)
  · rw [zup_row (by decide), zup_row (by decide), zup_ne (by omega)]; exact h.2.2.2.2.2 k hk
set_option maxHeartbeats 4000000 in
theorem cX10_areNeighbours2 {M : zMm} (a b : Int) (ha : 0 ≤ a ∧ a < 16) (hb : 0 ≤ b ∧ b < 16) : zW mX10_areNeighbours 1 (fun rv S' M' => S' = zS0.take 84 ∧ M = M' ∧ rv = some (.inl (zbsd a b))) (0, 0) (zS0.take 84) 0 (zargs 0 [.inl a, .inl b]) [] M := by
  change zW _ _ _ _ _ 0 [(0, .inl a), (1, .inl b)] [] M
  refine z_iload_n 0 (zdec DX10_areNeighbours 0 rfl) rfl rfl ?_
  refine z_iconst 4 (zdec DX10_areNeighbours 1 rfl) (by decide) ?_
  refine z_idivp (zdec DX10_areNeighbours 2 rfl) (by omega) (by omega) ?_
  refine z_iload_n 1 (zdec DX10_areNeighbours 3 rfl) rfl rfl ?_
  refine z_iconst 4 (zdec DX10_areNeighbours 4 rfl) (by decide) ?_
  refine z_idivp (zdec DX10_areNeighbours 5 rfl) (by omega) (by omega) ?_
  refine z_isub (zdec DX10_areNeighbours 6 rfl) (by unfold z32; omega) ?_
  refine z_istore_n (L' := [(0, .inl a), (1, .inl b), (2, .inl ((a / 4) - (b / 4)))]) (zdec DX10_areNeighbours 7 rfl) rfl rfl (by decide) ?_
  refine z_iload_n 1 (zdec DX10_areNeighbours 8 rfl) rfl rfl ?_
  refine z_iconst 4 (zdec DX10_areNeighbours 9 rfl) (by decide) ?_
  refine z_iremp (zdec DX10_areNeighbours 10 rfl) (by omega) (by omega) ?_
  refine z_iload_n 0 (zdec DX10_areNeighbours 11 rfl) rfl rfl ?_
  refine z_iconst 4 (zdec DX10_areNeighbours 12 rfl) (by decide) ?_
  refine z_iremp (zdec DX10_areNeighbours 13 rfl) (by omega) (by omega) ?_
  refine z_isub (zdec DX10_areNeighbours 14 rfl) (by unfold z32; omega) ?_
  refine z_istore_n (L' := [(0, .inl a), (1, .inl b), (2, .inl ((a / 4) - (b / 4))), (3, .inl ((b % 4) - (a % 4)))]) (zdec DX10_areNeighbours 15 rfl) rfl rfl (by decide) ?_
  refine z_iload_n 2 (zdec DX10_areNeighbours 16 rfl) rfl rfl ?_
  refine z_if_ne 36 (zdec DX10_areNeighbours 17 rfl) rfl (fun h17 => ?_) (fun h17 => ?_)
  ·
    refine z_iload_n 0 (zdec DX10_areNeighbours 28 rfl) rfl rfl ?_
    refine z_iconst 4 (zdec DX10_areNeighbours 29 rfl) (by decide) ?_
    refine z_idivp (zdec DX10_areNeighbours 30 rfl) (by omega) (by omega) ?_
    refine z_iconst 2 (zdec DX10_areNeighbours 31 rfl) (by decide) ?_
    refine z_iremp (zdec DX10_areNeighbours 32 rfl) (by omega) (by omega) ?_
    refine z_if_ne 48 (zdec DX10_areNeighbours 33 rfl) rfl (fun h41 => ?_) (fun h41 => ?_)
    ·
      refine z_iconst 1 (zdec DX10_areNeighbours 36 rfl) (by decide) ?_
      refine z_istore (L' := [(0, .inl a), (1, .inl b), (2, .inl ((a / 4) - (b / 4))), (3, .inl ((b % 4) - (a % 4))), (4, .inl 1)]) (zdec DX10_areNeighbours 37 rfl) rfl (by decide) ?_
      refine z_iload_n 2 (zdec DX10_areNeighbours 38 rfl) rfl rfl ?_
      refine z_iconst 1 (zdec DX10_areNeighbours 39 rfl) (by decide) ?_
      refine z_icmp_eq 61 (zdec DX10_areNeighbours 40 rfl) rfl (fun h53 => ?_) (fun h53 => ?_)
      ·
        refine z_iload_n 3 (zdec DX10_areNeighbours 44 rfl) rfl rfl ?_
        refine z_if_eq 71 (zdec DX10_areNeighbours 45 rfl) rfl (fun h62 => ?_) (fun h62 => ?_)
        ·
          refine z_iconst 1 (zdec DX10_areNeighbours 49 rfl) (by decide) ?_
          refine z_goto 76 (zdec DX10_areNeighbours 50 rfl) rfl ?_
          exact z_zret (zdec DX10_areNeighbours 52 rfl) rfl (by omega) (⟨rfl, rfl, zri (by have t := zbsd_iff a b; omega)⟩)
        ·
          refine z_iload_n 3 (zdec DX10_areNeighbours 46 rfl) rfl rfl ?_
          refine z_iload 4 (zdec DX10_areNeighbours 47 rfl) rfl ?_
          refine z_icmp_ne 75 (zdec DX10_areNeighbours 48 rfl) rfl (fun h68 => ?_) (fun h68 => ?_)
          ·
            refine z_iconst 0 (zdec DX10_areNeighbours 51 rfl) (by decide) ?_
            exact z_zret (zdec DX10_areNeighbours 52 rfl) rfl (by omega) (⟨rfl, rfl, zri (by have t := zbsd_iff a b; omega)⟩)
          ·
            refine z_iconst 1 (zdec DX10_areNeighbours 49 rfl) (by decide) ?_
            refine z_goto 76 (zdec DX10_areNeighbours 50 rfl) rfl ?_
            exact z_zret (zdec DX10_areNeighbours 52 rfl) rfl (by omega) (⟨rfl, rfl, zri (by have t := zbsd_iff a b; omega)⟩)
      ·
        refine z_iload_n 2 (zdec DX10_areNeighbours 41 rfl) rfl rfl ?_
        refine z_iconst (-1) (zdec DX10_areNeighbours 42 rfl) (by decide) ?_
        refine z_icmp_ne 75 (zdec DX10_areNeighbours 43 rfl) rfl (fun h58 => ?_) (fun h58 => ?_)
        ·
          refine z_iconst 0 (zdec DX10_areNeighbours 51 rfl) (by decide) ?_
          exact z_zret (zdec DX10_areNeighbours 52 rfl) rfl (by omega) (⟨rfl, rfl, zri (by have t := zbsd_iff a b; omega)⟩)
        ·
          refine z_iload_n 3 (zdec DX10_areNeighbours 44 rfl) rfl rfl ?_
          refine z_if_eq 71 (zdec DX10_areNeighbours 45 rfl) rfl (fun h62 => ?_) (fun h62 => ?_)
          ·
            refine z_iconst 1 (zdec DX10_areNeighbours 49 rfl) (by decide) ?_
            refine z_goto 76 (zdec DX10_areNeighbours 50 rfl) rfl ?_
            exact z_zret (zdec DX10_areNeighbours 52 rfl) rfl (by omega) (⟨rfl, rfl, zri (by have t := zbsd_iff a b; omega)⟩)
          ·
            refine z_iload_n 3 (zdec DX10_areNeighbours 46 rfl) rfl rfl ?_
            refine z_iload 4 (zdec DX10_areNeighbours 47 rfl) rfl ?_
            refine z_icmp_ne 75 (zdec DX10_areNeighbours 48 rfl) rfl (fun h68 => ?_) (fun h68 => ?_)
            ·
              refine z_iconst 0 (zdec DX10_areNeighbours 51 rfl) (by decide) ?_
              exact z_zret (zdec DX10_areNeighbours 52 rfl) rfl (by omega) (⟨rfl, rfl, zri (by have t := zbsd_iff a b; omega)⟩)
            ·
              refine z_iconst 1 (zdec DX10_areNeighbours 49 rfl) (by decide) ?_
              refine z_goto 76 (zdec DX10_areNeighbours 50 rfl) rfl ?_
              exact z_zret (zdec DX10_areNeighbours 52 rfl) rfl (by omega) (⟨rfl, rfl, zri (by have t := zbsd_iff a b; omega)⟩)
    ·
      refine z_iconst (-1) (zdec DX10_areNeighbours 34 rfl) (by decide) ?_
      refine z_goto 49 (zdec DX10_areNeighbours 35 rfl) rfl ?_
      refine z_istore (L' := [(0, .inl a), (1, .inl b), (2, .inl ((a / 4) - (b / 4))), (3, .inl ((b % 4) - (a % 4))), (4, .inl (-1))]) (zdec DX10_areNeighbours 37 rfl) rfl (by decide) ?_
      refine z_iload_n 2 (zdec DX10_areNeighbours 38 rfl) rfl rfl ?_
      refine z_iconst 1 (zdec DX10_areNeighbours 39 rfl) (by decide) ?_
      refine z_icmp_eq 61 (zdec DX10_areNeighbours 40 rfl) rfl (fun h53 => ?_) (fun h53 => ?_)
      ·
        refine z_iload_n 3 (zdec DX10_areNeighbours 44 rfl) rfl rfl ?_
        refine z_if_eq 71 (zdec DX10_areNeighbours 45 rfl) rfl (fun h62 => ?_) (fun h62 => ?_)
        ·
          refine z_iconst 1 (zdec DX10_areNeighbours 49 rfl) (by decide) ?_
          refine z_goto 76 (zdec DX10_areNeighbours 50 rfl) rfl ?_
          exact z_zret (zdec DX10_areNeighbours 52 rfl) rfl (by omega) (⟨rfl, rfl, zri (by have t := zbsd_iff a b; omega)⟩)
        ·
          refine z_iload_n 3 (zdec DX10_areNeighbours 46 rfl) rfl rfl ?_
          refine z_iload 4 (zdec DX10_areNeighbours 47 rfl) rfl ?_
          refine z_icmp_ne 75 (zdec DX10_areNeighbours 48 rfl) rfl (fun h68 => ?_) (fun h68 => ?_)
          ·
            refine z_iconst 0 (zdec DX10_areNeighbours 51 rfl) (by decide) ?_
            exact z_zret (zdec DX10_areNeighbours 52 rfl) rfl (by omega) (⟨rfl, rfl, zri (by have t := zbsd_iff a b; omega)⟩)
          ·
            refine z_iconst 1 (zdec DX10_areNeighbours 49 rfl) (by decide) ?_
            refine z_goto 76 (zdec DX10_areNeighbours 50 rfl) rfl ?_
            exact z_zret (zdec DX10_areNeighbours 52 rfl) rfl (by omega) (⟨rfl, rfl, zri (by have t := zbsd_iff a b; omega)⟩)
      ·
        refine z_iload_n 2 (zdec DX10_areNeighbours 41 rfl) rfl rfl ?_
        refine z_iconst (-1) (zdec DX10_areNeighbours 42 rfl) (by decide) ?_
        refine z_icmp_ne 75 (zdec DX10_areNeighbours 43 rfl) rfl (fun h58 => ?_) (fun h58 => ?_)
        ·
          refine z_iconst 0 (zdec DX10_areNeighbours 51 rfl) (by decide) ?_
          exact z_zret (zdec DX10_areNeighbours 52 rfl) rfl (by omega) (⟨rfl, rfl, zri (by have t := zbsd_iff a b; omega)⟩)
        ·
          refine z_iload_n 3 (zdec DX10_areNeighbours 44 rfl) rfl rfl ?_
          refine z_if_eq 71 (zdec DX10_areNeighbours 45 rfl) rfl (fun h62 => ?_) (fun h62 => ?_)
          ·
            refine z_iconst 1 (zdec DX10_areNeighbours 49 rfl) (by decide) ?_
            refine z_goto 76 (zdec DX10_areNeighbours 50 rfl) rfl ?_
            exact z_zret (zdec DX10_areNeighbours 52 rfl) rfl (by omega) (⟨rfl, rfl, zri (by have t := zbsd_iff a b; omega)⟩)
          ·
            refine z_iload_n 3 (zdec DX10_areNeighbours 46 rfl) rfl rfl ?_
            refine z_iload 4 (zdec DX10_areNeighbours 47 rfl) rfl ?_
            refine z_icmp_ne 75 (zdec DX10_areNeighbours 48 rfl) rfl (fun h68 => ?_) (fun h68 => ?_)
            ·
              refine z_iconst 0 (zdec DX10_areNeighbours 51 rfl) (by decide) ?_
              exact z_zret (zdec DX10_areNeighbours 52 rfl) rfl (by omega) (⟨rfl, rfl, zri (by have t := zbsd_iff a b; omega)⟩)
            ·
              refine z_iconst 1 (zdec DX10_areNeighbours 49 rfl) (by decide) ?_
              refine z_goto 76 (zdec DX10_areNeighbours 50 rfl) rfl ?_
              exact z_zret (zdec DX10_areNeighbours 52 rfl) rfl (by omega) (⟨rfl, rfl, zri (by have t := zbsd_iff a b; omega)⟩)
  ·
    refine z_iload_n 3 (zdec DX10_areNeighbours 18 rfl) rfl rfl ?_
    refine z_iconst 1 (zdec DX10_areNeighbours 19 rfl) (by decide) ?_
    refine z_icmp_eq 30 (zdec DX10_areNeighbours 20 rfl) rfl (fun h22 => ?_) (fun h22 => ?_)
    ·
      refine z_iconst 1 (zdec DX10_areNeighbours 24 rfl) (by decide) ?_
      refine z_goto 35 (zdec DX10_areNeighbours 25 rfl) rfl ?_
      exact z_zret (zdec DX10_areNeighbours 27 rfl) rfl (by omega) (⟨rfl, rfl, zri (by have t := zbsd_iff a b; omega)⟩)
    ·
      refine z_iload_n 3 (zdec DX10_areNeighbours 21 rfl) rfl rfl ?_
      refine z_iconst (-1) (zdec DX10_areNeighbours 22 rfl) (by decide) ?_
      refine z_icmp_ne 34 (zdec DX10_areNeighbours 23 rfl) rfl (fun h27 => ?_) (fun h27 => ?_)
      ·
        refine z_iconst 0 (zdec DX10_areNeighbours 26 rfl) (by decide) ?_
        exact z_zret (zdec DX10_areNeighbours 27 rfl) rfl (by omega) (⟨rfl, rfl, zri (by have t := zbsd_iff a b; omega)⟩)
      ·
        refine z_iconst 1 (zdec DX10_areNeighbours 24 rfl) (by decide) ?_
        refine z_goto 35 (zdec DX10_areNeighbours 25 rfl) rfl ?_
        exact z_zret (zdec DX10_areNeighbours 27 rfl) rfl (by omega) (⟨rfl, rfl, zri (by have t := zbsd_iff a b; omega)⟩)
set_option maxHeartbeats 4000000 in
theorem lp_X10_init_342 {Q : zPost} {MD : zMm} (hPMD : zD10 MD) (hx364 : ∀ (M4 : zMm), ((∀ c : Int, c ≠ 57 → M4 c = MD c) ∧ (∀ k : Int, k < 32 ∨ 65 ≤ k → M4 57 k = MD 57 k) ∧ ∀ k : Int, 0 ≤ k → k < 33 → M4 57 (32 + k) = 3) → zW mX10_init 2 Q (0, 0) (zS0.take 84) 364 [(0, .inr (.inr 56))] [] M4) : ∀ (n : Nat) (w : Int) (M4 : zMm), (33 - w).toNat < n → (0 ≤ w ∧ w ≤ 33 ∧ (∀ c : Int, c ≠ 57 → M4 c = MD c) ∧ (∀ k : Int, k < 32 ∨ 65 ≤ k → M4 57 k = MD 57 k) ∧ ∀ k : Int, 0 ≤ k → k < w → M4 57 (32 + k) = 3) → zW mX10_init 2 Q (0, 0) (zS0.take 84) 342 [(0, .inr (.inr 56)), (1, .inl w)] [] M4 := by
  intro n
  induction n with
  | zero => intro w M4 hn; exact absurd hn (Nat.not_lt_zero _)
  | succ n ih =>
    intro w M4 hn hI
    refine z_iload_n 1 (zdec DX10_init 182 rfl) rfl rfl ?_
    refine z_bipush 33 (zdec DX10_init 183 rfl) (by decide) ?_
    refine z_icmp_ge 364 (zdec DX10_init 184 rfl) rfl (fun h345 => ?_) (fun h345 => ?_)
    ·
      refine z_weak (L' := [(0, .inr (.inr 56))]) (by simp) ?_
      exact hx364 M4 ⟨hI.2.2.1, hI.2.2.2.1, fun k a b => hI.2.2.2.2 k a (by omega)⟩
    ·
      refine z_aload_n 0 (zdec DX10_init 185 rfl) rfl rfl (by decide) ?_
      refine z_getr (rw1 := -66) (ki := 0) (r' := 57) 56 10 (zdec DX10_init 186 rfl) rfl rfl rfl rfl (by decide) rfl rfl fl_SixWallsModel_9 ((zD10_of hPMD fun c hc => hI.2.2.1 c (by omega)).a 0 rfl) ?_
      refine z_bipush 32 (zdec DX10_init 187 rfl) (by decide) ?_
      refine z_iload_n 1 (zdec DX10_init 188 rfl) rfl rfl ?_
      refine z_iadd (zdec DX10_init 189 rfl) (by unfold z32; omega) ?_
      refine z_iconst 3 (zdec DX10_init 190 rfl) (by decide) ?_
      refine z_iast 57 (zdec DX10_init 191 rfl) rfl rfl ⟨by omega, by omega⟩ ?_
      refine z_iinc (L' := [(0, .inr (.inr 56)), (1, .inl (w + 1))]) 1 (zdec DX10_init 192 rfl) rfl (by unfold z32; omega) rfl (by decide) ?_
      refine z_goto 342 (zdec DX10_init 193 rfl) rfl ?_
      exact ih (w + 1) (zup M4 57 (32 + w) 3) (by omega) ⟨by omega, by omega, (fun c a => by rw [zup_row a]; exact hI.2.2.1 c a), (fun k a => by rw [zup_ne (by omega)]; exact hI.2.2.2.1 k a), fun k a b => (by by_cases e : k = w; (subst e; rw [zup_self]); (rw [zup_ne (by omega)]; exact hI.2.2.2.2 k a (by omega)))⟩
set_option maxHeartbeats 4000000 in
theorem lp_X10_init_259 {Q : zPost} {MB : zMm} (hPMB : zD10 MB) (a : Int) (ha : 0 ≤ a ∧ a < 16) (hx309 : ∀ (M4 : zMm), (zI10 MB M4 a (zcw a 16)) → zW mX10_init 2 Q (0, 0) (zS0.take 84) 309 [(0, .inr (.inr 56)), (1, .inl a)] [] M4) : ∀ (n : Nat) (b : Int) (M4 : zMm), (16 - b).toNat < n → (a < b ∧ b ≤ 16 ∧ zI10 MB M4 a (zcw a b)) → zW mX10_init 2 Q (0, 0) (zS0.take 84) 259 [(0, .inr (.inr 56)), (1, .inl a), (2, .inl b)] [] M4 := by
  intro n
  induction n with
  | zero => intro b M4 hn; exact absurd hn (Nat.not_lt_zero _)
  | succ n ih =>
    intro b M4 hn hI
    have wb := zcw_b a b
    have t := fun h => zcw_tI ha.1 hI.1 h
    have tb := zbsd_iff a b
    refine z_iload_n 2 (zdec DX10_init 134 rfl) rfl rfl ?_
    refine z_bipush 16 (zdec DX10_init 135 rfl) (by decide) ?_
    refine z_icmp_ge 309 (zdec DX10_init 136 rfl) rfl (fun h262 => ?_) (fun h262 => ?_)
    ·
      refine z_weak (L' := [(0, .inr (.inr 56)), (1, .inl a)]) (by simp) ?_
      exact hx309 M4 (by have e : b = 16 := (by omega); subst e; exact hI.2.2)
    ·
      refine z_iload_n 1 (zdec DX10_init 137 rfl) rfl rfl ?_
      refine z_iload_n 2 (zdec DX10_init 138 rfl) rfl rfl ?_
      refine z_invs mX10_areNeighbours [.inl a, .inl b] (zdec DX10_init 139 rfl) (Or.inl ml_SixWallsModel_97) okX10_areNeighbours rfl rfl (Nat.le_of_ble_eq_true rfl) (Nat.le_of_ble_eq_true rfl) (b' := (0, 0)) ⟨Nat.le_refl 0, Nat.le_refl 0⟩ (Nat.le_of_ble_eq_true rfl) (cX10_areNeighbours2 a b ⟨by omega, by omega⟩ ⟨by omega, by omega⟩) (fun rv9 S9 M267 h9 => ?_)
      obtain ⟨rfl, rfl, rfl⟩ := h9
      change zW _ _ _ _ _ 270 [(0, .inr (.inr 56)), (1, .inl a), (2, .inl b)] [.inl (zbsd a b)] M4
      refine z_if_eq 303 (zdec DX10_init 140 rfl) rfl (fun h270 => ?_) (fun h270 => ?_)
      ·
        refine z_iinc (L' := [(0, .inr (.inr 56)), (1, .inl a), (2, .inl (b + 1))]) 2 (zdec DX10_init 159 rfl) rfl (by unfold z32; omega) rfl (by decide) ?_
        refine z_goto 259 (zdec DX10_init 160 rfl) rfl ?_
        exact ih (b + 1) M4 (by omega) ⟨by omega, by omega, (by first | (have t1 := (t (by omega)).2 (by omega); rw [t1]; exact hI.2.2) | (have t1 := (t (by omega)).1 (by omega); rw [t1.2.2.2]; exact hI.2.2.wall t1.2.1 t1.2.2.1))⟩
      ·
        refine z_aload_n 0 (zdec DX10_init 141 rfl) rfl rfl (by decide) ?_
        refine z_getr (rw1 := -66) (ki := 7) (r' := 61) 56 10 (zdec DX10_init 142 rfl) rfl rfl rfl rfl (by decide) rfl rfl fl_SixWallsModel_22 ((hI.2.2.D hPMB).a 4 rfl) ?_
        refine z_aload_n 0 (zdec DX10_init 143 rfl) rfl rfl (by decide) ?_
        refine z_geti (ki := 6) 56 10 (zdec DX10_init 144 rfl) rfl rfl rfl (by decide) rfl rfl fl_SixWallsModel_101 ?_
        rw [hI.2.2.1]
        refine z_iload_n 1 (zdec DX10_init 145 rfl) rfl rfl ?_
        refine z_iast 61 (zdec DX10_init 146 rfl) rfl rfl ⟨by omega, by omega⟩ ?_
        refine z_aload_n 0 (zdec DX10_init 147 rfl) rfl rfl (by decide) ?_
        refine z_getr (rw1 := -66) (ki := 8) (r' := 62) 56 10 (zdec DX10_init 148 rfl) rfl rfl rfl rfl (by decide) rfl rfl fl_SixWallsModel_25 ((zD10_up (hI.2.2.D hPMB) (by decide)).a 5 rfl) ?_
        refine z_aload_n 0 (zdec DX10_init 149 rfl) rfl rfl (by decide) ?_
        refine z_geti (ki := 6) 56 10 (zdec DX10_init 150 rfl) rfl rfl rfl (by decide) rfl rfl fl_SixWallsModel_101 ?_
        rw [show (zup M4 61 (zcw a b) a) 56 6 = M4 56 6 from by simp [zup, zcpy]]
        rw [hI.2.2.1]
        refine z_iload_n 2 (zdec DX10_init 151 rfl) rfl rfl ?_
        refine z_iast 62 (zdec DX10_init 152 rfl) rfl rfl ⟨by omega, by omega⟩ ?_
        refine z_aload_n 0 (zdec DX10_init 153 rfl) rfl rfl (by decide) ?_
        refine z_dup (zdec DX10_init 154 rfl) rfl ?_
        refine z_geti (ki := 6) 56 10 (zdec DX10_init 155 rfl) rfl rfl rfl (by decide) rfl rfl fl_SixWallsModel_101 ?_
        rw [show (zup (zup M4 61 (zcw a b) a) 62 (zcw a b) b) 56 6 = M4 56 6 from by simp [zup, zcpy]]
        rw [hI.2.2.1]
        refine z_iconst 1 (zdec DX10_init 156 rfl) (by decide) ?_
        refine z_iadd (zdec DX10_init 157 rfl) (by unfold z32; omega) ?_
        refine z_puti (ki := 6) 56 10 (zdec DX10_init 158 rfl) rfl rfl rfl (by decide) rfl rfl fl_SixWallsModel_101 (Or.inl rfl) ?_
        refine z_iinc (L' := [(0, .inr (.inr 56)), (1, .inl a), (2, .inl (b + 1))]) 2 (zdec DX10_init 159 rfl) rfl (by unfold z32; omega) rfl (by decide) ?_
        refine z_goto 259 (zdec DX10_init 160 rfl) rfl ?_
        exact ih (b + 1) (zup (zup (zup M4 61 (zcw a b) a) 62 (zcw a b) b) 56 6 ((zcw a b) + 1)) (by omega) ⟨by omega, by omega, (by first | (have t1 := (t (by omega)).2 (by omega); rw [t1]; exact hI.2.2) | (have t1 := (t (by omega)).1 (by omega); rw [t1.2.2.2]; exact hI.2.2.wall t1.2.1 t1.2.2.1))⟩
set_option maxHeartbeats 4000000 in
theorem lp_X10_init_249 {Q : zPost} {MB : zMm} (hPMB : zD10 MB) (hx340 : ∀ (M3 : zMm), (zI10 MB M3 16 33) → zW mX10_init 2 Q (0, 0) (zS0.take 84) 340 [(0, .inr (.inr 56))] [] M3) : ∀ (n : Nat) (a : Int) (M3 : zMm), (16 - a).toNat < n → (0 ≤ a ∧ a ≤ 16 ∧ zI10 MB M3 a (zcw a (a + 1))) → zW mX10_init 2 Q (0, 0) (zS0.take 84) 249 [(0, .inr (.inr 56)), (1, .inl a)] [] M3 := by
  intro n
  induction n with
  | zero => intro a M3 hn; exact absurd hn (Nat.not_lt_zero _)
  | succ n ih =>
    intro a M3 hn hI
    refine z_iload_n 1 (zdec DX10_init 127 rfl) rfl rfl ?_
    refine z_bipush 16 (zdec DX10_init 128 rfl) (by decide) ?_
    refine z_icmp_ge 340 (zdec DX10_init 129 rfl) rfl (fun h252 => ?_) (fun h252 => ?_)
    ·
      refine z_weak (L' := [(0, .inr (.inr 56))]) (by simp) ?_
      exact hx340 M3 (by have e : a = 16 := (by omega); subst e; have t := hI.2.2; rw [zcw_16] at t; exact t)
    ·
      refine z_iload_n 1 (zdec DX10_init 130 rfl) rfl rfl ?_
      refine z_iconst 1 (zdec DX10_init 131 rfl) (by decide) ?_
      refine z_iadd (zdec DX10_init 132 rfl) (by unfold z32; omega) ?_
      refine z_istore_n (L' := [(0, .inr (.inr 56)), (1, .inl a), (2, .inl (a + 1))]) (zdec DX10_init 133 rfl) rfl rfl (by decide) ?_
      refine lp_X10_init_259 hPMB a ⟨by omega, by omega⟩ (hx309 := fun M4 hy => ?_) _ (a + 1) M3 (Nat.lt_succ_self _) ⟨by omega, by omega, hI.2.2⟩
      refine z_aload_n 0 (zdec DX10_init 161 rfl) rfl rfl (by decide) ?_
      refine z_getr (rw1 := -66) (ki := 0) (r' := 57) 56 10 (zdec DX10_init 162 rfl) rfl rfl rfl rfl (by decide) rfl rfl fl_SixWallsModel_9 ((hy.D hPMB).a 0 rfl) ?_
      refine z_bipush 16 (zdec DX10_init 163 rfl) (by decide) ?_
      refine z_iload_n 1 (zdec DX10_init 164 rfl) rfl rfl ?_
      refine z_iadd (zdec DX10_init 165 rfl) (by unfold z32; omega) ?_
      refine z_iconst 4 (zdec DX10_init 166 rfl) (by decide) ?_
      refine z_iast 57 (zdec DX10_init 167 rfl) rfl rfl ⟨by omega, by omega⟩ ?_
      refine z_aload_n 0 (zdec DX10_init 168 rfl) rfl rfl (by decide) ?_
      refine z_getr (rw1 := -66) (ki := 9) (r' := 63) 56 10 (zdec DX10_init 169 rfl) rfl rfl rfl rfl (by decide) rfl rfl fl_SixWallsModel_28 ((zD10_up (hy.D hPMB) (by decide)).a 6 rfl) ?_
      refine z_iload_n 1 (zdec DX10_init 170 rfl) rfl rfl ?_
      refine z_bipush 20 (zdec DX10_init 171 rfl) (by decide) ?_
      refine z_iast 63 (zdec DX10_init 172 rfl) rfl rfl ⟨by omega, by omega⟩ ?_
      refine z_aload_n 0 (zdec DX10_init 173 rfl) rfl rfl (by decide) ?_
      refine z_getr (rw1 := -66) (ki := 10) (r' := 64) 56 10 (zdec DX10_init 174 rfl) rfl rfl rfl rfl (by decide) rfl rfl fl_SixWallsModel_31 ((zD10_up (zD10_up (hy.D hPMB) (by decide)) (by decide)).a 7 rfl) ?_
      refine z_iload_n 1 (zdec DX10_init 175 rfl) rfl rfl ?_
      refine z_iconst 1 (zdec DX10_init 176 rfl) (by decide) ?_
      refine z_zast 64 (zdec DX10_init 177 rfl) rfl rfl ⟨by omega, by omega⟩ (by omega) ?_
      refine z_iinc (L' := [(0, .inr (.inr 56)), (1, .inl (a + 1))]) 1 (zdec DX10_init 178 rfl) rfl (by unfold z32; omega) rfl (by decide) ?_
      refine z_goto 249 (zdec DX10_init 179 rfl) rfl ?_
      exact ih (a + 1) (zup (zup (zup M4 57 (16 + a) 4) 63 a 20) 64 a 1) (by omega) ⟨by omega, by omega, hy.house ⟨hI.1, by omega⟩ (zcw_eI hI.1 (by omega))⟩
set_option maxHeartbeats 4000000 in
theorem lp_X10_init_223 {Q : zPost} {MA : zMm} (hPMA : zD10 MA) (hx242 : ∀ (M2 : zMm), ((∀ c : Int, c ≠ 80 → M2 c = MA c) ∧ ∀ k : Int, 0 ≤ k → k < 6 → M2 80 k = -1) → zW mX10_init 2 Q (0, 0) (zS0.take 84) 242 [(0, .inr (.inr 56))] [] M2) : ∀ (n : Nat) (i : Int) (M2 : zMm), (6 - i).toNat < n → (0 ≤ i ∧ i ≤ 6 ∧ (∀ c : Int, c ≠ 80 → M2 c = MA c) ∧ ∀ k : Int, 0 ≤ k → k < i → M2 80 k = -1) → zW mX10_init 2 Q (0, 0) (zS0.take 84) 223 [(0, .inr (.inr 56)), (1, .inl i)] [] M2 := by
  intro n
  induction n with
  | zero => intro i M2 hn; exact absurd hn (Nat.not_lt_zero _)
  | succ n ih =>
    intro i M2 hn hI
    refine z_iload_n 1 (zdec DX10_init 112 rfl) rfl rfl ?_
    refine z_bipush 6 (zdec DX10_init 113 rfl) (by decide) ?_
    refine z_icmp_ge 242 (zdec DX10_init 114 rfl) rfl (fun h226 => ?_) (fun h226 => ?_)
    ·
      refine z_weak (L' := [(0, .inr (.inr 56))]) (by simp) ?_
      exact hx242 M2 ⟨hI.2.2.1, fun k a b => hI.2.2.2 k a (by omega)⟩
    ·
      refine z_aload_n 0 (zdec DX10_init 115 rfl) rfl rfl (by decide) ?_
      refine z_getr (rw1 := -66) (ki := 40) (r' := 80) 56 10 (zdec DX10_init 116 rfl) rfl rfl rfl rfl (by decide) rfl rfl fl_SixWallsModel_80 ((zD10_of hPMA fun c hc => hI.2.2.1 c (by omega)).a 23 rfl) ?_
      refine z_iload_n 1 (zdec DX10_init 117 rfl) rfl rfl ?_
      refine z_iconst (-1) (zdec DX10_init 118 rfl) (by decide) ?_
      refine z_iast 80 (zdec DX10_init 119 rfl) rfl rfl ⟨by omega, by omega⟩ ?_
      refine z_iinc (L' := [(0, .inr (.inr 56)), (1, .inl (i + 1))]) 1 (zdec DX10_init 120 rfl) rfl (by unfold z32; omega) rfl (by decide) ?_
      refine z_goto 223 (zdec DX10_init 121 rfl) rfl ?_
      exact ih (i + 1) (zup M2 80 i (-1)) (by omega) ⟨by omega, by omega, (fun c a => by rw [zup_row a]; exact hI.2.2.1 c a), fun k a b => (by by_cases e : k = i; (subst e; rw [zup_self]); (rw [zup_ne e]; exact hI.2.2.2 k a (by omega)))⟩
set_option maxHeartbeats 4000000 in
theorem cX10_init {M : zMm} (h0 : ∀ j : Int, M 56 j = 0) : zW mX10_init 2 (fun rv S' M' => S' = zS0.take 84 ∧ rv = none ∧ zFk 56 M M' ∧ zPt zd10 M' ∧ zZr [58, 59, 60, 65, 66, 67, 68, 69, 70, 71, 72, 73, 74, 75, 76, 77, 78, 79, 81, 82, 83] M' ∧ zGr M' ∧ (∀ k : Int, 0 ≤ k → k < 6 → M' 80 k = -1) ∧ M' 56 14 = -1 ∧ (∀ j : Int, j ≠ 6 → j ≠ 14 → M' 56 j = 0) ∧ (∀ h : Int, 0 ≤ h → h < 16 → M' 57 (16 + h) = 4 ∧ M' 63 h = 20 ∧ M' 64 h = 1) ∧ (∀ w : Int, 0 ≤ w → w < 33 → M' 57 (32 + w) = 3) ∧ M' 57 131 = 2 ∧ M' 57 132 = 30 ∧ (∀ k : Int, k < 16 ∨ 65 ≤ k → k ≠ 131 → k ≠ 132 → M' 57 k = 0)) (27, 1347) (zS0.take 57) 0 (zargs 0 [.inr (.inr 56)]) [] M := by
  change zW _ _ _ _ _ 0 [(0, .inr (.inr 56))] [] M
  refine z_aload_n 0 (zdec DX10_init 0 rfl) rfl rfl (by decide) ?_
  refine z_objInit (zdec DX10_init 1 rfl) ml_SixWallsModel_3 zoi1 zoi2 (by decide) (by decide) rfl ?_
  refine z_aload_n 0 (zdec DX10_init 2 rfl) rfl rfl (by decide) ?_
  refine z_sipush 133 (zdec DX10_init 3 rfl) (by decide) ?_
  refine z_newa (b := (26, 1214)) 0 (n := 133) (zdec DX10_init 4 rfl) (Or.inl ⟨rfl, rfl⟩) zac_0 rfl (by decide) ?_
  change zW _ _ _ _ (zS0.take 58) 10 [(0, .inr (.inr 56))] [.inr (.inr 57), .inr (.inr 56)] (znew M 57)
  refine z_putr (rw1 := -66) (ki := 0) 56 10 (zdec DX10_init 5 rfl) rfl rfl rfl rfl (by decide) rfl rfl fl_SixWallsModel_9 (Or.inr ⟨rfl, rfl⟩) ?_
  refine z_aload_n 0 (zdec DX10_init 6 rfl) rfl rfl (by decide) ?_
  refine z_bipush 40 (zdec DX10_init 7 rfl) (by decide) ?_
  refine z_newa (b := (25, 1174)) 0 (n := 40) (zdec DX10_init 8 rfl) (Or.inl ⟨rfl, rfl⟩) zac_0 rfl (by decide) ?_
  change zW _ _ _ _ (zS0.take 59) 18 [(0, .inr (.inr 56))] [.inr (.inr 58), .inr (.inr 56)] (znew (zup (znew M 57) (-66) 0 57) 58)
  refine z_putr (rw1 := -66) (ki := 1) 56 10 (zdec DX10_init 9 rfl) rfl rfl rfl rfl (by decide) rfl rfl fl_SixWallsModel_13 (Or.inr ⟨rfl, rfl⟩) ?_
  refine z_aload_n 0 (zdec DX10_init 10 rfl) rfl rfl (by decide) ?_
  refine z_bipush 40 (zdec DX10_init 11 rfl) (by decide) ?_
  refine z_newa (b := (24, 1134)) 0 (n := 40) (zdec DX10_init 12 rfl) (Or.inl ⟨rfl, rfl⟩) zac_0 rfl (by decide) ?_
  change zW _ _ _ _ (zS0.take 60) 26 [(0, .inr (.inr 56))] [.inr (.inr 59), .inr (.inr 56)] (znew (zup (znew (zup (znew M 57) (-66) 0 57) 58) (-66) 1 58) 59)
  refine z_putr (rw1 := -66) (ki := 2) 56 10 (zdec DX10_init 13 rfl) rfl rfl rfl rfl (by decide) rfl rfl fl_SixWallsModel_16 (Or.inr ⟨rfl, rfl⟩) ?_
  refine z_aload_n 0 (zdec DX10_init 14 rfl) rfl rfl (by decide) ?_
  refine z_bipush 40 (zdec DX10_init 15 rfl) (by decide) ?_
  refine z_newa (b := (23, 1094)) 0 (n := 40) (zdec DX10_init 16 rfl) (Or.inl ⟨rfl, rfl⟩) zac_0 rfl (by decide) ?_
  change zW _ _ _ _ (zS0.take 61) 34 [(0, .inr (.inr 56))] [.inr (.inr 60), .inr (.inr 56)] (znew (zup (znew (zup (znew (zup (znew M 57) (-66) 0 57) 58) (-66) 1 58) 59) (-66) 2 59) 60)
  refine z_putr (rw1 := -66) (ki := 3) 56 10 (zdec DX10_init 17 rfl) rfl rfl rfl rfl (by decide) rfl rfl fl_SixWallsModel_19 (Or.inr ⟨rfl, rfl⟩) ?_
  refine z_aload_n 0 (zdec DX10_init 18 rfl) rfl rfl (by decide) ?_
  refine z_bipush 33 (zdec DX10_init 19 rfl) (by decide) ?_
  refine z_newa (b := (22, 1061)) 0 (n := 33) (zdec DX10_init 20 rfl) (Or.inl ⟨rfl, rfl⟩) zac_0 rfl (by decide) ?_
  change zW _ _ _ _ (zS0.take 62) 42 [(0, .inr (.inr 56))] [.inr (.inr 61), .inr (.inr 56)] (znew (zup (znew (zup (znew (zup (znew (zup (znew M 57) (-66) 0 57) 58) (-66) 1 58) 59) (-66) 2 59) 60) (-66) 3 60) 61)
  refine z_putr (rw1 := -66) (ki := 7) 56 10 (zdec DX10_init 21 rfl) rfl rfl rfl rfl (by decide) rfl rfl fl_SixWallsModel_22 (Or.inr ⟨rfl, rfl⟩) ?_
  refine z_aload_n 0 (zdec DX10_init 22 rfl) rfl rfl (by decide) ?_
  refine z_bipush 33 (zdec DX10_init 23 rfl) (by decide) ?_
  refine z_newa (b := (21, 1028)) 0 (n := 33) (zdec DX10_init 24 rfl) (Or.inl ⟨rfl, rfl⟩) zac_0 rfl (by decide) ?_
  change zW _ _ _ _ (zS0.take 63) 50 [(0, .inr (.inr 56))] [.inr (.inr 62), .inr (.inr 56)] (znew (zup (znew (zup (znew (zup (znew (zup (znew (zup (znew M 57) (-66) 0 57) 58) (-66) 1 58) 59) (-66) 2 59) 60) (-66) 3 60) 61) (-66) 7 61) 62)
  refine z_putr (rw1 := -66) (ki := 8) 56 10 (zdec DX10_init 25 rfl) rfl rfl rfl rfl (by decide) rfl rfl fl_SixWallsModel_25 (Or.inr ⟨rfl, rfl⟩) ?_
  refine z_aload_n 0 (zdec DX10_init 26 rfl) rfl rfl (by decide) ?_
  refine z_bipush 16 (zdec DX10_init 27 rfl) (by decide) ?_
  refine z_newa (b := (20, 1012)) 0 (n := 16) (zdec DX10_init 28 rfl) (Or.inl ⟨rfl, rfl⟩) zac_0 rfl (by decide) ?_
  change zW _ _ _ _ (zS0.take 64) 58 [(0, .inr (.inr 56))] [.inr (.inr 63), .inr (.inr 56)] (znew (zup (znew (zup (znew (zup (znew (zup (znew (zup (znew (zup (znew M 57) (-66) 0 57) 58) (-66) 1 58) 59) (-66) 2 59) 60) (-66) 3 60) 61) (-66) 7 61) 62) (-66) 8 62) 63)
  refine z_putr (rw1 := -66) (ki := 9) 56 10 (zdec DX10_init 29 rfl) rfl rfl rfl rfl (by decide) rfl rfl fl_SixWallsModel_28 (Or.inr ⟨rfl, rfl⟩) ?_
  refine z_aload_n 0 (zdec DX10_init 30 rfl) rfl rfl (by decide) ?_
  refine z_bipush 16 (zdec DX10_init 31 rfl) (by decide) ?_
  refine z_newa (b := (19, 996)) 1 (n := 16) (zdec DX10_init 32 rfl) (Or.inr (Or.inl ⟨rfl, rfl⟩)) zac_1 rfl (by decide) ?_
  change zW _ _ _ _ (zS0.take 65) 66 [(0, .inr (.inr 56))] [.inr (.inr 64), .inr (.inr 56)] (znew (zup (znew (zup (znew (zup (znew (zup (znew (zup (znew (zup (znew (zup (znew M 57) (-66) 0 57) 58) (-66) 1 58) 59) (-66) 2 59) 60) (-66) 3 60) 61) (-66) 7 61) 62) (-66) 8 62) 63) (-66) 9 63) 64)
  refine z_putr (rw1 := -66) (ki := 10) 56 10 (zdec DX10_init 33 rfl) rfl rfl rfl rfl (by decide) rfl rfl fl_SixWallsModel_31 (Or.inr ⟨rfl, rfl⟩) ?_
  refine z_aload_n 0 (zdec DX10_init 34 rfl) rfl rfl (by decide) ?_
  refine z_bipush 120 (zdec DX10_init 35 rfl) (by decide) ?_
  refine z_newa (b := (18, 876)) 0 (n := 120) (zdec DX10_init 36 rfl) (Or.inl ⟨rfl, rfl⟩) zac_0 rfl (by decide) ?_
  change zW _ _ _ _ (zS0.take 66) 74 [(0, .inr (.inr 56))] [.inr (.inr 65), .inr (.inr 56)] (znew (zup (znew (zup (znew (zup (znew (zup (znew (zup (znew (zup (znew (zup (znew (zup (znew M 57) (-66) 0 57) 58) (-66) 1 58) 59) (-66) 2 59) 60) (-66) 3 60) 61) (-66) 7 61) 62) (-66) 8 62) 63) (-66) 9 63) 64) (-66) 10 64) 65)
  refine z_putr (rw1 := -66) (ki := 11) 56 10 (zdec DX10_init 37 rfl) rfl rfl rfl rfl (by decide) rfl rfl fl_SixWallsModel_35 (Or.inr ⟨rfl, rfl⟩) ?_
  refine z_aload_n 0 (zdec DX10_init 38 rfl) rfl rfl (by decide) ?_
  refine z_bipush 120 (zdec DX10_init 39 rfl) (by decide) ?_
  refine z_newa (b := (17, 756)) 0 (n := 120) (zdec DX10_init 40 rfl) (Or.inl ⟨rfl, rfl⟩) zac_0 rfl (by decide) ?_
  change zW _ _ _ _ (zS0.take 67) 82 [(0, .inr (.inr 56))] [.inr (.inr 66), .inr (.inr 56)] (znew (zup (znew (zup (znew (zup (znew (zup (znew (zup (znew (zup (znew (zup (znew (zup (znew (zup (znew M 57) (-66) 0 57) 58) (-66) 1 58) 59) (-66) 2 59) 60) (-66) 3 60) 61) (-66) 7 61) 62) (-66) 8 62) 63) (-66) 9 63) 64) (-66) 10 64) 65) (-66) 11 65) 66)
  refine z_putr (rw1 := -66) (ki := 13) 56 10 (zdec DX10_init 41 rfl) rfl rfl rfl rfl (by decide) rfl rfl fl_SixWallsModel_38 (Or.inr ⟨rfl, rfl⟩) ?_
  refine z_aload_n 0 (zdec DX10_init 42 rfl) rfl rfl (by decide) ?_
  refine z_iconst 5 (zdec DX10_init 43 rfl) (by decide) ?_
  refine z_newa (b := (16, 751)) 0 (n := 5) (zdec DX10_init 44 rfl) (Or.inl ⟨rfl, rfl⟩) zac_0 rfl (by decide) ?_
  change zW _ _ _ _ (zS0.take 68) 89 [(0, .inr (.inr 56))] [.inr (.inr 67), .inr (.inr 56)] (znew (zup (znew (zup (znew (zup (znew (zup (znew (zup (znew (zup (znew (zup (znew (zup (znew (zup (znew (zup (znew M 57) (-66) 0 57) 58) (-66) 1 58) 59) (-66) 2 59) 60) (-66) 3 60) 61) (-66) 7 61) 62) (-66) 8 62) 63) (-66) 9 63) 64) (-66) 10 64) 65) (-66) 11 65) 66) (-66) 13 66) 67)
  refine z_putr (rw1 := -66) (ki := 20) 56 10 (zdec DX10_init 45 rfl) rfl rfl rfl rfl (by decide) rfl rfl fl_SixWallsModel_41 (Or.inr ⟨rfl, rfl⟩) ?_
  refine z_aload_n 0 (zdec DX10_init 46 rfl) rfl rfl (by decide) ?_
  refine z_bipush 16 (zdec DX10_init 47 rfl) (by decide) ?_
  refine z_newa (b := (15, 735)) 0 (n := 16) (zdec DX10_init 48 rfl) (Or.inl ⟨rfl, rfl⟩) zac_0 rfl (by decide) ?_
  change zW _ _ _ _ (zS0.take 69) 97 [(0, .inr (.inr 56))] [.inr (.inr 68), .inr (.inr 56)] (znew (zup (znew (zup (znew (zup (znew (zup (znew (zup (znew (zup (znew (zup (znew (zup (znew (zup (znew (zup (znew (zup (znew M 57) (-66) 0 57) 58) (-66) 1 58) 59) (-66) 2 59) 60) (-66) 3 60) 61) (-66) 7 61) 62) (-66) 8 62) 63) (-66) 9 63) 64) (-66) 10 64) 65) (-66) 11 65) 66) (-66) 13 66) 67) (-66) 20 67) 68)
  refine z_putr (rw1 := -66) (ki := 21) 56 10 (zdec DX10_init 49 rfl) rfl rfl rfl rfl (by decide) rfl rfl fl_SixWallsModel_44 (Or.inr ⟨rfl, rfl⟩) ?_
  refine z_aload_n 0 (zdec DX10_init 50 rfl) rfl rfl (by decide) ?_
  refine z_bipush 16 (zdec DX10_init 51 rfl) (by decide) ?_
  refine z_newa (b := (14, 719)) 0 (n := 16) (zdec DX10_init 52 rfl) (Or.inl ⟨rfl, rfl⟩) zac_0 rfl (by decide) ?_
  change zW _ _ _ _ (zS0.take 70) 105 [(0, .inr (.inr 56))] [.inr (.inr 69), .inr (.inr 56)] (znew (zup (znew (zup (znew (zup (znew (zup (znew (zup (znew (zup (znew (zup (znew (zup (znew (zup (znew (zup (znew (zup (znew (zup (znew M 57) (-66) 0 57) 58) (-66) 1 58) 59) (-66) 2 59) 60) (-66) 3 60) 61) (-66) 7 61) 62) (-66) 8 62) 63) (-66) 9 63) 64) (-66) 10 64) 65) (-66) 11 65) 66) (-66) 13 66) 67) (-66) 20 67) 68) (-66) 21 68) 69)
  refine z_putr (rw1 := -66) (ki := 22) 56 10 (zdec DX10_init 53 rfl) rfl rfl rfl rfl (by decide) rfl rfl fl_SixWallsModel_47 (Or.inr ⟨rfl, rfl⟩) ?_
  refine z_aload_n 0 (zdec DX10_init 54 rfl) rfl rfl (by decide) ?_
  refine z_bipush 33 (zdec DX10_init 55 rfl) (by decide) ?_
  refine z_newa (b := (13, 686)) 0 (n := 33) (zdec DX10_init 56 rfl) (Or.inl ⟨rfl, rfl⟩) zac_0 rfl (by decide) ?_
  change zW _ _ _ _ (zS0.take 71) 113 [(0, .inr (.inr 56))] [.inr (.inr 70), .inr (.inr 56)] (znew (zup (znew (zup (znew (zup (znew (zup (znew (zup (znew (zup (znew (zup (znew (zup (znew (zup (znew (zup (znew (zup (znew (zup (znew (zup (znew M 57) (-66) 0 57) 58) (-66) 1 58) 59) (-66) 2 59) 60) (-66) 3 60) 61) (-66) 7 61) 62) (-66) 8 62) 63) (-66) 9 63) 64) (-66) 10 64) 65) (-66) 11 65) 66) (-66) 13 66) 67) (-66) 20 67) 68) (-66) 21 68) 69) (-66) 22 69) 70)
  refine z_putr (rw1 := -66) (ki := 23) 56 10 (zdec DX10_init 57 rfl) rfl rfl rfl rfl (by decide) rfl rfl fl_SixWallsModel_50 (Or.inr ⟨rfl, rfl⟩) ?_
  refine z_aload_n 0 (zdec DX10_init 58 rfl) rfl rfl (by decide) ?_
  refine z_bipush 33 (zdec DX10_init 59 rfl) (by decide) ?_
  refine z_newa (b := (12, 653)) 0 (n := 33) (zdec DX10_init 60 rfl) (Or.inl ⟨rfl, rfl⟩) zac_0 rfl (by decide) ?_
  change zW _ _ _ _ (zS0.take 72) 121 [(0, .inr (.inr 56))] [.inr (.inr 71), .inr (.inr 56)] (znew (zup (znew (zup (znew (zup (znew (zup (znew (zup (znew (zup (znew (zup (znew (zup (znew (zup (znew (zup (znew (zup (znew (zup (znew (zup (znew (zup (znew M 57) (-66) 0 57) 58) (-66) 1 58) 59) (-66) 2 59) 60) (-66) 3 60) 61) (-66) 7 61) 62) (-66) 8 62) 63) (-66) 9 63) 64) (-66) 10 64) 65) (-66) 11 65) 66) (-66) 13 66) 67) (-66) 20 67) 68) (-66) 21 68) 69) (-66) 22 69) 70) (-66) 23 70) 71)
  refine z_putr (rw1 := -66) (ki := 24) 56 10 (zdec DX10_init 61 rfl) rfl rfl rfl rfl (by decide) rfl rfl fl_SixWallsModel_53 (Or.inr ⟨rfl, rfl⟩) ?_
  refine z_aload_n 0 (zdec DX10_init 62 rfl) rfl rfl (by decide) ?_
  refine z_bipush 33 (zdec DX10_init 63 rfl) (by decide) ?_
  refine z_newa (b := (11, 620)) 0 (n := 33) (zdec DX10_init 64 rfl) (Or.inl ⟨rfl, rfl⟩) zac_0 rfl (by decide) ?_
  change zW _ _ _ _ (zS0.take 73) 129 [(0, .inr (.inr 56))] [.inr (.inr 72), .inr (.inr 56)] (znew (zup (znew (zup (znew (zup (znew (zup (znew (zup (znew (zup (znew (zup (znew (zup (znew (zup (znew (zup (znew (zup (znew (zup (znew (zup (znew (zup (znew (zup (znew M 57) (-66) 0 57) 58) (-66) 1 58) 59) (-66) 2 59) 60) (-66) 3 60) 61) (-66) 7 61) 62) (-66) 8 62) 63) (-66) 9 63) 64) (-66) 10 64) 65) (-66) 11 65) 66) (-66) 13 66) 67) (-66) 20 67) 68) (-66) 21 68) 69) (-66) 22 69) 70) (-66) 23 70) 71) (-66) 24 71) 72)
  refine z_putr (rw1 := -66) (ki := 26) 56 10 (zdec DX10_init 65 rfl) rfl rfl rfl rfl (by decide) rfl rfl fl_SixWallsModel_56 (Or.inr ⟨rfl, rfl⟩) ?_
  refine z_aload_n 0 (zdec DX10_init 66 rfl) rfl rfl (by decide) ?_
  refine z_bipush 33 (zdec DX10_init 67 rfl) (by decide) ?_
  refine z_newa (b := (10, 587)) 0 (n := 33) (zdec DX10_init 68 rfl) (Or.inl ⟨rfl, rfl⟩) zac_0 rfl (by decide) ?_
  change zW _ _ _ _ (zS0.take 74) 137 [(0, .inr (.inr 56))] [.inr (.inr 73), .inr (.inr 56)] (znew (zup (znew (zup (znew (zup (znew (zup (znew (zup (znew (zup (znew (zup (znew (zup (znew (zup (znew (zup (znew (zup (znew (zup (znew (zup (znew (zup (znew (zup (znew (zup (znew M 57) (-66) 0 57) 58) (-66) 1 58) 59) (-66) 2 59) 60) (-66) 3 60) 61) (-66) 7 61) 62) (-66) 8 62) 63) (-66) 9 63) 64) (-66) 10 64) 65) (-66) 11 65) 66) (-66) 13 66) 67) (-66) 20 67) 68) (-66) 21 68) 69) (-66) 22 69) 70) (-66) 23 70) 71) (-66) 24 71) 72) (-66) 26 72) 73)
  refine z_putr (rw1 := -66) (ki := 27) 56 10 (zdec DX10_init 69 rfl) rfl rfl rfl rfl (by decide) rfl rfl fl_SixWallsModel_59 (Or.inr ⟨rfl, rfl⟩) ?_
  refine z_aload_n 0 (zdec DX10_init 70 rfl) rfl rfl (by decide) ?_
  refine z_bipush 16 (zdec DX10_init 71 rfl) (by decide) ?_
  refine z_newa (b := (9, 571)) 0 (n := 16) (zdec DX10_init 72 rfl) (Or.inl ⟨rfl, rfl⟩) zac_0 rfl (by decide) ?_
  change zW _ _ _ _ (zS0.take 75) 145 [(0, .inr (.inr 56))] [.inr (.inr 74), .inr (.inr 56)] (znew (zup (znew (zup (znew (zup (znew (zup (znew (zup (znew (zup (znew (zup (znew (zup (znew (zup (znew (zup (znew (zup (znew (zup (znew (zup (znew (zup (znew (zup (znew (zup (znew (zup (znew M 57) (-66) 0 57) 58) (-66) 1 58) 59) (-66) 2 59) 60) (-66) 3 60) 61) (-66) 7 61) 62) (-66) 8 62) 63) (-66) 9 63) 64) (-66) 10 64) 65) (-66) 11 65) 66) (-66) 13 66) 67) (-66) 20 67) 68) (-66) 21 68) 69) (-66) 22 69) 70) (-66) 23 70) 71) (-66) 24 71) 72) (-66) 26 72) 73) (-66) 27 73) 74)
  refine z_putr (rw1 := -66) (ki := 28) 56 10 (zdec DX10_init 73 rfl) rfl rfl rfl rfl (by decide) rfl rfl fl_SixWallsModel_62 (Or.inr ⟨rfl, rfl⟩) ?_
  refine z_aload_n 0 (zdec DX10_init 74 rfl) rfl rfl (by decide) ?_
  refine z_bipush 33 (zdec DX10_init 75 rfl) (by decide) ?_
  refine z_newa (b := (8, 538)) 0 (n := 33) (zdec DX10_init 76 rfl) (Or.inl ⟨rfl, rfl⟩) zac_0 rfl (by decide) ?_
  change zW _ _ _ _ (zS0.take 76) 153 [(0, .inr (.inr 56))] [.inr (.inr 75), .inr (.inr 56)] (znew (zup (znew (zup (znew (zup (znew (zup (znew (zup (znew (zup (znew (zup (znew (zup (znew (zup (znew (zup (znew (zup (znew (zup (znew (zup (znew (zup (znew (zup (znew (zup (znew (zup (znew (zup (znew M 57) (-66) 0 57) 58) (-66) 1 58) 59) (-66) 2 59) 60) (-66) 3 60) 61) (-66) 7 61) 62) (-66) 8 62) 63) (-66) 9 63) 64) (-66) 10 64) 65) (-66) 11 65) 66) (-66) 13 66) 67) (-66) 20 67) 68) (-66) 21 68) 69) (-66) 22 69) 70) (-66) 23 70) 71) (-66) 24 71) 72) (-66) 26 72) 73) (-66) 27 73) 74) (-66) 28 74) 75)
  refine z_putr (rw1 := -66) (ki := 30) 56 10 (zdec DX10_init 77 rfl) rfl rfl rfl rfl (by decide) rfl rfl fl_SixWallsModel_65 (Or.inr ⟨rfl, rfl⟩) ?_
  refine z_aload_n 0 (zdec DX10_init 78 rfl) rfl rfl (by decide) ?_
  refine z_bipush 16 (zdec DX10_init 79 rfl) (by decide) ?_
  refine z_newa (b := (7, 522)) 0 (n := 16) (zdec DX10_init 80 rfl) (Or.inl ⟨rfl, rfl⟩) zac_0 rfl (by decide) ?_
  change zW _ _ _ _ (zS0.take 77) 161 [(0, .inr (.inr 56))] [.inr (.inr 76), .inr (.inr 56)] (znew (zup (znew (zup (znew (zup (znew (zup (znew (zup (znew (zup (znew (zup (znew (zup (znew (zup (znew (zup (znew (zup (znew (zup (znew (zup (znew (zup (znew (zup (znew (zup (znew (zup (znew (zup (znew (zup (znew M 57) (-66) 0 57) 58) (-66) 1 58) 59) (-66) 2 59) 60) (-66) 3 60) 61) (-66) 7 61) 62) (-66) 8 62) 63) (-66) 9 63) 64) (-66) 10 64) 65) (-66) 11 65) 66) (-66) 13 66) 67) (-66) 20 67) 68) (-66) 21 68) 69) (-66) 22 69) 70) (-66) 23 70) 71) (-66) 24 71) 72) (-66) 26 72) 73) (-66) 27 73) 74) (-66) 28 74) 75) (-66) 30 75) 76)
  refine z_putr (rw1 := -66) (ki := 32) 56 10 (zdec DX10_init 81 rfl) rfl rfl rfl rfl (by decide) rfl rfl fl_SixWallsModel_68 (Or.inr ⟨rfl, rfl⟩) ?_
  refine z_aload_n 0 (zdec DX10_init 82 rfl) rfl rfl (by decide) ?_
  refine z_bipush 16 (zdec DX10_init 83 rfl) (by decide) ?_
  refine z_newa (b := (6, 506)) 1 (n := 16) (zdec DX10_init 84 rfl) (Or.inr (Or.inl ⟨rfl, rfl⟩)) zac_1 rfl (by decide) ?_
  change zW _ _ _ _ (zS0.take 78) 169 [(0, .inr (.inr 56))] [.inr (.inr 77), .inr (.inr 56)] (znew (zup (znew (zup (znew (zup (znew (zup (znew (zup (znew (zup (znew (zup (znew (zup (znew (zup (znew (zup (znew (zup (znew (zup (znew (zup (znew (zup (znew (zup (znew (zup (znew (zup (znew (zup (znew (zup (znew (zup (znew M 57) (-66) 0 57) 58) (-66) 1 58) 59) (-66) 2 59) 60) (-66) 3 60) 61) (-66) 7 61) 62) (-66) 8 62) 63) (-66) 9 63) 64) (-66) 10 64) 65) (-66) 11 65) 66) (-66) 13 66) 67) (-66) 20 67) 68) (-66) 21 68) 69) (-66) 22 69) 70) (-66) 23 70) 71) (-66) 24 71) 72) (-66) 26 72) 73) (-66) 27 73) 74) (-66) 28 74) 75) (-66) 30 75) 76) (-66) 32 76) 77)
  refine z_putr (rw1 := -66) (ki := 33) 56 10 (zdec DX10_init 85 rfl) rfl rfl rfl rfl (by decide) rfl rfl fl_SixWallsModel_71 (Or.inr ⟨rfl, rfl⟩) ?_
  refine z_aload_n 0 (zdec DX10_init 86 rfl) rfl rfl (by decide) ?_
  refine z_bipush 50 (zdec DX10_init 87 rfl) (by decide) ?_
  refine z_newa (b := (5, 456)) 0 (n := 50) (zdec DX10_init 88 rfl) (Or.inl ⟨rfl, rfl⟩) zac_0 rfl (by decide) ?_
  change zW _ _ _ _ (zS0.take 79) 177 [(0, .inr (.inr 56))] [.inr (.inr 78), .inr (.inr 56)] (znew (zup (znew (zup (znew (zup (znew (zup (znew (zup (znew (zup (znew (zup (znew (zup (znew (zup (znew (zup (znew (zup (znew (zup (znew (zup (znew (zup (znew (zup (znew (zup (znew (zup (znew (zup (znew (zup (znew (zup (znew (zup (znew M 57) (-66) 0 57) 58) (-66) 1 58) 59) (-66) 2 59) 60) (-66) 3 60) 61) (-66) 7 61) 62) (-66) 8 62) 63) (-66) 9 63) 64) (-66) 10 64) 65) (-66) 11 65) 66) (-66) 13 66) 67) (-66) 20 67) 68) (-66) 21 68) 69) (-66) 22 69) 70) (-66) 23 70) 71) (-66) 24 71) 72) (-66) 26 72) 73) (-66) 27 73) 74) (-66) 28 74) 75) (-66) 30 75) 76) (-66) 32 76) 77) (-66) 33 77) 78)
  refine z_putr (rw1 := -66) (ki := 35) 56 10 (zdec DX10_init 89 rfl) rfl rfl rfl rfl (by decide) rfl rfl fl_SixWallsModel_74 (Or.inr ⟨rfl, rfl⟩) ?_
  refine z_aload_n 0 (zdec DX10_init 90 rfl) rfl rfl (by decide) ?_
  refine z_bipush 24 (zdec DX10_init 91 rfl) (by decide) ?_
  refine z_newa (b := (4, 432)) 0 (n := 24) (zdec DX10_init 92 rfl) (Or.inl ⟨rfl, rfl⟩) zac_0 rfl (by decide) ?_
  change zW _ _ _ _ (zS0.take 80) 185 [(0, .inr (.inr 56))] [.inr (.inr 79), .inr (.inr 56)] (znew (zup (znew (zup (znew (zup (znew (zup (znew (zup (znew (zup (znew (zup (znew (zup (znew (zup (znew (zup (znew (zup (znew (zup (znew (zup (znew (zup (znew (zup (znew (zup (znew (zup (znew (zup (znew (zup (znew (zup (znew (zup (znew (zup (znew M 57) (-66) 0 57) 58) (-66) 1 58) 59) (-66) 2 59) 60) (-66) 3 60) 61) (-66) 7 61) 62) (-66) 8 62) 63) (-66) 9 63) 64) (-66) 10 64) 65) (-66) 11 65) 66) (-66) 13 66) 67) (-66) 20 67) 68) (-66) 21 68) 69) (-66) 22 69) 70) (-66) 23 70) 71) (-66) 24 71) 72) (-66) 26 72) 73) (-66) 27 73) 74) (-66) 28 74) 75) (-66) 30 75) 76) (-66) 32 76) 77) (-66) 33 77) 78) (-66) 35 78) 79)
  refine z_putr (rw1 := -66) (ki := 36) 56 10 (zdec DX10_init 93 rfl) rfl rfl rfl rfl (by decide) rfl rfl fl_SixWallsModel_77 (Or.inr ⟨rfl, rfl⟩) ?_
  refine z_aload_n 0 (zdec DX10_init 94 rfl) rfl rfl (by decide) ?_
  refine z_bipush 6 (zdec DX10_init 95 rfl) (by decide) ?_
  refine z_newa (b := (3, 426)) 0 (n := 6) (zdec DX10_init 96 rfl) (Or.inl ⟨rfl, rfl⟩) zac_0 rfl (by decide) ?_
  change zW _ _ _ _ (zS0.take 81) 193 [(0, .inr (.inr 56))] [.inr (.inr 80), .inr (.inr 56)] (znew (zup (znew (zup (znew (zup (znew (zup (znew (zup (znew (zup (znew (zup (znew (zup (znew (zup (znew (zup (znew (zup (znew (zup (znew (zup (znew (zup (znew (zup (znew (zup (znew (zup (znew (zup (znew (zup (znew (zup (znew (zup (znew (zup (znew (zup (znew M 57) (-66) 0 57) 58) (-66) 1 58) 59) (-66) 2 59) 60) (-66) 3 60) 61) (-66) 7 61) 62) (-66) 8 62) 63) (-66) 9 63) 64) (-66) 10 64) 65) (-66) 11 65) 66) (-66) 13 66) 67) (-66) 20 67) 68) (-66) 21 68) 69) (-66) 22 69) 70) (-66) 23 70) 71) (-66) 24 71) 72) (-66) 26 72) 73) (-66) 27 73) 74) (-66) 28 74) 75) (-66) 30 75) 76) (-66) 32 76) 77) (-66) 33 77) 78) (-66) 35 78) 79) (-66) 36 79) 80)
  refine z_putr (rw1 := -66) (ki := 40) 56 10 (zdec DX10_init 97 rfl) rfl rfl rfl rfl (by decide) rfl rfl fl_SixWallsModel_80 (Or.inr ⟨rfl, rfl⟩) ?_
  refine z_aload_n 0 (zdec DX10_init 98 rfl) rfl rfl (by decide) ?_
  refine z_bipush 6 (zdec DX10_init 99 rfl) (by decide) ?_
  refine z_newa (b := (2, 420)) 0 (n := 6) (zdec DX10_init 100 rfl) (Or.inl ⟨rfl, rfl⟩) zac_0 rfl (by decide) ?_
  change zW _ _ _ _ (zS0.take 82) 201 [(0, .inr (.inr 56))] [.inr (.inr 81), .inr (.inr 56)] (znew (zup (znew (zup (znew (zup (znew (zup (znew (zup (znew (zup (znew (zup (znew (zup (znew (zup (znew (zup (znew (zup (znew (zup (znew (zup (znew (zup (znew (zup (znew (zup (znew (zup (znew (zup (znew (zup (znew (zup (znew (zup (znew (zup (znew (zup (znew (zup (znew M 57) (-66) 0 57) 58) (-66) 1 58) 59) (-66) 2 59) 60) (-66) 3 60) 61) (-66) 7 61) 62) (-66) 8 62) 63) (-66) 9 63) 64) (-66) 10 64) 65) (-66) 11 65) 66) (-66) 13 66) 67) (-66) 20 67) 68) (-66) 21 68) 69) (-66) 22 69) 70) (-66) 23 70) 71) (-66) 24 71) 72) (-66) 26 72) 73) (-66) 27 73) 74) (-66) 28 74) 75) (-66) 30 75) 76) (-66) 32 76) 77) (-66) 33 77) 78) (-66) 35 78) 79) (-66) 36 79) 80) (-66) 40 80) 81)
  refine z_putr (rw1 := -66) (ki := 41) 56 10 (zdec DX10_init 101 rfl) rfl rfl rfl rfl (by decide) rfl rfl fl_SixWallsModel_83 (Or.inr ⟨rfl, rfl⟩) ?_
  refine z_aload_n 0 (zdec DX10_init 102 rfl) rfl rfl (by decide) ?_
  refine z_sipush 360 (zdec DX10_init 103 rfl) (by decide) ?_
  refine z_newa (b := (1, 60)) 2 (n := 360) (zdec DX10_init 104 rfl) (Or.inr (Or.inr ⟨rfl, rfl⟩)) zac_2 rfl (by decide) ?_
  change zW _ _ _ _ (zS0.take 83) 210 [(0, .inr (.inr 56))] [.inr (.inr 82), .inr (.inr 56)] (znew (zup (znew (zup (znew (zup (znew (zup (znew (zup (znew (zup (znew (zup (znew (zup (znew (zup (znew (zup (znew (zup (znew (zup (znew (zup (znew (zup (znew (zup (znew (zup (znew (zup (znew (zup (znew (zup (znew (zup (znew (zup (znew (zup (znew (zup (znew (zup (znew (zup (znew M 57) (-66) 0 57) 58) (-66) 1 58) 59) (-66) 2 59) 60) (-66) 3 60) 61) (-66) 7 61) 62) (-66) 8 62) 63) (-66) 9 63) 64) (-66) 10 64) 65) (-66) 11 65) 66) (-66) 13 66) 67) (-66) 20 67) 68) (-66) 21 68) 69) (-66) 22 69) 70) (-66) 23 70) 71) (-66) 24 71) 72) (-66) 26 72) 73) (-66) 27 73) 74) (-66) 28 74) 75) (-66) 30 75) 76) (-66) 32 76) 77) (-66) 33 77) 78) (-66) 35 78) 79) (-66) 36 79) 80) (-66) 40 80) 81) (-66) 41 81) 82)
  refine z_putr (rw1 := -66) (ki := 42) 56 10 (zdec DX10_init 105 rfl) rfl rfl rfl rfl (by decide) rfl rfl fl_SixWallsModel_86 (Or.inr ⟨rfl, rfl⟩) ?_
  refine z_aload_n 0 (zdec DX10_init 106 rfl) rfl rfl (by decide) ?_
  refine z_bipush 60 (zdec DX10_init 107 rfl) (by decide) ?_
  refine z_newa (b := (0, 0)) 2 (n := 60) (zdec DX10_init 108 rfl) (Or.inr (Or.inr ⟨rfl, rfl⟩)) zac_2 rfl (by decide) ?_
  change zW _ _ _ _ (zS0.take 84) 218 [(0, .inr (.inr 56))] [.inr (.inr 83), .inr (.inr 56)] (znew (zup (znew (zup (znew (zup (znew (zup (znew (zup (znew (zup (znew (zup (znew (zup (znew (zup (znew (zup (znew (zup (znew (zup (znew (zup (znew (zup (znew (zup (znew (zup (znew (zup (znew (zup (znew (zup (znew (zup (znew (zup (znew (zup (znew (zup (znew (zup (znew (zup (znew (zup (znew M 57) (-66) 0 57) 58) (-66) 1 58) 59) (-66) 2 59) 60) (-66) 3 60) 61) (-66) 7 61) 62) (-66) 8 62) 63) (-66) 9 63) 64) (-66) 10 64) 65) (-66) 11 65) 66) (-66) 13 66) 67) (-66) 20 67) 68) (-66) 21 68) 69) (-66) 22 69) 70) (-66) 23 70) 71) (-66) 24 71) 72) (-66) 26 72) 73) (-66) 27 73) 74) (-66) 28 74) 75) (-66) 30 75) 76) (-66) 32 76) 77) (-66) 33 77) 78) (-66) 35 78) 79) (-66) 36 79) 80) (-66) 40 80) 81) (-66) 41 81) 82) (-66) 42 82) 83)
  refine z_putr (rw1 := -66) (ki := 43) 56 10 (zdec DX10_init 109 rfl) rfl rfl rfl rfl (by decide) rfl rfl fl_SixWallsModel_90 (Or.inr ⟨rfl, rfl⟩) ?_
  obtain ⟨MA, eMA⟩ : ∃ x, x = zup (znew (zup (znew (zup (znew (zup (znew (zup (znew (zup (znew (zup (znew (zup (znew (zup (znew (zup (znew (zup (znew (zup (znew (zup (znew (zup (znew (zup (znew (zup (znew (zup (znew (zup (znew (zup (znew (zup (znew (zup (znew (zup (znew (zup (znew (zup (znew (zup (znew (zup (znew (zup (znew M 57) (-66) 0 57) 58) (-66) 1 58) 59) (-66) 2 59) 60) (-66) 3 60) 61) (-66) 7 61) 62) (-66) 8 62) 63) (-66) 9 63) 64) (-66) 10 64) 65) (-66) 11 65) 66) (-66) 13 66) 67) (-66) 20 67) 68) (-66) 21 68) 69) (-66) 22 69) 70) (-66) 23 70) 71) (-66) 24 71) 72) (-66) 26 72) 73) (-66) 27 73) 74) (-66) 28 74) 75) (-66) 30 75) 76) (-66) 32 76) 77) (-66) 33 77) 78) (-66) 35 78) 79) (-66) 36 79) 80) (-66) 40 80) 81) (-66) 41 81) 82) (-66) 42 82) 83) (-66) 43 83 := ⟨_, rfl⟩
  have hPMA : zD10 MA := by rw [eMA]; first | exact zD10_up (zD10_of hPMA fun c hc => hx.1 c (by omega)) (by decide) | exact List.forall_mem_cons.mpr ⟨by simp [zup, znew], List.forall_mem_cons.mpr ⟨by simp [zup, znew], List.forall_mem_cons.mpr ⟨by simp [zup, znew], List.forall_mem_cons.mpr ⟨by simp [zup, znew], List.forall_mem_cons.mpr ⟨by simp [zup, znew], List.forall_mem_cons.mpr ⟨by simp [zup, znew], List.forall_mem_cons.mpr ⟨by simp [zup, znew], List.forall_mem_cons.mpr ⟨by simp [zup, znew], List.forall_mem_cons.mpr ⟨by simp [zup, znew], List.forall_mem_cons.mpr ⟨by simp [zup, znew], List.forall_mem_cons.mpr ⟨by simp [zup, znew], List.forall_mem_cons.mpr ⟨by simp [zup, znew], List.forall_mem_cons.mpr ⟨by simp [zup, znew], List.forall_mem_cons.mpr ⟨by simp [zup, znew], List.forall_mem_cons.mpr ⟨by simp [zup, znew], List.forall_mem_cons.mpr ⟨by simp [zup, znew], List.forall_mem_cons.mpr ⟨by simp [zup, znew], List.forall_mem_cons.mpr ⟨by simp [zup, znew], List.forall_mem_cons.mpr ⟨by simp [zup, znew], List.forall_mem_cons.mpr ⟨by simp [zup, znew], List.forall_mem_cons.mpr ⟨by simp [zup, znew], List.forall_mem_cons.mpr ⟨by simp [zup, znew], List.forall_mem_cons.mpr ⟨by simp [zup, znew], List.forall_mem_cons.mpr ⟨by simp [zup, znew], List.forall_mem_cons.mpr ⟨by simp [zup, znew], List.forall_mem_cons.mpr ⟨by simp [zup, znew], List.forall_mem_cons.mpr ⟨by simp [zup, znew], by simp⟩⟩⟩⟩⟩⟩⟩⟩⟩⟩⟩⟩⟩⟩⟩⟩⟩⟩⟩⟩⟩⟩⟩⟩⟩⟩⟩
  rw [← eMA]
  have fA : zFk 56 M MA := fun c h1 h2 => by rw [eMA]; repeat (first | rw [zup_row (by omega)] | rw [znew_row (by omega) (by omega)])
  have oA : ∀ j : Int, MA 56 j = 0 := fun j => by
    rw [eMA]
    repeat (first | rw [zup_row (by decide)] | rw [znew_row (by decide) (by decide)])
    exact h0 j
  have zA : zZr [57, 58, 59, 60, 61, 62, 63, 64, 65, 66, 67, 68, 69, 70, 71, 72, 73, 74, 75, 76, 77, 78, 79, 80, 81, 82, 83] MA := by
    rw [eMA]
    exact List.forall_mem_cons.mpr ⟨fun k => by simp [zup, znew], List.forall_mem_cons.mpr ⟨fun k => by simp [zup, znew], List.forall_mem_cons.mpr ⟨fun k => by simp [zup, znew], List.forall_mem_cons.mpr ⟨fun k => by simp [zup, znew], List.forall_mem_cons.mpr ⟨fun k => by simp [zup, znew], List.forall_mem_cons.mpr ⟨fun k => by simp [zup, znew], List.forall_mem_cons.mpr ⟨fun k => by simp [zup, znew], List.forall_mem_cons.mpr ⟨fun k => by simp [zup, znew], List.forall_mem_cons.mpr ⟨fun k => by simp [zup, znew], List.forall_mem_cons.mpr ⟨fun k => by simp [zup, znew], List.forall_mem_cons.mpr ⟨fun k => by simp [zup, znew], List.forall_mem_cons.mpr ⟨fun k => by simp [zup, znew], List.forall_mem_cons.mpr ⟨fun k => by simp [zup, znew], List.forall_mem_cons.mpr ⟨fun k => by simp [zup, znew], List.forall_mem_cons.mpr ⟨fun k => by simp [zup, znew], List.forall_mem_cons.mpr ⟨fun k => by simp [zup, znew], List.forall_mem_cons.mpr ⟨fun k => by simp [zup, znew], List.forall_mem_cons.mpr ⟨fun k => by simp [zup, znew], List.forall_mem_cons.mpr ⟨fun k => by simp [zup, znew], List.forall_mem_cons.mpr ⟨fun k => by simp [zup, znew], List.forall_mem_cons.mpr ⟨fun k => by simp [zup, znew], List.forall_mem_cons.mpr ⟨fun k => by simp [zup, znew], List.forall_mem_cons.mpr ⟨fun k => by simp [zup, znew], List.forall_mem_cons.mpr ⟨fun k => by simp [zup, znew], List.forall_mem_cons.mpr ⟨fun k => by simp [zup, znew], List.forall_mem_cons.mpr ⟨fun k => by simp [zup, znew], List.forall_mem_cons.mpr ⟨fun k => by simp [zup, znew], by simp⟩⟩⟩⟩⟩⟩⟩⟩⟩⟩⟩⟩⟩⟩⟩⟩⟩⟩⟩⟩⟩⟩⟩⟩⟩⟩⟩
  refine z_iconst 0 (zdec DX10_init 110 rfl) (by decide) ?_
  refine z_istore_n (L' := [(0, .inr (.inr 56)), (1, .inl 0)]) (zdec DX10_init 111 rfl) rfl rfl (by decide) ?_
  refine lp_X10_init_223 hPMA (hx242 := fun M2 hx => ?_) _ 0 MA (Nat.lt_succ_self _) ⟨by omega, by omega, fun _ _ => rfl, fun k a b => by omega⟩
  refine z_aload_n 0 (zdec DX10_init 122 rfl) rfl rfl (by decide) ?_
  refine z_iconst (-1) (zdec DX10_init 123 rfl) (by decide) ?_
  refine z_puti (ki := 14) 56 10 (zdec DX10_init 124 rfl) rfl rfl rfl (by decide) rfl rfl fl_SixWallsModel_93 (Or.inl rfl) ?_
  obtain ⟨MB, eMB⟩ : ∃ x, x = zup M2 56 14 (-1) := ⟨_, rfl⟩
  have hPMB : zD10 MB := by rw [eMB]; first | exact zD10_up (zD10_of hPMA fun c hc => hx.1 c (by omega)) (by decide) | exact List.forall_mem_cons.mpr ⟨by simp [zup, znew], List.forall_mem_cons.mpr ⟨by simp [zup, znew], List.forall_mem_cons.mpr ⟨by simp [zup, znew], List.forall_mem_cons.mpr ⟨by simp [zup, znew], List.forall_mem_cons.mpr ⟨by simp [zup, znew], List.forall_mem_cons.mpr ⟨by simp [zup, znew], List.forall_mem_cons.mpr ⟨by simp [zup, znew], List.forall_mem_cons.mpr ⟨by simp [zup, znew], List.forall_mem_cons.mpr ⟨by simp [zup, znew], List.forall_mem_cons.mpr ⟨by simp [zup, znew], List.forall_mem_cons.mpr ⟨by simp [zup, znew], List.forall_mem_cons.mpr ⟨by simp [zup, znew], List.forall_mem_cons.mpr ⟨by simp [zup, znew], List.forall_mem_cons.mpr ⟨by simp [zup, znew], List.forall_mem_cons.mpr ⟨by simp [zup, znew], List.forall_mem_cons.mpr ⟨by simp [zup, znew], List.forall_mem_cons.mpr ⟨by simp [zup, znew], List.forall_mem_cons.mpr ⟨by simp [zup, znew], List.forall_mem_cons.mpr ⟨by simp [zup, znew], List.forall_mem_cons.mpr ⟨by simp [zup, znew], List.forall_mem_cons.mpr ⟨by simp [zup, znew], List.forall_mem_cons.mpr ⟨by simp [zup, znew], List.forall_mem_cons.mpr ⟨by simp [zup, znew], List.forall_mem_cons.mpr ⟨by simp [zup, znew], List.forall_mem_cons.mpr ⟨by simp [zup, znew], List.forall_mem_cons.mpr ⟨by simp [zup, znew], List.forall_mem_cons.mpr ⟨by simp [zup, znew], by simp⟩⟩⟩⟩⟩⟩⟩⟩⟩⟩⟩⟩⟩⟩⟩⟩⟩⟩⟩⟩⟩⟩⟩⟩⟩⟩⟩
  rw [← eMB]
  have hB : zI10 MB MB 0 (zcw 0 (0 + 1)) := ⟨by rw [eMB, zup_ne (by decide), hx.1 56 (by decide), oA]; exact zcw_0.symm, (fun _ _ _ _ _ _ _ => rfl), (fun _ _ => rfl), (fun v a b => by rw [show (0 : Int) + 1 = 1 by rfl, zcw_0] at b; omega), (fun k a b => by omega), fun _ _ => rfl⟩
  refine z_iconst 0 (zdec DX10_init 125 rfl) (by decide) ?_
  refine z_istore_n (L' := [(0, .inr (.inr 56)), (1, .inl 0)]) (zdec DX10_init 126 rfl) rfl rfl (by decide) ?_
  refine lp_X10_init_249 hPMB (hx340 := fun M3 hz => ?_) _ 0 MB (Nat.lt_succ_self _) ⟨by omega, by omega, hB⟩
  refine z_iconst 0 (zdec DX10_init 180 rfl) (by decide) ?_
  refine z_istore_n (L' := [(0, .inr (.inr 56)), (1, .inl 0)]) (zdec DX10_init 181 rfl) rfl rfl (by decide) ?_
  refine lp_X10_init_342 (hz.D hPMB) (hx364 := fun M4 hv => ?_) _ 0 M3 (Nat.lt_succ_self _) ⟨by omega, by omega, (fun _ _ => rfl), (fun _ _ => rfl), fun k a b => by omega⟩
  refine z_aload_n 0 (zdec DX10_init 194 rfl) rfl rfl (by decide) ?_
  refine z_getr (rw1 := -66) (ki := 0) (r' := 57) 56 10 (zdec DX10_init 195 rfl) rfl rfl rfl rfl (by decide) rfl rfl fl_SixWallsModel_9 ((zD10_of (hz.D hPMB) fun c hc => hv.1 c (by omega)).a 0 rfl) ?_
  refine z_sipush 131 (zdec DX10_init 196 rfl) (by decide) ?_
  refine z_iconst 2 (zdec DX10_init 197 rfl) (by decide) ?_
  refine z_iast 57 (zdec DX10_init 198 rfl) rfl rfl ⟨by omega, by omega⟩ ?_
  refine z_aload_n 0 (zdec DX10_init 199 rfl) rfl rfl (by decide) ?_
  refine z_getr (rw1 := -66) (ki := 0) (r' := 57) 56 10 (zdec DX10_init 200 rfl) rfl rfl rfl rfl (by decide) rfl rfl fl_SixWallsModel_9 ((zD10_up (zD10_of (hz.D hPMB) fun c hc => hv.1 c (by omega)) (by decide)).a 0 rfl) ?_
  refine z_sipush 132 (zdec DX10_init 201 rfl) (by decide) ?_
  refine z_bipush 30 (zdec DX10_init 202 rfl) (by decide) ?_
  refine z_iast 57 (zdec DX10_init 203 rfl) rfl rfl ⟨by omega, by omega⟩ ?_
  exact z_vret (zdec DX10_init 204 rfl) rfl (by
    have eB : ∀ c : Int, c ≠ 56 → c ≠ 80 → MB c = MA c := fun c a b => by rw [eMB, zup_row a]; exact hx.1 c b
    have e3 : ∀ c : Int, c ≠ 56 → c ≠ 57 → c ≠ 61 → c ≠ 62 → c ≠ 63 → c ≠ 64 → M4 c = MB c := fun c a b d e f g => (hv.1 c b).trans (hz.2.1 c a b d e f g)
    refine ⟨rfl, rfl, (fun c a b => ?_), (fun q hq => ?_), (fun c hc k => ?_), (fun w a b => ?_), (fun k a b => ?_), ?_, (fun j a b => ?_), (fun h a b => ?_), (fun w a b => ?_), ?_, ?_, (fun k a b d => ?_)⟩
    · rw [zup_row (by omega), zup_row (by omega), e3 c (by omega) (by omega) (by omega) (by omega) (by omega) (by omega), eB c (by omega) (by omega)]; exact fA c a b
    · have hn : ∀ q ∈ zd10, q.1 < 0 := by decide
      have hq0 := hn q hq
      rw [zup_row (by omega), zup_row (by omega), e3 q.1 (by omega) (by omega) (by omega) (by omega) (by omega) (by omega)]; exact hPMB q hq
    · rw [zup_row (by revert c; decide), zup_row (by revert c; decide), e3 c (by revert c; decide) (by revert c; decide) (by revert c; decide) (by revert c; decide) (by revert c; decide) (by revert c; decide), eB c (by revert c; decide) (by revert c; decide)]; exact zA c (by revert c; decide) k
    · rw [zup_row (c' := 61) (by decide), zup_row (c' := 61) (by decide), zup_row (c' := 62) (by decide), zup_row (c' := 62) (by decide), hv.1 61 (by decide), hv.1 62 (by decide)]; exact hz.2.2.2.1 w a b
    · rw [zup_row (by decide), zup_row (by decide), e3 80 (by decide) (by decide) (by decide) (by decide) (by decide) (by decide), eMB, zup_row (by decide)]; exact hx.2 k a b
    · rw [zup_row (by decide), zup_row (by decide), hv.1 56 (by decide), hz.2.2.1 14 (by decide), eMB, zup_self]
    · rw [zup_row (by decide), zup_row (by decide), hv.1 56 (by decide), hz.2.2.1 j a, eMB, zup_ne b, hx.1 56 (by decide)]; exact oA j
    · rw [zup_ne (by omega), zup_ne (by omega), hv.2.1 (16 + h) (by omega), zup_row (c' := 63) (by decide), zup_row (c' := 63) (by decide), zup_row (c' := 64) (by decide), zup_row (c' := 64) (by decide), hv.1 63 (by decide), hv.1 64 (by decide)]; exact hz.2.2.2.2.1 h a b
    · rw [zup_ne (by omega), zup_ne (by omega)]; exact hv.2.2 w a b
    · rw [zup_ne (by decide), zup_self]
    · rw [zup_self]
    · rw [zup_ne (by omega), zup_ne (by omega), hv.2.1 k (by omega), hz.2.2.2.2.2 k (by omega), eB 57 (by decide) (by decide)]; exact zA 57 (by decide) k)
