/-! put, shift, fires, taken, empty, back -/
set_option maxHeartbeats 4000000 in
theorem zK_put {M : zMm} (hI : zI M) (s : Int) (i : Int) (v : Int) : zW mX9_put 4 (fun rv S' M1 => S' = zS0 ∧ ∃ r : Int, rv = some (.inl r) ∧ zW mX10_put 4 (fun rv2 S2 M2 => S2 = zS0 ∧ rv2 = some (.inl r) ∧ zI M2) (0, 0) zS0 0 (zargs 0 [.inr (.inr 56), .inl s, .inl i, .inr (.inl v)]) [] M1) (0, 0) zS0 0 (zargs 0 [.inr (.inr 0), .inl s, .inl i, .inr (.inl v)]) [] M := by
  have ix := hI.1
  have ic := hI.2.1
  have ih := hI.2.2.1
  have it := hI.2.2.2.1
  have il := hI.2.2.2.2.1
  have iw := hI.2.2.2.2.2.1
  have ii := hI.2.2.2.2.2.2.1
  have ib := hI.2.2.2.2.2.2.2.1
  have is := hI.2.2.2.2.2.2.2.2.1
  have ik := hI.2.2.2.2.2.2.2.2.2
  refine zW_mono (cX9_put ix.1 is.1 s i v) fun rv S M1 h => ?_
  obtain ⟨rfl, h⟩ := h
  rcases h with ⟨c, rfl, rfl⟩ | ⟨c, rfl, e1⟩
  · refine ⟨rfl, _, rfl, zW_mono (cX10_put ix.1 is.2.1 s i v) fun rv S M2 h => ?_⟩
    obtain ⟨rfl, h⟩ := h
    rw [is.ref] at h
    rcases h with ⟨_, rfl, rfl⟩ | ⟨d, _⟩
    · exact ⟨rfl, rfl, hI⟩
    · exact absurd d c
  · have t0 := zrefR_in ((is.ref s i).trans c)
    obtain ⟨⟨s0, s1⟩, tb, i0, i1⟩ := t0
    have rl := is.rel ⟨s0, s1⟩
    have u := is.2.1 s s0 s1
    have kc : zKc M M1 := zKc.of fun c hc => by rw [e1, zup_row (by omega)]
    have e80 : M1 80 = M 80 := kc.1 80 (by decide)
    have e81 : M1 81 = M 81 := kc.1 81 (by decide)
    refine ⟨rfl, _, rfl, zW_mono (cX10_put (kc.P ix.1) (kc.sr is.2.1) s i v) fun rv S M2 h => ?_⟩
    obtain ⟨rfl, h⟩ := h
    have er : zrefR M1 s i = zrefuse M s i := by rw [← is.ref]; unfold zrefR; rw [e80, e81]
    rw [er, e80, rl.2.2.1 tb, show 50 + M 46 s - 50 = M 46 s by omega] at h
    rcases h with ⟨d, _⟩ | ⟨_, rfl, e2⟩
    · exact absurd c d
    have m5 : ∀ x k : Int, 0 ≤ x → x < 6 → M2 (50 + x) k = if x = s ∧ k = i then znarrow (M 46 s) v else M (50 + x) k := fun x k x0 x1 => by
      rw [e2, e1, zup_row (by omega)]
      simp only [zup]
      by_cases q : x = s ∧ k = i
      · rw [if_pos q, if_pos ⟨by omega, q.2⟩]
      · rw [if_neg q, if_neg (by omega)]
    have m82 : ∀ k : Int, M2 82 k = if k = 60 * s + i then znarrow (M 46 s) v else M 82 k := fun k => by
      rw [e2, e1]
      simp only [zup, true_and]
      by_cases q : k = 60 * s + i
      · rw [if_pos q, if_pos q]
      · rw [if_neg q, if_neg q, if_neg (by omega)]
    refine ⟨rfl, rfl, hI.go (L := [50, 51, 52, 53, 54, 55, 82]) (J := []) (fun c hc => by simp only [List.mem_cons, List.not_mem_nil, not_or, or_false, not_false_eq_true, and_true, true_and] at hc; rw [e2, e1, zup_row (by omega), zup_row (by omega)]) (fun j _ => ?_) (us := Or.inr ⟨?_, ?_, fun x x0 x1 => ?_⟩)⟩
    · rw [e2, e1, zup_row (by decide), zup_row (by omega)]
    · have t := is.1
      unfold zSv at t ⊢
      rw [e2, e1, zup_row (by decide), zup_row (by omega), zup_row (c' := 48) (by decide), zup_row (c' := 48) (by omega)]; exact t
    · have t := is.2.1
      unfold zSr at t ⊢
      rw [e2, e1, zup_row (c' := 80) (by decide), zup_row (c' := 80) (by omega), zup_row (c' := 81) (by decide), zup_row (c' := 81) (by omega)]; exact t
    · have t := is.2.2 x x0 x1
      have r : ∀ c : Int, 46 ≤ c → c ≤ 48 ∨ 80 ≤ c → c ≠ 82 → M2 c = M c := fun c a b d => by rw [e2, e1, zup_row d, zup_row (by omega)]
      rw [r 46 (by decide) (by decide) (by decide), r 47 (by decide) (by decide) (by decide), r 48 (by decide) (by decide) (by decide), r 80 (by decide) (by decide) (by decide), r 81 (by decide) (by decide) (by decide)]
      refine ⟨t.1, t.2.1, fun k k0 k1 => ?_⟩
      rw [m82, m5 x k x0 x1]
      by_cases q : x = s ∧ k = i
      · rw [if_pos q, if_pos (by omega)]
      · rw [if_neg q, if_neg (by omega)]; exact t.2.2 k k0 k1
theorem zYs.ref2 {M : zMm} (h : zYs M) (s t : Int) : zr2R M s t = zref2 M s t := by
  unfold zr2R zref2 zrow1
  by_cases hs : 0 ≤ s ∧ s < 6
  · by_cases ht : 0 ≤ t ∧ t < 6
    · have r := h.rel hs
      have u := h.rel ht
      have v := h.2.2 s hs.1 hs.2
      have w := h.2.2 t ht.1 ht.2
      repeat' split
      all_goals first | rfl | omega
    · repeat' split
      all_goals first | rfl | omega
  · repeat' split
    all_goals first | rfl | omega
set_option maxHeartbeats 4000000 in
theorem zK_shift {M : zMm} (hI : zI M) (s : Int) (i : Int) (t : Int) (j : Int) (n : Int) : zW mX9_shift 4 (fun rv S' M1 => S' = zS0 ∧ ∃ r : Int, rv = some (.inl r) ∧ zW mX10_shift 3 (fun rv2 S2 M2 => S2 = zS0 ∧ rv2 = some (.inl r) ∧ zI M2) (0, 0) zS0 0 (zargs 0 [.inr (.inr 56), .inl s, .inl i, .inl t, .inl j, .inl n]) [] M1) (0, 0) zS0 0 (zargs 0 [.inr (.inr 0), .inl s, .inl i, .inl t, .inl j, .inl n]) [] M := by
  have ix := hI.1
  have ic := hI.2.1
  have ih := hI.2.2.1
  have it := hI.2.2.2.1
  have il := hI.2.2.2.2.1
  have iw := hI.2.2.2.2.2.1
  have ii := hI.2.2.2.2.2.2.1
  have ib := hI.2.2.2.2.2.2.2.1
  have is := hI.2.2.2.2.2.2.2.2.1
  have ik := hI.2.2.2.2.2.2.2.2.2
  refine zW_mono (cX9_shift ix.1 is.1 s i t j n) fun rv S M1 h => ?_
  obtain ⟨rfl, h⟩ := h
  have r81 : ∀ u : Int, (0 ≤ u ∧ u < 6) → M 81 u = M 48 u := fun u hu => (is.rel hu).2.2.2.1
  have inr : zref2 M s t = 0 → (0 ≤ s ∧ s < 6) ∧ (0 ≤ t ∧ t < 6) := fun e => by
    rw [← is.ref2] at e
    unfold zr2R at e
    split at e <;> omega
  rcases h with ⟨c, rfl, rfl⟩ | ⟨c, c2, rfl, rfl⟩ | ⟨c, c2, rfl, e1⟩
  · refine ⟨rfl, _, rfl, zW_mono (cX10_shift ix.1 is.2.1 s i t j n) fun rv S M2 h => ?_⟩
    obtain ⟨rfl, h⟩ := h
    rw [is.ref2] at h
    rcases h with ⟨_, rfl, rfl⟩ | ⟨d, _⟩ | ⟨d, _⟩
    · exact ⟨rfl, rfl, hI⟩
    · exact absurd d c
    · exact absurd d c
  · refine ⟨rfl, _, rfl, zW_mono (cX10_shift ix.1 is.2.1 s i t j n) fun rv S M2 h => ?_⟩
    obtain ⟨rfl, h⟩ := h
    rw [is.ref2, r81 s (inr c).1, r81 t (inr c).2] at h
    rcases h with ⟨d, _⟩ | ⟨_, _, rfl, rfl⟩ | ⟨_, d, _⟩
    · exact absurd c d
    · exact ⟨rfl, rfl, hI⟩
    · exact absurd d c2
  · obtain ⟨⟨s0, s1⟩, t0, t1⟩ := inr c
    have kc : zKc M M1 := zKc.of fun c hc => by rw [e1, zcpy_row (by omega)]
    have e80 : M1 80 = M 80 := kc.1 80 (by decide)
    have e81 : M1 81 = M 81 := kc.1 81 (by decide)
    have e82 : M1 82 = M 82 := kc.1 82 (by decide)
    refine ⟨rfl, _, rfl, zW_mono (cX10_shift (kc.P ix.1) (kc.sr is.2.1) s i t j n) fun rv S M2 h => ?_⟩
    obtain ⟨rfl, h⟩ := h
    have er : zr2R M1 s t = zref2 M s t := by rw [← is.ref2]; unfold zr2R; rw [e80]
    rw [er, e81, r81 s ⟨s0, s1⟩, r81 t ⟨t0, t1⟩] at h
    rcases h with ⟨d, _⟩ | ⟨_, d, _⟩ | ⟨_, _, rfl, f82, fo⟩
    · exact absurd c d
    · exact absurd c2 d
    obtain ⟨⟨i0, n0, n1, i1⟩, j0, _, n2, j1⟩ := c2
    have b48 := (is.1 s s0 s1).2.2
    have b48t := (is.1 t t0 t1).2.2
    rw [e82] at f82
    have m5 : ∀ x k : Int, 0 ≤ x → x < 6 → M2 (50 + x) k = if x = t ∧ j ≤ k ∧ k < j + n then M (50 + s) (i + (k - j)) else M (50 + x) k := fun x k x0 x1 => by
      rw [fo (50 + x) (by omega) (by omega), e1]
      simp only [zcpy]
      by_cases q : x = t ∧ j ≤ k ∧ k < j + n
      · rw [if_pos q, if_pos ⟨by omega, q.2⟩]
      · rw [if_neg q, if_neg (by omega)]
    have r : ∀ c : Int, c < 50 ∨ 55 < c → c ≠ 82 → c ≠ 83 → M2 c = M c := fun c a b d => by rw [fo c b d, e1, zcpy_row (by omega)]
    refine ⟨rfl, rfl, hI.go (L := [50, 51, 52, 53, 54, 55, 82, 83]) (J := []) (fun c hc => by simp only [List.mem_cons, List.not_mem_nil, not_or, or_false, not_false_eq_true, and_true, true_and] at hc; exact r c (by omega) (by omega) (by omega)) (fun j _ => by rw [r 56 (by decide) (by decide) (by decide)]) (us := Or.inr ⟨?_, ?_, fun x x0 x1 => ?_⟩)⟩
    · have t := is.1
      unfold zSv at t ⊢
      rw [r 46 (by decide) (by decide) (by decide), r 48 (by decide) (by decide) (by decide)]; exact t
    · have t := is.2.1
      unfold zSr at t ⊢
      rw [r 80 (by decide) (by decide) (by decide), r 81 (by decide) (by decide) (by decide)]; exact t
    · have w := is.2.2 x x0 x1
      rw [r 46 (by decide) (by decide) (by decide), r 47 (by decide) (by decide) (by decide), r 48 (by decide) (by decide) (by decide), r 80 (by decide) (by decide) (by decide), r 81 (by decide) (by decide) (by decide)]
      refine ⟨w.1, w.2.1, fun k k0 k1 => ?_⟩
      rw [f82, m5 x k x0 x1]
      by_cases q : x = t ∧ j ≤ k ∧ k < j + n
      · rw [if_pos q, if_pos (by omega)]
        have z := (is.2.2 s s0 s1).2.2 (i + (k - j)) (by omega) (by omega)
        rw [← z]
        congr 1
        omega
      · rw [if_neg q, if_neg (by omega)]; exact w.2.2 k k0 k1
theorem zch_und : ∀ k x : Fin 8, (zch (k.val : Int) 8 (x.val : Int) = (k.val : Int) ↔ zund (k.val : Int) 8 (x.val : Int) ≠ 0) := by decide +kernel
theorem zch_undI {k x : Int} (hk : 0 ≤ k ∧ k < 8) (hx : 0 ≤ x ∧ x < 8) : zch k 8 x = k ↔ zund k 8 x ≠ 0 := by
  have e := zch_und ⟨k.toNat, by omega⟩ ⟨x.toNat, by omega⟩
  simpa only [show ((k.toNat : Nat) : Int) = k by omega, show ((x.toNat : Nat) : Int) = x by omega] using e
theorem zund_n (k : Int) : zund k 8 (-1) = 0 := rfl
set_option maxHeartbeats 4000000 in
theorem zK_empty {M : zMm} (hI : zI M) (h : Int) : zW mX9_empty 3 (fun rv S' M1 => S' = zS0 ∧ ∃ r : Int, rv = some (.inl r) ∧ zW mX10_empty 3 (fun rv2 S2 M2 => S2 = zS0 ∧ rv2 = some (.inl r) ∧ zI M2) (0, 0) zS0 0 (zargs 0 [.inr (.inr 56), .inl h]) [] M1) (0, 0) zS0 0 (zargs 0 [.inr (.inr 0), .inl h]) [] M := by
  have ix := hI.1
  have ic := hI.2.1
  have ih := hI.2.2.1
  have it := hI.2.2.2.1
  have il := hI.2.2.2.2.1
  have iw := hI.2.2.2.2.2.1
  have ii := hI.2.2.2.2.2.2.1
  have ib := hI.2.2.2.2.2.2.2.1
  have is := hI.2.2.2.2.2.2.2.2.1
  have ik := hI.2.2.2.2.2.2.2.2.2
  refine zW_mono (cX9_empty ix.1 ic.1 h) fun rv S M1 hh => ?_
  obtain ⟨rfl, hh⟩ := hh
  have e7 : (0 ≤ h ∧ h < 16) → M 64 h = M 7 h := fun a => (ic.2.1 h a.1 a.2).1
  rcases hh with ⟨c, rfl, rfl⟩ | ⟨c, c2, rfl, rfl⟩ | ⟨c, c2, rfl, e1⟩
  · refine ⟨rfl, _, rfl, zW_mono (cX10_empty ix.1 ix.2.2.2 ic.r h) fun rv S M2 hh => ?_⟩
    obtain ⟨rfl, hh⟩ := hh
    rcases hh with ⟨_, rfl, rfl⟩ | ⟨d, _⟩ | ⟨d, _⟩
    · exact ⟨rfl, rfl, hI⟩
    · exact absurd d c
    · exact absurd d c
  · refine ⟨rfl, _, rfl, zW_mono (cX10_empty ix.1 ix.2.2.2 ic.r h) fun rv S M2 hh => ?_⟩
    obtain ⟨rfl, hh⟩ := hh
    rcases hh with ⟨d, _⟩ | ⟨_, _, rfl, rfl⟩ | ⟨_, d, _⟩
    · exact absurd c d
    · exact ⟨rfl, rfl, hI⟩
    · exact absurd ((e7 c).trans c2) d
  · have kc : zKc M M1 := zKc.of fun c hc => by rw [e1, zup_row (by omega), zup_row (by omega)]
    have e64 : M1 64 = M 64 := kc.1 64 (by decide)
    refine ⟨rfl, _, rfl, zW_mono (cX10_empty (kc.P ix.1) (kc.gr ix.2.2.2) (kc.rr ic.r) h) fun rv S M2 hh => ?_⟩
    obtain ⟨rfl, hh⟩ := hh
    rw [e64] at hh
    rcases hh with ⟨d, _⟩ | ⟨_, d, _⟩ | ⟨_, _, rfl, e2⟩
    · exact absurd c d
    · exact absurd ((e7 c).symm.trans d) c2
    subst e1; subst e2
    have z : ∀ i : Int, 0 ≤ i → i < 16 → zpu (M 64) h 0 i = zpu (M 7) h 0 i := fun i a b => by
      have t := (ic.2.1 i a b).1
      unfold zpu; split; rfl; exact t
    refine ⟨rfl, zri (zsum_c z), hI.go (L := [7, 8, 57, 64]) (J := []) (fun c hc => by simp only [List.mem_cons, List.not_mem_nil, not_or, or_false, not_false_eq_true, and_true, true_and] at hc; repeat (rw [zup_row (by omega)])) (fun j _ => by repeat (rw [zup_row (by decide)])) (uc := Or.inr ?_)⟩
    obtain ⟨⟨r1, r2, r3, r4⟩, c1, c2, c3, c4⟩ := ic
    refine ⟨⟨fun x a b => ?_, fun x a b => ?_, ?_, ?_⟩, fun x a b => ?_, fun x a b => ?_, ?_, ?_⟩
    · have t := r1 x a b
      by_cases q : x = h
      · subst q; simp [zup]; exact ⟨t.2.2.1, t.2.2.2⟩
      · simp [zup, q]; exact t
    · have t := r2 x a b; simp [zup]; exact t
    · simp [zup]; exact r3
    · simp [zup]; exact r4
    · have t := c1 x a b
      by_cases q : x = h
      · subst q; simp [zup, show ¬ (16 + x = x) by omega]; exact t.2.2
      · simp [zup, q, show ¬ (16 + x = h) by omega]; exact t
    · have t := c2 x a b; simp [zup, show ¬ (32 + x = h) by omega, show ¬ (65 + x = h) by omega, show ¬ (98 + x = h) by omega]; exact t
    · simp [zup, show ¬ (131 = h) by omega]; exact c3
    · simp [zup, show ¬ (132 = h) by omega]; exact c4
set_option maxHeartbeats 4000000 in
theorem zK_back {M : zMm} (hI : zI M)  : zW mX9_back 3 (fun rv S' M1 => S' = zS0 ∧ ∃ r : Int, rv = some (.inl r) ∧ zW mX10_back 2 (fun rv2 S2 M2 => S2 = zS0 ∧ rv2 = some (.inl r) ∧ zI M2) (0, 0) zS0 0 (zargs 0 [.inr (.inr 56)]) [] M1) (0, 0) zS0 0 (zargs 0 [.inr (.inr 0)]) [] M := by
  have ix := hI.1
  have ic := hI.2.1
  have ih := hI.2.2.1
  have it := hI.2.2.2.1
  have il := hI.2.2.2.2.1
  have iw := hI.2.2.2.2.2.1
  have ii := hI.2.2.2.2.2.2.1
  have ib := hI.2.2.2.2.2.2.2.1
  have is := hI.2.2.2.2.2.2.2.2.1
  have ik := hI.2.2.2.2.2.2.2.2.2
  refine zW_mono (cX9_back ix.1 ii.1) fun rv S M1 h => ?_
  obtain ⟨rfl, h⟩ := h
  have hb : zbW (M 76) := fun h a b => by rw [(ii.2.2 h a b).1]; exact (ii.1 h a b).1
  rcases h with ⟨c, rfl, rfl⟩ | ⟨c, rfl, e1⟩
  · refine ⟨rfl, _, rfl, zW_mono (cX10_back ix.1 hb) fun rv S M2 h => ?_⟩
    obtain ⟨rfl, h⟩ := h
    rw [ii.2.1] at h
    rcases h with ⟨_, rfl, rfl⟩ | ⟨d, _⟩
    · exact ⟨rfl, rfl, hI⟩
    · exact absurd c d
  · have kc : zKc M M1 := zKc.of fun c hc => by rw [e1, zcpy_row (by omega), zcpy_row (by omega)]
    have e56 : M1 56 = M 56 := kc.1 56 (by decide)
    have e76 : M1 76 = M 76 := kc.1 76 (by decide)
    have e77 : M1 77 = M 77 := kc.1 77 (by decide)
    refine ⟨rfl, _, rfl, zW_mono (cX10_back (kc.P ix.1) (by rw [e76]; exact hb)) fun rv S M2 h => ?_⟩
    obtain ⟨rfl, h⟩ := h
    rw [e56, ii.2.1, e76] at h
    rcases h with ⟨d, _⟩ | ⟨_, rfl, f63, f64, fo⟩
    · exact absurd d c
    rw [e76] at f63
    rw [e77] at f64
    have m9 : ∀ h : Int, 0 ≤ h → h < 16 → M2 9 h = M 35 h := fun h a b => by
      rw [fo 9 (by decide) (by decide), e1, zcpy_row (by decide)]
      show (if (9 : Int) = 9 ∧ 0 ≤ h ∧ h < 0 + 16 then M 35 (0 + (h - 0)) else M 9 h) = M 35 h
      rw [if_pos ⟨rfl, a, by omega⟩, show (0 : Int) + (h - 0) = h by omega]
    have m7 : ∀ h : Int, 0 ≤ h → h < 16 → M2 7 h = M 36 h := fun h a b => by
      rw [fo 7 (by decide) (by decide), e1]
      show (if (7 : Int) = 7 ∧ 0 ≤ h ∧ h < 0 + 16 then (zcpy M 35 0 9 0 16) 36 (0 + (h - 0)) else (zcpy M 35 0 9 0 16) 7 h) = M 36 h
      rw [if_pos ⟨rfl, a, by omega⟩, show (0 : Int) + (h - 0) = h by omega, zcpy_row (by decide)]
    have fr : ∀ c : Int, c ∉ ([56, 7, 9, 63, 64] : List Int) → M2 c = M c := (fun c hc => by simp only [List.mem_cons, List.not_mem_nil, not_or, or_false, not_false_eq_true, and_true, true_and] at hc; rw [fo c (by omega) (by omega), e1, zcpy_row (by omega), zcpy_row (by omega)])
    refine ⟨rfl, zri (zsum_c fun i a b => (ii.2.2 i a b).1), hI.go (L := [7, 9, 63, 64]) (J := []) fr (fun j _ => by rw [fo 56 (by decide) (by decide), e56]) (uc := Or.inr ?_)⟩
    obtain ⟨⟨r1, r2, r3, r4⟩, c1, c2, c3, c4⟩ := ic
    refine ⟨⟨fun x a b => ?_, fun x a b => ?_, ?_, ?_⟩, fun x a b => ?_, fun x a b => ?_, ?_, ?_⟩
    · have t := r1 x a b
      have u := ii.1 x a b
      rw [m7 x a b, m9 x a b, fr 8 (by decide), fr 10 (by decide)]; exact ⟨u.2, t.2.1, u.1, t.2.2.2⟩
    · have t := r2 x a b
      rw [fr 11 (by decide), fr 12 (by decide), fr 13 (by decide)]; exact t
    · rw [fr 1 (by decide)]; exact r3
    · rw [fr 1 (by decide)]; exact r4
    · have t := c1 x a b
      have u := ii.2.2 x a b
      rw [m7 x a b, m9 x a b, f63 x a b, f64 x a b, fr 8 (by decide), fr 10 (by decide), fr 57 (by decide)]; exact ⟨u.2, t.2.1, u.1, t.2.2.2⟩
    · have t := c2 x a b
      rw [fr 11 (by decide), fr 12 (by decide), fr 13 (by decide), fr 57 (by decide)]; exact t
    · rw [fr 1 (by decide), fr 57 (by decide)]; exact c3
    · rw [fr 1 (by decide), fr 57 (by decide)]; exact c4
