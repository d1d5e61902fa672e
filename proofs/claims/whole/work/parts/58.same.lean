/-! calls that are the same on both sides, one after another -/
theorem zW_mono {y : zM} {d : Nat} {Q Q' : zPost} {b : Nat × Nat} {S : List zSh} {pc : Nat} {L : List (Nat × zV)} {st : List zV} {M : zMm} (h : zW y d Q b S pc L st M) (i : ∀ rv S M, Q rv S M → Q' rv S M) : zW y d Q' b S pc L st M := by
  intro p l e R s m args below meth c D cA ad0 n0 Mn A Z hE hR
  exact h p l e R s m args below meth c D cA ad0 n0 Mn A Z hE (fun rv S M ad H locs cells slots pc ls hW hv hQ => hR rv S M ad H locs cells slots pc ls hW hv (i rv S M hQ))
theorem zrj {x y : Int} (h : x = y) : some (Sum.inr (Sum.inl x) : zV) = some (.inr (.inl y)) := by rw [h]
theorem zKc.rf {M : zMm} : zKc M M := zKc.of fun _ _ => rfl
set_option maxHeartbeats 4000000 in
theorem zK_wall {M : zMm} (hI : zI M) (v : Int) : zW mX9_wall 4 (fun rv S' M1 => S' = zS0 ∧ ∃ r : Int, rv = some (.inl r) ∧ zW mX10_wall 4 (fun rv2 S2 M2 => S2 = zS0 ∧ rv2 = some (.inl r) ∧ zI M2) (0, 0) zS0 0 (zargs 0 [.inr (.inr 56), .inl v]) [] M1) (0, 0) zS0 0 (zargs 0 [.inr (.inr 0), .inl v]) [] M := by
  have ix := hI.1
  have ic := hI.2.1
  have ih := hI.2.2.1
  have it := hI.2.2.2.1
  have il := hI.2.2.2.2.1
  have iw := hI.2.2.2.2.2.1
  have ii := hI.2.2.2.2.2.2.1
  have ib := hI.2.2.2.2.2.2.2.1
  have is := hI.2.2.2.2.2.2.2.2.1
  have ik := hI.2.2.2.2.2.2.2.2.2
  refine zW_mono (cX9_wall ix.1 ix.2.2.1 v) fun rv S M1 h => ?_
  obtain ⟨rfl, rfl, rfl⟩ := h
  refine ⟨rfl, _, rfl, zW_mono (cX10_wall ix.1 ix.2.2.2 v) fun rv S M2 h => ?_⟩
  obtain ⟨rfl, rfl, rfl⟩ := h
  exact ⟨rfl, rfl, hI⟩
set_option maxHeartbeats 4000000 in
theorem zK_led {M : zMm} (hI : zI M) (w : Int) : zW mX9_led 3 (fun rv S' M1 => S' = zS0 ∧ ∃ r : Int, rv = some (.inl r) ∧ zW mX10_led 3 (fun rv2 S2 M2 => S2 = zS0 ∧ rv2 = some (.inl r) ∧ zI M2) (0, 0) zS0 0 (zargs 0 [.inr (.inr 56), .inl w]) [] M1) (0, 0) zS0 0 (zargs 0 [.inr (.inr 0), .inl w]) [] M := by
  have ix := hI.1
  have ic := hI.2.1
  have ih := hI.2.2.1
  have it := hI.2.2.2.1
  have il := hI.2.2.2.2.1
  have iw := hI.2.2.2.2.2.1
  have ii := hI.2.2.2.2.2.2.1
  have ib := hI.2.2.2.2.2.2.2.1
  have is := hI.2.2.2.2.2.2.2.2.1
  have ik := hI.2.2.2.2.2.2.2.2.2
  refine zW_mono (cX9_led ix.1 w) fun rv S M1 h => ?_
  obtain ⟨rfl, rfl, rfl⟩ := h
  refine ⟨rfl, _, rfl, zW_mono (cX10_led ix.1 w) fun rv S M2 h => ?_⟩
  obtain ⟨rfl, rfl, rfl⟩ := h
  refine ⟨rfl, zri ?_, hI⟩
  by_cases c : 0 ≤ w ∧ w < 33
  · rw [if_pos c, if_pos c, iw.1, iw.2 w c.1 c.2]
  · rw [if_neg c, if_neg c]
set_option maxHeartbeats 4000000 in
theorem zK_count {M : zMm} (hI : zI M) (k : Int) : zW mX9_count 3 (fun rv S' M1 => S' = zS0 ∧ ∃ r : Int, rv = some (.inl r) ∧ zW mX10_count 3 (fun rv2 S2 M2 => S2 = zS0 ∧ rv2 = some (.inl r) ∧ zI M2) (0, 0) zS0 0 (zargs 0 [.inr (.inr 56), .inl k]) [] M1) (0, 0) zS0 0 (zargs 0 [.inr (.inr 0), .inl k]) [] M := by
  have ix := hI.1
  have ic := hI.2.1
  have ih := hI.2.2.1
  have it := hI.2.2.2.1
  have il := hI.2.2.2.2.1
  have iw := hI.2.2.2.2.2.1
  have ii := hI.2.2.2.2.2.2.1
  have ib := hI.2.2.2.2.2.2.2.1
  have is := hI.2.2.2.2.2.2.2.2.1
  have ik := hI.2.2.2.2.2.2.2.2.2
  refine zW_mono (cX9_count ix.1 ic.1 k) fun rv S M1 h => ?_
  obtain ⟨rfl, rfl, rfl⟩ := h
  refine ⟨rfl, _, rfl, zW_mono (cX10_count ix.1 ix.2.2.2 ic.r k) fun rv S M2 h => ?_⟩
  obtain ⟨rfl, rfl, rfl⟩ := h
  refine ⟨rfl, zri ?_, hI⟩
  unfold zcnt zcntR
  rw [iw.1, it.2.1, ih.2.1, ib.2.2.1, ib.2.2.2.1, zsum_c (f := M 64) (g := M 7) (fun i a b => (ic.2.1 i a b).1), zsum_c (f := fun w => M 57 (65 + w)) (g := M 12) (fun i a b => (ic.2.2.1 i a b).2.1)]
set_option maxHeartbeats 4000000 in
theorem zK_trace {M : zMm} (hI : zI M) (i : Int) : zW mX9_trace 3 (fun rv S' M1 => S' = zS0 ∧ ∃ r : Int, rv = some (.inl r) ∧ zW mX10_trace 1 (fun rv2 S2 M2 => S2 = zS0 ∧ rv2 = some (.inl r) ∧ zI M2) (0, 0) zS0 0 (zargs 0 [.inr (.inr 56), .inl i]) [] M1) (0, 0) zS0 0 (zargs 0 [.inr (.inr 0), .inl i]) [] M := by
  have ix := hI.1
  have ic := hI.2.1
  have ih := hI.2.2.1
  have it := hI.2.2.2.1
  have il := hI.2.2.2.2.1
  have iw := hI.2.2.2.2.2.1
  have ii := hI.2.2.2.2.2.2.1
  have ib := hI.2.2.2.2.2.2.2.1
  have is := hI.2.2.2.2.2.2.2.2.1
  have ik := hI.2.2.2.2.2.2.2.2.2
  refine zW_mono (cX9_trace ix.1 ib.1 i) fun rv S M1 h => ?_
  obtain ⟨rfl, rfl, rfl⟩ := h
  refine ⟨rfl, _, rfl, zW_mono (cX10_trace ix.1 ib.2.1 i) fun rv S M2 h => ?_⟩
  obtain ⟨rfl, rfl, rfl⟩ := h
  refine ⟨rfl, zri ?_, hI⟩
  rw [ib.2.2.2.1]
  by_cases c : 0 ≤ i ∧ i < (if 24 < M 42 3 then 24 else M 42 3)
  · rw [if_pos c, if_pos c]
    have c2 := c.2
    exact ib.2.2.2.2.2 i c.1 (by split at c2 <;> omega) (by split at c2 <;> omega)
  · rw [if_neg c, if_neg c]
set_option maxHeartbeats 4000000 in
theorem zK_feed {M : zMm} (hI : zI M) (v : Int) : zW mX9_feed 3 (fun rv S' M1 => S' = zS0 ∧ ∃ r : Int, rv = some (.inl r) ∧ zW mX10_feed 2 (fun rv2 S2 M2 => S2 = zS0 ∧ rv2 = some (.inl r) ∧ zI M2) (0, 0) zS0 0 (zargs 0 [.inr (.inr 56), .inl v]) [] M1) (0, 0) zS0 0 (zargs 0 [.inr (.inr 0), .inl v]) [] M := by
  have ix := hI.1
  have ic := hI.2.1
  have ih := hI.2.2.1
  have it := hI.2.2.2.1
  have il := hI.2.2.2.2.1
  have iw := hI.2.2.2.2.2.1
  have ii := hI.2.2.2.2.2.2.1
  have ib := hI.2.2.2.2.2.2.2.1
  have is := hI.2.2.2.2.2.2.2.2.1
  have ik := hI.2.2.2.2.2.2.2.2.2
  refine zW_mono (cX9_feed ix.1 it.1 v) fun rv S M1 h => ?_
  obtain ⟨rfl, rfl, e1⟩ := h
  have k : zKc M M1 := zKc.of fun c hc => by
    rw [e1]; split
    · rw [zup_row (by omega), zup_row (by omega)]
    · rfl
  have e12 : M1 56 12 = M 14 1 := by rw [k.1 56 (by decide)]; exact it.2.1
  refine ⟨rfl, _, rfl, zW_mono (cX10_feed (k.P ix.1) (by rw [e12]; exact it.1) v) fun rv S M2 h => ?_⟩
  obtain ⟨rfl, rfl, e2⟩ := h
  rw [e12] at e2
  refine ⟨rfl, by rw [e12], ?_⟩
  by_cases c : (0 ≤ v ∧ v ≤ 255) ∧ M 14 1 < 120
  · rw [if_pos c] at e1 e2
    subst e1; subst e2
    have t := it
    obtain ⟨t1, t2, t3⟩ := t
    refine hI.go (L := [14, 15, 65]) (J := [12]) (fun c hc => by simp only [List.mem_cons, List.not_mem_nil, not_or, or_false, not_false_eq_true, and_true, true_and] at hc; repeat (rw [zup_row (by omega)])) (fun j hc => by simp only [List.mem_cons, List.not_mem_nil, not_or, or_false, not_false_eq_true, and_true, true_and] at hc; repeat (first | rw [zup_row (by decide)] | rw [zup_ne (by omega)])) (ut := Or.inr ⟨?_, ?_, fun i i0 i1 => ?_⟩) (ul := Or.inr (zYl.of' il (fun c hc => by simp only [List.mem_cons, List.not_mem_nil, not_or, or_false, not_false_eq_true, and_true, true_and] at hc; repeat (rw [zup_row (by omega)])) (fun j _ => by repeat (rw [zup_row (by decide)])) ?_ ?_))
    · simp [zup]; omega
    · simp [zup]
    · have i2 : i < M 14 1 + 1 := by simpa [zup] using i1
      by_cases e : i = M 14 1
      · subst e; simp [zup]; omega
      · have t3 := t3 i i0 (by omega); simp [zup, e]; exact t3
    · simp [zup]
    · simp [zup]
  · rw [if_neg c] at e1 e2; subst e2; subst e1; exact hI
set_option maxHeartbeats 4000000 in
theorem zK_body {M : zMm} (hI : zI M) (k : Int) : zW mX9_body 3 (fun rv S' M1 => S' = zS0 ∧ ∃ r : Int, rv = some (.inl r) ∧ zW mX10_body 2 (fun rv2 S2 M2 => S2 = zS0 ∧ rv2 = some (.inl r) ∧ zI M2) (0, 0) zS0 0 (zargs 0 [.inr (.inr 56), .inl k]) [] M1) (0, 0) zS0 0 (zargs 0 [.inr (.inr 0), .inl k]) [] M := by
  have ix := hI.1
  have ic := hI.2.1
  have ih := hI.2.2.1
  have it := hI.2.2.2.1
  have il := hI.2.2.2.2.1
  have iw := hI.2.2.2.2.2.1
  have ii := hI.2.2.2.2.2.2.1
  have ib := hI.2.2.2.2.2.2.2.1
  have is := hI.2.2.2.2.2.2.2.2.1
  have ik := hI.2.2.2.2.2.2.2.2.2
  refine zW_mono (cX9_body ix.1 ib.1 ix.2.1 k) fun rv S M1 h => ?_
  obtain ⟨rfl, rfl, e1⟩ := h
  have kc : zKc M M1 := zKc.of fun c hc => by
    rw [e1]; split
    · rw [zup_row (by omega), zup_row (by omega)]
    · rfl
  have e12 : M1 56 34 = M 42 1 := by rw [kc.1 56 (by decide)]; exact ib.2.2.1
  refine ⟨rfl, _, rfl, zW_mono (cX10_body (kc.P ix.1) (kc.cr ib.2.1) k) fun rv S M2 h => ?_⟩
  obtain ⟨rfl, rfl, e2⟩ := h
  rw [e12] at e2
  refine ⟨rfl, by rw [e12], ?_⟩
  by_cases c : (0 ≤ k ∧ k < 8) ∧ M 42 1 < 50
  · rw [if_pos c] at e1 e2
    subst e1; subst e2
    obtain ⟨t1, t2, t3, t4, t5, t6⟩ := ib
    refine hI.go (L := [42, 43, 78]) (J := [34]) (fun c hc => by simp only [List.mem_cons, List.not_mem_nil, not_or, or_false, not_false_eq_true, and_true, true_and] at hc; repeat (rw [zup_row (by omega)])) (fun j hc => by simp only [List.mem_cons, List.not_mem_nil, not_or, or_false, not_false_eq_true, and_true, true_and] at hc; repeat (first | rw [zup_row (by decide)] | rw [zup_ne (by omega)])) (ub := Or.inr ⟨⟨?_, ?_, fun i i0 i1 => ?_⟩, ⟨?_, ?_, fun i i0 i1 => ?_⟩, ?_, ?_, fun i i0 i1 => ?_, fun i i0 i1 i2 => ?_⟩) (uk := Or.inr fun s s0 s1 s2 => ?_)
    · have := t1.1; simp [zup]; omega
    · have := t1.2.1; simp [zup]; exact this
    · have t := t1.2.2 i i0 i1
      by_cases e : i = M 42 1
      · subst e; simp [zup]; omega
      · simp [zup, e]; exact t
    · have := t1.1; simp [zup]; omega
    · have := t2.2.1; simp [zup]; exact this
    · have t := t2.2.2 i i0 i1
      by_cases e : i = M 42 1
      · subst e; simp [zup]; omega
      · simp [zup, e]; exact t
    · simp [zup]
    · simp [zup]; exact t4
    · have t := t5 i i0 i1
      by_cases e : i = M 42 1
      · subst e; simp [zup]
      · simp [zup, e]; exact t
    · have i3 : i < M 42 3 := by simpa [zup] using i2
      have t := t6 i i0 i1 i3
      simp [zup]; exact t
    · have t := ik s s0 s1 (by simpa [zup] using s2)
      simp [zup]; omega
  · rw [if_neg c] at e1 e2; subst e2; subst e1; exact hI
theorem zYs.rel {M : zMm} (h : zYs M) {s : Int} (hs : 0 ≤ s ∧ s < 6) : (M 80 s < 0 ↔ M 46 s = -1) ∧ (50 ≤ M 80 s ↔ 0 ≤ M 46 s ∧ M 46 s ≤ 4) ∧ (50 ≤ M 80 s → M 80 s = 50 + M 46 s) ∧ M 81 s = M 48 s ∧ (-1 ≤ M 46 s ∧ M 46 s ≤ 5) ∧ (M 46 s = 5 → M 80 s = M 47 s) := by
  obtain ⟨a, b, c⟩ := h
  have c := c s hs.1 hs.2
  have a := a s hs.1 hs.2
  rcases c.1 with d | d | d <;> refine ⟨by omega, by omega, by omega, c.2.1, a.1, by omega⟩
theorem zYs.ref {M : zMm} (h : zYs M) (s i : Int) : zrefR M s i = zrefuse M s i := by
  unfold zrefR zrefuse zrow1
  by_cases hs : 0 ≤ s ∧ s < 6
  · have r := h.rel hs
    rw [r.2.2.2.1]
    repeat' split
    all_goals first | rfl | omega
  · rw [if_pos hs]
    repeat' split
    all_goals first | rfl | omega
set_option maxHeartbeats 4000000 in
theorem zK_element {M : zMm} (hI : zI M) (s : Int) (i : Int) : zW mX9_element 4 (fun rv S' M1 => S' = zS0 ∧ ∃ r : Int, rv = some (.inr (.inl r)) ∧ zW mX10_element 4 (fun rv2 S2 M2 => S2 = zS0 ∧ rv2 = some (.inr (.inl r)) ∧ zI M2) (0, 0) zS0 0 (zargs 0 [.inr (.inr 56), .inl s, .inl i]) [] M1) (0, 0) zS0 0 (zargs 0 [.inr (.inr 0), .inl s, .inl i]) [] M := by
  have ix := hI.1
  have ic := hI.2.1
  have ih := hI.2.2.1
  have it := hI.2.2.2.1
  have il := hI.2.2.2.2.1
  have iw := hI.2.2.2.2.2.1
  have ii := hI.2.2.2.2.2.2.1
  have ib := hI.2.2.2.2.2.2.2.1
  have is := hI.2.2.2.2.2.2.2.2.1
  have ik := hI.2.2.2.2.2.2.2.2.2
  refine zW_mono (cX9_element ix.1 is.1 s i) fun rv S M1 h => ?_
  obtain ⟨rfl, rfl, rfl⟩ := h
  refine ⟨rfl, _, rfl, zW_mono (cX10_element ix.1 is.2.1 s i) fun rv S M2 h => ?_⟩
  obtain ⟨rfl, rfl, rfl⟩ := h
  refine ⟨rfl, zrj ?_, hI⟩
  rw [is.ref]
  by_cases c : zrefuse M s i ≠ 0
  · rw [if_pos c, if_pos c]
  · rw [if_neg c, if_neg c]
    have t := zrefR_in ((is.ref s i).trans (Classical.not_not.mp c))
    have u := is.2.1 s t.1.1 t.1.2
    exact (is.2.2 s t.1.1 t.1.2).2.2 i t.2.2.1 (by omega)
set_option maxHeartbeats 4000000 in
theorem zK_image {M : zMm} (hI : zI M)  : zW mX9_image 3 (fun rv S' M1 => S' = zS0 ∧ ∃ r : Int, rv = some (.inl r) ∧ zW mX10_image 2 (fun rv2 S2 M2 => S2 = zS0 ∧ rv2 = some (.inl r) ∧ zI M2) (0, 0) zS0 0 (zargs 0 [.inr (.inr 56)]) [] M1) (0, 0) zS0 0 (zargs 0 [.inr (.inr 0)]) [] M := by
  have ix := hI.1
  have ic := hI.2.1
  have ih := hI.2.2.1
  have it := hI.2.2.2.1
  have il := hI.2.2.2.2.1
  have iw := hI.2.2.2.2.2.1
  have ii := hI.2.2.2.2.2.2.1
  have ib := hI.2.2.2.2.2.2.2.1
  have is := hI.2.2.2.2.2.2.2.2.1
  have ik := hI.2.2.2.2.2.2.2.2.2
  refine zW_mono (cX9_image ix.1 ic.1) fun rv S M1 h => ?_
  obtain ⟨rfl, rfl, e1⟩ := h
  have kc : zKc M M1 := zKc.of fun c hc => by rw [e1, zup_row (by omega), zcpy_row (by omega), zcpy_row (by omega)]
  refine ⟨rfl, _, rfl, zW_mono (cX10_image (kc.P ix.1) (kc.rr ic.r)) fun rv S M2 h => ?_⟩
  obtain ⟨rfl, rfl, f1, f2, f3, f4, f5⟩ := h
  have e63 : M1 63 = M 63 := kc.1 63 (by decide)
  have e64 : M1 64 = M 64 := kc.1 64 (by decide)
  refine ⟨rfl, zri (by rw [e63]; exact zsum_c fun i a b => (ic.2.1 i a b).2.2.1), ?_⟩
  have m35 : ∀ h : Int, 0 ≤ h → h < 16 → M2 35 h = M 9 h := fun h a b => by
    rw [f5 35 (by decide) (by decide) (by decide), e1, zup_row (by decide), zcpy_row (by decide)]
    show (if (35 : Int) = 35 ∧ 0 ≤ h ∧ h < 0 + 16 then M 9 (0 + (h - 0)) else M 35 h) = M 9 h
    rw [if_pos ⟨rfl, a, by omega⟩, show (0 : Int) + (h - 0) = h by omega]
  have m36 : ∀ h : Int, 0 ≤ h → h < 16 → M2 36 h = M 7 h := fun h a b => by
    rw [f5 36 (by decide) (by decide) (by decide), e1, zup_row (by decide)]
    show (if (36 : Int) = 36 ∧ 0 ≤ h ∧ h < 0 + 16 then (zcpy M 9 0 35 0 16) 7 (0 + (h - 0)) else (zcpy M 9 0 35 0 16) 36 h) = M 7 h
    rw [if_pos ⟨rfl, a, by omega⟩, show (0 : Int) + (h - 0) = h by omega, zcpy_row (by decide)]
  have fr : ∀ c : Int, c ∉ ([56, 34, 35, 36, 76, 77] : List Int) → M2 c = M c := (fun c hc => by simp only [List.mem_cons, List.not_mem_nil, not_or, or_false, not_false_eq_true, and_true, true_and] at hc; rw [f5 c (by omega) (by omega) (by omega), e1, zup_row (by omega), zcpy_row (by omega), zcpy_row (by omega)])
  refine hI.go (L := [34, 35, 36, 76, 77]) (J := [31]) fr (fun j hc => by simp only [List.mem_cons, List.not_mem_nil, not_or, or_false, not_false_eq_true, and_true, true_and] at hc; rw [f4 j (by omega), kc.1 56 (by decide)]) (ui := Or.inr ⟨fun h a b => ?_, ?_, fun h a b => ?_⟩)
  · have t := ic.1.1 h a b
    rw [m35 h a b, m36 h a b]; exact ⟨t.2.2.1, t.1⟩
  · rw [f3, f5 34 (by decide) (by decide) (by decide), e1]; simp [zup]
  · rw [m35 h a b, m36 h a b, f1 h a b, f2 h a b, e63, e64]
    have t := ic.2.1 h a b
    exact ⟨t.2.2.1, t.1⟩
