/-! the histories walked, the shelves, empty, back -/
theorem ztell_cg {M M1 : zMm} {n w v c : Int} (h : M1 c = M c) : ztell M1 n w v c = ztell M n w v c := by
  unfold ztell
  repeat' split
  all_goals (funext j; simp only [zup]; split; rfl; rw [h])
theorem zat_c {M M2 : zMm} (h : zYh M) (e : ∀ c ∈ ([38, 39, 40, 41, 58, 59, 60] : List Int), M2 c = M c) (e6 : M2 37 6 = M 37 6) (e5 : 0 ≤ M2 37 5 ∧ M2 37 5 ≤ M 37 6) (f5 : M2 56 5 = M2 37 5) (f4 : M2 56 4 = M 56 4) : zYh M2 := by
  obtain ⟨⟨a, b, c, d⟩, g, i, j⟩ := h
  unfold zYh zHi
  rw [e6, f5, f4, e 38 (by decide), e 39 (by decide), e 40 (by decide), e 41 (by decide), e 58 (by decide), e 59 (by decide), e 60 (by decide)]
  exact ⟨⟨e5.1, e5.2, c, d⟩, rfl, i, j⟩
set_option maxHeartbeats 4000000 in
theorem zK_undo {M : zMm} (hI : zI M)  : zW mX9_undo 3 (fun rv S' M1 => S' = zS0 ∧ ∃ r : Int, rv = some (.inl r) ∧ zW mX10_undo 1 (fun rv2 S2 M2 => S2 = zS0 ∧ rv2 = some (.inl r) ∧ zI M2) (0, 0) zS0 0 (zargs 0 [.inr (.inr 56)]) [] M1) (0, 0) zS0 0 (zargs 0 [.inr (.inr 0)]) [] M := by
  have ix := hI.1
  have ic := hI.2.1
  have ih := hI.2.2.1
  have it := hI.2.2.2.1
  have il := hI.2.2.2.2.1
  have iw := hI.2.2.2.2.2.1
  have ii := hI.2.2.2.2.2.2.1
  have ib := hI.2.2.2.2.2.2.2.1
  have is := hI.2.2.2.2.2.2.2.2.1
  have ik := hI.2.2.2.2.2.2.2.2.2
  refine zW_mono (cX9_undo ix.1 ih.1) fun rv S M1 h => ?_
  obtain ⟨rfl, h⟩ := h
  rcases h with ⟨c, rfl, rfl⟩ | ⟨c, rfl, e1⟩
  · refine ⟨rfl, _, rfl, zW_mono (cX10_undo ix.1 ih.r) fun rv S M2 h => ?_⟩
    obtain ⟨rfl, h⟩ := h
    rcases h with ⟨_, rfl, rfl⟩ | ⟨d, _⟩
    · exact ⟨rfl, rfl, hI⟩
    · exact absurd (ih.2.1.trans c) d
  · have kc : zKc M M1 := zKc.of fun c hc => by rw [e1]; unfold zundo; rw [ztell_row2 (by omega), zup_row (by omega)]
    have e56 : M1 56 = M 56 := kc.1 56 (by decide)
    have e57 : M1 57 = M 57 := kc.1 57 (by decide)
    have e58 : M1 58 = M 58 := kc.1 58 (by decide)
    have e59 : M1 59 = M 59 := kc.1 59 (by decide)
    refine ⟨rfl, _, rfl, zW_mono (cX10_undo (kc.P ix.1) (kc.hr ih.r)) fun rv S M2 h => ?_⟩
    obtain ⟨rfl, h⟩ := h
    rw [e56, ih.2.1] at h
    rcases h with ⟨d, _⟩ | ⟨_, rfl, e2⟩
    · exact absurd d c
    have hl := ih.1.2.1
    have h0 := ih.1.1
    have t := ih.2.2.2 (M 37 5 - 1) (by omega) (by omega)
    have k := ih.1.2.2.2 (M 37 5 - 1) (by omega) (by omega)
    unfold zundR at e2
    rw [e58, e59, e56, ih.2.1, t.1.1, t.1.2.1] at e2
    have fr : ∀ c : Int, c ∉ ([56, 1, 8, 10, 11, 12, 13, 37, 57] : List Int) → M2 c = M c := (fun c hc => by simp only [List.mem_cons, List.not_mem_nil, not_or, or_false, not_false_eq_true, and_true, true_and] at hc; rw [e2, zup_row (by omega), zup_row (by omega), e1]; unfold zundo; rw [ztell_row2 (by omega), zup_row (by omega)])
    have m37 : ∀ j : Int, M2 37 j = if j = 5 then M 37 5 - 1 else M 37 j := fun j => by
      rw [e2, zup_row (by decide), zup_row (by decide), e1]; unfold zundo; rw [ztell_row2 (by decide)]; simp [zup]
    have m56 : ∀ j : Int, M2 56 j = if j = 5 then M 37 5 - 1 else M 56 j := fun j => by
      rw [e2, zup_row (by decide)]; simp [zup, e56]
    refine ⟨rfl, rfl, hI.go (L := [1, 8, 10, 11, 12, 13, 37, 57]) (J := [5]) fr (fun j hc => by simp only [List.mem_cons, List.not_mem_nil, not_or, or_false, not_false_eq_true, and_true, true_and] at hc; rw [m56, if_neg (by omega)]) (uc := Or.inr (ic.tell ⟨k, t.2.1⟩ (fun c hc => ?_) ?_ (fr 63 (by decide)) (fr 64 (by decide)))) (uh := Or.inr (zat_c ih (fun c hc => fr c (by revert c; decide)) (by rw [m37]; rfl) (by rw [m37]; simp; omega) (by rw [m37, m56]; rfl) (by rw [m56]; rfl)))⟩
    · have c56 : c < 37 := by revert c; decide
      rw [e2, zup_row (by omega), zup_row (by omega), e1]; exact ztell_cg (zup_row (by omega))
    · rw [e2, zup_zpu, zup_row (by decide), e57]
set_option maxHeartbeats 4000000 in
theorem zK_redo {M : zMm} (hI : zI M)  : zW mX9_redo 3 (fun rv S' M1 => S' = zS0 ∧ ∃ r : Int, rv = some (.inl r) ∧ zW mX10_redo 1 (fun rv2 S2 M2 => S2 = zS0 ∧ rv2 = some (.inl r) ∧ zI M2) (0, 0) zS0 0 (zargs 0 [.inr (.inr 56)]) [] M1) (0, 0) zS0 0 (zargs 0 [.inr (.inr 0)]) [] M := by
  have ix := hI.1
  have ic := hI.2.1
  have ih := hI.2.2.1
  have it := hI.2.2.2.1
  have il := hI.2.2.2.2.1
  have iw := hI.2.2.2.2.2.1
  have ii := hI.2.2.2.2.2.2.1
  have ib := hI.2.2.2.2.2.2.2.1
  have is := hI.2.2.2.2.2.2.2.2.1
  have ik := hI.2.2.2.2.2.2.2.2.2
  refine zW_mono (cX9_redo ix.1 ih.1) fun rv S M1 h => ?_
  obtain ⟨rfl, h⟩ := h
  rcases h with ⟨c, rfl, rfl⟩ | ⟨c, rfl, e1⟩
  · refine ⟨rfl, _, rfl, zW_mono (cX10_redo ix.1 ih.r) fun rv S M2 h => ?_⟩
    obtain ⟨rfl, h⟩ := h
    rcases h with ⟨_, rfl, rfl⟩ | ⟨d, _⟩
    · exact ⟨rfl, rfl, hI⟩
    · rw [ih.2.1, ih.2.2.1] at d; omega
  · have kc : zKc M M1 := zKc.of fun c hc => by rw [e1]; unfold zredo; rw [zup_row (by omega), ztell_row2 (by omega)]
    have e56 : M1 56 = M 56 := kc.1 56 (by decide)
    have e57 : M1 57 = M 57 := kc.1 57 (by decide)
    have e58 : M1 58 = M 58 := kc.1 58 (by decide)
    have e60 : M1 60 = M 60 := kc.1 60 (by decide)
    refine ⟨rfl, _, rfl, zW_mono (cX10_redo (kc.P ix.1) (kc.hr ih.r)) fun rv S M2 h => ?_⟩
    obtain ⟨rfl, h⟩ := h
    rw [e56, ih.2.1, ih.2.2.1] at h
    rcases h with ⟨d, _⟩ | ⟨_, rfl, e2⟩
    · omega
    have h0 := ih.1.1
    have t := ih.2.2.2 (M 37 5) (by omega) (by omega)
    have k := ih.1.2.2.2 (M 37 5) (by omega) (by omega)
    unfold zredR at e2
    rw [e58, e60, e56, ih.2.1, t.1.1, t.1.2.2] at e2
    have fr : ∀ c : Int, c ∉ ([56, 1, 8, 10, 11, 12, 13, 37, 57] : List Int) → M2 c = M c := (fun c hc => by simp only [List.mem_cons, List.not_mem_nil, not_or, or_false, not_false_eq_true, and_true, true_and] at hc; rw [e2, zup_row (by omega), zup_row (by omega), e1]; unfold zredo; rw [zup_row (by omega), ztell_row2 (by omega)])
    have m37 : ∀ j : Int, M2 37 j = if j = 5 then M 37 5 + 1 else M 37 j := fun j => by
      rw [e2, zup_row (by decide), zup_row (by decide), e1]; unfold zredo; simp only [zup, true_and]; split; rfl; rw [ztell_row2 (by decide)]
    have m56 : ∀ j : Int, M2 56 j = if j = 5 then M 37 5 + 1 else M 56 j := fun j => by
      rw [e2]; simp [zup, e56]
    refine ⟨rfl, rfl, hI.go (L := [1, 8, 10, 11, 12, 13, 37, 57]) (J := [5]) fr (fun j hc => by simp only [List.mem_cons, List.not_mem_nil, not_or, or_false, not_false_eq_true, and_true, true_and] at hc; rw [m56, if_neg (by omega)]) (uc := Or.inr (ic.tell ⟨k, t.2.2⟩ (fun c hc => ?_) ?_ (fr 63 (by decide)) (fr 64 (by decide)))) (uh := Or.inr (zat_c ih (fun c hc => fr c (by revert c; decide)) (by rw [m37]; rfl) (by rw [m37]; simp; omega) (by rw [m37, m56]; rfl) (by rw [m56]; rfl)))⟩
    · have c56 : c < 37 := by revert c; decide
      rw [e2, zup_row (by omega), zup_row (by omega), e1]; unfold zredo; rw [zup_row (by omega)]
    · rw [e2, zup_row (by decide), zup_zpu, e57]
set_option maxHeartbeats 4000000 in
theorem zK_keep {M : zMm} (hI : zI M) (s : Int) (b : Int) : zW mX9_keep 3 (fun rv S' M1 => S' = zS0 ∧ ∃ r : Int, rv = some (.inl r) ∧ zW mX10_keep 3 (fun rv2 S2 M2 => S2 = zS0 ∧ rv2 = some (.inl r) ∧ zI M2) (0, 0) zS0 0 (zargs 0 [.inr (.inr 56), .inl s, .inl b]) [] M1) (0, 0) zS0 0 (zargs 0 [.inr (.inr 0), .inl s, .inl b]) [] M := by
  have ix := hI.1
  have ic := hI.2.1
  have ih := hI.2.2.1
  have it := hI.2.2.2.1
  have il := hI.2.2.2.2.1
  have iw := hI.2.2.2.2.2.1
  have ii := hI.2.2.2.2.2.2.1
  have ib := hI.2.2.2.2.2.2.2.1
  have is := hI.2.2.2.2.2.2.2.2.1
  have ik := hI.2.2.2.2.2.2.2.2.2
  refine zW_mono (cX9_keep ix.1 s b) fun rv S M1 h => ?_
  obtain ⟨rfl, h⟩ := h
  rcases h with ⟨c, rfl, rfl⟩ | ⟨c, rfl, e1⟩
  · refine ⟨rfl, _, rfl, zW_mono (cX10_keep ix.1 ib.2.1 s b) fun rv S M2 h => ?_⟩
    obtain ⟨rfl, h⟩ := h
    rw [ib.2.2.1] at h
    rcases h with ⟨_, rfl, rfl⟩ | ⟨d, _⟩
    · exact ⟨rfl, rfl, hI⟩
    · exact absurd d c
  · have kc : zKc M M1 := zKc.of fun c hc => by rw [e1, zup_row (by omega), zup_row (by omega), zup_row (by omega)]
    have e56 : M1 56 = M 56 := kc.1 56 (by decide)
    refine ⟨rfl, _, rfl, zW_mono (cX10_keep (kc.P ix.1) (kc.cr ib.2.1) s b) fun rv S M2 h => ?_⟩
    obtain ⟨rfl, h⟩ := h
    rw [e56, ib.2.2.1] at h
    rcases h with ⟨d, _⟩ | ⟨_, rfl, e2⟩
    · exact absurd c d
    subst e1; subst e2
    have hb := ib.1.1.2
    refine ⟨rfl, rfl, hI.go (L := [46, 47, 48, 80, 81]) (J := []) (fun c hc => by simp only [List.mem_cons, List.not_mem_nil, not_or, or_false, not_false_eq_true, and_true, true_and] at hc; repeat (rw [zup_row (by omega)])) (fun j _ => by repeat (rw [zup_row (by decide)])) (us := Or.inr ⟨fun u u0 u1 => ?_, fun u u0 u1 => ?_, fun u u0 u1 => ?_⟩) (uk := Or.inr fun u u0 u1 u2 => ?_)⟩
    · have t := is.1 u u0 u1
      by_cases q : u = s
      · subst q; simp [zup]; split <;> omega
      · simp [zup, q]; exact t
    · have t := is.2.1 u u0 u1
      by_cases q : u = s
      · subst q; simp [zup]; omega
      · simp [zup, q]; exact t
    · have t := is.2.2 u u0 u1
      have r : ∀ i : Int, (zup (zup (zup (zup (zup M 46 s (if b < 0 then -1 else 5)) 47 s b) 48 s 0) 80 s b) 81 s 0) (50 + u) i = M (50 + u) i := fun i => by rw [zup_row (by omega), zup_row (by omega), zup_row (by omega), zup_row (by omega), zup_row (by omega)]
      simp only [r]
      by_cases q : u = s
      · subst q; simp [zup]
        refine ⟨?_, fun i i0 i1 => t.2.2 i i0 i1⟩
        split <;> omega
      · simp [zup, q]; exact t
    · by_cases q : u = s
      · subst q
        have u3 : (if b < 0 then (-1 : Int) else 5) = 5 := by simpa [zup] using u2
        have u4 : 0 ≤ b := by split at u3 <;> omega
        simp [zup]; omega
      · have t := ik u u0 u1 (by simpa [zup, q] using u2)
        simp [zup, q]; exact t
set_option maxHeartbeats 4000000 in
theorem zK_row {M : zMm} (hI : zI M) (s : Int) (t : Int) (n : Int) : zW mX9_row 3 (fun rv S' M1 => S' = zS0 ∧ ∃ r : Int, rv = some (.inl r) ∧ zW mX10_row 3 (fun rv2 S2 M2 => S2 = zS0 ∧ rv2 = some (.inl r) ∧ zI M2) (0, 0) zS0 0 (zargs 0 [.inr (.inr 56), .inl s, .inl t, .inl n]) [] M1) (0, 0) zS0 0 (zargs 0 [.inr (.inr 0), .inl s, .inl t, .inl n]) [] M := by
  have ix := hI.1
  have ic := hI.2.1
  have ih := hI.2.2.1
  have it := hI.2.2.2.1
  have il := hI.2.2.2.2.1
  have iw := hI.2.2.2.2.2.1
  have ii := hI.2.2.2.2.2.2.1
  have ib := hI.2.2.2.2.2.2.2.1
  have is := hI.2.2.2.2.2.2.2.2.1
  have ik := hI.2.2.2.2.2.2.2.2.2
  refine zW_mono (cX9_row ix.1 s t n) fun rv S M1 h => ?_
  obtain ⟨rfl, h⟩ := h
  rcases h with ⟨c, rfl, rfl⟩ | ⟨c, c2, rfl, rfl⟩ | ⟨c, c2, rfl, e1⟩
  · refine ⟨rfl, _, rfl, zW_mono (cX10_row ix.1 s t n) fun rv S M2 h => ?_⟩
    obtain ⟨rfl, h⟩ := h
    rcases h with ⟨_, rfl, rfl⟩ | ⟨d, _⟩ | ⟨d, _⟩
    · exact ⟨rfl, rfl, hI⟩
    · exact absurd d c
    · exact absurd d c
  · refine ⟨rfl, _, rfl, zW_mono (cX10_row ix.1 s t n) fun rv S M2 h => ?_⟩
    obtain ⟨rfl, h⟩ := h
    rcases h with ⟨d, _⟩ | ⟨_, _, rfl, rfl⟩ | ⟨_, d, _⟩
    · exact absurd c d
    · exact ⟨rfl, rfl, hI⟩
    · omega
  · have kc : zKc M M1 := zKc.of fun c hc => by rw [e1]; funext j; simp only [zfill]; rw [if_neg (by omega), zup_row (by omega), zup_row (by omega)]
    refine ⟨rfl, _, rfl, zW_mono (cX10_row (kc.P ix.1) s t n) fun rv S M2 h => ?_⟩
    obtain ⟨rfl, h⟩ := h
    rcases h with ⟨d, _⟩ | ⟨_, d, _⟩ | ⟨_, _, rfl, e2⟩
    · exact absurd c d
    · omega
    obtain ⟨⟨s0, s1⟩, ⟨t0, t1⟩, n1⟩ := c
    have m46 : ∀ u : Int, M2 46 u = if u = s then t else M 46 u := fun u => by rw [e2, e1]; simp [zfil, zfill, zup, show ¬ (46 = 50 + s) by omega]
    have m48 : ∀ u : Int, M2 48 u = if u = s then n else M 48 u := fun u => by rw [e2, e1]; simp [zfil, zfill, zup, show ¬ (48 = 50 + s) by omega]
    have m47 : ∀ u : Int, M2 47 u = M 47 u := fun u => by rw [e2, e1]; simp [zfil, zfill, zup, show ¬ (47 = 50 + s) by omega]
    have m80 : ∀ u : Int, M2 80 u = if u = s then 50 + t else M 80 u := fun u => by rw [e2, e1]; simp [zfil, zfill, zup, show ¬ (80 = 50 + s) by omega]
    have m81 : ∀ u : Int, M2 81 u = if u = s then n else M 81 u := fun u => by rw [e2, e1]; simp [zfil, zfill, zup, show ¬ (81 = 50 + s) by omega]
    have m82 : ∀ k : Int, M2 82 k = if 60 * s ≤ k ∧ k < 60 * s + 60 then 0 else M 82 k := fun k => by rw [e2, e1]; simp [zfil, zfill, zup, show ¬ (82 = 50 + s) by omega]
    have m5 : ∀ u k : Int, 0 ≤ u → u < 6 → 0 ≤ k → k < 60 → M2 (50 + u) k = if u = s then 0 else M (50 + u) k := fun u k u0 u1 k0 k1 => by
      rw [e2, e1]
      simp only [zfil]
      rw [if_neg (by omega), zup_row (by omega), zup_row (by omega)]
      simp only [zfill]
      by_cases q : u = s
      · rw [if_pos ⟨by omega, k0, k1⟩, if_pos q]
      · rw [if_neg (by omega), if_neg q, zup_row (by omega), zup_row (by omega)]
    refine ⟨rfl, rfl, hI.go (L := [46, 48, 50, 51, 52, 53, 54, 55, 80, 81, 82]) (J := []) (fun c hc => by simp only [List.mem_cons, List.not_mem_nil, not_or, or_false, not_false_eq_true, and_true, true_and] at hc; rw [e2, e1]; funext j; simp only [zfil]; rw [if_neg (by omega), zup_row (by omega), zup_row (by omega)]; simp only [zfill]; rw [if_neg (by omega), zup_row (by omega), zup_row (by omega)]) (fun j _ => ?_) (us := Or.inr ⟨fun u u0 u1 => ?_, fun u u0 u1 => ?_, fun u u0 u1 => ?_⟩) (uk := Or.inr fun u u0 u1 u2 => ?_)⟩
    · rw [e2, e1]; simp [zfil, zfill, zup, show ¬ (56 = 50 + s) by omega]
    · have t := is.1 u u0 u1
      rw [m46, m48]
      split <;> omega
    · have t := is.2.1 u u0 u1
      rw [m80, m81]
      split <;> omega
    · have t := is.2.2 u u0 u1
      rw [m46, m47, m48, m80, m81]
      by_cases q : u = s
      · rw [if_pos q, if_pos q, if_pos q, if_pos q]
        refine ⟨by omega, rfl, fun i i0 i1 => ?_⟩
        rw [m82, m5 u i u0 u1 i0 i1, if_pos (by omega), if_pos q]
      · rw [if_neg q, if_neg q, if_neg q, if_neg q]
        refine ⟨t.1, t.2.1, fun i i0 i1 => ?_⟩
        rw [m82, m5 u i u0 u1 i0 i1, if_neg (by omega), if_neg q]
        exact t.2.2 i i0 i1
    · rw [m46] at u2
      have e42 : M2 42 1 = M 42 1 := by rw [e2, e1]; simp [zfil, zfill, zup, show ¬ (42 = 50 + s) by omega]
      rw [m47, e42]
      split at u2
      · omega
      · exact ik u u0 u1 u2
