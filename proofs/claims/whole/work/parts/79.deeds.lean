/-! days, where, of -/
theorem zfo_ci {g g' : Int → Int → Int} {a : Int} {P : Int → Prop} (h0 : P a) (h : ∀ x i : Int, P x → 0 ≤ i → i < 16 → g x i = g' x i ∧ P (g x i)) : zfo g a 16 = zfo g' a 16 := by
  have key : ∀ k : Nat, k ≤ 16 → zfold g a k = zfold g' a k ∧ P (zfold g a k) := by
    intro k
    induction k with
    | zero => intro _; exact ⟨rfl, h0⟩
    | succ k ih =>
      intro hk
      have i := ih (by omega)
      have t := h (zfold g a k) k i.2 (by omega) (by omega)
      refine ⟨?_, t.2⟩
      show g (zfold g a k) k = g' (zfold g' a k) k
      rw [t.1, i.1]
  exact (key 16 (Nat.le_refl _)).1
set_option maxHeartbeats 4000000 in
theorem zK_where {M : zMm} (hI : zI M) (k : Int) : zW mX9_where 9 (fun rv S' M1 => S' = zS0 ∧ ∃ r : Int, rv = some (.inl r) ∧ zW mX10_where 52 (fun rv2 S2 M2 => S2 = zS0 ∧ rv2 = some (.inl r) ∧ zI M2) (0, 0) zS0 0 (zargs 0 [.inr (.inr 56), .inl k]) [] M1) (0, 0) zS0 0 (zargs 0 [.inr (.inr 0), .inl k]) [] M := by
  have ix := hI.1
  have ic := hI.2.1
  obtain ⟨q, hT, hTR, hr⟩ := zRl_I ic hI.2.2.2.2.1
  refine zW_mono (cX9_where ix.1 ix.2.2.1 ic.1 hT k zoW.rf) fun rv S M1 e => ?_
  obtain ⟨rfl, e1, rfl⟩ := e
  have kc := e1.kc
  have ref := cX10_where (kc.P ix.1) (kc.gr ix.2.2.2) (kc.rr ic.r) (kc.tr hTR) k
  rw [kc.wm.1, kc.1 64 (by decide)] at ref
  refine ⟨rfl, _, rfl, zW_mono ref fun rv S M2 e => ?_⟩
  obtain ⟨rfl, e2, rfl⟩ := e
  refine ⟨rfl, zri ?_, zWD_I hI e1 e2⟩
  have t := zWm_x ic hr k
  by_cases c : 0 ≤ k ∧ k < 31
  · rw [if_pos c, if_pos c]
    refine (zfo_ci (P := fun b => b < 16) (by decide) fun x i hx i0 i1 => ?_).symm
    have e7 := (ic.2.1 i i0 i1).1
    have ei := t i i0 i1
    by_cases d : x < 0
    · have p1 : (M 7 i = 0 ∧ (x < 0 ∨ zWm M q k x < zWm M q k i)) ↔ (M 64 i = 0 ∧ (x < 0 ∨ zWmR M k x < zWmR M k i)) := by
        rw [e7]
        exact ⟨fun z => ⟨z.1, Or.inl d⟩, fun z => ⟨z.1, Or.inl d⟩⟩
      refine ⟨?_, ?_⟩
      · by_cases u : M 64 i = 0 ∧ (x < 0 ∨ zWmR M k x < zWmR M k i)
        · rw [if_pos u, if_pos (p1.mpr u)]
        · rw [if_neg u, if_neg fun z => u (p1.mp z)]
      · split <;> omega
    · have ex := t x (by omega) hx
      refine ⟨by rw [e7, ei, ex], ?_⟩
      split <;> omega
  · rw [if_neg c, if_neg c]
set_option maxHeartbeats 4000000 in
theorem zK_days {M : zMm} (hI : zI M) (k : Int) : zW mX9_days 10 (fun rv S' M1 => S' = zS0 ∧ ∃ r : Int, rv = some (.inl r) ∧ zW mX10_days 52 (fun rv2 S2 M2 => S2 = zS0 ∧ rv2 = some (.inl r) ∧ zI M2) (0, 0) zS0 0 (zargs 0 [.inr (.inr 56), .inl k]) [] M1) (0, 0) zS0 0 (zargs 0 [.inr (.inr 0), .inl k]) [] M := by
  have ix := hI.1
  have ic := hI.2.1
  have iw := hI.2.2.2.2.2.1
  obtain ⟨q, hT, hTR, hr⟩ := zRl_I ic hI.2.2.2.2.1
  refine zW_mono (cX9_days ix.1 ix.2.2.1 ic.1 hT k) fun rv S M1 e => ?_
  obtain ⟨rfl, e⟩ := e
  refine ⟨rfl, ?_⟩
  rcases e with ⟨c, rfl, rfl⟩ | ⟨c, rfl, e1⟩
  · refine ⟨_, rfl, zW_mono (cX10_days ix.1 ix.2.2.2 ic.r hTR k) fun rv S M2 e => ?_⟩
    obtain ⟨rfl, e⟩ := e
    rcases e with ⟨_, rfl, rfl⟩ | ⟨c2, _⟩
    · exact ⟨rfl, rfl, hI⟩
    · exact absurd c2 c
  · obtain ⟨a1, a2, a3, a4, a5⟩ := e1
    have kc : zKc M M1 := zKc.of fun x hx => a5 x (by omega) (by omega)
    refine ⟨_, rfl, zW_mono (cX10_days (kc.P ix.1) (kc.gr ix.2.2.2) (kc.rr ic.r) (kc.tr hTR) k) fun rv S M2 e => ?_⟩
    obtain ⟨rfl, e⟩ := e
    rcases e with ⟨c2, _⟩ | ⟨_, rfl, b1, b2, b3, b4, b5⟩
    · exact absurd c c2
    rw [kc.wm.1] at b1 b2
    rw [kc.wm.2] at b2
    rw [kc.1 56 (by decide)] at b3 b4
    have t := zWm_x ic hr k
    refine ⟨rfl, zri (by rw [kc.wm.1]; exact (zsum_H t).symm), hI.go (L := [9, 20, 21, 22, 23, 24, 25, 26, 63, 67, 68, 69, 70, 71, 72]) (J := [15, 16, 17, 18, 19, 25]) (fun x hx => ?_) (fun j hj => ?_) (uc := Or.inr ?_) (uw := Or.inr ?_)⟩
    · simp only [List.mem_cons, List.not_mem_nil, not_or, or_false, not_false_eq_true, and_true, true_and] at hx
      rw [b5 x (by omega) (by omega) (by omega), a5 x (by omega) (by omega)]
    · simp only [List.mem_cons, List.not_mem_nil, not_or, or_false, not_false_eq_true, and_true, true_and] at hj
      exact b4 j (by omega) (by omega)
    · have fr : ∀ x : Int, x ≠ 9 → x ≠ 56 → x ≠ 63 → (x < 20 ∨ (26 < x ∧ x < 67)) → M2 x = M x := fun x h9 h56 h63 h => by rw [b5 x h56 h63 (by omega), a5 x h9 (by omega)]
      have e9 : ∀ h : Int, 0 ≤ h → h < 16 → M2 9 h = zWm M q k h := fun h h0 h1 => by rw [b5 9 (by decide) (by decide) (by decide)]; exact a1 h h0 h1
      have e63 : ∀ h : Int, 0 ≤ h → h < 16 → M2 63 h = zWm M q k h := fun h h0 h1 => (b1 h h0 h1).trans (t h h0 h1).symm
      have wb := zWm_b (q := q) ic.1 k
      unfold zYc zRg
      rw [fr 7 (by decide) (by decide) (by decide) (by decide), fr 8 (by decide) (by decide) (by decide) (by decide), fr 10 (by decide) (by decide) (by decide) (by decide), fr 11 (by decide) (by decide) (by decide) (by decide), fr 12 (by decide) (by decide) (by decide) (by decide), fr 13 (by decide) (by decide) (by decide) (by decide), fr 1 (by decide) (by decide) (by decide) (by decide), fr 57 (by decide) (by decide) (by decide) (by decide), fr 64 (by decide) (by decide) (by decide) (by decide)]
      refine ⟨⟨fun h h0 h1 => ?_, ic.1.2⟩, fun h h0 h1 => ?_, ic.2.2⟩
      · have u := ic.1.1 h h0 h1
        rw [e9 h h0 h1]; exact ⟨u.1, u.2.1, wb h h0 h1, u.2.2.2⟩
      · have u := ic.2.1 h h0 h1
        rw [e9 h h0 h1, e63 h h0 h1]; exact ⟨u.1, u.2.1, rfl, u.2.2.2⟩
    · refine ⟨?_, fun w w0 w1 => ?_⟩
      · rw [b3, b5 21 (by decide) (by decide) (by decide), a3, iw.1]
      · rw [b2 w w0 w1, b5 26 (by decide) (by decide) (by decide), a2 w w0 w1]
        exact (zflw_x ic hr (k - 1) w0 w1).symm
set_option maxHeartbeats 4000000 in
theorem zK_of {M : zMm} (hI : zI M) (n : Int) (k : Int) : zW mX9_of 7 (fun rv S' M1 => S' = zS0 ∧ ∃ r : Int, rv = some (.inl r) ∧ zW mX10_of 51 (fun rv2 S2 M2 => S2 = zS0 ∧ rv2 = some (.inl r) ∧ zI M2) (0, 0) zS0 0 (zargs 0 [.inr (.inr 56), .inl n, .inl k]) [] M1) (0, 0) zS0 0 (zargs 0 [.inr (.inr 0), .inl n, .inl k]) [] M := by
  have ix := hI.1
  have ic := hI.2.1
  obtain ⟨q, hT, hTR, hr⟩ := zRl_I ic hI.2.2.2.2.1
  refine zW_mono (cX9_of ix.1 ix.2.2.1 ic.1 hT n k) fun rv S M1 e => ?_
  obtain ⟨rfl, e1, rfl⟩ := e
  have kc : zKc M M1 := zKc.of fun c hc => e1 c (by omega)
  have e57 : M1 57 = M 57 := kc.1 57 (by decide)
  have e63 : M1 63 = M 63 := kc.1 63 (by decide)
  have e64 : M1 64 = M 64 := kc.1 64 (by decide)
  refine ⟨rfl, _, rfl, zW_mono (cX10_of (kc.P ix.1) (kc.gr ix.2.2.2) (kc.rr ic.r) (kc.tr hTR) n k) fun rv S M2 e => ?_⟩
  obtain ⟨rfl, e2, rfl⟩ := e
  refine ⟨rfl, zri ?_, hI.go (L := [20, 67, 68, 69, 70, 71, 73]) (J := [15, 16, 17, 18, 19]) (fun c hc => ?_) (fun j hj => ?_)⟩
  · unfold zofN zof
    by_cases c : 0 ≤ k ∧ k ≤ 5
    · rw [if_pos c, if_pos c]
      by_cases d : 0 ≤ n ∧ n < 16
      · rw [if_pos d, if_pos d]
        have t := ic.2.1 n d.1 d.2
        unfold zofR zofH
        rw [e57, e63, e64, t.1, t.2.1, t.2.2.1, t.2.2.2, zload_c (T := M 11) fun w w0 w1 => (ic.2.2.1 w w0 w1).1]
      · rw [if_neg d, if_neg d]
    · rw [if_neg c, if_neg c]
      by_cases c2 : 10 ≤ k ∧ k ≤ 15
      · rw [if_pos c2, if_pos c2]
        by_cases d : 0 ≤ n ∧ n < 33
        · rw [if_pos d, if_pos d]
          have t := ic.2.2.1 n d.1 d.2
          unfold zofWR zofW
          rw [kc.wm.2, kc.v, e57, e63, t.1, t.2.1, t.2.2, ic.ag.agree, ← hr.flow (zb63 ic.r) d.1 d.2, zflow_H (T := M 63) (T' := M 9) fun h h0 h1 => (ic.2.1 h h0 h1).2.2.1]
        · rw [if_neg d, if_neg d]
      · rw [if_neg c2, if_neg c2, e57, ic.2.2.2.1, ic.2.2.2.2]
  · simp only [List.mem_cons, List.not_mem_nil, not_or, or_false, not_false_eq_true, and_true, true_and] at hc
    rw [e2.1 c (by omega) (by omega), e1 c (by omega)]
  · simp only [List.mem_cons, List.not_mem_nil, not_or, or_false, not_false_eq_true, and_true, true_and] at hj
    rw [e2.2 j (by omega), e1 56 (by decide)]
