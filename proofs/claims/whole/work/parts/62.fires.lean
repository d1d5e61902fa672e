/-! fires, taken -/
/-- a stretch laid cell by cell -/
theorem zlay_at {M : zMm} {c h : Int} {g : Int → Int} : ∀ n : Nat, ∀ p : Int, zfold (fun M2 k => zup M2 c (h + k) (g k)) M n c p = if h ≤ p ∧ p < h + n then g (p - h) else M c p := by
  intro n
  induction n with
  | zero => intro p; rw [if_neg (by omega)]; rfl
  | succ n ih =>
    intro p
    show zup (zfold (fun M2 k => zup M2 c (h + k) (g k)) M n) c (h + (n : Nat)) (g (n : Nat)) c p = _
    by_cases e : p = h + (n : Nat)
    · subst e
      rw [zup_self, if_pos (by omega)]
      congr 1
      omega
    · rw [zup_ne e, ih p]
      by_cases q : h ≤ p ∧ p < h + n
      · rw [if_pos q, if_pos (by omega)]
      · rw [if_neg q, if_neg (by omega)]
theorem zlay_row {M : zMm} {c h : Int} {g : Int → Int} : ∀ n : Nat, ∀ d : Int, d ≠ c → zfold (fun M2 k => zup M2 c (h + k) (g k)) M n d = M d := by
  intro n
  induction n with
  | zero => intro d _; rfl
  | succ n ih =>
    intro d hd
    show zup (zfold (fun M2 k => zup M2 c (h + k) (g k)) M n) c (h + (n : Nat)) (g (n : Nat)) d = _
    rw [zup_row hd, ih d hd]
/-- one number alone comes first -/
theorem zuniq {P : Int → Prop} {m c d : Int} (hc : 0 ≤ c ∧ c ≤ m ∧ (∀ k : Int, 0 ≤ k → k < c → P k) ∧ (c = m ∨ ¬ P c)) (hd : 0 ≤ d ∧ d ≤ m ∧ (∀ k : Int, 0 ≤ k → k < d → P k) ∧ (d = m ∨ ¬ P d)) : c = d := by
  obtain ⟨c0, c1, c2, c3⟩ := hc
  obtain ⟨d0, d1, d2, d3⟩ := hd
  by_cases e : c < d
  · rcases c3 with h | h
    · omega
    · exact absurd (d2 c c0 e) h
  · by_cases e2 : d < c
    · rcases d3 with h | h
      · omega
      · exact absurd (c2 d d0 e2) h
    · omega
set_option maxHeartbeats 4000000 in
theorem zK_fires {M : zMm} (hI : zI M) (s : Int) (i : Int) (h : Int) (hi : z32 i) : zW mX9_fires 3 (fun rv S' M1 => S' = zS0 ∧ ∃ r : Int, rv = some (.inl r) ∧ zW mX10_fires 4 (fun rv2 S2 M2 => S2 = zS0 ∧ rv2 = some (.inl r) ∧ zI M2) (0, 0) zS0 0 (zargs 0 [.inr (.inr 56), .inl s, .inl i, .inl h]) [] M1) (0, 0) zS0 0 (zargs 0 [.inr (.inr 0), .inl s, .inl i, .inl h]) [] M := by
  have ix := hI.1
  have ic := hI.2.1
  have ih := hI.2.2.1
  have it := hI.2.2.2.1
  have il := hI.2.2.2.2.1
  have iw := hI.2.2.2.2.2.1
  have ii := hI.2.2.2.2.2.2.1
  have ib := hI.2.2.2.2.2.2.2.1
  have is := hI.2.2.2.2.2.2.2.2.1
  have ik := hI.2.2.2.2.2.2.2.2.2
  refine zW_mono (cX9_fires ix.1 is.1 s i h hi) fun rv S M1 hh => ?_
  obtain ⟨rfl, hh⟩ := hh
  have rl : (0 ≤ s ∧ s < 6) → ((M 80 s < 0 ∨ M 80 s = 50) ↔ (M 46 s = -1 ∨ M 46 s = 0)) := fun a => by
    have t := is.rel a
    have u := is.2.2 s a.1 a.2
    omega
  rcases hh with ⟨c, rfl, rfl⟩ | ⟨c, c2, rfl, rfl⟩ | ⟨c, c2, n, n0, n1, n2, n3, rfl, e1⟩
  · refine ⟨rfl, _, rfl, zW_mono (cX10_fires ix.1 is.2.1 s i h) fun rv S M2 hh => ?_⟩
    obtain ⟨rfl, hh⟩ := hh
    rcases hh with ⟨_, rfl, rfl⟩ | ⟨d, _⟩ | ⟨d, _⟩
    · exact ⟨rfl, rfl, hI⟩
    · exact absurd d c
    · exact absurd d c
  · refine ⟨rfl, _, rfl, zW_mono (cX10_fires ix.1 is.2.1 s i h) fun rv S M2 hh => ?_⟩
    obtain ⟨rfl, hh⟩ := hh
    rcases hh with ⟨d, _⟩ | ⟨_, _, rfl, rfl⟩ | ⟨_, d, _⟩
    · exact absurd c d
    · exact ⟨rfl, rfl, hI⟩
    · exact absurd ((rl c.1).mp d) c2
  · obtain ⟨N, hN⟩ : ∃ N : Nat, n = (N : Int) := ⟨n.toNat, by omega⟩
    have e8 : ∀ p : Int, M1 8 p = if h / 100 ≤ p ∧ p < h / 100 + n then M (50 + s) (i + (p - h / 100)) else M 8 p := fun p => by
      rw [e1, hN]
      exact zlay_at N p
    have er : ∀ c : Int, c ≠ 8 → M1 c = M c := fun c hc => by
      rw [e1, hN]
      exact zlay_row N c hc
    have kc : zKc M M1 := zKc.of fun c hc => er c (by omega)
    have e80 : M1 80 = M 80 := kc.1 80 (by decide)
    have e81 : M1 81 = M 81 := kc.1 81 (by decide)
    have e82 : M1 82 = M 82 := kc.1 82 (by decide)
    have e57 : M1 57 = M 57 := kc.1 57 (by decide)
    refine ⟨rfl, _, rfl, zW_mono (cX10_fires (kc.P ix.1) (kc.sr is.2.1) s i h) fun rv S M2 hh => ?_⟩
    obtain ⟨rfl, hh⟩ := hh
    rw [e80] at hh
    rcases hh with ⟨d, _⟩ | ⟨_, d, _⟩ | ⟨_, _, m, ⟨m0, m1, m2, m3⟩, rfl, e2⟩
    · exact absurd c d
    · exact absurd ((rl c.1).mpr c2) d
    have rs := is.rel c.1
    have ru := is.2.2 s c.1.1 c.1.2
    have b60 := (is.1 s c.1.1 c.1.2).2.2
    have ob : ∀ k : Int, zfO M1 s k ↔ zfiO M s k := fun k => by
      unfold zfO zfiO
      rw [e81, e82, rs.2.2.2.1]
      by_cases q : 0 ≤ k ∧ k < M 48 s
      · rw [ru.2.2 k q.1 (by omega)]
      · exact ⟨fun x => absurd x.1 q, fun x => absurd x.1 q⟩
    have em : m = n := zuniq (P := fun k => zfiO M s (i + k)) ⟨m0, m1, fun k a b => (ob _).mp (m2 k a b), m3.imp_right fun x y => x ((ob _).mpr y)⟩ ⟨n0, n1, n2, n3⟩
    subst em
    subst hN
    have f57 : ∀ p : Int, M2 57 p = if h / 100 ≤ p ∧ p < h / 100 + (N : Int) then M 82 (60 * s + i + (p - h / 100)) else M 57 p := fun p => by
      rw [e2]
      have t := zlay_at (M := M1) (c := 57) (h := h / 100) (g := fun k => M1 82 (60 * s + i + k)) N p
      rw [e82, e57] at t
      unfold zfM
      rw [e82]
      exact t
    have fo : ∀ c : Int, c ≠ 57 → M2 c = M1 c := fun c hc => by
      rw [e2]
      exact zlay_row N c hc
    have hb : h / 100 + (N : Int) ≤ 16 := by
      have t := n1
      split at t <;> omega
    refine ⟨rfl, rfl, hI.go (L := [8, 57]) (J := []) (fun c hc => by simp only [List.mem_cons, List.not_mem_nil, not_or, or_false, not_false_eq_true, and_true, true_and] at hc; rw [fo c (by omega), er c (by omega)]) (fun j _ => by rw [fo 56 (by decide), er 56 (by decide)]) (uc := Or.inr ?_)⟩
    obtain ⟨⟨r1, r2, r3, r4⟩, c1, c2', c3, c4⟩ := ic
    have ek : ∀ p : Int, h / 100 ≤ p → p < h / 100 + (N : Int) → M 82 (60 * s + i + (p - h / 100)) = M (50 + s) (i + (p - h / 100)) ∧ 0 ≤ M (50 + s) (i + (p - h / 100)) ∧ M (50 + s) (i + (p - h / 100)) ≤ 9 := fun p a b => by
      have t := n2 (p - h / 100) (by omega) (by omega)
      have w := ru.2.2 (i + (p - h / 100)) t.1.1 (by have := t.1.2; omega)
      rw [← w]
      refine ⟨by congr 1; omega, ?_⟩
      rw [w]; exact t.2
    have g8 : ∀ p : Int, M2 8 p = if h / 100 ≤ p ∧ p < h / 100 + (N : Int) then M (50 + s) (i + (p - h / 100)) else M 8 p := fun p => by rw [fo 8 (by decide), e8]
    have go : ∀ c : Int, c ≠ 57 → c ≠ 8 → M2 c = M c := fun c a b => (fo c a).trans (er c b)
    refine ⟨⟨fun x a b => ?_, fun x a b => ?_, ?_, ?_⟩, fun x a b => ?_, fun x a b => ?_, ?_, ?_⟩
    · have t := r1 x a b
      rw [go 7 (by decide) (by decide), go 9 (by decide) (by decide), go 10 (by decide) (by decide), g8]
      refine ⟨t.1, ?_, t.2.2⟩
      by_cases q : h / 100 ≤ x ∧ x < h / 100 + (N : Int)
      · rw [if_pos q]; exact (ek x q.1 q.2).2
      · rw [if_neg q]; exact t.2.1
    · rw [go 11 (by decide) (by decide), go 12 (by decide) (by decide), go 13 (by decide) (by decide)]; exact r2 x a b
    · rw [go 1 (by decide) (by decide)]; exact r3
    · rw [go 1 (by decide) (by decide)]; exact r4
    · have t := c1 x a b
      rw [go 7 (by decide) (by decide), go 9 (by decide) (by decide), go 10 (by decide) (by decide), go 63 (by decide) (by decide), go 64 (by decide) (by decide), g8, f57, f57, if_neg (show ¬ (h / 100 ≤ 16 + x ∧ 16 + x < h / 100 + (N : Int)) by omega)]
      refine ⟨t.1, ?_, t.2.2.1, t.2.2.2⟩
      by_cases q : h / 100 ≤ x ∧ x < h / 100 + (N : Int)
      · rw [if_pos q, if_pos q]; exact (ek x q.1 q.2).1
      · rw [if_neg q, if_neg q]; exact t.2.1
    · have t := c2' x a b
      rw [go 11 (by decide) (by decide), go 12 (by decide) (by decide), go 13 (by decide) (by decide), f57, f57, f57, if_neg (by omega), if_neg (by omega), if_neg (by omega)]; exact t
    · rw [go 1 (by decide) (by decide), f57, if_neg (by omega)]; exact c3
    · rw [go 1 (by decide) (by decide), f57, if_neg (by omega)]; exact c4
set_option maxHeartbeats 4000000 in
theorem zK_taken {M : zMm} (hI : zI M) (s : Int) (k : Int) : zW mX9_taken 4 (fun rv S' M1 => S' = zS0 ∧ ∃ r : Int, rv = some (.inl r) ∧ zW mX10_taken 3 (fun rv2 S2 M2 => S2 = zS0 ∧ rv2 = some (.inl r) ∧ zI M2) (0, 0) zS0 0 (zargs 0 [.inr (.inr 56), .inl s, .inl k]) [] M1) (0, 0) zS0 0 (zargs 0 [.inr (.inr 0), .inl s, .inl k]) [] M := by
  have ix := hI.1
  have ic := hI.2.1
  have ih := hI.2.2.1
  have it := hI.2.2.2.1
  have il := hI.2.2.2.2.1
  have iw := hI.2.2.2.2.2.1
  have ii := hI.2.2.2.2.2.2.1
  have ib := hI.2.2.2.2.2.2.2.1
  have is := hI.2.2.2.2.2.2.2.2.1
  have ik := hI.2.2.2.2.2.2.2.2.2
  refine zW_mono (cX9_taken ix.1 ib.1 ix.2.1 s k) fun rv S M1 h => ?_
  obtain ⟨rfl, rfl, rfl⟩ := h
  refine ⟨rfl, _, rfl, zW_mono (cX10_taken ix.1 ib.2.1 is.2.1 s k) fun rv S M2 h => ?_⟩
  obtain ⟨rfl, rfl, rfl⟩ := h
  refine ⟨rfl, zri ?_, hI⟩
  by_cases c : (0 ≤ s ∧ s < 6) ∧ 0 ≤ k ∧ k < 8
  · rw [if_pos c, if_pos c]
    have r := is.rel c.1
    have u := is.2.2 s c.1.1 c.1.2
    have hk := ik s c.1.1 c.1.2
    by_cases a : M 46 s = -1
    · rw [if_pos (by omega), if_pos a]
    rw [if_neg (by omega), if_neg a]
    by_cases b : M 46 s = 5
    · rw [if_neg (by omega), if_pos b]
      have v := hk b
      have w := r.2.2.2.2.2 b
      have x : zkof M (M 47 s) = M 43 (M 47 s) := if_pos v
      rw [x, w, ib.2.2.2.2.1 (M 47 s) v.1 (by have := ib.1.1.2; omega)]
      have y := zch_undI c.2 (ib.1.2.2 (M 47 s) v.1 (by have := ib.1.1.2; omega))
      by_cases z : zund k 8 (M 43 (M 47 s)) ≠ 0
      · rw [if_pos (y.mpr z), if_pos z]
      · rw [if_neg (fun q => z (y.mp q)), if_neg z]
    · rw [if_pos (by omega), if_neg b]
      have x : zkof M (-1) = -1 := if_neg (by omega)
      rw [x, zund_n, if_neg (by decide)]
  · rw [if_neg c, if_neg c]
