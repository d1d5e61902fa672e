/-! takes, years -/
def zFr (N : zMm) (b : zB) : Prop := (∀ h : Int, 0 ≤ h → h < 16 → N 64 h = b.1 h ∧ N 57 h = b.2.1 h ∧ N 57 (16 + h) = b.2.2.1 h) ∧ ∀ w : Int, 0 ≤ w → w < 33 → N 57 (65 + w) = b.2.2.2 w
def zFo (M N : zMm) : Prop := (∀ k : Int, (32 ≤ k ∧ k < 65) ∨ 98 ≤ k → N 57 k = M 57 k) ∧ ∀ c : Int, c ≠ 57 → c ≠ 64 → N c = M c
theorem zFo.rf {M : zMm} : zFo M M := ⟨fun _ _ => rfl, fun _ _ _ => rfl⟩
theorem zFo.tr {M N P : zMm} (h : zFo M N) (g : zFo N P) : zFo M P := ⟨fun k a => (g.1 k a).trans (h.1 k a), fun c a b => (g.2 c a b).trans (h.2 c a b)⟩
theorem zborn_eq {N : zMm} {b : zB} (hF : zFr N b) (hB : zBr b) {h : Int} (h0 : 0 ≤ h) (h1 : h < 16) : zboR N h = zborn b.1 h := by
  unfold zboR zborn zff
  rw [znextF (fun a q => if a = -1 ∧ b.1 q ≠ 1 then q else a) (-1) h0 h1]
  refine zfo_c fun x q q0 q1 => ?_
  have t := (hF.1 q q0 q1).1
  have u := (hB.1 q q0 q1).1
  try dsimp only
  by_cases z : 0 ≤ zwo h q
  · rw [if_pos z]
    by_cases y : x = -1 ∧ b.1 q ≠ 1
    · rw [if_pos y, if_pos ⟨y.1, by omega, z⟩]
    · rw [if_neg y, if_neg (by omega)]
  · rw [if_neg z, if_neg (fun y => z y.2.2)]
theorem zfeud_eq {N : zMm} {b : zB} (hF : zFr N b) (hB : zBr b) {h : Int} (h0 : 0 ≤ h) (h1 : h < 16) : zfeR N h = zfeud b.2.2.2 h := by
  unfold zfeR zfeud zff
  rw [zsideF (fun a q => if a = -1 ∧ b.2.2.2 q ≠ 0 then q else a) (-1) h0 h1]
  refine zfo_c fun x q q0 q1 => ?_
  have t := hF.2 q q0 q1
  have u := hB.2 q q0 q1
  try dsimp only
  by_cases z : zlow q = h ∨ zhigh q = h
  · rw [if_pos z]
    by_cases y : x = -1 ∧ b.2.2.2 q ≠ 0
    · rw [if_pos y, if_pos ⟨y.1, z, by omega⟩]
    · rw [if_neg y, if_neg (by omega)]
  · rw [if_neg z, if_neg (fun y => z y.2.1)]
theorem ztk_eq {N : zMm} {b : zB} (hF : zFr N b) (hB : zBr b) {h : Int} (h0 : 0 ≤ h) (h1 : h < 16) : (zwtR N h = if ztk b.1 b.2.2.1 h = -1 then -2 else ztk b.1 b.2.2.1 h) := by
  unfold zwtR ztk
  rw [znextF (fun best q => if b.1 q = 1 ∧ (best < 0 ∨ b.2.2.1 best < b.2.2.1 q) then q else best) (-1) h0 h1]
  have key : ∀ n : Nat, n ≤ 16 → (-1 ≤ zfo (fun x q => if 0 ≤ zwo h q then (if b.1 q = 1 ∧ (x < 0 ∨ b.2.2.1 x < b.2.2.1 q) then q else x) else x) (-1) n ∧ zfo (fun x q => if 0 ≤ zwo h q then (if b.1 q = 1 ∧ (x < 0 ∨ b.2.2.1 x < b.2.2.1 q) then q else x) else x) (-1) n < 16) ∧ zfo (zwt1 N h) (-2) n = if zfo (fun x q => if 0 ≤ zwo h q then (if b.1 q = 1 ∧ (x < 0 ∨ b.2.2.1 x < b.2.2.1 q) then q else x) else x) (-1) n = -1 then -2 else zfo (fun x q => if 0 ≤ zwo h q then (if b.1 q = 1 ∧ (x < 0 ∨ b.2.2.1 x < b.2.2.1 q) then q else x) else x) (-1) n := by
    intro n
    induction n with
    | zero => intro _; exact ⟨⟨Int.le_refl (-1), show (-1 : Int) < 16 by decide⟩, rfl⟩
    | succ n ih =>
      intro hn
      have i := ih (by omega)
      rw [show ((n + 1 : Nat) : Int) = (n : Int) + 1 by omega, zfo_s _ _ (by omega), zfo_s (zwt1 N h) _ (by omega), i.2]
      have ib := i.1
      generalize zfo (fun x q => if 0 ≤ zwo h q then (if b.1 q = 1 ∧ (x < 0 ∨ b.2.2.1 x < b.2.2.1 q) then q else x) else x) (-1) (n : Int) = x at ib
      have t := hF.1 n (by omega) (by omega)
      have u := (hB.1 n (by omega) (by omega)).1
      unfold zwt1
      rw [t.1, t.2.2]
      by_cases z : 0 ≤ zwo h n
      · simp only [if_pos z]
        by_cases e : x = -1
        · rw [if_pos e]
          by_cases y : b.1 n = 1
          · rw [if_pos ⟨y, Or.inl (by omega)⟩, if_pos ⟨⟨by omega, z⟩, Or.inl (by omega)⟩, if_neg (by omega)]; exact ⟨by omega, rfl⟩
          · rw [if_neg (fun q => y q.1), if_neg (fun q => by omega), if_pos e]; exact ⟨by omega, rfl⟩
        · rw [if_neg e]
          have v := (hF.1 x (by omega) ib.2).2.2
          rw [v]
          by_cases y : b.1 n = 1 ∧ (x < 0 ∨ b.2.2.1 x < b.2.2.1 n)
          · rw [if_pos y, if_pos ⟨⟨by omega, z⟩, y.2⟩, if_neg (by omega)]; exact ⟨by omega, rfl⟩
          · rw [if_neg y, if_neg (fun q => y ⟨by omega, q.2⟩), if_neg e]; exact ⟨ib, rfl⟩
      · simp only [if_neg z]
        rw [if_neg (fun q => z q.1.2)]
        exact ⟨ib, rfl⟩
  exact (key 16 (Nat.le_refl _)).2
theorem zbef_eq {N : zMm} {b : zB} (hF : zFr N b) (hB : zBr b) {h : Int} (h0 : 0 ≤ h) (h1 : h < 16) (d : Int) : zFr (zbefM N h d) (zbef b h d) ∧ zFo N (zbefM N h d) := by
  unfold zbefM zbef
  by_cases d0 : d = 0
  · rw [if_pos d0, if_pos d0]
    unfold zbirM zbirth
    have e := zborn_eq hF hB h0 h1
    have tb := zff_b (p := fun q => N 64 q = 0 ∧ 0 ≤ zwo h q) 16
    have tb2 : -1 ≤ zboR N h ∧ zboR N h < 16 := ⟨tb.1, tb.2.1⟩
    rw [e] at tb2 ⊢
    generalize zborn b.1 h = t at tb2
    by_cases z : t < 0
    · rw [if_pos z, if_pos z]; exact ⟨hF, zFo.rf⟩
    · rw [if_neg z, if_neg z]
      refine ⟨⟨fun x a c => ?_, fun w a c => ?_⟩, fun k hk => ?_, fun c a d => ?_⟩
      · have f := hF.1 x a c
        have g := hF.1 h h0 h1
        by_cases q : x = t
        · subst q; simp [zup, zpu, show ¬ (x = 16 + x) by omega]; exact ⟨f.2.1, g.2.2⟩
        · simp [zup, zpu, q, show ¬ (x = 16 + t) by omega, show ¬ (16 + x = 16 + t) by omega]; exact f
      · have f := hF.2 w a c
        simp [zup, show ¬ (65 + w = 16 + t) by omega]; exact f
      · rw [zup_ne (by omega), zup_row (by decide)]
      · rw [zup_row a, zup_row d]
  rw [if_neg d0, if_neg d0]
  by_cases d1 : d = 1
  · rw [if_pos d1, if_pos d1]
    unfold zfeuM zquarrel
    have e := zfeud_eq hF hB h0 h1
    have tb := zff_b (p := fun w => (zlow w = h ∨ zhigh w = h) ∧ N 57 (65 + w) = 1) 33
    have tb2 : -1 ≤ zfeR N h ∧ zfeR N h < 33 := ⟨tb.1, tb.2.1⟩
    rw [e] at tb2 ⊢
    generalize zfeud b.2.2.2 h = t at tb2
    by_cases z : t < 0
    · rw [if_pos z, if_pos z]; exact ⟨hF, zFo.rf⟩
    · rw [if_neg z, if_neg z]
      refine ⟨⟨fun x a c => ?_, fun w a c => ?_⟩, fun k hk => ?_, fun c a d => ?_⟩
      · have f := hF.1 x a c
        simp [zup, show ¬ (x = 65 + t) by omega, show ¬ (16 + x = 65 + t) by omega]; exact f
      · have f := hF.2 w a c
        by_cases q : w = t
        · subst q; simp [zup, zpu]
        · simp [zup, zpu, q, show ¬ (65 + w = 65 + t) by omega]; exact f
      · rw [zup_ne (by omega)]
      · rw [zup_row a]
  rw [if_neg d1, if_neg d1]
  have key : ∀ v v' : Int, v = v' → zFr (zup N 57 h v) (b.1, zpu b.2.1 h v', b.2.2) ∧ zFo N (zup N 57 h v) := fun v v' e => by
    subst e
    refine ⟨⟨fun x a c => ?_, fun w a c => ?_⟩, fun k hk => ?_, fun c a d => ?_⟩
    · have f := hF.1 x a c
      by_cases q : x = h
      · subst q; simp [zup, zpu, show ¬ (16 + x = x) by omega]; exact ⟨f.1, f.2.2⟩
      · simp [zup, zpu, q, show ¬ (16 + x = h) by omega]; exact f
    · have f := hF.2 w a c
      simp [zup, show ¬ (65 + w = h) by omega]; exact f
    · rw [zup_ne (by omega)]
    · rw [zup_row a]
  have fh := (hF.1 h h0 h1).2.1
  have bh := (hB.1 h h0 h1).2.1
  by_cases d2 : d = 2
  · rw [if_pos d2, if_pos d2]
    refine key _ _ ?_
    rw [fh]
    split <;> split <;> omega
  rw [if_neg d2, if_neg d2]
  by_cases d3 : d = 3
  · rw [if_pos d3, if_pos d3]
    refine key _ _ ?_
    rw [fh]
    split <;> split <;> omega
  · rw [if_neg d3, if_neg d3]; exact ⟨hF, zFo.rf⟩
theorem zyear_eq {st : zB × Int} {sm : zMm × Int} (hF : zFr sm.1 st.1) (hB : zBr st.1) (hz : sm.2 = st.2) {h : Int} (h0 : 0 ≤ h) (h1 : h < 16) : zFr (zyrM sm h).1 (zyear st h).1 ∧ zBr (zyear st h).1 ∧ (zyrM sm h).2 = (zyear st h).2 ∧ zFo sm.1 (zyrM sm h).1 := by
  have hb := zBr_year hB ⟨h0, h1⟩
  have t := (hF.1 h h0 h1).1
  refine ⟨?_, hb, ?_⟩
  all_goals
    unfold zyrM zyear
    rw [t, hz]
  · by_cases q : st.1.1 h = 0
    · rw [if_pos q, if_pos q]; exact hF
    · rw [if_neg q, if_neg q]; exact (zbef_eq hF hB h0 h1 _).1
  · by_cases q : st.1.1 h = 0
    · rw [if_pos q, if_pos q]; exact ⟨hz, zFo.rf⟩
    · rw [if_neg q, if_neg q]; exact ⟨rfl, (zbef_eq hF hB h0 h1 _).2⟩
theorem zyears_eq : ∀ n : Nat, n ≤ 16 → ∀ {st : zB × Int} {sm : zMm × Int}, zFr sm.1 st.1 → zBr st.1 → sm.2 = st.2 → zFr (zfold zyrM sm n).1 (zfold zyear st n).1 ∧ zBr (zfold zyear st n).1 ∧ (zfold zyrM sm n).2 = (zfold zyear st n).2 ∧ zFo sm.1 (zfold zyrM sm n).1 := by
  intro n
  induction n with
  | zero => intro _ st sm a b c; exact ⟨a, b, c, zFo.rf⟩
  | succ n ih =>
    intro hn st sm a b c
    have i := ih (by omega) a b c
    have j := zyear_eq i.1 i.2.1 i.2.2.1 (h := (n : Int)) (by omega) (by omega)
    exact ⟨j.1, j.2.1, j.2.2.1, i.2.2.2.tr j.2.2.2⟩
theorem zgrow_eq : ∀ n : Nat, ∀ {st : zB × Int} {sm : zMm × Int}, zFr sm.1 st.1 → zBr st.1 → sm.2 = st.2 → zFr (zgrM sm n).1 (zgrow st n).1 ∧ zBr (zgrow st n).1 ∧ (zgrM sm n).2 = (zgrow st n).2 ∧ zFo sm.1 (zgrM sm n).1 := by
  intro n
  induction n with
  | zero => intro st sm a b c; exact ⟨a, b, c, zFo.rf⟩
  | succ n ih =>
    intro st sm a b c
    have i := ih a b c
    have j := zyears_eq 16 (Nat.le_refl _) i.1 i.2.1 i.2.2.1
    exact ⟨j.1, j.2.1, j.2.2.1, i.2.2.2.tr j.2.2.2⟩
theorem zYc.fr {M : zMm} (h : zYc M) : zFr M (zFam M) := ⟨fun x a b => by have t := h.2.1 x a b; exact ⟨t.1, t.2.1, t.2.2.2⟩, fun w a b => (h.2.2.1 w a b).2.1⟩
/-- the comb after a change of the families -/
theorem zYc.fam {M M2 : zMm} (h : zYc M) {b : zB} (h7 : M2 7 = b.1) (h8 : M2 8 = b.2.1) (h10 : M2 10 = b.2.2.1) (h12 : M2 12 = b.2.2.2) (hF : zFr M2 b) (hB : zBr b) (e : ∀ c ∈ ([1, 9, 11, 13, 63] : List Int), M2 c = M c) (ek : ∀ k : Int, (32 ≤ k ∧ k < 65) ∨ 98 ≤ k → M2 57 k = M 57 k) : zYc M2 := by
  obtain ⟨⟨r1, r2, r3, r4⟩, c1, c2, c3, c4⟩ := h
  unfold zYc zRg
  rw [h7, h8, h10, h12, e 1 (by decide), e 9 (by decide), e 11 (by decide), e 13 (by decide), e 63 (by decide)]
  refine ⟨⟨fun x a c => ?_, fun x a c => ?_, r3, r4⟩, fun x a c => ?_, fun x a c => ?_, ?_, ?_⟩
  · have t := hB.1 x a c; exact ⟨t.1, t.2.1, (r1 x a c).2.2.1, t.2.2⟩
  · exact ⟨(r2 x a c).1, hB.2 x a c, (r2 x a c).2.2⟩
  · have t := hF.1 x a c; exact ⟨t.1, t.2.1, (c1 x a c).2.2.1, t.2.2⟩
  · rw [ek (32 + x) (by omega), ek (98 + x) (by omega)]; exact ⟨(c2 x a c).1, hF.2 x a c, (c2 x a c).2.2⟩
  · rw [ek 131 (by omega)]; exact c3
  · rw [ek 132 (by omega)]; exact c4
set_option maxHeartbeats 4000000 in
theorem zK_years {M : zMm} (hI : zI M) (z : Int) (n : Int) : zW mX9_years 4 (fun rv S' M1 => S' = zS0 ∧ ∃ r : Int, rv = some (.inl r) ∧ zW mX10_years 4 (fun rv2 S2 M2 => S2 = zS0 ∧ rv2 = some (.inl r) ∧ zI M2) (0, 0) zS0 0 (zargs 0 [.inr (.inr 56), .inl z, .inl n]) [] M1) (0, 0) zS0 0 (zargs 0 [.inr (.inr 0), .inl z, .inl n]) [] M := by
  have ix := hI.1
  have ic := hI.2.1
  have ih := hI.2.2.1
  have it := hI.2.2.2.1
  have il := hI.2.2.2.2.1
  have iw := hI.2.2.2.2.2.1
  have ii := hI.2.2.2.2.2.2.1
  have ib := hI.2.2.2.2.2.2.2.1
  have is := hI.2.2.2.2.2.2.2.2.1
  have ik := hI.2.2.2.2.2.2.2.2.2
  refine zW_mono (cX9_years ix.1 ix.2.2.1 ic.1 z n) fun rv S M1 h => ?_
  obtain ⟨rfl, h⟩ := h
  rcases h with ⟨c, rfl, rfl⟩ | ⟨c, rfl, e1, eB⟩
  · refine ⟨rfl, _, rfl, zW_mono (cX10_years ix.1 ix.2.2.2 ic.r z n) fun rv S M2 h => ?_⟩
    obtain ⟨rfl, h⟩ := h
    rcases h with ⟨_, rfl, rfl⟩ | ⟨d, _⟩
    · exact ⟨rfl, rfl, hI⟩
    · exact absurd d c
  · have kc : zKc M M1 := zKc.of fun c hc => e1.2 c (by omega) (by omega) (by omega) (by omega)
    have e57 : M1 57 = M 57 := kc.1 57 (by decide)
    have e64 : M1 64 = M 64 := kc.1 64 (by decide)
    refine ⟨rfl, _, rfl, zW_mono (cX10_years (kc.P ix.1) (kc.gr ix.2.2.2) (kc.rr ic.r) z n) fun rv S M2 h => ?_⟩
    obtain ⟨rfl, h⟩ := h
    rcases h with ⟨d, _⟩ | ⟨_, rfl, e2, eo, _⟩
    · exact absurd c d
    have hF : zFr M1 (zFam M) := by
      have t := ic.fr
      unfold zFr at t ⊢
      rw [e57, e64]; exact t
    have g := zgrow_eq n.toNat (st := (zFam M, z)) (sm := (M1, z)) hF (zBr_of ic.1) rfl
    rw [show ((n.toNat : Nat) : Int) = n by omega, ← e2] at g
    have o7 : ∀ c : Int, c ≠ 57 → c ≠ 64 → M2 c = M1 c := fun c a b => eo c a b
    refine ⟨rfl, zri (zsum_c fun i a b => (g.1.1 i a b).1), hI.go (L := [7, 8, 10, 12, 57, 64]) (J := []) (fun c hc => by simp only [List.mem_cons, List.not_mem_nil, not_or, or_false, not_false_eq_true, and_true, true_and] at hc; rw [o7 c (by omega) (by omega), e1.2 c (by omega) (by omega) (by omega) (by omega)]) (fun j _ => by rw [o7 56 (by decide) (by decide), kc.1 56 (by decide)]) (uc := Or.inr (ic.fam (b := (zgrow (zFam M, z) n).1) ?_ ?_ ?_ ?_ g.1 g.2.1 (fun c hc => ?_) (fun k hk => ?_)))⟩
    · rw [o7 7 (by decide) (by decide)]; exact e1.r7
    · rw [o7 8 (by decide) (by decide)]; exact e1.r8
    · rw [o7 10 (by decide) (by decide)]; exact e1.r10
    · rw [o7 12 (by decide) (by decide)]; exact e1.r12
    · rw [o7 c (by revert c; decide) (by revert c; decide)]
      exact e1.2 c (by revert c; decide) (by revert c; decide) (by revert c; decide) (by revert c; decide)
    · rw [g.2.2.2.1 k hk]; show M1 57 k = _; rw [e57]
set_option maxHeartbeats 4000000 in
theorem zK_takes {M : zMm} (hI : zI M) (h : Int) (w : Int) : zW mX9_takes 3 (fun rv S' M1 => S' = zS0 ∧ ∃ r : Int, rv = some (.inl r) ∧ zW mX10_takes 3 (fun rv2 S2 M2 => S2 = zS0 ∧ rv2 = some (.inl r) ∧ zI M2) (0, 0) zS0 0 (zargs 0 [.inr (.inr 56), .inl h, .inl w]) [] M1) (0, 0) zS0 0 (zargs 0 [.inr (.inr 0), .inl h, .inl w]) [] M := by
  have ix := hI.1
  have ic := hI.2.1
  have ih := hI.2.2.1
  have it := hI.2.2.2.1
  have il := hI.2.2.2.2.1
  have iw := hI.2.2.2.2.2.1
  have ii := hI.2.2.2.2.2.2.1
  have ib := hI.2.2.2.2.2.2.2.1
  have is := hI.2.2.2.2.2.2.2.2.1
  have ik := hI.2.2.2.2.2.2.2.2.2
  refine zW_mono (cX9_takes ix.1 ix.2.2.1 h w) fun rv S M1 hh => ?_
  obtain ⟨rfl, hh⟩ := hh
  have e7 : (0 ≤ h ∧ h < 16) → M 64 h = M 7 h := fun a => (ic.2.1 h a.1 a.2).1
  have b7 : (0 ≤ h ∧ h < 16) → 0 ≤ M 7 h ∧ M 7 h ≤ 1 := fun a => (ic.1.1 h a.1 a.2).1
  have tk : (0 ≤ h ∧ h < 16) → zwtR M h = if ztk (M 7) (M 10) h = -1 then -2 else ztk (M 7) (M 10) h := fun a => ztk_eq ic.fr (zBr_of ic.1) a.1 a.2
  have tb := ztk_b (M 7) (M 10) h
  rcases hh with ⟨c, rfl, rfl⟩ | ⟨c, c2, rfl, rfl⟩ | ⟨c, c2, c3, rfl, rfl⟩ | ⟨c, c2, c3, rfl, hh⟩
  · refine ⟨rfl, _, rfl, zW_mono (cX10_takes ix.1 ix.2.2.2 ic.r h w) fun rv S M2 hh => ?_⟩
    obtain ⟨rfl, hh⟩ := hh
    rcases hh with ⟨_, rfl, rfl⟩ | ⟨d, _⟩ | ⟨d, _⟩
    · exact ⟨rfl, rfl, hI⟩
    · exact absurd d c
    · exact absurd d c
  · refine ⟨rfl, _, rfl, zW_mono (cX10_takes ix.1 ix.2.2.2 ic.r h w) fun rv S M2 hh => ?_⟩
    obtain ⟨rfl, hh⟩ := hh
    rw [e7 c.1, c2] at hh
    rcases hh with ⟨d, _⟩ | ⟨_, _, rfl, rfl⟩ | ⟨_, d, _⟩
    · exact absurd c d
    · exact ⟨rfl, rfl, hI⟩
    · exact absurd d (by decide)
  · refine ⟨rfl, _, rfl, zW_mono (cX10_takes ix.1 ix.2.2.2 ic.r h w) fun rv S M2 hh => ?_⟩
    obtain ⟨rfl, hh⟩ := hh
    have b := b7 c.1
    rw [e7 c.1, tk c.1, if_pos (by omega)] at hh
    rcases hh with ⟨d, _⟩ | ⟨_, d, _⟩ | ⟨_, _, rfl, _, hh⟩
    · exact absurd c d
    · omega
    rcases hh with ⟨_, rfl⟩ | ⟨d, _⟩
    · exact ⟨rfl, rfl, hI⟩
    · omega
  · have b := b7 c.1
    have kc : zKc M M1 := zKc.of fun k hk => by
      rcases hh with ⟨_, rfl⟩ | ⟨_, hh⟩
      · rfl
      · exact hh.2 k (by omega) (by omega) (by omega) (by omega)
    have e57 : M1 57 = M 57 := kc.1 57 (by decide)
    have e64 : M1 64 = M 64 := kc.1 64 (by decide)
    refine ⟨rfl, _, rfl, zW_mono (cX10_takes (kc.P ix.1) (kc.gr ix.2.2.2) (kc.rr ic.r) h w) fun rv S M2 hr => ?_⟩
    obtain ⟨rfl, hr⟩ := hr
    have ew : zwtR M1 h = ztk (M 7) (M 10) h := by
      have t := tk c.1
      rw [if_neg (by omega)] at t
      rw [← t]
      unfold zwtR
      exact zfo_c fun x i _ _ => by unfold zwt1; rw [e57, e64]
    rw [e64, e7 c.1, ew, e57] at hr
    generalize ht : ztk (M 7) (M 10) h = t at *
    rcases hr with ⟨d, _⟩ | ⟨_, d, _⟩ | ⟨_, _, rfl, _, hr⟩
    · exact absurd c d
    · omega
    rcases hh with ⟨w0, rfl⟩ | ⟨w1, e1⟩
    · rcases hr with ⟨_, rfl⟩ | ⟨d, _⟩
      · exact ⟨rfl, rfl, hI⟩
      · omega
    rcases hr with ⟨d, _⟩ | ⟨_, z, e2⟩
    · exact absurd ⟨w1, c3⟩ d
    have zz : zwo h t = zwb h t := zwo_wbI ⟨c.1.1, c.1.2⟩ ⟨c3, tb.2⟩
    have zb := zwo_b c.1 ⟨c3, tb.2⟩
    rw [zz] at e2 z zb
    rw [if_pos z] at e1
    have o7 : ∀ k : Int, k ≠ 57 → k ≠ 64 → M2 k = M1 k := fun k a d => by rw [e2, zup_row a, zup_row a, zup_row d]
    have hB := zBr_of ic.1
    refine ⟨rfl, rfl, hI.go (L := [7, 8, 10, 12, 57, 64]) (J := []) (fun c hc => by simp only [List.mem_cons, List.not_mem_nil, not_or, or_false, not_false_eq_true, and_true, true_and] at hc; rw [o7 c (by omega) (by omega)]; rcases e1 with ⟨-, e1⟩; exact e1 c (by omega) (by omega) (by omega) (by omega)) (fun j _ => by rw [o7 56 (by decide) (by decide), kc.1 56 (by decide)]) (uc := Or.inr (ic.fam (b := (zpu (M 7) h 1, M 8, zpu (M 10) h (M 10 t), zpu (M 12) (zwb h t) 1)) ?_ ?_ ?_ ?_ ⟨fun x a d => ?_, fun x a d => ?_⟩ ⟨fun x a d => ?_, fun x a d => ?_⟩ (fun k hk => ?_) (fun k hk => ?_)))⟩
    · rw [o7 7 (by decide) (by decide)]; exact e1.r7
    · rw [o7 8 (by decide) (by decide)]; exact e1.r8
    · rw [o7 10 (by decide) (by decide)]; exact e1.r10
    · rw [o7 12 (by decide) (by decide)]; exact e1.r12
    · have f := ic.fr.1 x a d
      have g := ic.fr.1 t c3 tb.2
      have gt : M 57 (16 + t) = M 10 t := g.2.2
      rw [e2, gt]
      by_cases q : x = h
      · subst q; simp [zup, zpu, e57, show ¬ (x = 65 + zwb x t) by omega, show ¬ (x = 16 + x) by omega, show ¬ (16 + x = 65 + zwb x t) by omega]; exact f.2.1
      · simp [zup, zpu, q, e57, e64, show ¬ (x = 65 + zwb h t) by omega, show ¬ (x = 16 + h) by omega, show ¬ (16 + x = 16 + h) by omega, show ¬ (16 + x = 65 + zwb h t) by omega]; exact f
    · have f := ic.fr.2 x a d
      rw [e2]
      by_cases q : x = zwb h t
      · subst q; simp [zup, zpu]
      · simp [zup, zpu, q, e57, show ¬ (65 + x = 65 + zwb h t) by omega, show ¬ (65 + x = 16 + h) by omega]; exact f
    · have f := hB.1 x a d
      have f2 : 0 ≤ M 10 t ∧ M 10 t ≤ 9 := (hB.1 t c3 tb.2).2.2
      by_cases q : x = h
      · subst q; simp [zpu]; exact ⟨f.2.1, f2⟩
      · simp [zpu, q]; exact f
    · have f := hB.2 x a d
      by_cases q : x = zwb h t
      · subst q; simp [zpu]
      · simp [zpu, q]; exact f
    · rw [o7 k (by revert k; decide) (by revert k; decide)]
      exact e1.2 k (by revert k; decide) (by revert k; decide) (by revert k; decide) (by revert k; decide)
    · rw [e2, zup_ne (by omega), zup_ne (by omega), zup_row (by decide), e57]
