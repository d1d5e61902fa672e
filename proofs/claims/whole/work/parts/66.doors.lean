/-! companies and who gets out; doors -/
/-- while companies are gathered: closed under the walls seen, and no company is larger than need be -/
def zCo (D : Int → Prop) (n : Int) (C : Int → Int) : Prop := (∀ w : Int, 0 ≤ w → w < n → D w → C (zlow w) = C (zhigh w)) ∧ (∀ h : Int, 0 ≤ h → h < 16 → zsid h < 6 → C h = 16) ∧ ∀ P : Int → Prop, (∀ k : Int, 0 ≤ k → k < 16 → zsid k < 6 → P k) → (∀ w : Int, 0 ≤ w → w < 33 → D w → (P (zlow w) ↔ P (zhigh w))) → (∀ h k : Int, 0 ≤ h → h < 16 → 0 ≤ k → k < 16 → C h = C k → (P h ↔ P k)) ∧ ∀ h : Int, 0 ≤ h → h < 16 → C h = 16 → P h
theorem zCo.g0 (D : Int → Prop) : zCo D 0 zg0 := by
  refine ⟨fun w a b => by omega, fun h a b c => if_pos c, fun P he hd => ⟨fun h k a b c d e => ?_, fun h a b e => ?_⟩⟩
  · unfold zg0 at e
    by_cases p : zsid h < 6
    · rw [if_pos p] at e
      by_cases q : zsid k < 6
      · exact ⟨fun _ => he k c d q, fun _ => he h a b p⟩
      · rw [if_neg q] at e; omega
    · rw [if_neg p] at e
      by_cases q : zsid k < 6
      · rw [if_pos q] at e; omega
      · rw [if_neg q] at e; rw [e]
  · unfold zg0 at e
    by_cases p : zsid h < 6
    · exact he h a b p
    · rw [if_neg p] at e; omega
theorem zCo.join {D : Int → Prop} {n : Int} {C : Int → Int} (h : zCo D n C) (hb : zCB C) (hn : 0 ≤ n ∧ n < 33) (hD : D n) : zCo D (n + 1) (zjoin C (C (zlow n)) (C (zhigh n))) := by
  obtain ⟨h1, h2, h3⟩ := h
  have lb := zlow_b n
  have lh := zhigh_b n
  have bl := hb _ lb.1 lb.2
  have bh := hb _ lh.1 lh.2
  have jv : ∀ k : Int, zjoin C (C (zlow n)) (C (zhigh n)) k = if C k = C (zlow n) ∨ C k = C (zhigh n) then (if C (zlow n) < C (zhigh n) then C (zhigh n) else C (zlow n)) else C k := fun k => rfl
  refine ⟨fun w a b d => ?_, fun k a b c => ?_, fun P he hd => ?_⟩
  · rw [jv, jv]
    by_cases e : w = n
    · subst e
      rw [if_pos (Or.inl rfl), if_pos (Or.inr rfl)]
    · rw [h1 w a (by omega) d]
  · have t := h2 k a b c
    have bk := hb k a b
    rw [jv]
    split
    · split <;> omega
    · exact t
  · obtain ⟨p1, p2⟩ := h3 P he hd
    have pd := hd n hn.1 hn.2 hD
    refine ⟨fun x y a b c d e => ?_, fun x a b e => ?_⟩
    · rw [jv, jv] at e
      by_cases q : C x = C (zlow n) ∨ C x = C (zhigh n)
      · have px : P x ↔ P (zlow n) := by
          rcases q with q | q
          · exact p1 x _ a b lb.1 lb.2 q
          · exact (p1 x _ a b lh.1 lh.2 q).trans pd.symm
        by_cases r : C y = C (zlow n) ∨ C y = C (zhigh n)
        · have py : P y ↔ P (zlow n) := by
            rcases r with r | r
            · exact p1 y _ c d lb.1 lb.2 r
            · exact (p1 y _ c d lh.1 lh.2 r).trans pd.symm
          exact px.trans py.symm
        · rw [if_pos q, if_neg r] at e
          split at e <;> omega
      · by_cases r : C y = C (zlow n) ∨ C y = C (zhigh n)
        · rw [if_neg q, if_pos r] at e
          split at e <;> omega
        · rw [if_neg q, if_neg r] at e; exact p1 x y a b c d e
    · rw [jv] at e
      by_cases q : C x = C (zlow n) ∨ C x = C (zhigh n)
      · rw [if_pos q] at e
        have pl : P (zlow n) := by
          split at e
          · exact pd.mpr (p2 _ lh.1 lh.2 e)
          · exact p2 _ lb.1 lb.2 e
        rcases q with q | q
        · exact (p1 x _ a b lb.1 lb.2 q).mpr pl
        · exact (p1 x _ a b lh.1 lh.2 q).mpr (pd.mp pl)
      · rw [if_neg q] at e; exact p2 x a b e
theorem zg0_b : zCB zg0 := fun h a b => by unfold zg0; split <;> omega
theorem zgat_s (s : zMm) {n : Int} (h : 0 ≤ n) : zgat s (n + 1) = if s 12 n = 1 then zjoin (zgat s n) (zgat s n (zlow n)) (zgat s n (zhigh n)) else zgat s n := zfo_s _ _ h
theorem zgat_co (s : zMm) : ∀ n : Nat, n ≤ 33 → zCo (fun w => s 12 w = 1) n (zgat s n) ∧ zCB (zgat s n) := by
  intro n
  induction n with
  | zero => intro _; exact ⟨zCo.g0 _, zg0_b⟩
  | succ n ih =>
    intro hn
    have i := ih (by omega)
    rw [show ((n + 1 : Nat) : Int) = (n : Int) + 1 by omega, zgat_s s (by omega)]
    by_cases q : s 12 n = 1
    · rw [if_pos q]
      exact ⟨i.1.join i.2 ⟨by omega, by omega⟩ q, zCB_join i.2 (i.2 _ (zlow_b _).1 (zlow_b _).2) (i.2 _ (zhigh_b _).1 (zhigh_b _).2)⟩
    · rw [if_neg q]
      refine ⟨⟨fun w a b d => ?_, i.1.2⟩, i.2⟩
      by_cases e : w = n
      · subst e; exact absurd d q
      · exact i.1.1 w a (by omega) d
theorem zCo.out {D : Int → Prop} {C : Int → Int} (h : zCo D 33 C) {x : Int} (h0 : 0 ≤ x) (h1 : x < 16) : C x = 16 ↔ zOut D x := by
  constructor
  · intro e P he hd
    exact (h.2.2 P he hd).2 x h0 h1 e
  · intro o
    exact o (fun k => C k = 16) (fun k a b c => h.2.1 k a b c) (fun w a b d => by rw [h.1 w a b d])
theorem zgat_out (s : zMm) {x : Int} (h0 : 0 ≤ x) (h1 : x < 16) : zgat s 33 x = 16 ↔ zOut (fun w => s 12 w = 1) x := (zgat_co s 33 (Nat.le_refl _)).1.out h0 h1
theorem zOut_c {D E : Int → Prop} (h : ∀ w : Int, 0 ≤ w → w < 33 → (D w ↔ E w)) (x : Int) : zOut D x ↔ zOut E x := by
  constructor
  · intro o P he hd; exact o P he fun w a b d => hd w a b ((h w a b).mp d)
  · intro o P he hd; exact o P he fun w a b d => hd w a b ((h w a b).mpr d)
theorem zbl_00 (i : Nat) : zbl 0 i = false := by
  have e := zbl_nat (m := 0) i (by decide)
  rw [Nat.zero_testBit] at e
  exact e
theorem zYc.op0 {M : zMm} (h : zYc M) {w : Int} (w0 : 0 ≤ w) (w1 : w < 33) : zopD M 0 w ↔ M 12 w = 1 := by
  unfold zopD
  rw [zbl_00, (h.2.2.1 w w0 w1).2.1]
  simp
set_option maxHeartbeats 4000000 in
theorem zK_doors {M : zMm} (hI : zI M) (v : Int) : zW mX9_doors 4 (fun rv S' M1 => S' = zS0 ∧ ∃ r : Int, rv = some (.inl r) ∧ zW mX10_doors 4 (fun rv2 S2 M2 => S2 = zS0 ∧ rv2 = some (.inl r) ∧ zI M2) (0, 0) zS0 0 (zargs 0 [.inr (.inr 56), .inl v]) [] M1) (0, 0) zS0 0 (zargs 0 [.inr (.inr 0), .inl v]) [] M := by
  have ix := hI.1
  have ic := hI.2.1
  have ih := hI.2.2.1
  have it := hI.2.2.2.1
  have il := hI.2.2.2.2.1
  have iw := hI.2.2.2.2.2.1
  have ii := hI.2.2.2.2.2.2.1
  have ib := hI.2.2.2.2.2.2.2.1
  have is := hI.2.2.2.2.2.2.2.2.1
  have ik := hI.2.2.2.2.2.2.2.2.2
  refine zW_mono (cX9_doors ix.1 ix.2.2.1 ic.1 v) fun rv S M1 h => ?_
  obtain ⟨rfl, rfl, e1⟩ := h
  have kc : zKc M M1 := zKc.of fun c hc => e1 c (by omega)
  have e57 : M1 57 = M 57 := kc.1 57 (by decide)
  have e64 : M1 64 = M 64 := kc.1 64 (by decide)
  refine ⟨rfl, _, rfl, zW_mono (cX10_doors (kc.P ix.1) (kc.gr ix.2.2.2) (kc.rr ic.r) v) fun rv S M2 h => ?_⟩
  obtain ⟨rfl, rfl, h⟩ := h
  refine ⟨rfl, ?_, hI.go (L := [32]) (J := []) (fun c hc => by simp only [List.mem_cons, List.not_mem_nil, not_or, or_false, not_false_eq_true, and_true, true_and] at hc; exact e1 c (by omega)) (fun j _ => by rw [e1 56 (by decide)])⟩
  rcases h with ⟨rfl, r, hr, rfl⟩ | ⟨rfl, rfl⟩ | ⟨c, rfl⟩
  · refine zri ?_
    rw [if_pos rfl]
    have hr2 : zst r (fun h => M 7 h = 1 ∧ zgat M 33 h ≠ 16) 16 := zst_c hr fun i a b => by
      have t := (ic.2.1 i a b).1
      have u : zOut (zopD M1 0) i ↔ zgat M 33 i = 16 := by
        rw [zgat_out M a b]
        refine zOut_c (fun w w0 w1 => ?_) i
        have z := ic.op0 w0 w1
        unfold zopD at z ⊢
        rw [e57]; exact z
      rw [e64, t, u]
    exact zst_cnt hr2
  · refine zri ?_
    rw [if_neg (by decide), if_pos rfl]
    exact zsum_c fun w w0 w1 => by
      have t := (ic.2.2.1 w w0 w1).2.1
      have a := (ic.2.1 _ (zlow_b w).1 (zlow_b w).2).1
      have b := (ic.2.1 _ (zhigh_b w).1 (zhigh_b w).2).1
      rw [e57, e64, t, a, b]
  · refine zri ?_
    rw [if_neg (by omega), if_neg (by omega)]
