/-! opened: the class's walls are a fewest set, and the least of them -/
theorem zsh_t17 : ∀ h : Fin 17, ∀ X : Int32, (X >>> (Int32.ofInt (h.val : Int) &&& 31)).toBitVec = X.toBitVec.sshiftRight h.val := by
  intro h X
  rw [Int32.toBitVec_shiftRight]
  have e : ((Int32.ofInt (h.val : Int) &&& 31).toBitVec.smod 32).toNat = h.val := by
    revert h
    decide +kernel
  show X.toBitVec.sshiftRight _ = _
  rw [e]
theorem zbi_shr {r x : Int} (hx : 0 ≤ x ∧ x ≤ 16) : zbi (zshr r x) 0 = zbi r x.toNat := by
  have e := zsh_t17 ⟨x.toNat, by omega⟩ (Int32.ofInt r)
  simp only [show ((x.toNat : Nat) : Int) = x by omega] at e
  unfold zbi zshr
  rw [Int32.ofInt_toInt, e, BitVec.getLsbD_sshiftRight]
  simp
  omega
theorem zand1n (X : BitVec 32) : X &&& 1#32 = 0#32 ↔ X.getLsbD 0 = false := by
  constructor
  · intro e
    have t := congrArg (fun v => v.getLsbD 0) e
    simp only [BitVec.getLsbD_and] at t
    simpa using t
  · intro e
    apply BitVec.eq_of_getLsbD_eq
    intro i hi
    by_cases q : i = 0
    · subst q; rw [BitVec.getLsbD_and, e, Bool.false_and]; simp
    · simp only [BitVec.getLsbD_and, BitVec.getLsbD_one]
      simp [q]
theorem zand1 (v : Int) : zand v 1 = 0 ↔ zbi v 0 = false := by
  unfold zand zbi
  rw [show (0 : Int) = (Int32.ofInt 0).toInt by decide, Int32.toInt_inj, ← Int32.toBitVec_inj, Int32.toBitVec_and]
  exact zand1n _
theorem zgc33 (s : zMm) : zCo (fun w => s 12 w = 1) 33 (zgat s 33) ∧ zCB (zgat s 33) := zgat_co s 33 (Nat.le_refl _)
theorem zwant_at {s : zMm} {C : Int → Int} (hb : zCB C) {l : Int} (hl : 0 ≤ l ∧ l ≤ 16) : ∀ n : Nat, n ≤ 16 → (zbi (zwant s C n) l.toNat = true ↔ l = 16 ∨ ∃ h : Int, (0 ≤ h ∧ h < n) ∧ s 7 h = 1 ∧ C h = l) := by
  intro n
  induction n with
  | zero =>
    intro _
    have e : zwant s C ((0 : Nat) : Int) = 65536 := zfo_0 _ _
    rw [e]
    have k : ∀ i : Fin 17, zbi 65536 i.val = true ↔ (i.val : Int) = 16 := by decide +kernel
    have k2 := k ⟨l.toNat, by omega⟩
    simp only [show ((l.toNat : Nat) : Int) = l by omega] at k2
    rw [k2]
    exact ⟨Or.inl, fun h => h.elim id fun ⟨h, h1, _⟩ => by omega⟩
  | succ n ih =>
    intro hn
    have i := ih (by omega)
    have e : zwant s C ((n : Int) + 1) = if s 7 n = 1 then zor (zwant s C n) (zshl 1 (C n)) else zwant s C n := zfo_s _ _ (by omega)
    have bn := hb n (by omega) (by omega)
    rw [show ((n + 1 : Nat) : Int) = (n : Int) + 1 by omega, e]
    by_cases q : s 7 n = 1
    · rw [if_pos q, zbi_or, zbi_shI bn.1 (by omega), Bool.or_eq_true, decide_eq_true_eq, i]
      constructor
      · rintro ((a | ⟨h, h1, h2⟩) | a)
        · exact Or.inl a
        · exact Or.inr ⟨h, by omega, h2⟩
        · exact Or.inr ⟨n, by omega, q, by omega⟩
      · rintro (a | ⟨h, h1, h2, h3⟩)
        · exact Or.inl (Or.inl a)
        · by_cases z : h = n
          · subst z; exact Or.inr (by omega)
          · exact Or.inl (Or.inr ⟨h, by omega, h2, h3⟩)
    · rw [if_neg q, i]
      constructor
      · rintro (a | ⟨h, h1, h2⟩)
        · exact Or.inl a
        · exact Or.inr ⟨h, by omega, h2⟩
      · rintro (a | ⟨h, h1, h2, h3⟩)
        · exact Or.inl a
        · by_cases z : h = n
          · subst z; exact absurd h2 q
          · exact Or.inr ⟨h, by omega, h2, h3⟩
/-- a company that wants out, or is -/
def zwd (s : zMm) (l : Int) : Prop := l = 16 ∨ zpr (s 7) (zgat s 33) l
theorem zwd_bit {s : zMm} {x y : Int} (hx : 0 ≤ x ∧ x ≤ 16) (hy : 0 ≤ y ∧ y ≤ 16) : zand (zand (zshr (zwant s (zgat s 33) 16) x) (zshr (zwant s (zgat s 33) 16) y)) 1 = 0 ↔ ¬ (zwd s x ∧ zwd s y) := by
  have hb := (zgc33 s).2
  have a : zbi (zwant s (zgat s 33) 16) x.toNat = true ↔ zwd s x := by
    refine (zwant_at hb hx 16 (Nat.le_refl _)).trans ?_
    exact ⟨fun h => h.imp_right fun ⟨k, h1, h2⟩ => ⟨k, h1, h2⟩, fun h => h.imp_right fun ⟨k, h1, h2⟩ => ⟨k, h1, h2⟩⟩
  have b : zbi (zwant s (zgat s 33) 16) y.toNat = true ↔ zwd s y := by
    refine (zwant_at hb hy 16 (Nat.le_refl _)).trans ?_
    exact ⟨fun h => h.imp_right fun ⟨k, h1, h2⟩ => ⟨k, h1, h2⟩, fun h => h.imp_right fun ⟨k, h1, h2⟩ => ⟨k, h1, h2⟩⟩
  rw [zand1, zbi_and, zbi_shr hx, zbi_shr hy, ← a, ← b]
  cases zbi (zwant s (zgat s 33) 16) x.toNat <;> cases zbi (zwant s (zgat s 33) 16) y.toNat <;> simp
/-- the walls that the class adds -/
def zjd (s : zMm) (w : Int) : Prop := (zfewN s w).1 (zlow w) ≠ (zfewN s w).1 (zhigh w) ∧ zwd s ((zfewN s w).1 (zlow w)) ∧ zwd s ((zfewN s w).1 (zhigh w))
theorem zfew_y {s : zMm} {n : Int} (hn : 0 ≤ n) (hb : zCB (zfewN s n).1) (h : zjd s n) : zfewN s (n + 1) = (zjoin (zfewN s n).1 ((zfewN s n).1 (zlow n)) ((zfewN s n).1 (zhigh n)), zlor (zfewN s n).2 (zlshl 1 n)) := by
  have e : zfewN s (n + 1) = zfew1 (zwant s (zgat s 33) 16) (zfewN s n) n := zfo_s _ _ hn
  rw [e]
  unfold zfew1
  rw [if_neg]
  rintro (z | z)
  · exact h.1 z
  · exact (zwd_bit (hb _ (zlow_b n).1 (zlow_b n).2) (hb _ (zhigh_b n).1 (zhigh_b n).2)).mp z h.2
theorem zfew_n {s : zMm} {n : Int} (hn : 0 ≤ n) (hb : zCB (zfewN s n).1) (h : ¬ zjd s n) : zfewN s (n + 1) = zfewN s n := by
  have e : zfewN s (n + 1) = zfew1 (zwant s (zgat s 33) 16) (zfewN s n) n := zfo_s _ _ hn
  rw [e]
  unfold zfew1
  rw [if_pos]
  by_cases q : (zfewN s n).1 (zlow n) = (zfewN s n).1 (zhigh n)
  · exact Or.inl q
  · exact Or.inr ((zwd_bit (hb _ (zlow_b n).1 (zlow_b n).2) (hb _ (zhigh_b n).1 (zhigh_b n).2)).mpr fun z => h ⟨q, z⟩)
def zGI (s : zMm) (n : Int) : Prop := zCB (zfewN s n).1 ∧ (∀ h : Int, zhh h → zsid h < 6 → (zfewN s n).1 h = 16) ∧ (∀ h g : Int, zhh h → zhh g → zgat s 33 h = zgat s 33 g → (zfewN s n).1 h = (zfewN s n).1 g) ∧ (∀ h : Int, zhh h → (zwd s ((zfewN s n).1 h) ↔ zwd s (zgat s 33 h))) ∧ (∀ w : Int, 0 ≤ w → w < n → zwd s (zgat s 33 (zlow w)) → zwd s (zgat s 33 (zhigh w)) → (zfewN s n).1 (zlow w) = (zfewN s n).1 (zhigh w)) ∧ zWc (s 7) (zfewN s n).1 + zsum (fun w => zic (zjd s w)) n = zWc (s 7) (zgat s 33) ∧ (0 ≤ (zfewN s n).2 ∧ (zfewN s n).2 < 8589934592) ∧ (∀ i : Nat, zbl (zfewN s n).2 i = true ↔ (i : Int) < n ∧ zjd s i) ∧ zCo (fun w => s 12 w = 1 ∨ zjd s w) n (zfewN s n).1
theorem zCo_w {D E : Int → Prop} {C : Int → Int} (h : zCo D 33 C) (hde : ∀ w : Int, 0 ≤ w → w < 33 → D w → E w) : zCo E 0 C := ⟨fun w a b => by omega, h.2.1, fun P he hd => h.2.2 P he fun w a b d => hd w a b (hde w a b d)⟩
theorem zGI_all (s : zMm) : ∀ n : Nat, n ≤ 33 → zGI s n := by
  have g0 := zgc33 s
  intro n
  induction n with
  | zero =>
    intro _
    have e : zfewN s ((0 : Nat) : Int) = (zgat s 33, 0) := zfo_0 _ _
    unfold zGI
    rw [e]
    refine ⟨g0.2, fun h hh q => g0.1.2.1 h hh.1 hh.2 q, fun h g _ _ q => q, fun h _ => Iff.rfl, fun w a b => by omega, ?_, ⟨(by decide : (0 : Int) ≤ 0), (by decide : (0 : Int) < 8589934592)⟩, fun i => ?_, zCo_w g0.1 (fun w _ _ d => Or.inl d)⟩
    · show _ + 0 = _; exact Int.add_zero _
    · rw [zbl_00]
      exact ⟨fun h => by simp at h, fun h => by omega⟩
  | succ n ih =>
    intro hn
    obtain ⟨i1, i2, i3, i4, i5, i6, i7, i8, i9⟩ := ih (by omega)
    have lb := zlow_b (n : Int)
    have lh := zhigh_b (n : Int)
    have bl := i1 _ lb.1 lb.2
    have bh := i1 _ lh.1 lh.2
    rw [show ((n + 1 : Nat) : Int) = (n : Int) + 1 by omega]
    unfold zGI
    by_cases q : zjd s n
    · rw [zfew_y (by omega) i1 q]
      dsimp only
      obtain ⟨m, X, j1, j2, j3⟩ := zjn (zfewN s n).1 ((zfewN s n).1 (zlow n)) ((zfewN s n).1 (zhigh n))
      have bX : X ≤ 16 := by omega
      have wX : zwd s X := by
        rcases j1 with ⟨_, e⟩ | ⟨_, e⟩
        · rw [e]; exact q.2.2
        · rw [e]; exact q.2.1
      have lv : ∀ h : Int, zhh h → zwd s ((zfewN s n).1 h) → (zfewN s n).1 h = 16 ∨ zpr (s 7) (zfewN s n).1 ((zfewN s n).1 h) := fun h hh z => by
        rcases (i4 h hh).mp z with z | ⟨g, g1, g2, g3⟩
        · left
          have z0 : zgat s 33 0 = 16 := g0.1.2.1 0 (by decide) (by decide) (by decide)
          rw [i3 h 0 hh ⟨by decide, by decide⟩ (z.trans z0.symm)]
          exact i2 0 ⟨by decide, by decide⟩ (by decide)
        · exact Or.inr ⟨g, g1, g2, i3 g h g1 hh g3⟩
      refine ⟨zCB_join i1 bl bh, fun h hh z => ?_, fun h g hh hg z => zjn_f (i3 h g hh hg z), fun h hh => ?_, fun w a b c d => ?_, ?_, zlor_b i7 ⟨by omega, by omega⟩, fun i => ?_, zCo.join i9 i1 ⟨by omega, by omega⟩ (Or.inr q)⟩
      · have e := i2 h hh z
        by_cases u : (zfewN s n).1 h = (zfewN s n).1 (zlow n) ∨ (zfewN s n).1 h = (zfewN s n).1 (zhigh n)
        · rw [(j3 h).1 u]; omega
        · rw [(j3 h).2 u]; exact e
      · by_cases u : (zfewN s n).1 h = (zfewN s n).1 (zlow n) ∨ (zfewN s n).1 h = (zfewN s n).1 (zhigh n)
        · rw [(j3 h).1 u]
          refine ⟨fun _ => (i4 h hh).mp ?_, fun _ => wX⟩
          rcases u with u | u
          · rw [u]; exact q.2.1
          · rw [u]; exact q.2.2
        · rw [(j3 h).2 u]; exact i4 h hh
      · by_cases e : w = n
        · subst e; exact zjn_xy rfl rfl
        · exact zjn_f (i5 w a (by omega) c d)
      · have t := zWc_ex (L := s 7) (C := (zfewN s n).1) bl bh q.1 (lv _ lb q.2.1) (lv _ lh q.2.2)
        rw [zsum_s _ (by omega), zic1 q]
        omega
      · rw [zbl_lor i7 ⟨by omega, by omega⟩, Bool.or_eq_true, decide_eq_true_eq, i8]
        constructor
        · rintro (⟨a, b⟩ | a)
          · exact ⟨by omega, b⟩
          · rw [← a]; exact ⟨by omega, q⟩
        · rintro ⟨a, b⟩
          by_cases e : (n : Int) = i
          · exact Or.inr e
          · exact Or.inl ⟨by omega, b⟩
    · rw [zfew_n (by omega) i1 q]
      refine ⟨i1, i2, i3, i4, fun w a b c d => ?_, ?_, i7, fun i => ?_, ⟨fun w a b d => ?_, i9.2⟩⟩
      · by_cases e : w = n
        · subst e
          exact Classical.byContradiction fun z => q ⟨z, (i4 _ lb).mpr c, (i4 _ lh).mpr d⟩
        · exact i5 w a (by omega) c d
      · rw [zsum_s _ (by omega), zic0 q]; omega
      · rw [i8]
        constructor
        · rintro ⟨a, b⟩; exact ⟨by omega, b⟩
        · rintro ⟨a, b⟩
          by_cases e : (n : Int) = i
          · rw [← e] at b; exact absurd b q
          · exact ⟨by omega, b⟩
      · by_cases e : w = n
        · subst e
          rcases d with d | d
          · exact i3 _ _ lb lh (g0.1.1 _ (by omega) (by omega) d)
          · exact absurd d q
        · exact i9.1 w a (by omega) d
theorem zGI33 (s : zMm) : zGI s 33 := zGI_all s 33 (Nat.le_refl _)
theorem zgat_e (s : zMm) {h : Int} (hh : zhh h) (hs : zsid h < 6) : zgat s 33 h = 16 := (zgc33 s).1.2.1 h hh.1 hh.2 hs
/-- in the end all are out -/
theorem zfew_out {s : zMm} {h : Int} (hh : zhh h) (hl : s 7 h = 1) : (zfewN s 33).1 h = 16 := by
  obtain ⟨i1, i2, i3, i4, i5, i6, i7, i8, i9⟩ := zGI33 s
  have e := zedge ⟨h.toNat, by omega⟩
  simp only [show ((h.toNat : Nat) : Int) = h by omega] at e
  have wh : zwd s (zgat s 33 h) := Or.inr ⟨h, hh, hl, rfl⟩
  rcases e with e | ⟨w, ⟨e1, e2⟩ | ⟨e1, e2⟩⟩
  · exact i2 h hh e
  · have t := i5 w.val (by omega) (by omega) (by rw [e1]; exact wh) (Or.inl (zgat_e s (zhigh_b _) e2))
    rw [e1] at t
    rw [t]
    exact i2 _ (zhigh_b _) e2
  · have t := i5 w.val (by omega) (by omega) (Or.inl (zgat_e s (zlow_b _) e2)) (by rw [e1]; exact wh)
    rw [e1] at t
    rw [← t]
    exact i2 _ (zlow_b _) e2
theorem zWc_end (s : zMm) : zWc (s 7) (zfewN s 33).1 = 0 := zsum_z 16 fun l a b => zic0 fun ⟨h, h1, h2, h3⟩ => by
  have := zfew_out h1 h2
  omega
theorem zjd_sf (s : zMm) (n : Nat) (hn : n ≤ 33) : zsuf (zjd s) n = zWc (s 7) (zfewN s n).1 := by
  obtain ⟨-, -, -, -, -, i6, -⟩ := zGI_all s n hn
  obtain ⟨-, -, -, -, -, k6, -⟩ := zGI33 s
  have e := zWc_end s
  have p := zsuf_p (zjd s) n hn
  have p0 := zsuf_0 (zjd s)
  omega
/-- a set of walls that lets all out: no fewer; and if no more, each suffix of it is no fewer -/
theorem zy_low {s : zMm} {T : Int → Prop} (ho : ∀ h : Int, zhh h → s 7 h = 1 → zOut (fun w => s 12 w = 1 ∨ T w) h) : zWc (s 7) (zgat s 33) ≤ zsuf T 0 := by
  have g0 := zgc33 s
  exact zWc_low0 (fun h hh q => zgat_e s hh q) g0.2 (fun h hh hl => zOut_mono (fun w a b d => d.imp_left fun d => g0.1.1 w a b d) (ho h hh hl))
theorem zsuf_del {T : Int → Prop} {v : Int} (hv : 0 ≤ v ∧ v < 33) (h : T v) : zsuf T 0 = zsuf (fun w => w ≠ v ∧ T w) 0 + 1 := by
  have t := zsum_at (T := T) (a := v) 33 hv
  have t2 : zsum (fun w => zic (w = v ∧ T w)) 33 = zic (T v) := t
  have a : zsum (fun w => zic (w ≠ v ∧ T w) + zic (w = v ∧ T w)) 33 = zsum (fun w => zic (w ≠ v ∧ T w)) 33 + zsum (fun w => zic (w = v ∧ T w)) 33 := zsum_add (fun w => zic (w ≠ v ∧ T w)) (fun w => zic (w = v ∧ T w)) 33
  rw [zsuf_0, zsuf_0, ← zic1 h, ← t2, ← a]
  refine zsum_c fun w _ _ => ?_
  by_cases q : T w
  · by_cases e : w = v
    · rw [zic1 q, zic1 (p := w = v ∧ T w) ⟨e, q⟩, zic0 (p := w ≠ v ∧ T w) (fun z => z.1 e)]; rfl
    · rw [zic1 q, zic1 (p := w ≠ v ∧ T w) ⟨e, q⟩, zic0 (p := w = v ∧ T w) (fun z => e z.1)]; rfl
  · rw [zic0 q, zic0 (fun z => q z.2), zic0 (fun z => q z.2)]; rfl
theorem zy_wd {s : zMm} {T : Int → Prop} (ho : ∀ h : Int, zhh h → s 7 h = 1 → zOut (fun w => s 12 w = 1 ∨ T w) h) (hc : zsuf T 0 = zWc (s 7) (zgat s 33)) {v : Int} (hv : 0 ≤ v ∧ v < 33) (ht : T v) : zwd s (zgat s 33 (zlow v)) ∧ zwd s (zgat s 33 (zhigh v)) := by
  have g0 := zgc33 s
  have lb := zlow_b v
  have lh := zhigh_b v
  have bl := g0.2 _ lb.1 lb.2
  have bh := g0.2 _ lh.1 lh.2
  apply Classical.byContradiction
  intro z
  have u := zWc_un (L := s 7) (C := zgat s 33) (x := zgat s 33 (zlow v)) (y := zgat s 33 (zhigh v)) bl bh (by
    by_cases a : zwd s (zgat s 33 (zlow v))
    · have b : ¬ zwd s (zgat s 33 (zhigh v)) := fun b => z ⟨a, b⟩
      exact Or.inr (Or.inr ⟨fun c => b (Or.inl c), fun c => b (Or.inr c)⟩)
    · exact Or.inr (Or.inl ⟨fun c => a (Or.inl c), fun c => a (Or.inr c)⟩))
  have d := zsuf_del hv ht
  have l := zWc_low0 (L := s 7) (T := fun w => w ≠ v ∧ T w) (C := zjoin (zgat s 33) (zgat s 33 (zlow v)) (zgat s 33 (zhigh v))) (fun h hh q => by
    have e := zgat_e s hh q
    unfold zjoin
    split
    · split <;> omega
    · exact e) (zCB_join g0.2 bl bh) (fun h hh hl => zOut_mono (fun w a b d => by
    rcases d with d | d
    · exact Or.inl (zjn_f (g0.1.1 w a b d))
    · by_cases e : w = v
      · rw [e]; exact Or.inl (zjn_xy rfl rfl)
      · exact Or.inr ⟨e, d⟩) (ho h hh hl))
  omega
theorem zy_suf {s : zMm} {T : Int → Prop} (ho : ∀ h : Int, zhh h → s 7 h = 1 → zOut (fun w => s 12 w = 1 ∨ T w) h) (hc : zsuf T 0 = zWc (s 7) (zgat s 33)) (n : Nat) (hn : n ≤ 33) : zsuf (zjd s) n ≤ zsuf T n := by
  have g0 := zgc33 s
  obtain ⟨i1, i2, i3, i4, i5, -⟩ := zGI_all s n hn
  rw [zjd_sf s n hn]
  have l := zWc_low0 (L := s 7) (T := fun w => (n : Int) ≤ w ∧ T w) (C := (zfewN s n).1) i2 i1 (fun h hh hl => zOut_mono (fun w a b d => by
    rcases d with d | d
    · exact Or.inl (i3 _ _ (zlow_b w) (zhigh_b w) (g0.1.1 w a b d))
    · by_cases e : w < n
      · have t := zy_wd ho hc ⟨a, b⟩ d
        exact Or.inl (i5 w a e t.1 t.2)
      · exact Or.inr ⟨by omega, d⟩) (ho h hh hl))
  have e : zsuf (fun w => (n : Int) ≤ w ∧ T w) 0 = zsuf T n := zsum_c fun w a b => zic_c ⟨fun z => z.2, fun z => ⟨a, z⟩⟩
  omega
